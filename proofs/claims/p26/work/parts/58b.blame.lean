set_option maxRecDepth 100000 in
theorem ls_blamed {n : Nat} {R : px_R} (hg : px_G n R) {Q : px_Q} (a k i0 : Int32) {I0 : px_I} (L : px_L) (hS : mS I0) (V : Int32) (hq : ∀ I2 L2, mDI I0 I2 → mDL L L2 → Q (some (.int V)) n I2 L2 R) : ∀ i : Int32, i ≤ I0 103 2 → 0 ≤ i → ∀ (j : Int32) (I1 : px_I) (L1 : px_L), mS I1 → mDI I0 I1 → mDL L L1 → bF (sT (I0 104) (I0 109) (mGd I0 a k) a k) ((I0 103 2).toNatClampNeg - i.toNatClampNeg) i.toNatClampNeg j = V → px M_X12_blamed 0 0 36 [(0, .ref 103), (1, .int a), (2, .int k), (3, .int i0), (4, .int j), (5, .int i)] [] n I1 L1 R Q := by
  refine px_up _ (fun i ih hk => ?_)
  intro h0 j I1 L1 hS1 hI1 hL1 hV
  have he : I1 103 2 = I0 103 2 := hI1 103 2 (by decide)
  have e104 : I1 104 = I0 104 := funext fun j => hI1 104 j (by simp)
  have e109 : I1 109 = I0 109 := funext fun j => hI1 109 j (by simp)
  obtain ⟨hSa, hSb, hSc⟩ := id hS1
  have lt : ¬ I1 103 2 ≤ i → i.toNatClampNeg < (I0 103 2).toNatClampNeg := fun q => by
    have a1 := px_nat h0
    have a2 := px_nat (x := I0 103 2) (by grind)
    have a3 := Int32.lt_iff_toInt_lt.mp (Int32.not_le.mp q)
    rw [he] at a3
    omega
  refine px_ige rfl q_X12_blamed_36 hg rfl trivial (fun c42 => ?_) (fun c42 => ?_)
  · refine px_ri rfl q_X12_blamed_95 rfl rfl rfl hg rfl trivial ?_
    rw [bF_end (by have a1 := px_nat h0; have a2 := px_nat (x := I0 103 2) (by grind); have a3 := Int32.le_iff_toInt_le.mp c42; rw [he] at a3; omega)] at hV
    rw [hV]
    exact hq _ _ hI1 hL1
  · refine px_ine rfl q_X12_blamed_45 hg rfl ⟨trivial, (by first | decide | (refine ⟨?_, ?_⟩ <;> grind) | grind)⟩ (fun c53 => ?_) (fun c53 => ?_)
    · refine px_b rfl q_X12_blamed_89 hg rfl trivial ?_
      first
        | exact px_go (ih (i + 1) (by grind) (by grind) (by grind) _ _ _  (by assumption) (by assumption) (by assumption) (by rw [(px_tnS h0 (by grind)).1, ← bF_on (lt c42) (sT_t h0 (by grind) (by rw [← e104]; first | exact c53 | exact Classical.not_not.mp c53) (by rw [← e109]; first | exact Int32.not_lt.mp c64 | exact c64) (by rw [← mGd_I hI1]; exact h72c.elim (fun q => q.2) (fun q => absurd q.1 c75))) c80]; exact hV)) ⟨rfl, rfl, rfl, rfl, rfl, rfl, trivial⟩
        | exact px_go (ih (i + 1) (by grind) (by grind) (by grind) _ _ _  (by assumption) (by assumption) (by assumption) (by rw [(px_tnS h0 (by grind)).1, ← bF_no (lt c42) (sT_f h0 (by grind) (Or.inr (h72c.elim (fun q => absurd (q.1.symm.trans c75) (by decide)) (fun q => by rw [← mGd_I hI1]; exact q.2))))]; exact hV)) ⟨rfl, rfl, rfl, rfl, rfl, rfl, trivial⟩
        | exact px_go (ih (i + 1) (by grind) (by grind) (by grind) _ _ _  (by assumption) (by assumption) (by assumption) (by rw [(px_tnS h0 (by grind)).1, ← bF_no (lt c42) (sT_f h0 (by grind) (Or.inl (fun q => c53 (by rw [e104]; exact q.1))))]; exact hV)) ⟨rfl, rfl, rfl, rfl, rfl, rfl, trivial⟩
        | exact px_go (ih (i + 1) (by grind) (by grind) (by grind) _ _ _  (by assumption) (by assumption) (by assumption) (by rw [(px_tnS h0 (by grind)).1, ← bF_no (lt c42) (sT_f h0 (by grind) (Or.inl (fun q => absurd q.2 (by rw [← e109]; first | exact Int32.not_le.mpr c64 | exact c64))))]; exact hV)) ⟨rfl, rfl, rfl, rfl, rfl, rfl, trivial⟩
    · refine px_igt rfl q_X12_blamed_56 hg rfl ⟨trivial, (by first | decide | (refine ⟨?_, ?_⟩ <;> grind) | grind)⟩ (fun c64 => ?_) (fun c64 => ?_)
      · refine px_b rfl q_X12_blamed_89 hg rfl trivial ?_
        first
          | exact px_go (ih (i + 1) (by grind) (by grind) (by grind) _ _ _  (by assumption) (by assumption) (by assumption) (by rw [(px_tnS h0 (by grind)).1, ← bF_on (lt c42) (sT_t h0 (by grind) (by rw [← e104]; first | exact c53 | exact Classical.not_not.mp c53) (by rw [← e109]; first | exact Int32.not_lt.mp c64 | exact c64) (by rw [← mGd_I hI1]; exact h72c.elim (fun q => q.2) (fun q => absurd q.1 c75))) c80]; exact hV)) ⟨rfl, rfl, rfl, rfl, rfl, rfl, trivial⟩
          | exact px_go (ih (i + 1) (by grind) (by grind) (by grind) _ _ _  (by assumption) (by assumption) (by assumption) (by rw [(px_tnS h0 (by grind)).1, ← bF_no (lt c42) (sT_f h0 (by grind) (Or.inr (h72c.elim (fun q => absurd (q.1.symm.trans c75) (by decide)) (fun q => by rw [← mGd_I hI1]; exact q.2))))]; exact hV)) ⟨rfl, rfl, rfl, rfl, rfl, rfl, trivial⟩
          | exact px_go (ih (i + 1) (by grind) (by grind) (by grind) _ _ _  (by assumption) (by assumption) (by assumption) (by rw [(px_tnS h0 (by grind)).1, ← bF_no (lt c42) (sT_f h0 (by grind) (Or.inl (fun q => c53 (by rw [e104]; exact q.1))))]; exact hV)) ⟨rfl, rfl, rfl, rfl, rfl, rfl, trivial⟩
          | exact px_go (ih (i + 1) (by grind) (by grind) (by grind) _ _ _  (by assumption) (by assumption) (by assumption) (by rw [(px_tnS h0 (by grind)).1, ← bF_no (lt c42) (sT_f h0 (by grind) (Or.inl (fun q => absurd q.2 (by rw [← e109]; first | exact Int32.not_le.mpr c64 | exact c64))))]; exact hV)) ⟨rfl, rfl, rfl, rfl, rfl, rfl, trivial⟩
      · refine px_cVS (ci := 12) rfl q_X12_blamed_67 hg rfl trivial lk_12_214 nm_X12_isClosed (ks_isClosed hg _ _ _ ‹_›) rfl rfl (px_lit hg rfl) rfl rfl rfl ⟨rfl, rfl⟩ ?_
        intro x72 I72 L72 h72
        obtain ⟨rfl, h72, h72b, h72c⟩ := h72
        have hS2 : mS (px_u I1 103 70 (I1 103 1)) := by unfold mS at *; simpa [px_ur] using hS1
        have hI2 : mDI I0 (px_u I1 103 70 (I1 103 1)) := fun b j h => by rw [← hI1 b j h]; simp [px_ur]; grind
        have hL2 : mDL L L72 := fun b h => (h72 b h).trans (hL1 b h)
        refine px_eq rfl q_X12_blamed_75 hg rfl trivial (fun c75 => ?_) (fun c75 => ?_)
        · refine px_b rfl q_X12_blamed_89 hg rfl trivial ?_
          first
            | exact px_go (ih (i + 1) (by grind) (by grind) (by grind) _ _ _  (by assumption) (by assumption) (by assumption) (by rw [(px_tnS h0 (by grind)).1, ← bF_on (lt c42) (sT_t h0 (by grind) (by rw [← e104]; first | exact c53 | exact Classical.not_not.mp c53) (by rw [← e109]; first | exact Int32.not_lt.mp c64 | exact c64) (by rw [← mGd_I hI1]; exact h72c.elim (fun q => q.2) (fun q => absurd q.1 c75))) c80]; exact hV)) ⟨rfl, rfl, rfl, rfl, rfl, rfl, trivial⟩
            | exact px_go (ih (i + 1) (by grind) (by grind) (by grind) _ _ _  (by assumption) (by assumption) (by assumption) (by rw [(px_tnS h0 (by grind)).1, ← bF_no (lt c42) (sT_f h0 (by grind) (Or.inr (h72c.elim (fun q => absurd (q.1.symm.trans c75) (by decide)) (fun q => by rw [← mGd_I hI1]; exact q.2))))]; exact hV)) ⟨rfl, rfl, rfl, rfl, rfl, rfl, trivial⟩
            | exact px_go (ih (i + 1) (by grind) (by grind) (by grind) _ _ _  (by assumption) (by assumption) (by assumption) (by rw [(px_tnS h0 (by grind)).1, ← bF_no (lt c42) (sT_f h0 (by grind) (Or.inl (fun q => c53 (by rw [e104]; exact q.1))))]; exact hV)) ⟨rfl, rfl, rfl, rfl, rfl, rfl, trivial⟩
            | exact px_go (ih (i + 1) (by grind) (by grind) (by grind) _ _ _  (by assumption) (by assumption) (by assumption) (by rw [(px_tnS h0 (by grind)).1, ← bF_no (lt c42) (sT_f h0 (by grind) (Or.inl (fun q => absurd q.2 (by rw [← e109]; first | exact Int32.not_le.mpr c64 | exact c64))))]; exact hV)) ⟨rfl, rfl, rfl, rfl, rfl, rfl, trivial⟩
        · refine px_ne rfl q_X12_blamed_78 hg rfl trivial (fun c80 => ?_) (fun c80 => ?_)
          · refine px_b rfl q_X12_blamed_86 hg rfl trivial ?_
            first
              | exact px_go (ih (i + 1) (by grind) (by grind) (by grind) _ _ _  (by assumption) (by assumption) (by assumption) (by rw [(px_tnS h0 (by grind)).1, ← bF_on (lt c42) (sT_t h0 (by grind) (by rw [← e104]; first | exact c53 | exact Classical.not_not.mp c53) (by rw [← e109]; first | exact Int32.not_lt.mp c64 | exact c64) (by rw [← mGd_I hI1]; exact h72c.elim (fun q => q.2) (fun q => absurd q.1 c75))) c80]; exact hV)) ⟨rfl, rfl, rfl, rfl, rfl, rfl, trivial⟩
              | exact px_go (ih (i + 1) (by grind) (by grind) (by grind) _ _ _  (by assumption) (by assumption) (by assumption) (by rw [(px_tnS h0 (by grind)).1, ← bF_no (lt c42) (sT_f h0 (by grind) (Or.inr (h72c.elim (fun q => absurd (q.1.symm.trans c75) (by decide)) (fun q => by rw [← mGd_I hI1]; exact q.2))))]; exact hV)) ⟨rfl, rfl, rfl, rfl, rfl, rfl, trivial⟩
              | exact px_go (ih (i + 1) (by grind) (by grind) (by grind) _ _ _  (by assumption) (by assumption) (by assumption) (by rw [(px_tnS h0 (by grind)).1, ← bF_no (lt c42) (sT_f h0 (by grind) (Or.inl (fun q => c53 (by rw [e104]; exact q.1))))]; exact hV)) ⟨rfl, rfl, rfl, rfl, rfl, rfl, trivial⟩
              | exact px_go (ih (i + 1) (by grind) (by grind) (by grind) _ _ _  (by assumption) (by assumption) (by assumption) (by rw [(px_tnS h0 (by grind)).1, ← bF_no (lt c42) (sT_f h0 (by grind) (Or.inl (fun q => absurd q.2 (by rw [← e109]; first | exact Int32.not_le.mpr c64 | exact c64))))]; exact hV)) ⟨rfl, rfl, rfl, rfl, rfl, rfl, trivial⟩
          · refine px_ri rfl q_X12_blamed_83 rfl rfl rfl hg rfl trivial ?_
            rw [bF_hit (lt c42) (sT_t h0 (by grind) (by rw [← e104]; first | exact c53 | exact Classical.not_not.mp c53) (by rw [← e109]; first | exact Int32.not_lt.mp c64 | exact c64) (by rw [← mGd_I hI1]; exact h72c.elim (fun q => q.2) (fun q => absurd q.1 c75))) (by grind), (px_tnS h0 (by grind)).2] at hV
            rw [hV]
            exact hq _ _ hI2 hL2

set_option maxRecDepth 100000 in
theorem ks_blamed {n : Nat} {I : px_I} {L : px_L} {R : px_R} (hg : px_G n R) (a k i : Int32) (hS : mS I) : px_KS M_X12_blamed [.ref 103, .int a, .int k, .int i] n I L R (fun r I2 L2 => (mDI I I2 ∧ mDL L L2) ∧ qBl (mGd I a k (-1)) (sT (I 104) (I 109) (mGd I a k) a k) (I 103 2).toNatClampNeg a k i r) := by
  refine px_of (plainFor_of_name np_RX12) (fun _ _ _ => trivial) rfl ?_
  refine px_cSP rfl q_X12_blamed_0 hg rfl trivial lk_12_180 nm_X12_isAxis (k_isAxis hg _) rfl rfl rfl ⟨rfl, rfl⟩ ?_
  intro x1 h1
  refine px_eq rfl q_X12_blamed_4 hg rfl trivial (fun c4 => ?_) (fun c4 => ?_)
  · replace h1 := px_bf h1 c4
    refine px_riS rfl q_X12_blamed_28 rfl rfl rfl hg rfl trivial ⟨⟨rfl, rfl⟩, ?_⟩
    first
      | exact ⟨⟨fun _ _ _ => rfl, fun _ _ => rfl⟩, Or.inr ⟨by unfold qOk; grind, rfl⟩⟩
      | exact ⟨⟨fun b j h => by simp [px_ur]; grind, h22⟩, Or.inl ⟨⟨⟨h1, h8⟩, by grind⟩, Or.inl ⟨h22c.elim (fun q => q.2) (fun q => absurd q.1 c25), rfl⟩⟩⟩
  · replace h1 := px_bt h1 c4
    refine px_cSP rfl q_X12_blamed_7 hg rfl trivial lk_12_211 nm_X12_isKnown (k_isKnown hg _) rfl rfl rfl ⟨rfl, rfl⟩ ?_
    intro x8 h8
    refine px_eq rfl q_X12_blamed_11 hg rfl trivial (fun c11 => ?_) (fun c11 => ?_)
    · replace h8 := px_bf h8 c11
      refine px_riS rfl q_X12_blamed_28 rfl rfl rfl hg rfl trivial ⟨⟨rfl, rfl⟩, ?_⟩
      first
        | exact ⟨⟨fun _ _ _ => rfl, fun _ _ => rfl⟩, Or.inr ⟨by unfold qOk; grind, rfl⟩⟩
        | exact ⟨⟨fun b j h => by simp [px_ur]; grind, h22⟩, Or.inl ⟨⟨⟨h1, h8⟩, by grind⟩, Or.inl ⟨h22c.elim (fun q => q.2) (fun q => absurd q.1 c25), rfl⟩⟩⟩
    · replace h8 := px_bt h8 c11
      refine px_lt rfl q_X12_blamed_14 hg rfl trivial (fun c15 => ?_) (fun c15 => ?_)
      · refine px_riS rfl q_X12_blamed_28 rfl rfl rfl hg rfl trivial ⟨⟨rfl, rfl⟩, ?_⟩
        first
          | exact ⟨⟨fun _ _ _ => rfl, fun _ _ => rfl⟩, Or.inr ⟨by unfold qOk; grind, rfl⟩⟩
          | exact ⟨⟨fun b j h => by simp [px_ur]; grind, h22⟩, Or.inl ⟨⟨⟨h1, h8⟩, by grind⟩, Or.inl ⟨h22c.elim (fun q => q.2) (fun q => absurd q.1 c25), rfl⟩⟩⟩
      · refine px_cVS (ci := 12) rfl q_X12_blamed_18 hg rfl trivial lk_12_214 nm_X12_isClosed (ks_isClosed hg _ _ _ ‹_›) rfl rfl (px_lit hg rfl) rfl rfl rfl ⟨rfl, rfl⟩ ?_
        intro x22 I22 L22 h22
        obtain ⟨rfl, h22, h22b, h22c⟩ := h22
        refine px_eq rfl q_X12_blamed_25 hg rfl trivial (fun c25 => ?_) (fun c25 => ?_)
        · refine px_b rfl q_X12_blamed_30 hg rfl trivial ?_
          exact px_go (ls_blamed hg a k i L (I0 := px_u I 103 70 (I 103 1)) (by unfold mS at *; simpa [px_ur] using hS) (bF (sT (I 104) (I 109) (mGd I a k) a k) (I 103 2).toNatClampNeg 0 i) (fun I2 L2 h1a h2a => ⟨rfl, rfl, _, rfl, ⟨fun b j h => by rw [h1a b j h]; simp [px_ur]; grind, h2a⟩, Or.inl ⟨⟨⟨h1, h8⟩, by grind⟩, Or.inr ⟨h22c.elim (fun q => absurd (q.1.symm.trans c25) (by decide)) (fun q => q.2), rfl⟩⟩⟩) 0 (by unfold mS at hS; simp [px_ur]; grind) (by decide) i _ _ (by unfold mS at *; simpa [px_ur] using hS) (fun _ _ _ => rfl) h22 (by rw [px_z0]; rfl)) ⟨rfl, rfl, rfl, rfl, rfl, rfl, trivial⟩
        · refine px_riS rfl q_X12_blamed_28 rfl rfl rfl hg rfl trivial ⟨⟨rfl, rfl⟩, ?_⟩
          first
            | exact ⟨⟨fun _ _ _ => rfl, fun _ _ => rfl⟩, Or.inr ⟨by unfold qOk; grind, rfl⟩⟩
            | exact ⟨⟨fun b j h => by simp [px_ur]; grind, h22⟩, Or.inl ⟨⟨⟨h1, h8⟩, by grind⟩, Or.inl ⟨h22c.elim (fun q => q.2) (fun q => absurd q.1 c25), rfl⟩⟩⟩
