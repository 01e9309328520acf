/-! the reference's table, loop by loop -/
theorem px_z0 : (0 : Int32).toNatClampNeg = 0 := by decide
def feq (F G : Nat → Int64) : Prop := ∀ k, k < 576 → F k = G k
theorem feq.U {F G : Nat → Int64} (h : feq F G) {K : Nat} {v : Int64} (hK : K < 576) : feq (fU1 F K v) (fU1 G K v) := fun k hk => by
  unfold fU1
  rw [h K hK, h k hk]
theorem feq.St {F G : Nat → Int64} (h : feq F G) {m i j : Nat} (hm : m < 24) (hi : i < 24) (hj : j < 24) : feq (fSt F m i j) (fSt G m i j) := by
  unfold fSt
  rw [h (24 * i + m) (by omega), h (24 * m + j) (by omega)]
  by_cases c : G (24 * i + m) < 1000000000000 ∧ G (24 * m + j) < 1000000000000
  · rw [if_pos c, if_pos c]; exact h.U (by omega)
  · rw [if_neg c, if_neg c]; exact h
theorem feq.Row {F G : Nat → Int64} (h : feq F G) {m i : Nat} (hm : m < 24) (hi : i < 24) : ∀ j, j ≤ 24 → feq (fRow F m i j) (fRow G m i j)
  | 0, _ => h
  | j + 1, hj => (feq.Row h hm hi j (by omega)).St hm hi (by omega)
theorem feq.Col {F G : Nat → Int64} (h : feq F G) {m n : Nat} (hm : m < 24) (hn : n ≤ 24) : ∀ i, i ≤ n → feq (fCol F m n i) (fCol G m n i)
  | 0, _ => h
  | i + 1, hi => (feq.Col h hm hn i (by omega)).Row hm (by omega) n hn
theorem feq.All {F G : Nat → Int64} (h : feq F G) {n : Nat} (hn : n ≤ 24) : ∀ m, m ≤ n → feq (fAll F n m) (fAll G n m)
  | 0, _ => h
  | m + 1, hm => (feq.All h hn m (by omega)).Col (by omega) hn n (Nat.le_refl _)
theorem feq.good {F G : Nat → Int64} (h : feq F G) {n : Nat} (hn : n ≤ 24) : fGood F n ↔ fGood G n :=
  ⟨fun q i hi => by rw [← h (25 * i) (by omega)]; exact q i hi, fun q i hi => by rw [h (25 * i) (by omega)]; exact q i hi⟩
theorem px_nat {x : Int32} (h : 0 ≤ x) : (x.toNatClampNeg : Int) = x.toInt := by
  have h2 := Int32.le_iff_toInt_le.mp h
  rw [show (0 : Int32).toInt = 0 by decide] at h2
  show ((x.toInt.toNat : Nat) : Int) = _
  omega
theorem px_lit24 : (24 : Int32).toInt = 24 := by decide
theorem px_24 {f s : Int32} (hf : 0 ≤ f ∧ f < 24) (hs : 0 ≤ s ∧ s < 24) : (24 * f + s).toNatClampNeg = 24 * f.toNatClampNeg + s.toNatClampNeg ∧ f.toNatClampNeg < 24 ∧ s.toNatClampNeg < 24 := by
  have a1 := px_nat hf.1
  have a2 := px_nat hs.1
  have a3 := Int32.lt_iff_toInt_lt.mp hf.2
  have a4 := Int32.lt_iff_toInt_lt.mp hs.2
  rw [px_lit24] at a3 a4
  have e1 : (24 * f).toInt = 24 * f.toInt := by rw [Int32.toInt_mul, px_lit24]; exact Int.bmod_eq_of_le (by omega) (by omega)
  have e2 : (24 * f + s).toInt = 24 * f.toInt + s.toInt := by rw [Int32.toInt_add, e1]; exact Int.bmod_eq_of_le (by omega) (by omega)
  have e3 : (24 * f + s).toNatClampNeg = (24 * f + s).toInt.toNat := rfl
  omega
theorem px_25 {i : Int32} (hi : 0 ≤ i ∧ i < 24) : (25 * i).toNatClampNeg = 25 * i.toNatClampNeg := by
  have a1 := px_nat hi.1
  have a3 := Int32.lt_iff_toInt_lt.mp hi.2
  rw [px_lit24] at a3
  have e1 : (25 * i).toInt = 25 * i.toInt := by rw [Int32.toInt_mul, show (25 : Int32).toInt = 25 by decide]; exact Int.bmod_eq_of_le (by omega) (by omega)
  have e3 : (25 * i).toNatClampNeg = (25 * i).toInt.toNat := rfl
  omega
theorem px_576 {k : Int32} (h : 576 ≤ k) {j : Nat} (hj : j < 576) : j < k.toNatClampNeg := by
  have a := Int32.le_iff_toInt_le.mp h
  rw [show (576 : Int32).toInt = 576 by decide] at a
  show j < k.toInt.toNat
  omega
theorem px_dm {k : Int32} (h0 : 0 ≤ k) (h1 : k < 576) : k / 24 = k - k / 24 * 24 ↔ k.toNatClampNeg / 24 = k.toNatClampNeg % 24 := by
  have a1 := px_nat h0
  have a2 := Int32.lt_iff_toInt_lt.mp h1
  rw [show (576 : Int32).toInt = 576 by decide] at a2
  have e1 : (k / 24).toInt = k.toInt / 24 := by
    rw [Int32.toInt_div, px_lit24, Int.tdiv_eq_ediv_of_nonneg (by omega)]
    exact Int.bmod_eq_of_le (by omega) (by omega)
  have e3 : (k / 24 * 24).toInt = k.toInt / 24 * 24 := by
    rw [Int32.toInt_mul, px_lit24, e1]
    exact Int.bmod_eq_of_le (by omega) (by omega)
  have e2 : (k - k / 24 * 24).toInt = k.toInt - k.toInt / 24 * 24 := by
    rw [Int32.toInt_sub, e3]
    exact Int.bmod_eq_of_le (by omega) (by omega)
  rw [← Int32.toInt_inj, e1, e2]
  omega
theorem gI_step {k : Int32} {L1 : px_L} {v : Int64} (h0 : 0 ≤ k) (h1 : k < 576) (hF : ∀ j : Nat, j < k.toNatClampNeg → L1 143 j = gI j) (hv : v = gI k.toNatClampNeg) : ∀ j : Nat, j < (k + 1).toNatClampNeg → px_u L1 143 k.toNatClampNeg v 143 j = gI j := by
  intro j hj
  rw [(px_tnS h0 (by grind)).1] at hj
  rw [px_ur, if_pos rfl]
  by_cases e : j = k.toNatClampNeg
  · rw [if_pos e, e]; exact hv
  · rw [if_neg e]; exact hF j (by omega)
theorem gI_far {k : Int32} {L1 : px_L} (h0 : 0 ≤ k) (h1 : k < 576) (c : ¬ k / 24 = k - k / 24 * 24) (hF : ∀ j : Nat, j < k.toNatClampNeg → L1 143 j = gI j) : ∀ j : Nat, j < (k + 1).toNatClampNeg → px_u L1 143 k.toNatClampNeg 1000000000000 143 j = gI j :=
  gI_step h0 h1 hF (by unfold gI; rw [if_neg (fun q => c ((px_dm h0 h1).mpr q))])
theorem gI_zero {k : Int32} {L1 : px_L} (h0 : 0 ≤ k) (h1 : k < 576) (c : k / 24 = k - k / 24 * 24) (hF : ∀ j : Nat, j < k.toNatClampNeg → L1 143 j = gI j) : ∀ j : Nat, j < (k + 1).toNatClampNeg → px_u L1 143 k.toNatClampNeg 0 143 j = gI j :=
  gI_step h0 h1 hF (by unfold gI; rw [if_pos ((px_dm h0 h1).mp c)])
theorem fU1_lo {L : px_L} {K : Nat} {v : Int64} (c : ¬ v < L 143 K) : px_u L 143 K (L 143 K) 143 = fU1 (L 143) K v := by
  funext k
  rw [px_ur, if_pos rfl]
  unfold fU1
  rw [if_neg c]
theorem fU1_hi {L : px_L} {K : Nat} {v : Int64} (c : v < L 143 K) : px_u L 143 K v 143 = fU1 (L 143) K v := by
  funext k
  rw [px_ur, if_pos rfl]
  unfold fU1
  rw [if_pos c]
theorem fRow_noI {F : Nat → Int64} {L : px_L} {m i j : Int32} (hm : 0 ≤ m ∧ m < 24) (hi : 0 ≤ i ∧ i < 24) (hj : 0 ≤ j ∧ j < 24) (h : L 143 = fRow F m.toNatClampNeg i.toNatClampNeg j.toNatClampNeg) (c : ¬ L 143 (24 * i + m).toNatClampNeg < 1000000000000 ∨ ¬ L 143 (24 * m + j).toNatClampNeg < 1000000000000) : L 143 = fRow F m.toNatClampNeg i.toNatClampNeg (j + 1).toNatClampNeg := by
  rw [(px_24 hi hm).1, (px_24 hm hj).1] at c
  rw [(px_tnS hj.1 (by grind)).1]
  show _ = fSt (fRow F m.toNatClampNeg i.toNatClampNeg j.toNatClampNeg) m.toNatClampNeg i.toNatClampNeg j.toNatClampNeg
  rw [← h]
  exact (if_neg (fun q => c.elim (fun c => c q.1) (fun c => c q.2))).symm
theorem fRow_yesI {F : Nat → Int64} {L L2 : px_L} {m i j : Int32} (hm : 0 ≤ m ∧ m < 24) (hi : 0 ≤ i ∧ i < 24) (hj : 0 ≤ j ∧ j < 24) (h : L 143 = fRow F m.toNatClampNeg i.toNatClampNeg j.toNatClampNeg) (c1 : L 143 (24 * i + m).toNatClampNeg < 1000000000000) (c2 : L 143 (24 * m + j).toNatClampNeg < 1000000000000)
    (h2 : L2 143 = fU1 (L 143) (24 * i + j).toNatClampNeg (L 143 (24 * i + m).toNatClampNeg + L 143 (24 * m + j).toNatClampNeg)) : L2 143 = fRow F m.toNatClampNeg i.toNatClampNeg (j + 1).toNatClampNeg := by
  rw [(px_24 hi hm).1] at c1
  rw [(px_24 hm hj).1] at c2
  rw [(px_24 hi hm).1, (px_24 hm hj).1, (px_24 hi hj).1] at h2
  rw [(px_tnS hj.1 (by grind)).1, h2]
  show _ = fSt (fRow F m.toNatClampNeg i.toNatClampNeg j.toNatClampNeg) m.toNatClampNeg i.toNatClampNeg j.toNatClampNeg
  rw [← h]
  exact (if_pos ⟨c1, c2⟩).symm
theorem fGood_no {F : Nat → Int64} {i N : Int32} (h0 : 0 ≤ i) (h1 : i < 24) (hN : 0 ≤ N ∧ N ≤ 24) (hi : i < N) (c : F (25 * i).toNatClampNeg < 0) : ¬ fGood F N.toNatClampNeg := fun q => by
  rw [px_25 ⟨h0, h1⟩] at c
  have a1 := px_nat h0
  have a2 := px_nat hN.1
  have a3 := Int32.lt_iff_toInt_lt.mp hi
  exact Int64.not_le.mpr c (q i.toNatClampNeg (by omega))
theorem fGood_up {F : Nat → Int64} {i : Int32} (h0 : 0 ≤ i) (h1 : i < 24) (h : fGood F i.toNatClampNeg) (c : 0 ≤ F (25 * i).toNatClampNeg) : fGood F (i + 1).toNatClampNeg := fun k hk => by
  rw [(px_tnS h0 (by grind)).1] at hk
  rw [px_25 ⟨h0, h1⟩] at c
  by_cases e : k = i.toNatClampNeg
  · rw [e]; exact c
  · exact h k (by omega)

set_option maxRecDepth 100000 in
theorem ls_begins {n : Nat} {R : px_R} (hg : px_G n R) {Q : px_Q} (n0 : Int32) {I : px_I} (L : px_L) (hq : ∀ L2, mDL L L2 → feq (L2 143) gI → Q none n I L2 R) : ∀ k : Int32, k ≤ 576 → 0 ≤ k → ∀ L1, mDL L L1 → (∀ j : Nat, j < k.toNatClampNeg → L1 143 j = gI j) → px M_X12_begins 0 0 7 [(0, .ref 103), (1, .int n0), (2, .int k)] [] n I L1 R Q := by
  refine px_up 576 (fun k ih hk => ?_)
  intro h0 L1 h1 hF1
  refine px_ige rfl q_X12_begins_7 hg rfl trivial (fun c11 => ?_) (fun c11 => ?_)
  · refine px_rv rfl q_X12_begins_44 rfl rfl rfl hg rfl trivial ?_
    exact hq _ h1 (fun j hj => hF1 j (px_576 (by grind) hj))
  · refine px_ine rfl q_X12_begins_14 hg rfl ⟨⟨trivial, (by first | decide | (refine ⟨?_, ?_⟩ <;> grind) | grind)⟩, (by first | decide | (refine ⟨?_, ?_⟩ <;> grind) | grind)⟩ (fun c27 => ?_) (fun c27 => ?_)
    · refine px_b rfl q_X12_begins_34 hg rfl ⟨trivial, (by first | decide | (refine ⟨?_, ?_⟩ <;> grind) | grind)⟩ ?_
      first
        | exact px_go (ih (k + 1) (by grind) (by grind) (by grind) _ (fun b hb => by rw [px_u_ne hb]; exact h1 b hb) (gI_far h0 (by grind) (by first | exact c27 | grind) hF1)) ⟨rfl, rfl, rfl, trivial⟩
        | exact px_go (ih (k + 1) (by grind) (by grind) (by grind) _ (fun b hb => by rw [px_u_ne hb]; exact h1 b hb) (gI_zero h0 (by grind) (by first | exact c27 | grind) hF1)) ⟨rfl, rfl, rfl, trivial⟩
    · refine px_b rfl q_X12_begins_30 hg rfl ⟨trivial, (by first | decide | (refine ⟨?_, ?_⟩ <;> grind) | grind)⟩ ?_
      first
        | exact px_go (ih (k + 1) (by grind) (by grind) (by grind) _ (fun b hb => by rw [px_u_ne hb]; exact h1 b hb) (gI_far h0 (by grind) (by first | exact c27 | grind) hF1)) ⟨rfl, rfl, rfl, trivial⟩
        | exact px_go (ih (k + 1) (by grind) (by grind) (by grind) _ (fun b hb => by rw [px_u_ne hb]; exact h1 b hb) (gI_zero h0 (by grind) (by first | exact c27 | grind) hF1)) ⟨rfl, rfl, rfl, trivial⟩

set_option maxRecDepth 100000 in
theorem ks_begins {n : Nat} {I : px_I} {L : px_L} {R : px_R} (hg : px_G n R) (n0 : Int32) : px_KV M_X12_begins [.ref 103, .int n0] n I L R (fun I2 L2 => I2 = px_u I 103 70 n0 ∧ mDL L L2 ∧ feq (L2 143) gI) := by
  refine px_of (plainFor_of_name np_RX12) (fun _ _ _ => trivial) rfl ?_
  refine px_b rfl q_X12_begins_0 hg rfl trivial ?_
  exact px_go (ls_begins hg n0 L (fun L2 h hF => ⟨rfl, rfl, rfl, rfl, h, hF⟩) 0 (by decide) (by decide) L (fun _ _ => rfl) (fun j hj => absurd hj (by rw [px_z0]; exact Nat.not_lt_zero _))) ⟨rfl, rfl, rfl, trivial⟩

set_option maxRecDepth 100000 in
theorem ks_bounds {n : Nat} {I : px_I} {L : px_L} {R : px_R} (hg : px_G n R) (f s : Int32) (v : Int64) (hb : 0 ≤ 24 * f + s ∧ 24 * f + s < 576) : px_KV M_X12_bounds [.ref 103, .int f, .int s, .long v] n I L R (fun I2 L2 => I2 = I ∧ mDL L L2 ∧ L2 143 = fU1 (L 143) (24 * f + s).toNatClampNeg v) := by
  refine px_of (plainFor_of_name np_RX12) (fun _ _ _ => trivial) rfl ?_
  refine px_lge rfl q_X12_bounds_0 hg rfl ⟨trivial, (by first | decide | (refine ⟨?_, ?_⟩ <;> grind) | grind)⟩ (fun c23 => ?_) (fun c23 => ?_)
  · refine px_rvW rfl q_X12_bounds_30 rfl rfl rfl hg rfl ⟨⟨trivial, (by first | decide | (refine ⟨?_, ?_⟩ <;> grind) | grind)⟩, (by first | decide | (refine ⟨?_, ?_⟩ <;> grind) | grind)⟩ ⟨⟨rfl, rfl⟩, ?_⟩
    first
      | exact ⟨rfl, fun b hb => px_u_ne hb, fU1_lo (by first | exact c23 | exact Int64.not_lt.mpr c23 | grind)⟩
      | exact ⟨rfl, fun b hb => px_u_ne hb, fU1_hi (by first | exact c23 | exact Int64.not_le.mp c23 | grind)⟩
  · refine px_rvW rfl q_X12_bounds_26 rfl rfl rfl hg rfl ⟨trivial, (by first | decide | (refine ⟨?_, ?_⟩ <;> grind) | grind)⟩ ⟨⟨rfl, rfl⟩, ?_⟩
    first
      | exact ⟨rfl, fun b hb => px_u_ne hb, fU1_lo (by first | exact c23 | exact Int64.not_lt.mpr c23 | grind)⟩
      | exact ⟨rfl, fun b hb => px_u_ne hb, fU1_hi (by first | exact c23 | exact Int64.not_le.mp c23 | grind)⟩

set_option maxRecDepth 100000 in
theorem ls_closes22 {n : Nat} {R : px_R} (hg : px_G n R) {Q : px_Q} (m i : Int32) {I : px_I} (L : px_L) (F : Nat → Int64) (hm : 0 ≤ m ∧ m < I 103 70) (hi : 0 ≤ i ∧ i < I 103 70) (hs : I 103 70 ≤ 24) (hq : ∀ L2, mDL L L2 → L2 143 = fRow F m.toNatClampNeg i.toNatClampNeg (I 103 70).toNatClampNeg → px M_X12_closes 0 0 12 [(0, .ref 103), (1, .int m), (2, .int (i + 1))] [] n I L2 R Q) : ∀ j : Int32, j ≤ I 103 70 → 0 ≤ j → ∀ L1, mDL L L1 → L1 143 = fRow F m.toNatClampNeg i.toNatClampNeg j.toNatClampNeg → px M_X12_closes 0 0 22 [(0, .ref 103), (1, .int m), (2, .int i), (3, .int j)] [] n I L1 R Q := by
  refine px_up _ (fun j ih hk => ?_)
  intro h0 L1 h1 hF1
  have m24 : 0 ≤ m ∧ m < 24 := by grind
  have i24 : 0 ≤ i ∧ i < 24 := by grind
  refine px_ige rfl q_X12_closes_22 hg rfl trivial (fun c27 => ?_) (fun c27 => ?_)
  · refine px_b rfl q_X12_closes_101 hg rfl trivial ?_
    exact px_go (hq _ h1 (by have e : j = I 103 70 := (by grind); rw [← e]; exact hF1)) ⟨rfl, rfl, rfl, trivial⟩
  · refine px_lge rfl q_X12_closes_30 hg rfl ⟨trivial, (by first | decide | (refine ⟨?_, ?_⟩ <;> grind) | grind)⟩ (fun c45 => ?_) (fun c45 => ?_)
    · refine px_b rfl q_X12_closes_95 hg rfl trivial ?_
      first
        | exact px_go (ih (j + 1) (by grind) (by grind) (by grind) _ h1 (fRow_noI m24 i24 (by grind) hF1 (Or.inl (by first | exact Int64.not_lt.mpr c45 | grind)))) ⟨rfl, rfl, rfl, rfl, trivial⟩
        | exact px_go (ih (j + 1) (by grind) (by grind) (by grind) _ h1 (fRow_noI m24 i24 (by grind) hF1 (Or.inr (by first | exact Int64.not_lt.mpr c63 | grind)))) ⟨rfl, rfl, rfl, rfl, trivial⟩
        | exact px_go (ih (j + 1) (by grind) (by grind) (by grind) _ (fun b hb => (h92.1 b hb).trans (h1 b hb)) (fRow_yesI m24 i24 (by grind) hF1 (by first | exact Int64.not_le.mp c45 | grind) (by first | exact Int64.not_le.mp c63 | grind) h92.2)) ⟨rfl, rfl, rfl, rfl, trivial⟩
    · refine px_lge rfl q_X12_closes_48 hg rfl ⟨trivial, (by first | decide | (refine ⟨?_, ?_⟩ <;> grind) | grind)⟩ (fun c63 => ?_) (fun c63 => ?_)
      · refine px_b rfl q_X12_closes_95 hg rfl trivial ?_
        first
          | exact px_go (ih (j + 1) (by grind) (by grind) (by grind) _ h1 (fRow_noI m24 i24 (by grind) hF1 (Or.inl (by first | exact Int64.not_lt.mpr c45 | grind)))) ⟨rfl, rfl, rfl, rfl, trivial⟩
          | exact px_go (ih (j + 1) (by grind) (by grind) (by grind) _ h1 (fRow_noI m24 i24 (by grind) hF1 (Or.inr (by first | exact Int64.not_lt.mpr c63 | grind)))) ⟨rfl, rfl, rfl, rfl, trivial⟩
          | exact px_go (ih (j + 1) (by grind) (by grind) (by grind) _ (fun b hb => (h92.1 b hb).trans (h1 b hb)) (fRow_yesI m24 i24 (by grind) hF1 (by first | exact Int64.not_le.mp c45 | grind) (by first | exact Int64.not_le.mp c63 | grind) h92.2)) ⟨rfl, rfl, rfl, rfl, trivial⟩
      · refine px_cVW (ci := 12) rfl q_X12_closes_66 hg rfl ⟨⟨trivial, (by first | decide | (refine ⟨?_, ?_⟩ <;> grind) | grind)⟩, (by first | decide | (refine ⟨?_, ?_⟩ <;> grind) | grind)⟩ lk_12_199 nm_X12_bounds (ks_bounds hg _ _ _ (by grind)) rfl rfl (px_lit hg rfl) rfl rfl rfl ⟨rfl, rfl⟩ ?_
        intro I92 L92 h92
        obtain ⟨rfl, h92⟩ := h92
        refine px_b rfl q_X12_closes_95 hg rfl trivial ?_
        first
          | exact px_go (ih (j + 1) (by grind) (by grind) (by grind) _ h1 (fRow_noI m24 i24 (by grind) hF1 (Or.inl (by first | exact Int64.not_lt.mpr c45 | grind)))) ⟨rfl, rfl, rfl, rfl, trivial⟩
          | exact px_go (ih (j + 1) (by grind) (by grind) (by grind) _ h1 (fRow_noI m24 i24 (by grind) hF1 (Or.inr (by first | exact Int64.not_lt.mpr c63 | grind)))) ⟨rfl, rfl, rfl, rfl, trivial⟩
          | exact px_go (ih (j + 1) (by grind) (by grind) (by grind) _ (fun b hb => (h92.1 b hb).trans (h1 b hb)) (fRow_yesI m24 i24 (by grind) hF1 (by first | exact Int64.not_le.mp c45 | grind) (by first | exact Int64.not_le.mp c63 | grind) h92.2)) ⟨rfl, rfl, rfl, rfl, trivial⟩

set_option maxRecDepth 100000 in
theorem ls_closes12 {n : Nat} {R : px_R} (hg : px_G n R) {Q : px_Q} (m : Int32) {I : px_I} (L : px_L) (F : Nat → Int64) (hm : 0 ≤ m ∧ m < I 103 70) (hs : I 103 70 ≤ 24) (hq : ∀ L2, mDL L L2 → L2 143 = fCol F m.toNatClampNeg (I 103 70).toNatClampNeg (I 103 70).toNatClampNeg → px M_X12_closes 0 0 2 [(0, .ref 103), (1, .int (m + 1))] [] n I L2 R Q) : ∀ i : Int32, i ≤ I 103 70 → 0 ≤ i → ∀ L1, mDL L L1 → L1 143 = fCol F m.toNatClampNeg (I 103 70).toNatClampNeg i.toNatClampNeg → px M_X12_closes 0 0 12 [(0, .ref 103), (1, .int m), (2, .int i)] [] n I L1 R Q := by
  refine px_up _ (fun i ih hk => ?_)
  intro h0 L1 h1 hF1
  refine px_ige rfl q_X12_closes_12 hg rfl trivial (fun c17 => ?_) (fun c17 => ?_)
  · refine px_b rfl q_X12_closes_107 hg rfl trivial ?_
    exact px_go (hq _ h1 (by have e : i = I 103 70 := (by grind); rw [← e] at hF1 ⊢; exact hF1)) ⟨rfl, rfl, trivial⟩
  · refine px_b rfl q_X12_closes_20 hg rfl trivial ?_
    exact px_go (ls_closes22 hg m i L1 (fCol F m.toNatClampNeg (I 103 70).toNatClampNeg i.toNatClampNeg) hm (by grind) hs (fun L2 h2 hF2 => ih (i + 1) (by grind) (by grind) (by grind) L2 (fun b hb => (h2 b hb).trans (h1 b hb)) (by rw [(px_tnS h0 (by grind)).1]; exact hF2)) 0 (by grind) (by decide) L1 (fun _ _ => rfl) (by rw [px_z0]; exact hF1)) ⟨rfl, rfl, rfl, rfl, trivial⟩

set_option maxRecDepth 100000 in
theorem ls_closes117 {n : Nat} {R : px_R} (hg : px_G n R) {Q : px_Q} {I : px_I} {L1 : px_L} (hs : 0 ≤ I 103 70 ∧ I 103 70 ≤ 24) (hq1 : fGood (L1 143) (I 103 70).toNatClampNeg → Q (some (.int 1)) n I L1 R) (hq0 : ¬ fGood (L1 143) (I 103 70).toNatClampNeg → Q (some (.int 0)) n I L1 R) : ∀ i : Int32, i ≤ I 103 70 → 0 ≤ i → ∀ g : Int32, ((g = 1 ∧ fGood (L1 143) i.toNatClampNeg) ∨ (g = 0 ∧ ¬ fGood (L1 143) (I 103 70).toNatClampNeg)) → px M_X12_closes 0 0 117 [(0, .ref 103), (1, .int g), (2, .int i)] [] n I L1 R Q := by
  refine px_up _ (fun i ih hk => ?_)
  intro h0 g hg1
  have x1 := hs.1
  have x2 := hs.2
  refine px_ige rfl q_X12_closes_117 hg rfl trivial (fun c122 => ?_) (fun c122 => ?_)
  · refine px_rz rfl q_X12_closes_155 rfl rfl rfl hg rfl trivial (by first | exact Or.inl rfl | exact Or.inr rfl | grind) ?_
    rcases hg1 with ⟨e, h⟩ | ⟨e, h⟩
    · rw [e]; exact hq1 (by have e2 : i = I 103 70 := (by grind); rw [← e2]; exact h)
    · rw [e]; exact hq0 h
  · refine px_eq rfl q_X12_closes_125 hg rfl trivial (fun c126 => ?_) (fun c126 => ?_)
    · refine px_b rfl q_X12_closes_147 hg rfl trivial ?_
      first
        | exact px_go (ih (i + 1) (by grind) (by grind) (by grind) _ (Or.inr ⟨rfl, (hg1.resolve_left (fun q => absurd (q.1.symm.trans c126) (by decide))).2⟩)) ⟨rfl, rfl, rfl, trivial⟩
        | exact px_go (ih (i + 1) (by grind) (by grind) (by grind) _ (Or.inr ⟨rfl, fGood_no h0 (by grind) hs (by grind) c140⟩)) ⟨rfl, rfl, rfl, trivial⟩
        | exact px_go (ih (i + 1) (by grind) (by grind) (by grind) _ (Or.inl ⟨rfl, fGood_up h0 (by grind) (hg1.resolve_right (fun q => c126 q.1)).2 (by first | exact Int64.not_lt.mp c140 | grind)⟩)) ⟨rfl, rfl, rfl, trivial⟩
    · refine px_llt rfl q_X12_closes_129 hg rfl ⟨trivial, (by first | decide | (refine ⟨?_, ?_⟩ <;> grind) | grind)⟩ (fun c140 => ?_) (fun c140 => ?_)
      · refine px_b rfl q_X12_closes_147 hg rfl trivial ?_
        first
          | exact px_go (ih (i + 1) (by grind) (by grind) (by grind) _ (Or.inr ⟨rfl, (hg1.resolve_left (fun q => absurd (q.1.symm.trans c126) (by decide))).2⟩)) ⟨rfl, rfl, rfl, trivial⟩
          | exact px_go (ih (i + 1) (by grind) (by grind) (by grind) _ (Or.inr ⟨rfl, fGood_no h0 (by grind) hs (by grind) c140⟩)) ⟨rfl, rfl, rfl, trivial⟩
          | exact px_go (ih (i + 1) (by grind) (by grind) (by grind) _ (Or.inl ⟨rfl, fGood_up h0 (by grind) (hg1.resolve_right (fun q => c126 q.1)).2 (by first | exact Int64.not_lt.mp c140 | grind)⟩)) ⟨rfl, rfl, rfl, trivial⟩
      · refine px_b rfl q_X12_closes_143 hg rfl trivial ?_
        first
          | exact px_go (ih (i + 1) (by grind) (by grind) (by grind) _ (Or.inr ⟨rfl, (hg1.resolve_left (fun q => absurd (q.1.symm.trans c126) (by decide))).2⟩)) ⟨rfl, rfl, rfl, trivial⟩
          | exact px_go (ih (i + 1) (by grind) (by grind) (by grind) _ (Or.inr ⟨rfl, fGood_no h0 (by grind) hs (by grind) c140⟩)) ⟨rfl, rfl, rfl, trivial⟩
          | exact px_go (ih (i + 1) (by grind) (by grind) (by grind) _ (Or.inl ⟨rfl, fGood_up h0 (by grind) (hg1.resolve_right (fun q => c126 q.1)).2 (by first | exact Int64.not_lt.mp c140 | grind)⟩)) ⟨rfl, rfl, rfl, trivial⟩

set_option maxRecDepth 100000 in
theorem ls_closes2 {n : Nat} {R : px_R} (hg : px_G n R) {Q : px_Q} {I : px_I} (L : px_L) (h00 : 0 ≤ I 103 70) (hs : I 103 70 ≤ 24) (hq : ∀ r L2, mDL L L2 → L2 143 = fAll (L 143) (I 103 70).toNatClampNeg (I 103 70).toNatClampNeg → ((r = 1 ∧ fGood (L2 143) (I 103 70).toNatClampNeg) ∨ (r = 0 ∧ ¬ fGood (L2 143) (I 103 70).toNatClampNeg)) → Q (some (.int r)) n I L2 R) : ∀ m : Int32, m ≤ I 103 70 → 0 ≤ m → ∀ L1, mDL L L1 → L1 143 = fAll (L 143) (I 103 70).toNatClampNeg m.toNatClampNeg → px M_X12_closes 0 0 2 [(0, .ref 103), (1, .int m)] [] n I L1 R Q := by
  refine px_up _ (fun m ih hk => ?_)
  intro h0 L1 h1 hF1
  refine px_ige rfl q_X12_closes_2 hg rfl trivial (fun c7 => ?_) (fun c7 => ?_)
  · refine px_b rfl q_X12_closes_113 hg rfl trivial ?_
    have e : m = I 103 70 := by grind
    rw [e] at hF1
    exact px_go (ls_closes117 hg ⟨h00, hs⟩ (fun q => hq 1 L1 h1 hF1 (Or.inl ⟨rfl, q⟩)) (fun q => hq 0 L1 h1 hF1 (Or.inr ⟨rfl, q⟩)) 0 h00 (by decide) 1 (Or.inl ⟨rfl, fun k hk => absurd hk (by rw [px_z0]; exact Nat.not_lt_zero _)⟩)) ⟨rfl, rfl, rfl, trivial⟩
  · refine px_b rfl q_X12_closes_10 hg rfl trivial ?_
    exact px_go (ls_closes12 hg m L1 (fAll (L 143) (I 103 70).toNatClampNeg m.toNatClampNeg) (by grind) hs (fun L2 h2 hF2 => ih (m + 1) (by grind) (by grind) (by grind) L2 (fun b hb => (h2 b hb).trans (h1 b hb)) (by rw [(px_tnS h0 (by grind)).1]; exact hF2)) 0 (by grind) (by decide) L1 (fun _ _ => rfl) (by rw [px_z0]; exact hF1)) ⟨rfl, rfl, rfl, trivial⟩

set_option maxRecDepth 100000 in
theorem ks_closes {n : Nat} {I : px_I} {L : px_L} {R : px_R} (hg : px_G n R) (hs : 0 ≤ I 103 70 ∧ I 103 70 ≤ 24) : px_KS M_X12_closes [.ref 103] n I L R (fun r I2 L2 => I2 = I ∧ mDL L L2 ∧ L2 143 = fAll (L 143) (I 103 70).toNatClampNeg (I 103 70).toNatClampNeg ∧ ((r = 1 ∧ fGood (L2 143) (I 103 70).toNatClampNeg) ∨ (r = 0 ∧ ¬ fGood (L2 143) (I 103 70).toNatClampNeg))) := by
  refine px_of (plainFor_of_name np_RX12) (fun _ _ _ => trivial) rfl ?_
  refine px_b rfl q_X12_closes_0 hg rfl trivial ?_
  exact px_go (ls_closes2 hg L hs.1 hs.2 (fun r L2 h hF hr => ⟨rfl, rfl, r, rfl, rfl, h, hF, hr⟩) 0 hs.1 (by decide) L (fun _ _ => rfl) (by rw [px_z0]; rfl)) ⟨rfl, rfl, trivial⟩
