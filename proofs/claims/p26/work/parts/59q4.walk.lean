/-! the class: one step, what it does to the same nine numbers -/
def cTl (I : px_I) (k : Nat) : Int32 := I 86 (3 + k)
def cV (I : px_I) (L : px_L) : Nat → Int64 := fun k => if k < 7 then L 86 (8 + k) else if k = 7 then (I 86 15).toInt64 else if k = 8 then (I 86 16).toInt64 else 0
def rot : Nat → Int32 × Int32 → Int32 × Int32
  | 0, p => p
  | k + 1, p => (0 - (rot k p).2, (rot k p).1)
theorem rot_up {E : Int32 × Int32} {i : Int32} (h0 : 0 ≤ i) (h1 : i < 1000) : rot (i + 1).toNatClampNeg E = (0 - (rot i.toNatClampNeg E).2, (rot i.toNatClampNeg E).1) := by
  rw [(px_tnS h0 (by grind)).1]
  rfl
def cLay (I : px_I) (L : px_L) (x : Int32) (p : Int32 × Int32) (L2 : px_L) : Prop :=
  L2 86 8 = L 86 8 + x.toInt64 * p.1.toInt64 ∧ L2 86 9 = L 86 9 + x.toInt64 * p.2.toInt64 ∧ L2 86 10 = L 86 10 ∧
  L2 86 11 = L 86 11 + ((x.toInt64 * (I 86 3).toInt64 + 9) / 10 * (wAb p.1).toInt64 + (x.toInt64 * L 86 14 + 9) / 10 * (wAb p.2).toInt64 + 999) / 1000 ∧
  L2 86 12 = L 86 12 + ((x.toInt64 * (I 86 3).toInt64 + 9) / 10 * (wAb p.2).toInt64 + (x.toInt64 * L 86 14 + 9) / 10 * (wAb p.1).toInt64 + 999) / 1000 ∧
  L2 86 13 = L 86 13 + (x.toInt64 * (I 86 4).toInt64 + 9) / 10 ∧ L2 86 14 = L 86 14
theorem wUp10 (v : Int64) : wUp v 10 = (v + 9) / 10 := by
  unfold wUp
  rw [show v + 10 - 1 = v + 9 by grind]
theorem wUp1000 (v : Int64) : wUp v 1000 = (v + 999) / 1000 := by
  unfold wUp
  rw [show v + 1000 - 1 = v + 999 by grind]
theorem q4 {h : Int32} (hh : 0 ≤ h ∧ h ≤ 15) : 0 ≤ h / 4 ∧ h / 4 ≤ 3 := by
  refine ⟨?_, (px_rm4 hh).2⟩
  have e := (px_dvI (k := 4) (by decide) hh.1).1
  have h1 := Int32.le_iff_toInt_le.mp hh.1
  rw [show (0 : Int32).toInt = 0 by decide] at h1
  rw [show (4 : Int32).toInt = 4 by decide] at e
  rw [Int32.le_iff_toInt_le, e, show (0 : Int32).toInt = 0 by decide]
  omega
theorem rot_h : ∀ k, k < 16 → rot (Int32.ofNat k / 4).toNatClampNeg (px_east.getD (Int32.ofNat k - Int32.ofNat k / 4 * 4).toNatClampNeg 0, px_nort.getD (Int32.ofNat k - Int32.ofNat k / 4 * 4).toNatClampNeg 0) = (aR (Int32.ofNat k), aR (Int32.ofNat k + 12)) := by decide
theorem cLay_V {I : px_I} {L L2 : px_L} {x : Int32} (h : 0 ≤ I 86 15 ∧ I 86 15 ≤ 15) (hl : cLay I L x (rot (I 86 15 / 4).toNatClampNeg (px_east.getD (I 86 15 - I 86 15 / 4 * 4).toNatClampNeg 0, px_nort.getD (I 86 15 - I 86 15 / 4 * 4).toNatClampNeg 0)) L2) : cV I L2 = gO (cTl I) (cV I L) x := by
  have hn := xnat h.1
  have h15 := Int32.le_iff_toInt_le.mp h.2
  rw [show (15 : Int32).toInt = 15 by decide] at h15
  have e := rot_h (I 86 15).toNatClampNeg (by omega)
  rw [(px_tnS h.1 (by grind)).2] at e
  rw [e] at hl
  obtain ⟨l0, l1, l2, l3, l4, l5, l6⟩ := hl
  have v7 : (cV I L 7).toInt32 = I 86 15 := by unfold cV; simp
  have v6 : cV I L 6 = L 86 14 := by unfold cV; simp
  funext k
  unfold gO
  rw [v7, v6, wUp10, wUp10, wUp10, wUp1000, wUp1000]
  by_cases k0 : k = 0
  · subst k0; simpa [cV] using l0
  by_cases k1 : k = 1
  · subst k1; simpa [cV] using l1
  by_cases k2 : k = 2
  · subst k2; simpa [cV] using l2
  by_cases k3 : k = 3
  · subst k3; simpa [cV, cTl] using l3
  by_cases k4 : k = 4
  · subst k4; simpa [cV, cTl] using l4
  by_cases k5 : k = 5
  · subst k5; simpa [cV, cTl] using l5
  by_cases k6 : k = 6
  · subst k6; simpa [cV] using l6
  rw [if_neg k0, if_neg k1, if_neg k3, if_neg k4, if_neg k5]
  have k7 : ¬ k < 7 := by omega
  unfold cV
  rw [if_neg k7, if_neg k7]
def wAL (x : Int64) : Int64 := if x < 0 then -x else x
def cNear (L : px_L) : Prop := ¬ 100000000 < wAL (L 86 8) ∧ ¬ 100000000 < wAL (L 86 9) ∧ ¬ 100000000 < wAL (L 86 10) ∧ L 86 11 ≤ 100000000 ∧ L 86 12 ≤ 100000000 ∧ L 86 13 ≤ 100000000 ∧ L 86 14 ≤ 100000000
theorem i64_16 {I : px_I} (hs : 0 ≤ I 86 16 ∧ I 86 16 ≤ 1000000) : (I 86 16 + 1).toInt64 = (I 86 16).toInt64 + 1 := by
  have h1 := Int32.le_iff_toInt_le.mp hs.1
  have h2 := Int32.le_iff_toInt_le.mp hs.2
  rw [show (0 : Int32).toInt = 0 by decide] at h1
  rw [show (1000000 : Int32).toInt = 1000000 by decide] at h2
  rw [← Int64.toInt_inj, Int32.toInt_toInt64, Int32.toInt_add, Int64.toInt_add, Int32.toInt_toInt64, show (1 : Int32).toInt = 1 by decide, show (1 : Int64).toInt = 1 by decide, Int.bmod_eq_of_le (by omega) (by omega), Int.bmod_eq_of_le (by omega) (by omega)]
theorem wc_gen {I J : px_I} {L L2 : px_L} {V : Nat → Int64} (h16 : J 86 16 = I 86 16 + 1) (hs : 0 ≤ I 86 16 ∧ I 86 16 ≤ 1000000) (h15 : (J 86 15).toInt64 = V 7) (hl : ∀ k, k < 7 → L2 86 (8 + k) = V k) (h8 : V 8 = cV I L 8 + 1) (h9 : ∀ k, 9 ≤ k → V k = 0) : cV J L2 = V := by
  funext k
  unfold cV
  by_cases c : k < 7
  · rw [if_pos c]; exact hl k c
  rw [if_neg c]
  by_cases c7 : k = 7
  · rw [if_pos c7, c7]; exact h15
  rw [if_neg c7]
  by_cases c8 : k = 8
  · rw [if_pos c8, c8, h8, h16, i64_16 hs]
    unfold cV
    simp
  rw [if_neg c8]
  exact (h9 k (by omega)).symm
theorem k7c {P : Nat → Prop} (h0 : P 0) (h1 : P 1) (h2 : P 2) (h3 : P 3) (h4 : P 4) (h5 : P 5) (h6 : P 6) : ∀ k, k < 7 → P k
  | 0, _ => h0
  | 1, _ => h1
  | 2, _ => h2
  | 3, _ => h3
  | 4, _ => h4
  | 5, _ => h5
  | 6, _ => h6
  | k + 7, h => absurd h (by omega)
theorem rSt_9 {T : Nat → Int32} {o v : Int32} {V : Nat → Int64} (h : ∀ k, 9 ≤ k → V k = 0) : ∀ k, 9 ≤ k → rSt T o v V k = 0 := fun k hk => by
  have e : (fun k => if k = 8 then V 8 + 1 else V k) k = 0 := by
    show (if k = 8 then V 8 + 1 else V k) = 0
    rw [if_neg (by omega)]; exact h k hk
  unfold rSt rDo gO
  repeat' split
  all_goals first | exact e | (simp only []; repeat' split) 
  all_goals first | omega | exact e | exact h k hk
theorem cV_9 {I : px_I} {L : px_L} : ∀ k, 9 ≤ k → cV I L k = 0 := fun k hk => by
  unfold cV
  rw [if_neg (by omega), if_neg (by omega), if_neg (by omega)]
theorem i64_h {a v : Int32} (ha : 0 ≤ a ∧ a ≤ 15) (hv : 0 ≤ v ∧ v ≤ 1000000) : (a + v - (a + v) / 16 * 16).toInt64 = a.toInt64 + v.toInt64 - (a.toInt64 + v.toInt64) / 16 * 16 := by
  have a1 := Int32.le_iff_toInt_le.mp ha.1
  have a2 := Int32.le_iff_toInt_le.mp ha.2
  have v1 := Int32.le_iff_toInt_le.mp hv.1
  have v2 := Int32.le_iff_toInt_le.mp hv.2
  rw [show (0 : Int32).toInt = 0 by decide] at a1 v1
  rw [show (15 : Int32).toInt = 15 by decide] at a2
  rw [show (1000000 : Int32).toInt = 1000000 by decide] at v2
  have s1 : (a + v).toInt = a.toInt + v.toInt := by rw [Int32.toInt_add, Int.bmod_eq_of_le (by omega) (by omega)]
  have s0 : 0 ≤ a + v := Int32.le_iff_toInt_le.mpr (by rw [s1, show (0 : Int32).toInt = 0 by decide]; omega)
  have e := (px_dvI (k := 16) (by decide) s0).2
  rw [show (16 : Int32).toInt = 16 by decide, s1] at e
  have s2 : (a.toInt64 + v.toInt64).toInt = a.toInt + v.toInt := by rw [Int64.toInt_add, Int32.toInt_toInt64, Int32.toInt_toInt64, Int.bmod_eq_of_le (by omega) (by omega)]
  have d : ((a.toInt64 + v.toInt64) / 16).toInt = (a.toInt + v.toInt) / 16 := by
    rw [Int64.toInt_div_of_ne_right _ _ (by decide), s2, show (16 : Int64).toInt = 16 by decide]
    exact Int.tdiv_eq_ediv_of_nonneg (by omega)
  have m : ((a.toInt64 + v.toInt64) / 16 * 16).toInt = (a.toInt + v.toInt) / 16 * 16 := by
    rw [Int64.toInt_mul, d, show (16 : Int64).toInt = 16 by decide, Int.bmod_eq_of_le (by omega) (by omega)]
  rw [← Int64.toInt_inj, Int32.toInt_toInt64, e, Int64.toInt_sub, s2, m, Int.bmod_eq_of_le (by omega) (by omega)]
  omega

set_option maxRecDepth 100000 in
theorem ls_layLine {n : Nat} {R : px_R} (hg : px_G n R) {Q : px_Q} (x q : Int32) (E : Int32 × Int32) {I : px_I} (L : px_L) (hq0 : 0 ≤ q ∧ q ≤ 3) (hq : ∀ L2, cWL L L2 → cLay I L x (rot q.toNatClampNeg E) L2 → Q none n I L2 R) : ∀ i : Int32, i ≤ 4 → 0 ≤ i → i ≤ q → px M_X9_layLine 0 0 33 [(0, .ref 86), (1, .int x), (2, .int q), (3, .int (rot i.toNatClampNeg E).1), (4, .int (rot i.toNatClampNeg E).2), (5, .int i)] [] n I L R Q := by
  refine px_up 4 (fun i ih hi => ?_)
  intro h0 hiq
  have up := rot_up (E := E) h0
  refine px_ige rfl q_X9_layLine_33 hg rfl trivial (fun c36 => ?_) (fun c36 => ?_)
  · refine px_cSP rfl q_X9_layLine_56 hg rfl trivial lk_9_129 nm_J9_abs_0f7a4 (j_abs hg _) rfl rfl rfl ⟨rfl, rfl⟩ ?_
    intro x86 h86
    refine px_cSP rfl q_X9_layLine_89 hg rfl trivial lk_9_129 nm_J9_abs_0f7a4 (j_abs hg _) rfl rfl rfl ⟨rfl, rfl⟩ ?_
    intro x92 h92
    refine px_rv rfl q_X9_layLine_95 rfl rfl rfl hg rfl ⟨⟨⟨⟨⟨trivial, (by decide)⟩, (by decide)⟩, (by decide)⟩, (by decide)⟩, (by decide)⟩ ?_
    have e9 : i = q := by grind
    subst e9
    refine hq _ (by repeat (first | exact cWL.rfl' | with_reducible assumption | refine cWL.u ?_ _ _)) ?_
    subst_vars
    unfold cLay wAb
    simp [px_ur]
  · refine px_b rfl q_X9_layLine_39 hg rfl trivial ?_
    have k9 := ih (i + 1) (by grind) (by grind) (by grind) (by grind)
    rw [up (by grind)] at k9
    exact px_go k9 ⟨rfl, rfl, rfl, rfl, rfl, rfl, trivial⟩

set_option maxRecDepth 100000 in
theorem cs_layLine {n : Nat} {I : px_I} {L : px_L} {R : px_R} (hg : px_G n R) (x : Int32) (h : 0 ≤ I 86 15 ∧ I 86 15 ≤ 15) : px_KV M_X9_layLine [.ref 86, .int x] n I L R (fun I2 L2 => I2 = I ∧ cWL L L2 ∧ cV I L2 = gO (cTl I) (cV I L) x) := by
  refine px_of (plainFor_of_name np_RX9) (fun _ _ _ => trivial) rfl ?_
  have hq5 := px_rm4 h
  have hq4 := hq5.1
  refine px_b rfl q_X9_layLine_0 hg rfl ⟨trivial, (by decide)⟩ ?_
  refine px_sEast (by decide +kernel) (px_i4 197 rfl rfl) ?_
  refine px_b rfl q_X9_layLine_10 hg rfl ⟨trivial, (by decide)⟩ ?_
  refine px_iEast (by decide +kernel) hq4 ?_
  refine px_b rfl q_X9_layLine_17 hg rfl trivial ?_
  refine px_sNorth (by decide +kernel) (px_i4 199 rfl rfl) ?_
  refine px_b rfl q_X9_layLine_21 hg rfl ⟨trivial, (by decide)⟩ ?_
  refine px_iNorth (by decide +kernel) hq4 ?_
  refine px_b rfl q_X9_layLine_28 hg rfl trivial ?_
  exact px_go (ls_layLine hg x (I 86 15 / 4) (_, _) L (q4 h) (fun L2 h1 h2 => ⟨rfl, rfl, rfl, rfl, h1, cLay_V h h2⟩) 0 (by decide) (by decide) (q4 h).1) ⟨rfl, rfl, rfl, rfl, rfl, rfl, trivial⟩

set_option maxRecDepth 100000 in
theorem cs_staysNear {n : Nat} {I : px_I} {L : px_L} {R : px_R} (hg : px_G n R)  : px_KP M_X9_staysNear [.ref 86] n I L R (fun r => (r = 0 ∨ r = 1) ∧ (r = 1 ↔ cNear L)) := by
  refine px_of (plainFor_of_name np_RX9) (fun _ _ _ => trivial) rfl ?_
  refine px_cSQ rfl q_X9_staysNear_0 hg rfl trivial lk_9_140 nm_J9_abs_067f4 (j_absL hg _) rfl rfl rfl ⟨rfl, rfl⟩ ?_
  intro x4 h4
  refine px_lgt rfl q_X9_staysNear_7 hg rfl trivial (fun c11 => ?_) (fun c11 => ?_)
  · refine px_rzP rfl q_X9_staysNear_42 rfl rfl rfl hg rfl trivial ⟨⟨rfl, rfl, rfl, rfl⟩, (by first | exact Or.inl rfl | exact Or.inr rfl | grind), ?_⟩
    unfold cNear wAL
    grind
  · refine px_cSQ rfl q_X9_staysNear_14 hg rfl trivial lk_9_140 nm_J9_abs_067f4 (j_absL hg _) rfl rfl rfl ⟨rfl, rfl⟩ ?_
    intro x18 h18
    refine px_lgt rfl q_X9_staysNear_21 hg rfl trivial (fun c25 => ?_) (fun c25 => ?_)
    · refine px_rzP rfl q_X9_staysNear_42 rfl rfl rfl hg rfl trivial ⟨⟨rfl, rfl, rfl, rfl⟩, (by first | exact Or.inl rfl | exact Or.inr rfl | grind), ?_⟩
      unfold cNear wAL
      grind
    · refine px_cSQ rfl q_X9_staysNear_28 hg rfl trivial lk_9_140 nm_J9_abs_067f4 (j_absL hg _) rfl rfl rfl ⟨rfl, rfl⟩ ?_
      intro x32 h32
      refine px_lle rfl q_X9_staysNear_35 hg rfl trivial (fun c39 => ?_) (fun c39 => ?_)
      · refine px_lgt rfl q_X9_staysNear_44 hg rfl trivial (fun c52 => ?_) (fun c52 => ?_)
        · refine px_rzP rfl q_X9_staysNear_92 rfl rfl rfl hg rfl trivial ⟨⟨rfl, rfl, rfl, rfl⟩, (by first | exact Or.inl rfl | exact Or.inr rfl | grind), ?_⟩
          unfold cNear wAL
          grind
        · refine px_lgt rfl q_X9_staysNear_55 hg rfl trivial (fun c63 => ?_) (fun c63 => ?_)
          · refine px_rzP rfl q_X9_staysNear_92 rfl rfl rfl hg rfl trivial ⟨⟨rfl, rfl, rfl, rfl⟩, (by first | exact Or.inl rfl | exact Or.inr rfl | grind), ?_⟩
            unfold cNear wAL
            grind
          · refine px_lgt rfl q_X9_staysNear_66 hg rfl trivial (fun c74 => ?_) (fun c74 => ?_)
            · refine px_rzP rfl q_X9_staysNear_92 rfl rfl rfl hg rfl trivial ⟨⟨rfl, rfl, rfl, rfl⟩, (by first | exact Or.inl rfl | exact Or.inr rfl | grind), ?_⟩
              unfold cNear wAL
              grind
            · refine px_lgt rfl q_X9_staysNear_77 hg rfl trivial (fun c85 => ?_) (fun c85 => ?_)
              · refine px_rzP rfl q_X9_staysNear_92 rfl rfl rfl hg rfl trivial ⟨⟨rfl, rfl, rfl, rfl⟩, (by first | exact Or.inl rfl | exact Or.inr rfl | grind), ?_⟩
                unfold cNear wAL
                grind
              · refine px_rzP rfl q_X9_staysNear_88 rfl rfl rfl hg rfl trivial ⟨⟨rfl, rfl, rfl, rfl⟩, (by first | exact Or.inl rfl | exact Or.inr rfl | grind), ?_⟩
                unfold cNear wAL
                grind
      · refine px_rzP rfl q_X9_staysNear_42 rfl rfl rfl hg rfl trivial ⟨⟨rfl, rfl, rfl, rfl⟩, (by first | exact Or.inl rfl | exact Or.inr rfl | grind), ?_⟩
        unfold cNear wAL
        grind

set_option maxRecDepth 100000 in
theorem cs_step {n : Nat} {I : px_I} {L : px_L} {R : px_R} (hg : px_G n R) (k v : Int32) (h : cWk I) (hv : 0 ≤ v ∧ v ≤ 1000000) : px_KV M_X9_step [.ref 86, .int k, .int v] n I L R (fun I2 L2 => cWk I2 ∧ cWI I I2 ∧ cWL L L2 ∧ I2 86 2 = I 86 2 ∧ I2 87 = I 87 ∧ I2 88 = I 88 ∧ (I2 86 17 = 1 ↔ cNear L2) ∧ (0 ≤ k ∧ k ≤ 5 → 0 ≤ I 86 16 → I 86 16 ≤ 1000000 → cV I2 L2 = rSt (cTl I) (k + 1) v (cV I L))) := by
  refine px_of (plainFor_of_name np_RX9) (fun _ _ _ => trivial) rfl ?_
  have hk := h
  unfold cWk at h
  have h16 := px_rm16 (x := I 86 15 + v) (by grind)
  refine px_b rfl q_X9_step_0 hg rfl trivial ?_
  by_cases s11_0 : k = 0
  · refine px_swI (tgt := 44) (off := 33) q_X9_step_11S s11_0 (by decide) (by decide) (by decide) (by decide) ?_
    refine px_cVW (ci := 9) rfl q_X9_step_44 hg rfl trivial lk_9_108 nm_X9_layLine (cs_layLine hg _ (by simp only [px_ur]; simpa using h.2.1)) rfl rfl (px_lit hg rfl) rfl rfl rfl ⟨rfl, rfl⟩ ?_
    intro I46 L46 h46
    obtain ⟨rfl, h46, g46⟩ := h46
    refine px_cVP (ci := 9) rfl q_X9_step_49 hg rfl trivial lk_9_119 nm_X9_staysNear (cs_staysNear hg) rfl rfl (px_lit hg rfl) rfl rfl rfl ⟨rfl, rfl⟩ ?_
    intro x179 h179
    refine px_rvW rfl q_X9_step_182 rfl rfl rfl hg rfl ⟨trivial, (by first | decide | exact h179.1)⟩ ⟨⟨rfl, rfl⟩, ?_⟩
    obtain ⟨y1, y2⟩ := h179
    refine ⟨by unfold cWk; simp [px_ur]; grind, (by repeat (first | exact cWI.rfl' | with_reducible assumption | refine cWI.a7 ?_ _ _ | refine cWI.a8 ?_ _ _ | refine cWI.f ?_ _ _ (by decide))), (by repeat (first | exact cWL.rfl' | with_reducible assumption | refine cWL.u ?_ _ _)), by simp [px_ur], by funext j; simp [px_ur], by funext j; simp [px_ur], ?_, ?_⟩
    · simp [px_ur]; exact y2
    · intro hk5 s0 s1
      have hs : 0 ≤ I 86 16 ∧ I 86 16 ≤ 1000000 := ⟨s0, s1⟩
      rw [s11_0, show (0 : Int32) + 1 = 1 by decide]
      have w1 : cV (px_u I 86 16 (I 86 16 + 1)) L = fun k => if k = 8 then cV I L 8 + 1 else cV I L k := by
        refine wc_gen (L := L) (by simp [px_ur]) hs (by simp [px_ur, cV]) (k7c ?_ ?_ ?_ ?_ ?_ ?_ ?_) (by simp) (fun k hk => by rw [if_neg (by omega)]; exact cV_9 k hk) <;> simp [cV]
      have w2 : cV (px_u (px_u I 86 16 (I 86 16 + 1)) 86 17 x179) L46 = cV (px_u I 86 16 (I 86 16 + 1)) L46 := by
        funext k; unfold cV; simp [px_ur]
      rw [w2, g46, w1]
      unfold rSt rDo gO cTl
      simp [px_ur]
  by_cases s11_1 : k = 1
  · refine px_swI (tgt := 52) (off := 41) q_X9_step_11S s11_1 (by decide) (by decide) (by decide) (by decide) ?_
    refine px_cVP (ci := 9) rfl q_X9_step_52 hg rfl ⟨trivial, (by first | decide | exact h179.1)⟩ lk_9_119 nm_X9_staysNear (cs_staysNear hg) rfl rfl (px_lit hg rfl) rfl rfl rfl ⟨rfl, rfl⟩ ?_
    intro x179 h179
    refine px_rvW rfl q_X9_step_182 rfl rfl rfl hg rfl ⟨trivial, (by first | decide | exact h179.1)⟩ ⟨⟨rfl, rfl⟩, ?_⟩
    obtain ⟨y1, y2⟩ := h179
    refine ⟨by unfold cWk; simp [px_ur]; grind, (by repeat (first | exact cWI.rfl' | with_reducible assumption | refine cWI.a7 ?_ _ _ | refine cWI.a8 ?_ _ _ | refine cWI.f ?_ _ _ (by decide))), (by repeat (first | exact cWL.rfl' | with_reducible assumption | refine cWL.u ?_ _ _)), by simp [px_ur], by funext j; simp [px_ur], by funext j; simp [px_ur], ?_, ?_⟩
    · simp [px_ur]; exact y2
    · intro hk5 s0 s1
      have hs : 0 ≤ I 86 16 ∧ I 86 16 ≤ 1000000 := ⟨s0, s1⟩
      rw [s11_1, show (1 : Int32) + 1 = 2 by decide]
      refine wc_gen (L := L) (by simp [px_ur]) hs ?_ (k7c ?_ ?_ ?_ ?_ ?_ ?_ ?_) ?_ (rSt_9 cV_9)
      · simp [rSt, rDo, cV, px_ur]
        exact i64_h h.2.1 hv
      · simp [rSt, rDo, cV, px_ur]
      · simp [rSt, rDo, cV, px_ur]
      · simp [rSt, rDo, cV, px_ur]
      · simp [rSt, rDo, cV, px_ur]
      · simp [rSt, rDo, cV, px_ur]
      · simp [rSt, rDo, cV, px_ur]
      · simp [rSt, rDo, cV, px_ur, cTl]
      · simp [rSt, rDo, cV, px_ur]
  by_cases s11_2 : k = 2
  · refine px_swI (tgt := 82) (off := 71) q_X9_step_11S s11_2 (by decide) (by decide) (by decide) (by decide) ?_
    refine px_cVP (ci := 9) rfl q_X9_step_82 hg rfl trivial lk_9_119 nm_X9_staysNear (cs_staysNear hg) rfl rfl (px_lit hg rfl) rfl rfl rfl ⟨rfl, rfl⟩ ?_
    intro x179 h179
    refine px_rvW rfl q_X9_step_182 rfl rfl rfl hg rfl ⟨trivial, (by first | decide | exact h179.1)⟩ ⟨⟨rfl, rfl⟩, ?_⟩
    obtain ⟨y1, y2⟩ := h179
    refine ⟨by unfold cWk; simp [px_ur]; grind, (by repeat (first | exact cWI.rfl' | with_reducible assumption | refine cWI.a7 ?_ _ _ | refine cWI.a8 ?_ _ _ | refine cWI.f ?_ _ _ (by decide))), (by repeat (first | exact cWL.rfl' | with_reducible assumption | refine cWL.u ?_ _ _)), by simp [px_ur], by funext j; simp [px_ur], by funext j; simp [px_ur], ?_, ?_⟩
    · simp [px_ur]; exact y2
    · intro hk5 s0 s1
      have hs : 0 ≤ I 86 16 ∧ I 86 16 ≤ 1000000 := ⟨s0, s1⟩
      rw [s11_2, show (2 : Int32) + 1 = 3 by decide]
      refine wc_gen (L := L) (by simp [px_ur]) hs ?_ (k7c ?_ ?_ ?_ ?_ ?_ ?_ ?_) ?_ (rSt_9 cV_9)
      · simp [rSt, rDo, cV, px_ur]
      · simp [rSt, rDo, cV, px_ur]
      · simp [rSt, rDo, cV, px_ur]
      · simp [rSt, rDo, cV, px_ur]
      · simp [rSt, rDo, cV, px_ur]
      · simp [rSt, rDo, cV, px_ur]
      · simp [rSt, rDo, cV, px_ur]
      · simp [rSt, rDo, cV, px_ur, cTl]
      · simp [rSt, rDo, cV, px_ur]
  by_cases s11_3 : k = 3
  · refine px_swI (tgt := 96) (off := 85) q_X9_step_11S s11_3 (by decide) (by decide) (by decide) (by decide) ?_
    refine px_cVP (ci := 9) rfl q_X9_step_96 hg rfl trivial lk_9_119 nm_X9_staysNear (cs_staysNear hg) rfl rfl (px_lit hg rfl) rfl rfl rfl ⟨rfl, rfl⟩ ?_
    intro x179 h179
    refine px_rvW rfl q_X9_step_182 rfl rfl rfl hg rfl ⟨trivial, (by first | decide | exact h179.1)⟩ ⟨⟨rfl, rfl⟩, ?_⟩
    obtain ⟨y1, y2⟩ := h179
    refine ⟨by unfold cWk; simp [px_ur]; grind, (by repeat (first | exact cWI.rfl' | with_reducible assumption | refine cWI.a7 ?_ _ _ | refine cWI.a8 ?_ _ _ | refine cWI.f ?_ _ _ (by decide))), (by repeat (first | exact cWL.rfl' | with_reducible assumption | refine cWL.u ?_ _ _)), by simp [px_ur], by funext j; simp [px_ur], by funext j; simp [px_ur], ?_, ?_⟩
    · simp [px_ur]; exact y2
    · intro hk5 s0 s1
      have hs : 0 ≤ I 86 16 ∧ I 86 16 ≤ 1000000 := ⟨s0, s1⟩
      rw [s11_3, show (3 : Int32) + 1 = 4 by decide]
      refine wc_gen (L := L) (by simp [px_ur]) hs ?_ (k7c ?_ ?_ ?_ ?_ ?_ ?_ ?_) ?_ (rSt_9 cV_9)
      · simp [rSt, rDo, cV, px_ur]
      · simp [rSt, rDo, cV, px_ur]
      · simp [rSt, rDo, cV, px_ur]
      · simp [rSt, rDo, cV, px_ur]
      · simp [rSt, rDo, cV, px_ur]
      · simp [rSt, rDo, cV, px_ur]
      · simp [rSt, rDo, cV, px_ur]
      · simp [rSt, rDo, cV, px_ur, cTl]
      · simp [rSt, rDo, cV, px_ur]
  by_cases s11_4 : k = 4
  · refine px_swI (tgt := 110) (off := 99) q_X9_step_11S s11_4 (by decide) (by decide) (by decide) (by decide) ?_
    refine px_cSQ rfl q_X9_step_110 hg rfl trivial lk_9_113 nm_J9_min_f86c9 (j_minL hg _ _) rfl rfl rfl ⟨rfl, rfl⟩ ?_
    intro x120 h120
    refine px_cSQ rfl q_X9_step_123 hg rfl trivial lk_9_113 nm_J9_min_f86c9 (j_minL hg _ _) rfl rfl rfl ⟨rfl, rfl⟩ ?_
    intro x136 h136
    refine px_cSQ rfl q_X9_step_139 hg rfl trivial lk_9_113 nm_J9_min_f86c9 (j_minL hg _ _) rfl rfl rfl ⟨rfl, rfl⟩ ?_
    intro x152 h152
    refine px_cVP (ci := 9) rfl q_X9_step_155 hg rfl trivial lk_9_119 nm_X9_staysNear (cs_staysNear hg) rfl rfl (px_lit hg rfl) rfl rfl rfl ⟨rfl, rfl⟩ ?_
    intro x179 h179
    refine px_rvW rfl q_X9_step_182 rfl rfl rfl hg rfl ⟨trivial, (by first | decide | exact h179.1)⟩ ⟨⟨rfl, rfl⟩, ?_⟩
    obtain ⟨y1, y2⟩ := h179
    refine ⟨by unfold cWk; simp [px_ur]; grind, (by repeat (first | exact cWI.rfl' | with_reducible assumption | refine cWI.a7 ?_ _ _ | refine cWI.a8 ?_ _ _ | refine cWI.f ?_ _ _ (by decide))), (by repeat (first | exact cWL.rfl' | with_reducible assumption | refine cWL.u ?_ _ _)), by simp [px_ur], by funext j; simp [px_ur], by funext j; simp [px_ur], ?_, ?_⟩
    · simp [px_ur]; exact y2
    · intro hk5 s0 s1
      have hs : 0 ≤ I 86 16 ∧ I 86 16 ≤ 1000000 := ⟨s0, s1⟩
      rw [s11_4, show (4 : Int32) + 1 = 5 by decide]
      refine wc_gen (L := L) (by simp [px_ur]) hs ?_ (k7c ?_ ?_ ?_ ?_ ?_ ?_ ?_) ?_ (rSt_9 cV_9)
      · simp [rSt, rDo, cV, px_ur]
      · simp [rSt, rDo, cV, px_ur]
      · simp [rSt, rDo, cV, px_ur]
      · simp [rSt, rDo, cV, px_ur]
      · simp [rSt, rDo, cV, px_ur, cTl]
        (try subst h120)
        (try rfl)
      · simp [rSt, rDo, cV, px_ur, cTl]
        (try subst h136)
        (try rfl)
      · simp [rSt, rDo, cV, px_ur]
      · simp [rSt, rDo, cV, px_ur, cTl]
        (try subst h152)
        (try rfl)
      · simp [rSt, rDo, cV, px_ur]
  refine px_swO (tgt := 161) q_X9_step_11S (px_out 0 4 (by decide) (fun k9 h8 h9 => ?_)) (by decide) ?_
  · match k9, h8, h9 with
    | 0, _, _ => exact s11_0
    | 1, _, _ => exact s11_1
    | 2, _, _ => exact s11_2
    | 3, _, _ => exact s11_3
    | 4, _, _ => exact s11_4
    | k9 + 5, _, h9 => exact absurd h9 (by omega)
  refine px_cSQ rfl q_X9_step_161 hg rfl trivial lk_9_113 nm_J9_min_f86c9 (j_minL hg _ _) rfl rfl rfl ⟨rfl, rfl⟩ ?_
  intro x171 h171
  refine px_cVP (ci := 9) rfl q_X9_step_174 hg rfl trivial lk_9_119 nm_X9_staysNear (cs_staysNear hg) rfl rfl (px_lit hg rfl) rfl rfl rfl ⟨rfl, rfl⟩ ?_
  intro x179 h179
  refine px_rvW rfl q_X9_step_182 rfl rfl rfl hg rfl ⟨trivial, (by first | decide | exact h179.1)⟩ ⟨⟨rfl, rfl⟩, ?_⟩
  obtain ⟨y1, y2⟩ := h179
  refine ⟨by unfold cWk; simp [px_ur]; grind, (by repeat (first | exact cWI.rfl' | with_reducible assumption | refine cWI.a7 ?_ _ _ | refine cWI.a8 ?_ _ _ | refine cWI.f ?_ _ _ (by decide))), (by repeat (first | exact cWL.rfl' | with_reducible assumption | refine cWL.u ?_ _ _)), by simp [px_ur], by funext j; simp [px_ur], by funext j; simp [px_ur], ?_, ?_⟩
  · simp [px_ur]; exact y2
  · intro hk5 s0 s1
    have hs : 0 ≤ I 86 16 ∧ I 86 16 ≤ 1000000 := ⟨s0, s1⟩
    have k5 : k = 5 := by grind
    rw [k5, show (5 : Int32) + 1 = 6 by decide]
    refine wc_gen (L := L) (by simp [px_ur]) hs ?_ (k7c ?_ ?_ ?_ ?_ ?_ ?_ ?_) ?_ (rSt_9 cV_9)
    · simp [rSt, rDo, cV, px_ur]
    · simp [rSt, rDo, cV, px_ur]
    · simp [rSt, rDo, cV, px_ur]
    · simp [rSt, rDo, cV, px_ur]
    · simp [rSt, rDo, cV, px_ur]
    · simp [rSt, rDo, cV, px_ur]
    · simp [rSt, rDo, cV, px_ur]
    · simp [rSt, rDo, cV, px_ur, cTl]
      (try subst h171)
      (try rfl)
    · simp [rSt, rDo, cV, px_ur]
