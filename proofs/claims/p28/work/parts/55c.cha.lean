def mWn (I : px_I) (d : Nat) : Nat := (I 137 d).toNatClampNeg
theorem mWn_s {I : px_I} (h : mW I) : (∀ d, d < 3 → 0 ≤ I 137 d) ∧ (I 137 0 + I 137 1 + I 137 2).toNatClampNeg = mWn I 0 + mWn I 1 + mWn I 2 ∧ 0 ≤ I 137 0 + I 137 1 + I 137 2 ∧ 1 ≤ mWn I 0 + mWn I 1 + mWn I 2 ∧ mWn I 0 + mWn I 1 + mWn I 2 ≤ 27 := by
  have s := mW_s h
  unfold mW at h
  obtain ⟨⟨a0, a1⟩, ⟨b0, b1⟩, ⟨c0, c1⟩, ne, -⟩ := h
  have xa := xnat a0
  have xb := xnat b0
  have xc := xnat c0
  have la := Int32.le_iff_toInt_le.mp a1
  have lb := Int32.le_iff_toInt_le.mp b1
  have lc := Int32.le_iff_toInt_le.mp c1
  rw [show (9 : Int32).toInt = 9 by decide] at la lb lc
  have e1 : (I 137 0 + I 137 1).toInt = (I 137 0).toInt + (I 137 1).toInt := by rw [Int32.toInt_add, Int.bmod_eq_of_le (by omega) (by omega)]
  have e2 : (I 137 0 + I 137 1 + I 137 2).toInt = (I 137 0).toInt + (I 137 1).toInt + (I 137 2).toInt := by rw [Int32.toInt_add, e1, Int.bmod_eq_of_le (by omega) (by omega)]
  have s1 := Int32.le_iff_toInt_le.mp s.1
  rw [e2, show (1 : Int32).toInt = 1 by decide] at s1
  have e3 : (I 137 0 + I 137 1 + I 137 2).toNatClampNeg = mWn I 0 + mWn I 1 + mWn I 2 := by
    show (I 137 0 + I 137 1 + I 137 2).toInt.toNat = (I 137 0).toNatClampNeg + (I 137 1).toNatClampNeg + (I 137 2).toNatClampNeg
    omega
  refine ⟨fun d hd => ?_, e3, by grind, ?_, ?_⟩
  · match d, hd with
    | 0, _ => exact a0
    | 1, _ => exact b0
    | 2, _ => exact c0
  · show 1 ≤ (I 137 0).toNatClampNeg + (I 137 1).toNatClampNeg + (I 137 2).toNatClampNeg; omega
  · show (I 137 0).toNatClampNeg + (I 137 1).toNatClampNeg + (I 137 2).toNatClampNeg ≤ 27; omega
theorem xin {k : Int32} (h0 : 0 ≤ k) (hk : k < 129) : k.toNatClampNeg ≤ 128 := by
  have := xlt h0 hk
  rw [show (129 : Int32).toNatClampNeg = 129 by decide] at this
  omega
theorem xti {t : Int32} (h : -64 ≤ t ∧ t ≤ 64) : 0 ≤ t + 64 ∧ t + 64 < 129 ∧ (t + 64).toNatClampNeg ≤ 128 := by
  have q1 := Int32.le_iff_toInt_le.mp h.1
  have q2 := Int32.le_iff_toInt_le.mp h.2
  rw [show (-64 : Int32).toInt = -64 by decide] at q1
  rw [show (64 : Int32).toInt = 64 by decide] at q2
  have a : 0 ≤ t + 64 ∧ t + 64 < 129 := ⟨by grind, by grind⟩
  exact ⟨a.1, a.2, xin a.1 a.2⟩

set_option maxRecDepth 100000 in
theorem ls_chance120 {n : Nat} {R : px_R} (hg : px_G n R) {Q : px_Q} (a o lo left k : Int32) (hk : 1 ≤ k ∧ k < 128) (all : Int64) {I : px_I} (hp : 0 ≤ I 103 60 ∧ I 103 60 ≤ 3) (hw : ∀ d, d < 3 → 0 ≤ I 137 d) (L : px_L) (A : Nat → Int64) (N T : Nat → Nat) (hA : ∀ j, j ≤ 128 → A j = Int64.ofNat (N j)) (hN : ∀ j, j ≤ 128 → N j < 2 ^ 63) (hq : ∀ L2, mNL L L2 → L2 145 = A → (∀ j, j ≤ 128 → L2 146 j = Int64.ofNat (yD 64 (I 103 59) (I 103 60) left (mWn I) k (N k.toNatClampNeg) T 3 j)) → px M_X12_chance 0 0 109 [(0, .ref 103), (1, .int a), (2, .int o), (3, .int lo), (4, .long all), (6, .int left), (7, .int (k + 1))] [] n I L2 R Q) : ∀ d : Int32, d ≤ 3 → 0 ≤ d → ∀ L1, mNL L L1 → L1 145 = A → (∀ j, j ≤ 128 → L1 146 j = Int64.ofNat (yD 64 (I 103 59) (I 103 60) left (mWn I) k (N k.toNatClampNeg) T d.toNatClampNeg j)) → px M_X12_chance 0 0 120 [(0, .ref 103), (1, .int a), (2, .int o), (3, .int lo), (4, .long all), (6, .int left), (7, .int k), (8, .int d)] [] n I L1 R Q := by
  refine px_up 3 (fun d ih hd => ?_)
  intro h0 L1 h1 hA1 hF1
  have k128 := xin (k := k) (by grind) (by grind)
  refine px_ige rfl q_X12_chance_120 hg rfl trivial (fun c123 => ?_) (fun c123 => ?_)
  · refine px_b rfl q_X12_chance_190 hg rfl trivial ?_
    have e9 : d = 3 := (by grind)
    rw [e9, show (3 : Int32).toNatClampNeg = 3 by decide] at hF1
    exact px_go (hq _ h1 hA1 hF1) ⟨rfl, rfl, rfl, rfl, rfl, rfl, rfl, trivial⟩
  · refine px_lle rfl q_X12_chance_126 hg rfl ⟨trivial, (by first | with_reducible assumption | decide | (refine ⟨?_, ?_⟩ <;> grind))⟩ (fun c135 => ?_) (fun c135 => ?_)
    · refine px_b rfl q_X12_chance_190 hg rfl trivial ?_
      have e9 : N k.toNatClampNeg = 0 := (x64_0 (hN _ k128)).mp (by rw [← hA _ k128, ← hA1]; exact c135)
      rw [e9, yD_z] at hF1
      exact px_go (hq _ h1 hA1 (by rw [e9, yD_z]; exact hF1)) ⟨rfl, rfl, rfl, rfl, rfl, rfl, rfl, trivial⟩
    · refine px_cVP (ci := 12) rfl q_X12_chance_138 hg rfl trivial lk_12_465 nm_X12_off (ks_off hg _ _ _ (by grind) (by grind) (by grind)) rfl rfl (px_lit hg rfl) rfl rfl rfl ⟨rfl, rfl⟩ ?_
      intro x150 h150
      have z3 := xti ⟨h150.2.1, h150.2.2⟩
      have z4 : 0 ≤ x150 + 64 ∧ x150 + 64 < 129 := ⟨z3.1, z3.2.1⟩
      have d3 : d.toNatClampNeg < 3 := by have := xlt (i := d) (N := 3) h0 (by grind); rw [show (3 : Int32).toNatClampNeg = 3 by decide] at this; exact this
      refine px_b rfl q_X12_chance_153 hg rfl ⟨⟨⟨⟨trivial, (by first | with_reducible assumption | decide | (refine ⟨?_, ?_⟩ <;> grind))⟩, (by first | with_reducible assumption | decide | (refine ⟨?_, ?_⟩ <;> grind))⟩, (by first | with_reducible assumption | decide | (refine ⟨?_, ?_⟩ <;> grind))⟩, (by first | with_reducible assumption | decide | (refine ⟨?_, ?_⟩ <;> grind))⟩ ?_
      exact px_go (ih (d + 1) (by grind) (by grind) (by grind) _ (h1.u6 _ _) (by rw [px_u_ne (by decide)]; exact hA1) (yD_put h0 (by grind) hF1 (x := x150) (by rw [h150.1]; congr 1; grind) rfl z3.2.2 (by rw [hA1, hA _ k128, x64_w (hw _ d3), x64_mul]; rfl))) ⟨rfl, rfl, rfl, rfl, rfl, rfl, rfl, rfl, trivial⟩

set_option maxRecDepth 100000 in
theorem ls_chance199 {n : Nat} {R : px_R} (hg : px_G n R) {Q : px_Q} (a o lo left : Int32) (all : Int64) {I : px_I} (L : px_L) (X : Nat → Nat) (hq : ∀ L2, mNL L L2 → (∀ j, j ≤ 128 → L2 145 j = Int64.ofNat (X j)) → px M_X12_chance 0 0 76 [(0, .ref 103), (1, .int a), (2, .int o), (3, .int lo), (4, .long (all * (I 137 0 + I 137 1 + I 137 2).toInt64)), (6, .int (left + -1))] [] n I L2 R Q) : ∀ k : Int32, k ≤ 129 → 0 ≤ k → ∀ L1, mNL L L1 → (∀ j, j ≤ 128 → L1 146 j = Int64.ofNat (X j)) → (∀ j, j < k.toNatClampNeg → L1 145 j = Int64.ofNat (X j)) → px M_X12_chance 0 0 199 [(0, .ref 103), (1, .int a), (2, .int o), (3, .int lo), (4, .long all), (6, .int left), (7, .int k)] [] n I L1 R Q := by
  refine px_up 129 (fun k ih hk => ?_)
  intro h0 L1 h1 hX1 hF1
  refine px_ige rfl q_X12_chance_199 hg rfl trivial (fun c204 => ?_) (fun c204 => ?_)
  · refine px_b rfl q_X12_chance_227 hg rfl ⟨⟨⟨trivial, (by first | decide | (refine ⟨?_, ?_⟩ <;> grind) | grind)⟩, (by first | decide | (refine ⟨?_, ?_⟩ <;> grind) | grind)⟩, (by first | decide | (refine ⟨?_, ?_⟩ <;> grind) | grind)⟩ ?_
    exact px_go (hq _ h1 (fun j hj => hF1 j (xn129 (by grind) hj))) ⟨rfl, rfl, rfl, rfl, rfl, rfl, trivial⟩
  · refine px_b rfl q_X12_chance_207 hg rfl ⟨⟨trivial, (by first | decide | (refine ⟨?_, ?_⟩ <;> grind) | grind)⟩, (by first | decide | (refine ⟨?_, ?_⟩ <;> grind) | grind)⟩ ?_
    exact px_go (ih (k + 1) (by grind) (by grind) (by grind) _ (h1.u5 _ _) (by rw [px_u_ne (by decide)]; exact hX1) (xnext (F := fun j => Int64.ofNat (X j)) h0 (by grind) hF1 (hX1 _ (xin h0 (by grind))))) ⟨rfl, rfl, rfl, rfl, rfl, rfl, rfl, trivial⟩

set_option maxRecDepth 100000 in
theorem ls_chance109 {n : Nat} {R : px_R} (hg : px_G n R) {Q : px_Q} (a o lo left : Int32) (all : Int64) {I : px_I} (hp : 0 ≤ I 103 60 ∧ I 103 60 ≤ 3) (hw : ∀ d, d < 3 → 0 ≤ I 137 d) (L : px_L) (A : Nat → Int64) (N T : Nat → Nat) (hA : ∀ j, j ≤ 128 → A j = Int64.ofNat (N j)) (hN : ∀ j, j ≤ 128 → N j < 2 ^ 63) (hq : ∀ L2, mNL L L2 → (∀ j, j ≤ 128 → L2 145 j = Int64.ofNat (yK 64 (I 103 59) (I 103 60) left (mWn I) N T 127 j)) → px M_X12_chance 0 0 76 [(0, .ref 103), (1, .int a), (2, .int o), (3, .int lo), (4, .long (all * (I 137 0 + I 137 1 + I 137 2).toInt64)), (6, .int (left + -1))] [] n I L2 R Q) : ∀ k : Int32, k ≤ 128 → 1 ≤ k → ∀ L1, mNL L L1 → L1 145 = A → (∀ j, j ≤ 128 → L1 146 j = Int64.ofNat (yK 64 (I 103 59) (I 103 60) left (mWn I) N T (k.toNatClampNeg - 1) j)) → px M_X12_chance 0 0 109 [(0, .ref 103), (1, .int a), (2, .int o), (3, .int lo), (4, .long all), (6, .int left), (7, .int k)] [] n I L1 R Q := by
  refine px_up 128 (fun k ih hk => ?_)
  intro h0 L1 h1 hA1 hF1
  refine px_ige rfl q_X12_chance_109 hg rfl trivial (fun c114 => ?_) (fun c114 => ?_)
  · refine px_b rfl q_X12_chance_196 hg rfl trivial ?_
    have e9 : k = 128 := (by grind)
    rw [e9, show (128 : Int32).toNatClampNeg - 1 = 127 by decide] at hF1
    exact px_go (ls_chance199 hg a o lo left all L1 (yK 64 (I 103 59) (I 103 60) left (mWn I) N T 127) (fun L2 h2 hF2 => hq L2 (h1.trans h2) hF2) 0 (by decide) (by decide) L1 (fun _ _ _ => rfl) hF1 xnone) ⟨rfl, rfl, rfl, rfl, rfl, rfl, rfl, trivial⟩
  · refine px_b rfl q_X12_chance_117 hg rfl trivial ?_
    exact px_go (ls_chance120 hg a o lo left k (by grind) all hp hw L1 A N (yK 64 (I 103 59) (I 103 60) left (mWn I) N T (k.toNatClampNeg - 1)) hA hN (fun L2 h2 hA2 hF2 => ih (k + 1) (by grind) (by grind) (by grind) L2 (h1.trans h2) hA2 (fun j hj => by rw [hF2 j hj, yK_S h0 (by grind)])) 0 (by decide) (by decide) L1 (fun _ _ _ => rfl) hA1 (by rw [xz0]; exact hF1)) ⟨rfl, rfl, rfl, rfl, rfl, rfl, rfl, rfl, trivial⟩

set_option maxRecDepth 100000 in
theorem ls_chance84 {n : Nat} {R : px_R} (hg : px_G n R) {Q : px_Q} (a o lo left : Int32) (all : Int64) {I : px_I} (hp : 0 ≤ I 103 60 ∧ I 103 60 ≤ 3) (hw : ∀ d, d < 3 → 0 ≤ I 137 d) (L : px_L) (A : Nat → Int64) (N : Nat → Nat) (hA : ∀ j, j ≤ 128 → A j = Int64.ofNat (N j)) (hN : ∀ j, j ≤ 128 → N j < 2 ^ 63) (hq : ∀ L2, mNL L L2 → (∀ j, j ≤ 128 → L2 145 j = Int64.ofNat (yK 64 (I 103 59) (I 103 60) left (mWn I) N (fun _ => 0) 127 j)) → px M_X12_chance 0 0 76 [(0, .ref 103), (1, .int a), (2, .int o), (3, .int lo), (4, .long (all * (I 137 0 + I 137 1 + I 137 2).toInt64)), (6, .int (left + -1))] [] n I L2 R Q) : ∀ k : Int32, k ≤ 129 → 0 ≤ k → ∀ L1, mNL L L1 → L1 145 = A → (∀ j, j < k.toNatClampNeg → L1 146 j = 0) → px M_X12_chance 0 0 84 [(0, .ref 103), (1, .int a), (2, .int o), (3, .int lo), (4, .long all), (6, .int left), (7, .int k)] [] n I L1 R Q := by
  refine px_up 129 (fun k ih hk => ?_)
  intro h0 L1 h1 hA1 hF1
  refine px_ige rfl q_X12_chance_84 hg rfl trivial (fun c89 => ?_) (fun c89 => ?_)
  · refine px_b rfl q_X12_chance_106 hg rfl trivial ?_
    exact px_go (ls_chance109 hg a o lo left all hp hw L1 A N (fun _ => 0) hA hN (fun L2 h2 hF2 => hq L2 (h1.trans h2) hF2) 1 (by decide) (by decide) L1 (fun _ _ _ => rfl) hA1 (fun j hj => by rw [hF1 j (xn129 (by grind) hj), show (1 : Int32).toNatClampNeg - 1 = 0 by decide]; rfl)) ⟨rfl, rfl, rfl, rfl, rfl, rfl, rfl, trivial⟩
  · refine px_b rfl q_X12_chance_92 hg rfl ⟨trivial, (by first | decide | (refine ⟨?_, ?_⟩ <;> grind) | grind)⟩ ?_
    exact px_go (ih (k + 1) (by grind) (by grind) (by grind) _ (h1.u6 _ _) (by rw [px_u_ne (by decide)]; exact hA1) (xnext (F := fun _ => 0) h0 (by grind) hF1 rfl)) ⟨rfl, rfl, rfl, rfl, rfl, rfl, rfl, trivial⟩

set_option maxRecDepth 100000 in
theorem ls_chance326 {n : Nat} {R : px_R} (hg : px_G n R) {Q : px_Q} (a o lo : Int32) (m all : Int64) (g : Nat) {I : px_I} {L : px_L} (hq : Q (some (.long (if lo = 0 then m / Int64.ofNat g else all / Int64.ofNat g))) n I L R) : ∀ p q : Nat, ∀ x y : Int64, p < 2 ^ 63 → q < 2 ^ 63 → x = Int64.ofNat p → y = Int64.ofNat q → ¬ y = 0 → Nat.gcd q p = g → px M_X12_chance 0 0 326 [(0, .ref 103), (1, .int a), (2, .int o), (3, .int lo), (4, .long all), (6, .long m), (8, .long x), (10, .long y)] [] n I L R Q := by
  refine xsi (fun p ih => ?_)
  intro q x y hp hq2 hx hy hy0 hG
  refine px_leq rfl q_X12_chance_326 hg rfl trivial (fun c330 => ?_) (fun c330 => ?_)
  · refine px_eq rfl q_X12_chance_351 hg rfl trivial (fun c352 => ?_) (fun c352 => ?_)
    · refine px_rl rfl q_X12_chance_363 rfl rfl rfl hg rfl ⟨trivial, (by assumption)⟩ ?_
      have p0 : p = 0 := (x64_e hp).mp (by rw [← hx]; exact c330)
      rw [p0, Nat.gcd_zero_right] at hG
      rw [hy, hG]
      rw [if_pos c352] at hq
      exact hq
    · refine px_rl rfl q_X12_chance_355 rfl rfl rfl hg rfl ⟨trivial, (by assumption)⟩ ?_
      have p0 : p = 0 := (x64_e hp).mp (by rw [← hx]; exact c330)
      rw [p0, Nat.gcd_zero_right] at hG
      rw [hy, hG]
      rw [if_neg c352] at hq
      exact hq
  · refine px_b rfl q_X12_chance_333 hg rfl ⟨trivial, (by assumption)⟩ ?_
    have p0 : 0 < p := Nat.pos_of_ne_zero (fun e => c330 (by rw [hx, e]; rfl))
    exact px_go (ih (q % p) (Nat.mod_lt _ p0) p _ _ (Nat.lt_of_le_of_lt (Nat.mod_le _ _) hq2) hp (x64_mod hp hq2 c330 hx hy) hx c330 (by rw [xng]; exact hG)) ⟨rfl, rfl, rfl, rfl, rfl, rfl, rfl, rfl, trivial⟩

theorem yOut {w k : Int32} (hw : 0 ≤ w ∧ w ≤ 20) (h0 : 0 ≤ k) (hk : k < 129) : (0 - w ≤ k - 64 ∧ k - 64 ≤ w) ↔ ¬ (k.toNatClampNeg + w.toNatClampNeg < 64 ∨ 64 + w.toNatClampNeg < k.toNatClampNeg) := by
  have a := xnat hw.1
  have b := xnat h0
  have c := Int32.le_iff_toInt_le.mp hw.2
  have d := Int32.lt_iff_toInt_lt.mp hk
  rw [show (20 : Int32).toInt = 20 by decide] at c
  rw [show (129 : Int32).toInt = 129 by decide] at d
  have e : (k - 64).toInt = k.toInt - 64 := by rw [Int32.toInt_sub, show (64 : Int32).toInt = 64 by decide, Int.bmod_eq_of_le (by omega) (by omega)]
  have f : (0 - w).toInt = - w.toInt := by rw [Int32.toInt_sub, show (0 : Int32).toInt = 0 by decide, Int.bmod_eq_of_le (by omega) (by omega)]; omega
  rw [Int32.le_iff_toInt_le, Int32.le_iff_toInt_le, e, f]
  omega

set_option maxRecDepth 100000 in
theorem ls_chance265 {n : Nat} {R : px_R} (hg : px_G n R) {Q : px_Q} (a o lo : Int32) (all : Int64) (ha : ¬ all = 0) (A : Nat) (hA : A < 2 ^ 63) (hA1 : all = Int64.ofNat A) {I : px_I} {L : px_L} (hw : 0 ≤ I 103 61 ∧ I 103 61 ≤ 20) (N : Nat → Nat) (hF : ∀ j, j ≤ 128 → L 145 j = Int64.ofNat (N j)) (hM : sm (oF 64 (I 103 61).toNatClampNeg N) 129 < 2 ^ 63) (hq : Q (some (.long (sAns A (sm (oF 64 (I 103 61).toNatClampNeg N) 129) lo))) n I L R) : ∀ k : Int32, k ≤ 129 → 0 ≤ k → ∀ m : Int64, m = Int64.ofNat (sm (oF 64 (I 103 61).toNatClampNeg N) k.toNatClampNeg) → px M_X12_chance 0 0 265 [(0, .ref 103), (1, .int a), (2, .int o), (3, .int lo), (4, .long all), (6, .long m), (8, .int k)] [] n I L R Q := by
  refine px_up 129 (fun k ih hk => ?_)
  intro h0 m hm
  refine px_ige rfl q_X12_chance_265 hg rfl trivial (fun c270 => ?_) (fun c270 => ?_)
  · refine px_b rfl q_X12_chance_318 hg rfl trivial ?_
    have e9 : k = 129 := (by grind)
    rw [e9, show (129 : Int32).toNatClampNeg = 129 by decide] at hm
    exact px_go (ls_chance326 hg a o lo m all (Nat.gcd A (sm (oF 64 (I 103 61).toNatClampNeg N) 129)) (by unfold sAns at hq; rw [hm, hA1]; exact hq) (sm (oF 64 (I 103 61).toNatClampNeg N) 129) A m all hM hA hm hA1 ha rfl) ⟨rfl, rfl, rfl, rfl, rfl, rfl, rfl, rfl, trivial⟩
  · refine px_cSP rfl q_X12_chance_273 hg rfl trivial lk_12_167 nm_X12_in (k_inI hg _ _ _ rfl rfl) rfl rfl rfl ⟨rfl, rfl⟩ ?_
    intro x292 h292
    refine px_eq rfl q_X12_chance_295 hg rfl trivial (fun c295 => ?_) (fun c295 => ?_)
    · replace h292 := px_bf h292 c295
      refine px_b rfl q_X12_chance_302 hg rfl ⟨trivial, (by first | decide | (refine ⟨?_, ?_⟩ <;> grind) | grind)⟩ ?_
      have ou := yOut hw h0 (show k < 129 by grind)
      exact px_go (ih (k + 1) (by grind) (by grind) (by grind) _ (by
        rw [sm_up h0 (by grind), ← x64_add, ← hm]
        congr 1
        unfold oF
        rw [if_pos (Classical.byContradiction (fun q => h292 (ou.mpr q))), hF _ (xin h0 (by grind))])) ⟨rfl, rfl, rfl, rfl, rfl, rfl, rfl, trivial⟩
    · replace h292 := px_bt h292 c295
      refine px_b rfl q_X12_chance_298 hg rfl trivial ?_
      have ou := yOut hw h0 (show k < 129 by grind)
      exact px_go (ih (k + 1) (by grind) (by grind) (by grind) _ (by
        rw [sm_up h0 (by grind), ← x64_add, ← hm]
        congr 1
        unfold oF
        rw [if_neg (ou.mp h292)]
        rfl)) ⟨rfl, rfl, rfl, rfl, rfl, rfl, rfl, trivial⟩

set_option maxRecDepth 100000 in
theorem ls_chance76 {n : Nat} {R : px_R} (hg : px_G n R) {Q : px_Q} (a o lo : Int32) (ha : 1 ≤ a ∧ a ≤ 12) (ho : -20 ≤ o ∧ o ≤ 20) {I : px_I} (hW : mW I) (L : px_L) (hq : ∀ L2, mNL L L2 → Q (some (.long (sAns ((mWn I 0 + mWn I 1 + mWn I 2) ^ a.toNatClampNeg) (sm (oF 64 (I 103 61).toNatClampNeg (yR 64 127 (I 103 59) (I 103 60) (mWn I) a.toNatClampNeg (y0 64 o) a.toNatClampNeg)) 129) lo))) n I L2 R) : ∀ left : Int32, -1 ≤ left → left < a → ∀ all L1, mNL L L1 → all = Int64.ofNat ((mWn I 0 + mWn I 1 + mWn I 2) ^ (a.toNatClampNeg - (left + 1).toNatClampNeg)) → (∀ j, j ≤ 128 → L1 145 j = Int64.ofNat ((yR 64 127 (I 103 59) (I 103 60) (mWn I) a.toNatClampNeg (y0 64 o) (a.toNatClampNeg - (left + 1).toNatClampNeg)) j)) → px M_X12_chance 0 0 76 [(0, .ref 103), (1, .int a), (2, .int o), (3, .int lo), (4, .long all), (6, .int left)] [] n I L1 R Q := by
  refine px_dn (-1) (fun left ih hl => ?_)
  intro hla all L1 h1 hall hF1
  have hp : 0 ≤ I 103 60 ∧ I 103 60 ≤ 3 := by unfold mW at hW; grind
  have hw : 0 ≤ I 103 61 ∧ I 103 61 ≤ 20 := by unfold mW at hW; grind
  obtain ⟨n1, n2, -⟩ := x12 ha
  obtain ⟨w1, w2, w3, w4, w5⟩ := mWn_s hW
  have ya := yR_all (hear := I 103 59) (w := mWn I) (n := a.toNatClampNeg) hp ho w4 w5
  refine px_lt rfl q_X12_chance_76 hg rfl trivial (fun c78 => ?_) (fun c78 => ?_)
  · refine px_b rfl q_X12_chance_259 hg rfl trivial ?_
    have e9 : left = -1 := by grind
    rw [e9, show ((-1 : Int32) + 1).toNatClampNeg = 0 by decide, Nat.sub_zero] at hF1 hall
    have y9 := ya a.toNatClampNeg n2
    have p9 := y_pow (i := a.toNatClampNeg) w4 w5 n2
    have o9 := oF_le (c := 64) (W := (I 103 61).toNatClampNeg) (F := (yR 64 127 (I 103 59) (I 103 60) (mWn I) a.toNatClampNeg (y0 64 o) a.toNatClampNeg)) 129
    rw [y9.2.1] at o9
    exact px_go (ls_chance265 hg a o lo all (fun e => by have q := (x64_e p9.2).mp (by rw [← hall]; exact e); omega) _ p9.2 hall hw (yR 64 127 (I 103 59) (I 103 60) (mWn I) a.toNatClampNeg (y0 64 o) a.toNatClampNeg) hF1 (by omega) (hq _ h1) 0 (by decide) (by decide) _ (by rw [xz0]; rfl)) ⟨rfl, rfl, rfl, rfl, rfl, rfl, rfl, trivial⟩
  · refine px_b rfl q_X12_chance_81 hg rfl trivial ?_
    have l0 : 0 ≤ left := by grind
    have ln := xlt l0 hla
    exact px_go (ls_chance84 hg a o lo left all hp w1 L1 (L1 145) (yR 64 127 (I 103 59) (I 103 60) (mWn I) a.toNatClampNeg (y0 64 o) (a.toNatClampNeg - (left + 1).toNatClampNeg)) hF1 (ya _ (by omega)).1 (fun L2 h2 hF2 => ih (left + -1) (by grind) (by grind) (by grind) _ L2 (h1.trans h2) (by rw [hall, x64_w w3, w2, x64_mul, ← Nat.pow_succ, (px_tnS l0 (by grind)).1, show left + -1 + 1 = left by grind]; congr 2; omega) (fun j hj => by rw [hF2 j hj, yR_S (c := 64) (C := 64) (N := 128) rfl (by decide) l0 ln (by grind) (fun _ _ => rfl) j hj])) 0 (by decide) (by decide) L1 (fun _ _ _ => rfl) rfl xnone) ⟨rfl, rfl, rfl, rfl, rfl, rfl, rfl, trivial⟩

set_option maxRecDepth 100000 in
theorem ls_chance33 {n : Nat} {R : px_R} (hg : px_G n R) {Q : px_Q} (a o lo : Int32) (ha : 1 ≤ a ∧ a ≤ 12) (ho : -20 ≤ o ∧ o ≤ 20) {I : px_I} (hW : mW I) (L : px_L) (hq : ∀ L2, mNL L L2 → Q (some (.long (sAns ((mWn I 0 + mWn I 1 + mWn I 2) ^ a.toNatClampNeg) (sm (oF 64 (I 103 61).toNatClampNeg (yR 64 127 (I 103 59) (I 103 60) (mWn I) a.toNatClampNeg (y0 64 o) a.toNatClampNeg)) 129) lo))) n I L2 R) : ∀ k : Int32, k ≤ 129 → 0 ≤ k → ∀ L1, mNL L L1 → (∀ j, j < k.toNatClampNeg → L1 145 j = x0 64 o 0 1 j) → px M_X12_chance 0 0 33 [(0, .ref 103), (1, .int a), (2, .int o), (3, .int lo), (4, .int k)] [] n I L1 R Q := by
  refine px_up 129 (fun k ih hk => ?_)
  intro h0 L1 h1 hF1
  refine px_ige rfl q_X12_chance_33 hg rfl trivial (fun c38 => ?_) (fun c38 => ?_)
  · refine px_b rfl q_X12_chance_68 hg rfl trivial ?_
    obtain ⟨n1, n2, n3⟩ := x12 ha
    exact px_go (ls_chance76 hg a o lo ha ho hW L hq (a - 1) (by grind) (by grind) 1 L1 h1 (by rw [n3, Nat.sub_self]; rfl) (fun j hj => by rw [n3, Nat.sub_self, hF1 j (xn129 (by grind) hj)]; exact y0_x)) ⟨rfl, rfl, rfl, rfl, rfl, rfl, trivial⟩
  · refine px_ine rfl q_X12_chance_41 hg rfl trivial (fun c53 => ?_) (fun c53 => ?_)
    · refine px_b rfl q_X12_chance_60 hg rfl ⟨trivial, (by first | decide | (refine ⟨?_, ?_⟩ <;> grind) | grind)⟩ ?_
      exact px_go (ih (k + 1) (by grind) (by grind) (by grind) _ (h1.u5 _ _) (xnext h0 (by grind) hF1 (by rw [x0_at h0 (by grind)]; exact (if_neg (by grind)).symm))) ⟨rfl, rfl, rfl, rfl, rfl, trivial⟩
    · refine px_b rfl q_X12_chance_56 hg rfl ⟨trivial, (by first | decide | (refine ⟨?_, ?_⟩ <;> grind) | grind)⟩ ?_
      exact px_go (ih (k + 1) (by grind) (by grind) (by grind) _ (h1.u5 _ _) (xnext h0 (by grind) hF1 (by rw [x0_at h0 (by grind)]; exact (if_pos (by grind)).symm))) ⟨rfl, rfl, rfl, rfl, rfl, trivial⟩

def mSh (I : px_I) (a o lo : Int32) : Int64 := sAns ((mWn I 0 + mWn I 1 + mWn I 2) ^ a.toNatClampNeg) (sm (oF 64 (I 103 61).toNatClampNeg (yR 64 127 (I 103 59) (I 103 60) (mWn I) a.toNatClampNeg (y0 64 o) a.toNatClampNeg)) 129) lo

set_option maxRecDepth 100000 in
theorem ks_chance {n : Nat} {I : px_I} {L : px_L} {R : px_R} (hg : px_G n R) (a o lo : Int32) (hW : mW I) : px_KT M_X12_chance [.ref 103, .int a, .int o, .int lo] n I L R (fun r I2 L2 => (I2 = I ∧ mNL L L2) ∧ ((((1 ≤ a ∧ a ≤ 12) ∧ (-20 ≤ o ∧ o ≤ 20)) ∧ r = mSh I a o lo) ∨ (¬ ((1 ≤ a ∧ a ≤ 12) ∧ (-20 ≤ o ∧ o ≤ 20)) ∧ r = -1))) := by
  refine px_of (plainFor_of_name np_RX12) (fun _ _ _ => trivial) rfl ?_
  refine px_cSP rfl q_X12_chance_0 hg rfl trivial lk_12_167 nm_X12_in (k_inI hg _ (1) (12) (by decide) (by decide)) rfl rfl rfl ⟨rfl, rfl⟩ ?_
  intro x6 h6
  refine px_eq rfl q_X12_chance_9 hg rfl trivial (fun c9 => ?_) (fun c9 => ?_)
  · replace h6 := px_bf h6 c9
    refine px_rlT rfl q_X12_chance_26 rfl rfl rfl hg rfl trivial ⟨⟨rfl, rfl⟩, ?_⟩
    exact ⟨⟨rfl, fun _ _ _ => rfl⟩, Or.inr ⟨by grind, rfl⟩⟩
  · replace h6 := px_bt h6 c9
    refine px_cSP rfl q_X12_chance_12 hg rfl trivial lk_12_167 nm_X12_in (k_inI hg _ (-20) (20) (by decide) (by decide)) rfl rfl rfl ⟨rfl, rfl⟩ ?_
    intro x20 h20
    refine px_ne rfl q_X12_chance_23 hg rfl trivial (fun c23 => ?_) (fun c23 => ?_)
    · replace h20 := px_bt h20 c23
      refine px_b rfl q_X12_chance_30 hg rfl trivial ?_
      exact px_go (ls_chance33 hg a o lo (by grind) (by grind) hW L (fun L2 h => ⟨rfl, rfl, _, rfl, ⟨rfl, h⟩, Or.inl ⟨by grind, rfl⟩⟩) 0 (by decide) (by decide) L (fun _ _ _ => rfl) xnone) ⟨rfl, rfl, rfl, rfl, rfl, trivial⟩
    · replace h20 := px_bf h20 c23
      refine px_rlT rfl q_X12_chance_26 rfl rfl rfl hg rfl trivial ⟨⟨rfl, rfl⟩, ?_⟩
      exact ⟨⟨rfl, fun _ _ _ => rfl⟩, Or.inr ⟨by grind, rfl⟩⟩
