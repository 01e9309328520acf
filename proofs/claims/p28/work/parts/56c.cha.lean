def cW (I : px_I) : Prop := (0 ≤ I 98 0 ∧ I 98 0 ≤ 9) ∧ (0 ≤ I 98 1 ∧ I 98 1 ≤ 9) ∧ (0 ≤ I 98 2 ∧ I 98 2 ≤ 9) ∧ I 98 0 + I 98 1 + I 98 2 ≠ 0 ∧ (0 ≤ I 97 4 ∧ I 97 4 ≤ 3) ∧ (0 ≤ I 97 5 ∧ I 97 5 ≤ 20)
def cWn (I : px_I) (d : Nat) : Nat := (I 98 d).toNatClampNeg
theorem cWn_s {I : px_I} (h : cW I) : (∀ d, d < 3 → 0 ≤ I 98 d) ∧ (I 98 0 + I 98 1 + I 98 2).toNatClampNeg = cWn I 0 + cWn I 1 + cWn I 2 ∧ 0 ≤ I 98 0 + I 98 1 + I 98 2 ∧ 1 ≤ cWn I 0 + cWn I 1 + cWn I 2 ∧ cWn I 0 + cWn I 1 + cWn I 2 ≤ 27 := by
  have s : 1 ≤ I 98 0 + I 98 1 + I 98 2 ∧ True := ⟨by unfold cW at h; grind, trivial⟩
  unfold cW at h
  obtain ⟨⟨a0, a1⟩, ⟨b0, b1⟩, ⟨c0, c1⟩, ne, -⟩ := h
  have xa := xnat a0
  have xb := xnat b0
  have xc := xnat c0
  have la := Int32.le_iff_toInt_le.mp a1
  have lb := Int32.le_iff_toInt_le.mp b1
  have lc := Int32.le_iff_toInt_le.mp c1
  rw [show (9 : Int32).toInt = 9 by decide] at la lb lc
  have e1 : (I 98 0 + I 98 1).toInt = (I 98 0).toInt + (I 98 1).toInt := by rw [Int32.toInt_add, Int.bmod_eq_of_le (by omega) (by omega)]
  have e2 : (I 98 0 + I 98 1 + I 98 2).toInt = (I 98 0).toInt + (I 98 1).toInt + (I 98 2).toInt := by rw [Int32.toInt_add, e1, Int.bmod_eq_of_le (by omega) (by omega)]
  have s1 := Int32.le_iff_toInt_le.mp s.1
  rw [e2, show (1 : Int32).toInt = 1 by decide] at s1
  have e3 : (I 98 0 + I 98 1 + I 98 2).toNatClampNeg = cWn I 0 + cWn I 1 + cWn I 2 := by
    show (I 98 0 + I 98 1 + I 98 2).toInt.toNat = (I 98 0).toNatClampNeg + (I 98 1).toNatClampNeg + (I 98 2).toNatClampNeg
    omega
  refine ⟨fun d hd => ?_, e3, by grind, ?_, ?_⟩
  · match d, hd with
    | 0, _ => exact a0
    | 1, _ => exact b0
    | 2, _ => exact c0
  · show 1 ≤ (I 98 0).toNatClampNeg + (I 98 1).toNatClampNeg + (I 98 2).toNatClampNeg; omega
  · show (I 98 0).toNatClampNeg + (I 98 1).toNatClampNeg + (I 98 2).toNatClampNeg ≤ 27; omega

theorem xT_t {I : px_I} {p q i x : Int32} (hpl : 0 ≤ I 97 4 ∧ I 97 4 ≤ 3) (hpp : 1 ≤ p ∧ p < 122) (h0 : 0 ≤ i) (hi : i < 3) (hx : x = cMx 0 (cMn 122 (61 + cPull I (p + i - 1) q))) : x = pOff (I 97 3) (I 97 4) (p + i - 1 - 61) q + 61 ∧ x.toNatClampNeg ≤ 122 := by
  obtain ⟨x1, x2⟩ := xPl (p := p + i - 1) (q := q) hpl (by constructor <;> grind)
  rw [x1] at hx
  refine ⟨hx, ?_⟩
  have e : (pOff (I 97 3) (I 97 4) (p + i - 1 - 61) q + 61).toInt = (pOff (I 97 3) (I 97 4) (p + i - 1 - 61) q).toInt + 61 := by rw [Int32.toInt_add, show (61 : Int32).toInt = 61 by decide, Int.bmod_eq_of_le (by omega) (by omega)]
  rw [hx]
  show (pOff (I 97 3) (I 97 4) (p + i - 1 - 61) q + 61).toInt.toNat ≤ 122
  omega
theorem xin2 {k : Int32} (h0 : 0 ≤ k) (hk : k < 123) : k.toNatClampNeg ≤ 122 := by
  have := xlt h0 hk
  rw [show (123 : Int32).toNatClampNeg = 123 by decide] at this
  omega
theorem cG_s {f p q : Nat} (h : ¬ q = 0) : cG (f + 1) p q = cG f q (p % q) := if_neg h
theorem cG_z {f p : Nat} : cG f p 0 = p := by
  cases f with
  | zero => rfl
  | succ f => exact if_pos rfl

set_option maxRecDepth 100000 in
theorem ls_cDiv {n : Nat} {R : px_R} (hg : px_G n R) {Q : px_Q} (a b : Int64) (g : Nat) {I : px_I} {L : px_L} (hq : Q (some (.long (Int64.ofNat g))) n I L R) : ∀ i : Int32, i ≤ 200 → 0 ≤ i → ∀ p q : Nat, ∀ x y : Int64, p < 2 ^ 63 → q < 2 ^ 63 → x = Int64.ofNat p → y = Int64.ofNat q → cG (200 - i.toNatClampNeg) p q = g → px M_X6_commonDivisor 0 0 9 [(0, .long a), (2, .long b), (4, .long x), (6, .long y), (8, .int i)] [] n I L R Q := by
  refine px_up 200 (fun i ih hi => ?_)
  intro h0 p q x y hp hq2 hx hy hG
  refine px_ige rfl q_X6_commonDivisor_9 hg rfl trivial (fun c14 => ?_) (fun c14 => ?_)
  · refine px_rl rfl q_X6_commonDivisor_45 rfl rfl rfl hg rfl trivial ?_
    have e9 : i = 200 := (by grind)
    rw [e9, show 200 - (200 : Int32).toNatClampNeg = 0 by decide] at hG
    have hG : p = g := hG
    rw [hx, hG]
    exact hq
  · refine px_lle rfl q_X6_commonDivisor_17 hg rfl trivial (fun c21 => ?_) (fun c21 => ?_)
    · refine px_rl rfl q_X6_commonDivisor_45 rfl rfl rfl hg rfl trivial ?_
      have q0 : q = 0 := (x64_0 hq2).mp (by rw [← hy]; exact c21)
      rw [q0, cG_z] at hG
      rw [hx, hG]
      exact hq
    · refine px_b rfl q_X6_commonDivisor_24 hg rfl ⟨trivial, (fun e => by rw [e] at c21; exact absurd c21 (by decide))⟩ ?_
      have y0 : ¬ y = 0 := fun e => by rw [e] at c21; exact absurd c21 (by decide)
      have q0 : ¬ q = 0 := fun e => y0 (by rw [hy, e]; rfl)
      have i2 := xlt (i := i) (N := 200) h0 (by grind)
      rw [show (200 : Int32).toNatClampNeg = 200 by decide] at i2
      exact px_go (ih (i + 1) (by grind) (by grind) (by grind) q (p % q) _ _ hq2 (Nat.lt_of_le_of_lt (Nat.mod_le _ _) hp) hy (x64_mod hq2 hp y0 hy hx) (by rw [(px_tnS h0 (by grind)).1, ← cG_s q0, show 200 - (i.toNatClampNeg + 1) + 1 = 200 - i.toNatClampNeg by omega]; exact hG)) ⟨rfl, rfl, rfl, rfl, rfl, trivial⟩

set_option maxRecDepth 100000 in
theorem cs_cDiv {n : Nat} {I : px_I} {L : px_L} {R : px_R} (hg : px_G n R) (a b : Int64) (p q : Nat) (hp : p < 2 ^ 63) (hq : q < 2 ^ 63) (ha : a = Int64.ofNat p) (hb : b = Int64.ofNat q) : px_KQ M_X6_commonDivisor [.long a, .long b] n I L R (fun r => r = Int64.ofNat (Nat.gcd p q)) := by
  refine px_of (plainFor_of_name np_RX6) (fun _ _ _ => trivial) rfl ?_
  refine px_b rfl q_X6_commonDivisor_0 hg rfl trivial ?_
  exact px_go (ls_cDiv hg a b (Nat.gcd p q) ⟨rfl, rfl, _, rfl, rfl, rfl, rfl⟩ 0 (by decide) (by decide) p q a b hp hq ha hb (cG_gcd 63 _ p q hq (by rw [xz0]; decide))) ⟨rfl, rfl, rfl, rfl, rfl, trivial⟩

def cShr (I : px_I) (a o h : Int32) : Int64 := sAns (sm (yR 61 121 (I 97 3) (I 97 4) (cWn I) a.toNatClampNeg (y0 61 o) a.toNatClampNeg) 123) (sm (oF 61 (I 97 5).toNatClampNeg (yR 61 121 (I 97 3) (I 97 4) (cWn I) a.toNatClampNeg (y0 61 o) a.toNatClampNeg)) 123) h

set_option maxRecDepth 100000 in
theorem ls_spreadA {n : Nat} {R : px_R} (hg : px_G n (cRA R)) (hg2 : px_G n (cRB R)) {Q : px_Q} (p q : Int32) (hp : 1 ≤ p ∧ p < 122) {I : px_I} (hpl : 0 ≤ I 97 4 ∧ I 97 4 ≤ 3) (hw : ∀ d, d < 3 → 0 ≤ I 98 d) (L : px_L) (A : Nat → Int64) (N T : Nat → Nat) (hA : ∀ j, j ≤ 122 → A j = Int64.ofNat (N j)) (hq : ∀ L2, cSL L L2 → L2 99 = A → (∀ j, j ≤ 122 → L2 100 j = Int64.ofNat (yD 61 (I 97 3) (I 97 4) q (cWn I) p (N p.toNatClampNeg) T 3 j)) → Q none n I L2 (cRA R)) : ∀ i : Int32, i ≤ 3 → 0 ≤ i → ∀ L1, cSL L L1 → L1 99 = A → (∀ j, j ≤ 122 → L1 100 j = Int64.ofNat (yD 61 (I 97 3) (I 97 4) q (cWn I) p (N p.toNatClampNeg) T i.toNatClampNeg j)) → px M_X6_spread 0 0 14 [(0, .ref 97), (1, .int p), (2, .int q), (3, .int i)] [] n I L1 (cRA R) Q := by
  refine px_up 3 (fun i ih hi => ?_)
  intro h0 L1 h1 hA1 hF1
  have hp0 : 0 ≤ p ∧ p < 123 := ⟨by grind, by grind⟩
  refine px_ige rfl q_X6_spread_14 hg rfl trivial (fun c16 => ?_) (fun c16 => ?_)
  · refine px_rv rfl q_X6_spread_61 rfl rfl rfl hg rfl trivial ?_
    have e9 : i = 3 := (by grind)
    rw [e9, show (3 : Int32).toNatClampNeg = 3 by decide] at hF1
    exact hq _ h1 hA1 hF1
  · refine px_cVP (ci := 6) rfl q_X6_spread_19 hg rfl trivial lk_6_65 nm_X6_pulled (c_pulled hg _ _) rfl rfl (px_lit hg rfl) rfl rfl rfl ⟨rfl, rfl⟩ ?_
    intro x26 h26
    have z26 : 0 ≤ x26 ∧ x26 < 123 := by have z9 := cMx_in (x := 61 + cPull I (p + i - 1) q); rw [← h26] at z9; exact ⟨z9.1, by grind⟩
    refine px_b rfl q_X6_spread_29 hg rfl ⟨⟨⟨⟨trivial, (by first | with_reducible assumption | (refine ⟨?_, ?_⟩ <;> grind))⟩, (by first | with_reducible assumption | (refine ⟨?_, ?_⟩ <;> grind))⟩, (by first | with_reducible assumption | (refine ⟨?_, ?_⟩ <;> grind))⟩, (by first | with_reducible assumption | (refine ⟨?_, ?_⟩ <;> grind))⟩ ?_
    have tt := xT_t hpl hp h0 (by grind) h26
    have d3 : i.toNatClampNeg < 3 := by have := xlt (i := i) (N := 3) h0 (by grind); rw [show (3 : Int32).toNatClampNeg = 3 by decide] at this; exact this
    exact px_go (ih (i + 1) (by grind) (by grind) (by grind) _ (by repeat (first | exact h1 | refine cSL.u9 ?_ _ _ | refine cSL.u0 ?_ _ _)) (by rw [px_u_ne (by decide)]; exact hA1) (yD_put h0 (by grind) hF1 rfl tt.1 tt.2 (by rw [hA1, hA _ (xin2 hp0.1 hp0.2), x64_w (hw _ d3), x64_mul, Nat.mul_comm]; rfl))) ⟨rfl, rfl, rfl, rfl, trivial⟩

set_option maxRecDepth 100000 in
theorem cs_spreadA {n : Nat} {I : px_I} {L : px_L} {R : px_R} (hg : px_G n (cRA R)) (hg2 : px_G n (cRB R)) (p q : Int32) (hp : 1 ≤ p ∧ p < 122) (hpl : 0 ≤ I 97 4 ∧ I 97 4 ≤ 3) (hw : ∀ d, d < 3 → 0 ≤ I 98 d) (N T : Nat → Nat) (hA : ∀ j, j ≤ 122 → L 99 j = Int64.ofNat (N j)) (hT : ∀ j, j ≤ 122 → L 100 j = Int64.ofNat (T j)) (hN : N p.toNatClampNeg < 2 ^ 63) : px_KV M_X6_spread [.ref 97, .int p, .int q] n I L (cRA R) (fun I2 L2 => I2 = I ∧ cSL L L2 ∧ L2 99 = L 99 ∧ ∀ j, j ≤ 122 → L2 100 j = Int64.ofNat (yD 61 (I 97 3) (I 97 4) q (cWn I) p (N p.toNatClampNeg) T 3 j)) := by
  refine px_of (plainFor_of_name np_RX6) (fun _ _ _ => trivial) rfl ?_
  have hp0 : 0 ≤ p ∧ p < 123 := ⟨by grind, by grind⟩
  refine px_lne rfl q_X6_spread_0 hg rfl ⟨trivial, (by with_reducible assumption)⟩ (fun c8 => ?_) (fun c8 => ?_)
  · refine px_b rfl q_X6_spread_12 hg rfl trivial ?_
    exact px_go (ls_spreadA hg hg2 p q hp hpl hw L (L 99) N T hA (fun L2 h h2 h3 => ⟨rfl, rfl, rfl, rfl, h, h2, h3⟩) 0 (by decide) (by decide) L cSL.rfl' rfl (by rw [xz0]; exact hT)) ⟨rfl, rfl, rfl, rfl, trivial⟩
  · refine px_rvW rfl q_X6_spread_11 rfl rfl rfl hg rfl trivial ⟨⟨rfl, rfl⟩, ?_⟩
    have e9 : N p.toNatClampNeg = 0 := (x64_e hN).mp (by rw [← hA _ (xin2 hp0.1 hp0.2)]; first | exact c8 | exact Classical.not_not.mp c8)
    refine ⟨rfl, cSL.rfl', rfl, ?_⟩
    rw [e9, yD_z]
    exact hT

set_option maxRecDepth 100000 in
theorem ls_share65A {n : Nat} {R : px_R} (hg : px_G n (cRA R)) (hg2 : px_G n (cRB R)) {Q : px_Q} (a o h : Int32) {I : px_I} {L : px_L} (F : Nat → Nat) (hw5 : 0 ≤ I 97 5 ∧ I 97 5 ≤ 20) (hL : ∀ j, j ≤ 122 → L 99 j = Int64.ofNat (F j)) (hS : sm F 123 < 2 ^ 63) (hS1 : 1 ≤ sm F 123) (hq : Q (some (.long (sAns (sm F 123) (sm (oF 61 (I 97 5).toNatClampNeg F) 123) h))) n I L (cRA R)) : ∀ i : Int32, i ≤ 123 → 0 ≤ i → ∀ u v : Int64, u = Int64.ofNat (sm (oF 61 (I 97 5).toNatClampNeg F) i.toNatClampNeg) → v = Int64.ofNat (sm F i.toNatClampNeg) → px M_X6_share 0 0 65 [(0, .ref 97), (1, .int a), (2, .int o), (3, .int h), (4, .long u), (6, .long v), (8, .int i)] [] n I L (cRA R) Q := by
  refine px_up 123 (fun i ih hi => ?_)
  intro h0 u v hu hv
  refine px_ige rfl q_X6_share_65 hg rfl trivial (fun c69 => ?_) (fun c69 => ?_)
  · have e9 : i = 123 := (by grind)
    rw [e9, show (123 : Int32).toNatClampNeg = 123 by decide] at hu hv
    have o9 := oF_le (c := 61) (W := (I 97 5).toNatClampNeg) (F := F) 123
    have m9 : sm (oF 61 (I 97 5).toNatClampNeg F) 123 < 2 ^ 63 := Nat.lt_of_le_of_lt o9 hS
    have g9 : Nat.gcd (sm F 123) (sm (oF 61 (I 97 5).toNatClampNeg F) 123) < 2 ^ 63 := Nat.lt_of_le_of_lt (Nat.gcd_le_left _ (by omega)) hS
    have g8 : 0 < Nat.gcd (sm F 123) (sm (oF 61 (I 97 5).toNatClampNeg F) 123) := Nat.gcd_pos_of_pos_left _ (by omega)
    refine px_cSQ rfl q_X6_share_115 hg rfl trivial lk_6_51 nm_X6_commonDivisor (cs_cDiv hg _ _ _ _ hS m9 hv hu) rfl rfl rfl ⟨rfl, rfl⟩ ?_
    intro x119 h119
    refine px_lgt rfl q_X6_share_122 hg rfl trivial (fun c128 => ?_) (fun c128 => ?_)
    · refine px_eq rfl q_X6_share_135 hg rfl trivial (fun c136 => ?_) (fun c136 => ?_)
      · refine px_rl rfl q_X6_share_144 rfl rfl rfl hg rfl ⟨trivial, (by first | (refine ⟨?_, ?_⟩ <;> grind) | exact fun e => by rw [e] at c128; exact absurd c128 (by decide))⟩ ?_
        rw [h119, hu]
        unfold sAns at hq
        rw [if_pos c136] at hq
        exact hq
      · refine px_rl rfl q_X6_share_139 rfl rfl rfl hg rfl ⟨trivial, (by first | (refine ⟨?_, ?_⟩ <;> grind) | exact fun e => by rw [e] at c128; exact absurd c128 (by decide))⟩ ?_
        rw [h119, hv]
        unfold sAns at hq
        rw [if_neg c136] at hq
        exact hq
    · refine px_rl rfl q_X6_share_131 rfl rfl rfl hg rfl trivial ?_
      exact absurd ((x64_0 g9).mp (by rw [← h119]; first | exact Int64.not_lt.mp c128 | exact c128)) (by omega)
  · refine px_cVP (ci := 6) rfl q_X6_share_72 hg rfl ⟨trivial, (by first | (refine ⟨?_, ?_⟩ <;> grind) | exact fun e => by rw [e] at c128; exact absurd c128 (by decide))⟩ lk_6_47 nm_X6_misses (c_misses hg _) rfl rfl (px_lit hg rfl) rfl rfl rfl ⟨rfl, rfl⟩ ?_
    intro x89 h89
    refine px_eq rfl q_X6_share_92 hg rfl trivial (fun c92 => ?_) (fun c92 => ?_)
    · replace h89 := px_bf h89 c92
      refine px_b rfl q_X6_share_105 hg rfl trivial ?_
      have ms := xMs hw5 ⟨h0, show i < 123 by grind⟩
      have i2 := xin2 h0 (show i < 123 by grind)
      exact px_go (ih (i + 1) (by grind) (by grind) (by grind) _ _ (by
        rw [sm_up h0 (by grind), ← x64_add, ← hu]
        congr 1
        unfold oF
        rw [if_neg (fun z => h89 (ms.mpr z))]
        rfl) (by rw [sm_up h0 (by grind), ← x64_add, ← hv, hL _ i2])) ⟨rfl, rfl, rfl, rfl, rfl, rfl, rfl, trivial⟩
    · replace h89 := px_bt h89 c92
      refine px_b rfl q_X6_share_95 hg rfl ⟨trivial, (by first | (refine ⟨?_, ?_⟩ <;> grind) | exact fun e => by rw [e] at c128; exact absurd c128 (by decide))⟩ ?_
      have ms := xMs hw5 ⟨h0, show i < 123 by grind⟩
      have i2 := xin2 h0 (show i < 123 by grind)
      exact px_go (ih (i + 1) (by grind) (by grind) (by grind) _ _ (by
        rw [sm_up h0 (by grind), ← x64_add, ← hu]
        congr 1
        unfold oF
        rw [if_pos (ms.mp h89), hL _ i2]) (by rw [sm_up h0 (by grind), ← x64_add, ← hv, hL _ i2])) ⟨rfl, rfl, rfl, rfl, rfl, rfl, rfl, trivial⟩

set_option maxRecDepth 100000 in
theorem ls_share25A {n : Nat} {R : px_R} (hg : px_G n (cRA R)) (hg2 : px_G n (cRB R)) {Q : px_Q} (a o h left : Int32) {I : px_I} (hpl : 0 ≤ I 97 4 ∧ I 97 4 ≤ 3) (hw : ∀ d, d < 3 → 0 ≤ I 98 d) (L : px_L) (A : Nat → Int64) (N T : Nat → Nat) (hA : ∀ j, j ≤ 122 → A j = Int64.ofNat (N j)) (hN : ∀ j, j ≤ 122 → N j < 2 ^ 63) (kk : ∀ L2, cSL L L2 → (∀ j, j ≤ 122 → L2 100 j = Int64.ofNat (yK 61 (I 97 3) (I 97 4) left (cWn I) N T 121 j)) → px M_X6_share 0 0 12 [(0, .ref 97), (1, .int a), (2, .int o), (3, .int h), (4, .int (left + -1))] [] n I L2 (cRB R) Q) : ∀ i : Int32, i ≤ 122 → 1 ≤ i → ∀ L1, cSL L L1 → L1 99 = A → (∀ j, j ≤ 122 → L1 100 j = Int64.ofNat (yK 61 (I 97 3) (I 97 4) left (cWn I) N T (i.toNatClampNeg - 1) j)) → px M_X6_share 0 0 25 [(0, .ref 97), (1, .int a), (2, .int o), (3, .int h), (4, .int left), (5, .int i)] [] n I L1 (cRA R) Q := by
  refine px_up 122 (fun i ih hi => ?_)
  intro h0 L1 h1 hA1 hF1
  refine px_ige rfl q_X6_share_25 hg rfl trivial (fun c29 => ?_) (fun c29 => ?_)
  · refine px_cVG (ci := 6) rfl q_X6_share_46 hg rfl trivial lk_6_44 nm_X6_swap (c_swapA hg hg2) rfl rfl (px_lit hg rfl) rfl rfl rfl ?_
    intro r47 n47 I47 L47 R47 h47
    obtain ⟨rfl, rfl, rfl, rfl, rfl⟩ := h47
    have hg := hg2
    refine px_b rfl q_X6_share_50 hg rfl trivial ?_
    have e9 : i = 122 := (by grind)
    rw [e9, show (122 : Int32).toNatClampNeg - 1 = 121 by decide] at hF1
    exact px_go (kk _ h1 hF1) ⟨rfl, rfl, rfl, rfl, rfl, trivial⟩
  · have i2 := xin2 (k := i) (by grind) (by grind)
    refine px_cVW (ci := 6) rfl q_X6_share_32 hg rfl trivial lk_6_40 nm_X6_spread (cs_spreadA hg hg2 _ _ (by grind) hpl hw N (yK 61 (I 97 3) (I 97 4) left (cWn I) N T (i.toNatClampNeg - 1)) (by rw [hA1]; exact hA) hF1 (hN _ i2)) rfl rfl (px_lit hg rfl) rfl rfl rfl ⟨rfl, rfl⟩ ?_
    intro I37 L37 h37
    obtain ⟨rfl, h9, hP9, hQ9⟩ := h37
    refine px_b rfl q_X6_share_40 hg rfl trivial ?_
    exact px_go (ih (i + 1) (by grind) (by grind) (by grind) _ (h1.trans h9) (hP9.trans hA1) (fun j hj => by rw [hQ9 j hj, yK_S h0 (by grind)])) ⟨rfl, rfl, rfl, rfl, rfl, rfl, trivial⟩

set_option maxRecDepth 100000 in
theorem ls_share12A {n : Nat} {R : px_R} (hg : px_G n (cRA R)) (hg2 : px_G n (cRB R)) {Q : px_Q} (a o h left : Int32) {I : px_I} (hpl : 0 ≤ I 97 4 ∧ I 97 4 ≤ 3) (hw : ∀ d, d < 3 → 0 ≤ I 98 d) (hw5 : 0 ≤ I 97 5 ∧ I 97 5 ≤ 20) (L : px_L) (F : Nat → Nat) (hF : ∀ j, j ≤ 122 → L 99 j = Int64.ofNat (F j)) (hN : ∀ j, j ≤ 122 → F j < 2 ^ 63) (hq : ¬ -1 < left → (sm F 123 < 2 ^ 63 ∧ 1 ≤ sm F 123) ∧ Q (some (.long (sAns (sm F 123) (sm (oF 61 (I 97 5).toNatClampNeg F) 123) h))) n I L (cRA R)) (kk : -1 < left → ∀ L2, cSL L L2 → (∀ j, j ≤ 122 → L2 100 j = Int64.ofNat (yK 61 (I 97 3) (I 97 4) left (cWn I) F (fun _ => 0) 121 j)) → px M_X6_share 0 0 12 [(0, .ref 97), (1, .int a), (2, .int o), (3, .int h), (4, .int (left + -1))] [] n I L2 (cRB R) Q) : px M_X6_share 0 0 12 [(0, .ref 97), (1, .int a), (2, .int o), (3, .int h), (4, .int left)] [] n I L (cRA R) Q := by
  skip
  refine px_lt rfl q_X6_share_12 hg rfl trivial (fun c14 => ?_) (fun c14 => ?_)
  · refine px_b rfl q_X6_share_56 hg rfl trivial ?_
    obtain ⟨⟨s1, s2⟩, hq⟩ := hq (by grind)
    exact px_go (ls_share65A hg hg2 a o h F hw5 hF s1 s2 hq 0 (by decide) (by decide) 0 0 (by rw [xz0]; rfl) (by rw [xz0]; rfl)) ⟨rfl, rfl, rfl, rfl, rfl, rfl, rfl, trivial⟩
  · refine px_cVW (ci := 6) rfl q_X6_share_17 hg rfl trivial lk_6_36 nm_X6_clearNext (cs_clearNextA hg hg2 _) rfl rfl (px_lit hg rfl) rfl rfl rfl ⟨rfl, rfl⟩ ?_
    intro I19 L19 h19
    obtain ⟨rfl, h9, hP9, hQ9⟩ := h19
    refine px_b rfl q_X6_share_22 hg rfl trivial ?_
    exact px_go (ls_share25A hg hg2 a o h left hpl hw _ _ F (fun _ => 0) (by rw [hP9]; exact hF) hN (fun L2 h2 hX => kk (by grind) L2 (h9.trans h2) hX) 1 (by decide) (by decide) _ cSL.rfl' rfl (fun j hj => by rw [hQ9 j hj, show (1 : Int32).toNatClampNeg - 1 = 0 by decide]; rfl)) ⟨rfl, rfl, rfl, rfl, rfl, rfl, trivial⟩

set_option maxRecDepth 100000 in
theorem ls_spreadB {n : Nat} {R : px_R} (hg : px_G n (cRB R)) (hg2 : px_G n (cRA R)) {Q : px_Q} (p q : Int32) (hp : 1 ≤ p ∧ p < 122) {I : px_I} (hpl : 0 ≤ I 97 4 ∧ I 97 4 ≤ 3) (hw : ∀ d, d < 3 → 0 ≤ I 98 d) (L : px_L) (A : Nat → Int64) (N T : Nat → Nat) (hA : ∀ j, j ≤ 122 → A j = Int64.ofNat (N j)) (hq : ∀ L2, cSL L L2 → L2 100 = A → (∀ j, j ≤ 122 → L2 99 j = Int64.ofNat (yD 61 (I 97 3) (I 97 4) q (cWn I) p (N p.toNatClampNeg) T 3 j)) → Q none n I L2 (cRB R)) : ∀ i : Int32, i ≤ 3 → 0 ≤ i → ∀ L1, cSL L L1 → L1 100 = A → (∀ j, j ≤ 122 → L1 99 j = Int64.ofNat (yD 61 (I 97 3) (I 97 4) q (cWn I) p (N p.toNatClampNeg) T i.toNatClampNeg j)) → px M_X6_spread 0 0 14 [(0, .ref 97), (1, .int p), (2, .int q), (3, .int i)] [] n I L1 (cRB R) Q := by
  refine px_up 3 (fun i ih hi => ?_)
  intro h0 L1 h1 hA1 hF1
  have hp0 : 0 ≤ p ∧ p < 123 := ⟨by grind, by grind⟩
  refine px_ige rfl q_X6_spread_14 hg rfl trivial (fun c16 => ?_) (fun c16 => ?_)
  · refine px_rv rfl q_X6_spread_61 rfl rfl rfl hg rfl trivial ?_
    have e9 : i = 3 := (by grind)
    rw [e9, show (3 : Int32).toNatClampNeg = 3 by decide] at hF1
    exact hq _ h1 hA1 hF1
  · refine px_cVP (ci := 6) rfl q_X6_spread_19 hg rfl trivial lk_6_65 nm_X6_pulled (c_pulled hg _ _) rfl rfl (px_lit hg rfl) rfl rfl rfl ⟨rfl, rfl⟩ ?_
    intro x26 h26
    have z26 : 0 ≤ x26 ∧ x26 < 123 := by have z9 := cMx_in (x := 61 + cPull I (p + i - 1) q); rw [← h26] at z9; exact ⟨z9.1, by grind⟩
    refine px_b rfl q_X6_spread_29 hg rfl ⟨⟨⟨⟨trivial, (by first | with_reducible assumption | (refine ⟨?_, ?_⟩ <;> grind))⟩, (by first | with_reducible assumption | (refine ⟨?_, ?_⟩ <;> grind))⟩, (by first | with_reducible assumption | (refine ⟨?_, ?_⟩ <;> grind))⟩, (by first | with_reducible assumption | (refine ⟨?_, ?_⟩ <;> grind))⟩ ?_
    have tt := xT_t hpl hp h0 (by grind) h26
    have d3 : i.toNatClampNeg < 3 := by have := xlt (i := i) (N := 3) h0 (by grind); rw [show (3 : Int32).toNatClampNeg = 3 by decide] at this; exact this
    exact px_go (ih (i + 1) (by grind) (by grind) (by grind) _ (by repeat (first | exact h1 | refine cSL.u9 ?_ _ _ | refine cSL.u0 ?_ _ _)) (by rw [px_u_ne (by decide)]; exact hA1) (yD_put h0 (by grind) hF1 rfl tt.1 tt.2 (by rw [hA1, hA _ (xin2 hp0.1 hp0.2), x64_w (hw _ d3), x64_mul, Nat.mul_comm]; rfl))) ⟨rfl, rfl, rfl, rfl, trivial⟩

set_option maxRecDepth 100000 in
theorem cs_spreadB {n : Nat} {I : px_I} {L : px_L} {R : px_R} (hg : px_G n (cRB R)) (hg2 : px_G n (cRA R)) (p q : Int32) (hp : 1 ≤ p ∧ p < 122) (hpl : 0 ≤ I 97 4 ∧ I 97 4 ≤ 3) (hw : ∀ d, d < 3 → 0 ≤ I 98 d) (N T : Nat → Nat) (hA : ∀ j, j ≤ 122 → L 100 j = Int64.ofNat (N j)) (hT : ∀ j, j ≤ 122 → L 99 j = Int64.ofNat (T j)) (hN : N p.toNatClampNeg < 2 ^ 63) : px_KV M_X6_spread [.ref 97, .int p, .int q] n I L (cRB R) (fun I2 L2 => I2 = I ∧ cSL L L2 ∧ L2 100 = L 100 ∧ ∀ j, j ≤ 122 → L2 99 j = Int64.ofNat (yD 61 (I 97 3) (I 97 4) q (cWn I) p (N p.toNatClampNeg) T 3 j)) := by
  refine px_of (plainFor_of_name np_RX6) (fun _ _ _ => trivial) rfl ?_
  have hp0 : 0 ≤ p ∧ p < 123 := ⟨by grind, by grind⟩
  refine px_lne rfl q_X6_spread_0 hg rfl ⟨trivial, (by with_reducible assumption)⟩ (fun c8 => ?_) (fun c8 => ?_)
  · refine px_b rfl q_X6_spread_12 hg rfl trivial ?_
    exact px_go (ls_spreadB hg hg2 p q hp hpl hw L (L 100) N T hA (fun L2 h h2 h3 => ⟨rfl, rfl, rfl, rfl, h, h2, h3⟩) 0 (by decide) (by decide) L cSL.rfl' rfl (by rw [xz0]; exact hT)) ⟨rfl, rfl, rfl, rfl, trivial⟩
  · refine px_rvW rfl q_X6_spread_11 rfl rfl rfl hg rfl trivial ⟨⟨rfl, rfl⟩, ?_⟩
    have e9 : N p.toNatClampNeg = 0 := (x64_e hN).mp (by rw [← hA _ (xin2 hp0.1 hp0.2)]; first | exact c8 | exact Classical.not_not.mp c8)
    refine ⟨rfl, cSL.rfl', rfl, ?_⟩
    rw [e9, yD_z]
    exact hT

set_option maxRecDepth 100000 in
theorem ls_share65B {n : Nat} {R : px_R} (hg : px_G n (cRB R)) (hg2 : px_G n (cRA R)) {Q : px_Q} (a o h : Int32) {I : px_I} {L : px_L} (F : Nat → Nat) (hw5 : 0 ≤ I 97 5 ∧ I 97 5 ≤ 20) (hL : ∀ j, j ≤ 122 → L 100 j = Int64.ofNat (F j)) (hS : sm F 123 < 2 ^ 63) (hS1 : 1 ≤ sm F 123) (hq : Q (some (.long (sAns (sm F 123) (sm (oF 61 (I 97 5).toNatClampNeg F) 123) h))) n I L (cRB R)) : ∀ i : Int32, i ≤ 123 → 0 ≤ i → ∀ u v : Int64, u = Int64.ofNat (sm (oF 61 (I 97 5).toNatClampNeg F) i.toNatClampNeg) → v = Int64.ofNat (sm F i.toNatClampNeg) → px M_X6_share 0 0 65 [(0, .ref 97), (1, .int a), (2, .int o), (3, .int h), (4, .long u), (6, .long v), (8, .int i)] [] n I L (cRB R) Q := by
  refine px_up 123 (fun i ih hi => ?_)
  intro h0 u v hu hv
  refine px_ige rfl q_X6_share_65 hg rfl trivial (fun c69 => ?_) (fun c69 => ?_)
  · have e9 : i = 123 := (by grind)
    rw [e9, show (123 : Int32).toNatClampNeg = 123 by decide] at hu hv
    have o9 := oF_le (c := 61) (W := (I 97 5).toNatClampNeg) (F := F) 123
    have m9 : sm (oF 61 (I 97 5).toNatClampNeg F) 123 < 2 ^ 63 := Nat.lt_of_le_of_lt o9 hS
    have g9 : Nat.gcd (sm F 123) (sm (oF 61 (I 97 5).toNatClampNeg F) 123) < 2 ^ 63 := Nat.lt_of_le_of_lt (Nat.gcd_le_left _ (by omega)) hS
    have g8 : 0 < Nat.gcd (sm F 123) (sm (oF 61 (I 97 5).toNatClampNeg F) 123) := Nat.gcd_pos_of_pos_left _ (by omega)
    refine px_cSQ rfl q_X6_share_115 hg rfl trivial lk_6_51 nm_X6_commonDivisor (cs_cDiv hg _ _ _ _ hS m9 hv hu) rfl rfl rfl ⟨rfl, rfl⟩ ?_
    intro x119 h119
    refine px_lgt rfl q_X6_share_122 hg rfl trivial (fun c128 => ?_) (fun c128 => ?_)
    · refine px_eq rfl q_X6_share_135 hg rfl trivial (fun c136 => ?_) (fun c136 => ?_)
      · refine px_rl rfl q_X6_share_144 rfl rfl rfl hg rfl ⟨trivial, (by first | (refine ⟨?_, ?_⟩ <;> grind) | exact fun e => by rw [e] at c128; exact absurd c128 (by decide))⟩ ?_
        rw [h119, hu]
        unfold sAns at hq
        rw [if_pos c136] at hq
        exact hq
      · refine px_rl rfl q_X6_share_139 rfl rfl rfl hg rfl ⟨trivial, (by first | (refine ⟨?_, ?_⟩ <;> grind) | exact fun e => by rw [e] at c128; exact absurd c128 (by decide))⟩ ?_
        rw [h119, hv]
        unfold sAns at hq
        rw [if_neg c136] at hq
        exact hq
    · refine px_rl rfl q_X6_share_131 rfl rfl rfl hg rfl trivial ?_
      exact absurd ((x64_0 g9).mp (by rw [← h119]; first | exact Int64.not_lt.mp c128 | exact c128)) (by omega)
  · refine px_cVP (ci := 6) rfl q_X6_share_72 hg rfl ⟨trivial, (by first | (refine ⟨?_, ?_⟩ <;> grind) | exact fun e => by rw [e] at c128; exact absurd c128 (by decide))⟩ lk_6_47 nm_X6_misses (c_misses hg _) rfl rfl (px_lit hg rfl) rfl rfl rfl ⟨rfl, rfl⟩ ?_
    intro x89 h89
    refine px_eq rfl q_X6_share_92 hg rfl trivial (fun c92 => ?_) (fun c92 => ?_)
    · replace h89 := px_bf h89 c92
      refine px_b rfl q_X6_share_105 hg rfl trivial ?_
      have ms := xMs hw5 ⟨h0, show i < 123 by grind⟩
      have i2 := xin2 h0 (show i < 123 by grind)
      exact px_go (ih (i + 1) (by grind) (by grind) (by grind) _ _ (by
        rw [sm_up h0 (by grind), ← x64_add, ← hu]
        congr 1
        unfold oF
        rw [if_neg (fun z => h89 (ms.mpr z))]
        rfl) (by rw [sm_up h0 (by grind), ← x64_add, ← hv, hL _ i2])) ⟨rfl, rfl, rfl, rfl, rfl, rfl, rfl, trivial⟩
    · replace h89 := px_bt h89 c92
      refine px_b rfl q_X6_share_95 hg rfl ⟨trivial, (by first | (refine ⟨?_, ?_⟩ <;> grind) | exact fun e => by rw [e] at c128; exact absurd c128 (by decide))⟩ ?_
      have ms := xMs hw5 ⟨h0, show i < 123 by grind⟩
      have i2 := xin2 h0 (show i < 123 by grind)
      exact px_go (ih (i + 1) (by grind) (by grind) (by grind) _ _ (by
        rw [sm_up h0 (by grind), ← x64_add, ← hu]
        congr 1
        unfold oF
        rw [if_pos (ms.mp h89), hL _ i2]) (by rw [sm_up h0 (by grind), ← x64_add, ← hv, hL _ i2])) ⟨rfl, rfl, rfl, rfl, rfl, rfl, rfl, trivial⟩

set_option maxRecDepth 100000 in
theorem ls_share25B {n : Nat} {R : px_R} (hg : px_G n (cRB R)) (hg2 : px_G n (cRA R)) {Q : px_Q} (a o h left : Int32) {I : px_I} (hpl : 0 ≤ I 97 4 ∧ I 97 4 ≤ 3) (hw : ∀ d, d < 3 → 0 ≤ I 98 d) (L : px_L) (A : Nat → Int64) (N T : Nat → Nat) (hA : ∀ j, j ≤ 122 → A j = Int64.ofNat (N j)) (hN : ∀ j, j ≤ 122 → N j < 2 ^ 63) (kk : ∀ L2, cSL L L2 → (∀ j, j ≤ 122 → L2 99 j = Int64.ofNat (yK 61 (I 97 3) (I 97 4) left (cWn I) N T 121 j)) → px M_X6_share 0 0 12 [(0, .ref 97), (1, .int a), (2, .int o), (3, .int h), (4, .int (left + -1))] [] n I L2 (cRA R) Q) : ∀ i : Int32, i ≤ 122 → 1 ≤ i → ∀ L1, cSL L L1 → L1 100 = A → (∀ j, j ≤ 122 → L1 99 j = Int64.ofNat (yK 61 (I 97 3) (I 97 4) left (cWn I) N T (i.toNatClampNeg - 1) j)) → px M_X6_share 0 0 25 [(0, .ref 97), (1, .int a), (2, .int o), (3, .int h), (4, .int left), (5, .int i)] [] n I L1 (cRB R) Q := by
  refine px_up 122 (fun i ih hi => ?_)
  intro h0 L1 h1 hA1 hF1
  refine px_ige rfl q_X6_share_25 hg rfl trivial (fun c29 => ?_) (fun c29 => ?_)
  · refine px_cVG (ci := 6) rfl q_X6_share_46 hg rfl trivial lk_6_44 nm_X6_swap (c_swapB hg hg2) rfl rfl (px_lit hg rfl) rfl rfl rfl ?_
    intro r47 n47 I47 L47 R47 h47
    obtain ⟨rfl, rfl, rfl, rfl, rfl⟩ := h47
    have hg := hg2
    refine px_b rfl q_X6_share_50 hg rfl trivial ?_
    have e9 : i = 122 := (by grind)
    rw [e9, show (122 : Int32).toNatClampNeg - 1 = 121 by decide] at hF1
    exact px_go (kk _ h1 hF1) ⟨rfl, rfl, rfl, rfl, rfl, trivial⟩
  · have i2 := xin2 (k := i) (by grind) (by grind)
    refine px_cVW (ci := 6) rfl q_X6_share_32 hg rfl trivial lk_6_40 nm_X6_spread (cs_spreadB hg hg2 _ _ (by grind) hpl hw N (yK 61 (I 97 3) (I 97 4) left (cWn I) N T (i.toNatClampNeg - 1)) (by rw [hA1]; exact hA) hF1 (hN _ i2)) rfl rfl (px_lit hg rfl) rfl rfl rfl ⟨rfl, rfl⟩ ?_
    intro I37 L37 h37
    obtain ⟨rfl, h9, hP9, hQ9⟩ := h37
    refine px_b rfl q_X6_share_40 hg rfl trivial ?_
    exact px_go (ih (i + 1) (by grind) (by grind) (by grind) _ (h1.trans h9) (hP9.trans hA1) (fun j hj => by rw [hQ9 j hj, yK_S h0 (by grind)])) ⟨rfl, rfl, rfl, rfl, rfl, rfl, trivial⟩

set_option maxRecDepth 100000 in
theorem ls_share12B {n : Nat} {R : px_R} (hg : px_G n (cRB R)) (hg2 : px_G n (cRA R)) {Q : px_Q} (a o h left : Int32) {I : px_I} (hpl : 0 ≤ I 97 4 ∧ I 97 4 ≤ 3) (hw : ∀ d, d < 3 → 0 ≤ I 98 d) (hw5 : 0 ≤ I 97 5 ∧ I 97 5 ≤ 20) (L : px_L) (F : Nat → Nat) (hF : ∀ j, j ≤ 122 → L 100 j = Int64.ofNat (F j)) (hN : ∀ j, j ≤ 122 → F j < 2 ^ 63) (hq : ¬ -1 < left → (sm F 123 < 2 ^ 63 ∧ 1 ≤ sm F 123) ∧ Q (some (.long (sAns (sm F 123) (sm (oF 61 (I 97 5).toNatClampNeg F) 123) h))) n I L (cRB R)) (kk : -1 < left → ∀ L2, cSL L L2 → (∀ j, j ≤ 122 → L2 99 j = Int64.ofNat (yK 61 (I 97 3) (I 97 4) left (cWn I) F (fun _ => 0) 121 j)) → px M_X6_share 0 0 12 [(0, .ref 97), (1, .int a), (2, .int o), (3, .int h), (4, .int (left + -1))] [] n I L2 (cRA R) Q) : px M_X6_share 0 0 12 [(0, .ref 97), (1, .int a), (2, .int o), (3, .int h), (4, .int left)] [] n I L (cRB R) Q := by
  skip
  refine px_lt rfl q_X6_share_12 hg rfl trivial (fun c14 => ?_) (fun c14 => ?_)
  · refine px_b rfl q_X6_share_56 hg rfl trivial ?_
    obtain ⟨⟨s1, s2⟩, hq⟩ := hq (by grind)
    exact px_go (ls_share65B hg hg2 a o h F hw5 hF s1 s2 hq 0 (by decide) (by decide) 0 0 (by rw [xz0]; rfl) (by rw [xz0]; rfl)) ⟨rfl, rfl, rfl, rfl, rfl, rfl, rfl, trivial⟩
  · refine px_cVW (ci := 6) rfl q_X6_share_17 hg rfl trivial lk_6_36 nm_X6_clearNext (cs_clearNextB hg hg2 _) rfl rfl (px_lit hg rfl) rfl rfl rfl ⟨rfl, rfl⟩ ?_
    intro I19 L19 h19
    obtain ⟨rfl, h9, hP9, hQ9⟩ := h19
    refine px_b rfl q_X6_share_22 hg rfl trivial ?_
    exact px_go (ls_share25B hg hg2 a o h left hpl hw _ _ F (fun _ => 0) (by rw [hP9]; exact hF) hN (fun L2 h2 hX => kk (by grind) L2 (h9.trans h2) hX) 1 (by decide) (by decide) _ cSL.rfl' rfl (fun j hj => by rw [hQ9 j hj, show (1 : Int32).toNatClampNeg - 1 = 0 by decide]; rfl)) ⟨rfl, rfl, rfl, rfl, rfl, rfl, trivial⟩

theorem ls_share {n : Nat} {R : px_R} (hgA : px_G n (cRA R)) (hgB : px_G n (cRB R)) {Q : px_Q} (a o h : Int32) (ha : 1 ≤ a ∧ a ≤ 12) (ho : -20 ≤ o ∧ o ≤ 20) {I : px_I} (hW : cW I) (L : px_L) (hq : ∀ L2 R2, cSL L L2 → (R2 = cRA R ∨ R2 = cRB R) → Q (some (.long (cShr I a o h))) n I L2 R2) : ∀ left : Int32, -1 ≤ left → left < a → ∀ L1, cSL L L1 → ((∀ j, j ≤ 122 → L1 99 j = Int64.ofNat ((yR 61 121 (I 97 3) (I 97 4) (cWn I) a.toNatClampNeg (y0 61 o) (a.toNatClampNeg - (left + 1).toNatClampNeg)) j)) → px M_X6_share 0 0 12 [(0, .ref 97), (1, .int a), (2, .int o), (3, .int h), (4, .int left)] [] n I L1 (cRA R) Q) ∧ ((∀ j, j ≤ 122 → L1 100 j = Int64.ofNat ((yR 61 121 (I 97 3) (I 97 4) (cWn I) a.toNatClampNeg (y0 61 o) (a.toNatClampNeg - (left + 1).toNatClampNeg)) j)) → px M_X6_share 0 0 12 [(0, .ref 97), (1, .int a), (2, .int o), (3, .int h), (4, .int left)] [] n I L1 (cRB R) Q) := by
  refine px_dn (-1) (fun left ih hl => ?_)
  intro hla L1 h1
  obtain ⟨n1, n2, -⟩ := x12 ha
  obtain ⟨w1, -, -, w4, w5⟩ := cWn_s hW
  have hpl : 0 ≤ I 97 4 ∧ I 97 4 ≤ 3 := hW.2.2.2.2.1
  have hw5 : 0 ≤ I 97 5 ∧ I 97 5 ≤ 20 := hW.2.2.2.2.2
  have ya := yR_all (hear := I 97 3) (w := cWn I) (n := a.toNatClampNeg) hpl ho w4 w5
  have bd : ∀ j, j ≤ 122 → (yR 61 121 (I 97 3) (I 97 4) (cWn I) a.toNatClampNeg (y0 61 o) (a.toNatClampNeg - (left + 1).toNatClampNeg)) j < 2 ^ 63 := fun j hj => by
    have q := ya (a.toNatClampNeg - (left + 1).toNatClampNeg) (by omega)
    rw [q.2.2.1 j hj]
    exact q.1 (j + 3) (by omega)
  have fin : ¬ -1 < left → (sm (yR 61 121 (I 97 3) (I 97 4) (cWn I) a.toNatClampNeg (y0 61 o) (a.toNatClampNeg - (left + 1).toNatClampNeg)) 123 < 2 ^ 63 ∧ 1 ≤ sm (yR 61 121 (I 97 3) (I 97 4) (cWn I) a.toNatClampNeg (y0 61 o) (a.toNatClampNeg - (left + 1).toNatClampNeg)) 123) ∧ sAns (sm (yR 61 121 (I 97 3) (I 97 4) (cWn I) a.toNatClampNeg (y0 61 o) (a.toNatClampNeg - (left + 1).toNatClampNeg)) 123) (sm (oF 61 (I 97 5).toNatClampNeg (yR 61 121 (I 97 3) (I 97 4) (cWn I) a.toNatClampNeg (y0 61 o) (a.toNatClampNeg - (left + 1).toNatClampNeg))) 123) h = cShr I a o h := fun c => by
    have e9 : left = -1 := by grind
    rw [e9, show ((-1 : Int32) + 1).toNatClampNeg = 0 by decide, Nat.sub_zero]
    have q := ya a.toNatClampNeg n2
    have s := sm_three q.2.2.1 q.2.2.2
    have p9 := y_pow (i := a.toNatClampNeg) w4 w5 n2
    rw [s, q.2.1]
    refine ⟨⟨p9.2, p9.1⟩, ?_⟩
    unfold cShr
    rw [s, q.2.1]
  have ln : -1 < left → 0 ≤ left ∧ left.toNatClampNeg < a.toNatClampNeg := fun c => ⟨by grind, xlt (by grind) hla⟩
  refine ⟨fun hF1 => ?_, fun hF1 => ?_⟩
  · exact ls_share12A hgA hgB a o h left hpl w1 hw5 L1 _ hF1 bd (fun c => ⟨(fin c).1, by rw [(fin c).2]; exact hq L1 _ h1 (Or.inl rfl)⟩) (fun h3 L2 h2 hX => (ih (left + -1) (by grind) (by grind) (by grind) L2 (h1.trans h2)).2 (fun j hj => by rw [hX j hj, yR_S (c := 61) (C := 61) (N := 122) rfl (by decide) (ln h3).1 (ln h3).2 (by grind) (fun _ _ => rfl) j hj]))
  · exact ls_share12B hgB hgA a o h left hpl w1 hw5 L1 _ hF1 bd (fun c => ⟨(fin c).1, by rw [(fin c).2]; exact hq L1 _ h1 (Or.inr rfl)⟩) (fun h3 L2 h2 hX => (ih (left + -1) (by grind) (by grind) (by grind) L2 (h1.trans h2)).1 (fun j hj => by rw [hX j hj, yR_S (c := 61) (C := 61) (N := 122) rfl (by decide) (ln h3).1 (ln h3).2 (by grind) (fun _ _ => rfl) j hj]))

set_option maxRecDepth 100000 in
theorem cs_shareA {n : Nat} {I : px_I} {L : px_L} {R : px_R} (hg : px_G n (cRA R)) (hg2 : px_G n (cRB R)) (a o h : Int32) (ha : 1 ≤ a ∧ a ≤ 12) (ho : -20 ≤ o ∧ o ≤ 20) (hW : cW I) : px_K M_X6_share [.ref 97, .int a, .int o, .int h] n I L (cRA R) (fun r n' I' L' R' => n' = n ∧ I' = I ∧ cSL L L' ∧ (R' = cRA R ∨ R' = cRB R) ∧ r = some (.long (cShr I a o h))) := by
  refine px_of (plainFor_of_name np_RX6) (fun _ _ _ => trivial) rfl ?_
  refine px_cVW (ci := 6) rfl q_X6_share_0 hg rfl trivial lk_6_32 nm_X6_startAt (cs_startAtA hg hg2 _ ho _ _) rfl rfl (px_lit hg rfl) rfl rfl rfl ⟨rfl, rfl⟩ ?_
  intro I4 L4 h4
  obtain ⟨rfl, h9, hF9⟩ := h4
  refine px_b rfl q_X6_share_7 hg rfl trivial ?_
  obtain ⟨n1, n2, n3⟩ := x12 ha
  exact px_go ((ls_share hg hg2 a o h ha ho hW L (fun L2 R2 h2 h3 => ⟨rfl, rfl, h2, h3, rfl⟩) (a - 1) (by grind) (by grind) _ h9).1 (fun j hj => by rw [n3, Nat.sub_self, hF9 j hj]; exact y0_x)) ⟨rfl, rfl, rfl, rfl, rfl, trivial⟩

set_option maxRecDepth 100000 in
theorem bs_chanceA {n : Nat} {I : px_I} {L : px_L} {R : px_R} (hg : px_G n (cRA R)) (hg2 : px_G n (cRB R)) (a o h : Int32) (hW : cW I) : px_K M_X11_chance [.ref 32, .int a, .int o, .int h] n I L (cRA R) (fun r n' I' L' R' => n' = n ∧ I' = I ∧ cSL L L' ∧ (R' = cRA R ∨ R' = cRB R) ∧ ∃ x, r = some (.long x) ∧ ((((1 ≤ a ∧ a ≤ 12) ∧ (-20 ≤ o ∧ o ≤ 20)) ∧ x = cShr I a o h) ∨ (¬ ((1 ≤ a ∧ a ≤ 12) ∧ (-20 ≤ o ∧ o ≤ 20)) ∧ x = -1))) := by
  refine px_of (plainFor_of_name np_RX11) (fun _ _ _ => trivial) rfl ?_
  refine px_cSP rfl q_X11_chance_0 hg rfl trivial lk_11_85 nm_X11_within (c_within hg _ _ _) rfl rfl rfl ⟨rfl, rfl⟩ ?_
  intro x4 h4
  refine px_eq rfl q_X11_chance_7 hg rfl trivial (fun c7 => ?_) (fun c7 => ?_)
  · replace h4 := px_bf h4 c7
    refine px_rl rfl q_X11_chance_21 rfl rfl rfl hg rfl trivial ?_
    exact ⟨rfl, rfl, cSL.rfl', Or.inl rfl, _, rfl, Or.inr ⟨by grind, rfl⟩⟩
  · replace h4 := px_bt h4 c7
    refine px_cSP rfl q_X11_chance_10 hg rfl trivial lk_11_85 nm_X11_within (c_within hg _ _ _) rfl rfl rfl ⟨rfl, rfl⟩ ?_
    intro x15 h15
    refine px_ne rfl q_X11_chance_18 hg rfl trivial (fun c18 => ?_) (fun c18 => ?_)
    · replace h15 := px_bt h15 c18
      refine px_cVG (ci := 6) rfl q_X11_chance_25 hg rfl trivial lk_11_255 nm_X6_share (cs_shareA hg hg2 _ _ _ (by grind) (by grind) hW) rfl rfl (px_lit hg rfl) rfl rfl rfl ?_
      intro r32 n32 I32 L32 R32 h32
      obtain ⟨rfl, rfl, h32a, h32b, rfl⟩ := h32
      have hg : px_G n32 R32 := by rcases h32b with z | z <;> (rw [z]; assumption)
      refine px_rl rfl q_X11_chance_35 rfl rfl rfl hg rfl trivial ?_
      exact ⟨rfl, rfl, by assumption, by assumption, _, rfl, Or.inl ⟨by grind, rfl⟩⟩
    · replace h15 := px_bf h15 c18
      refine px_rl rfl q_X11_chance_21 rfl rfl rfl hg rfl trivial ?_
      exact ⟨rfl, rfl, cSL.rfl', Or.inl rfl, _, rfl, Or.inr ⟨by grind, rfl⟩⟩

set_option maxRecDepth 100000 in
theorem cs_shareB {n : Nat} {I : px_I} {L : px_L} {R : px_R} (hg : px_G n (cRB R)) (hg2 : px_G n (cRA R)) (a o h : Int32) (ha : 1 ≤ a ∧ a ≤ 12) (ho : -20 ≤ o ∧ o ≤ 20) (hW : cW I) : px_K M_X6_share [.ref 97, .int a, .int o, .int h] n I L (cRB R) (fun r n' I' L' R' => n' = n ∧ I' = I ∧ cSL L L' ∧ (R' = cRA R ∨ R' = cRB R) ∧ r = some (.long (cShr I a o h))) := by
  refine px_of (plainFor_of_name np_RX6) (fun _ _ _ => trivial) rfl ?_
  refine px_cVW (ci := 6) rfl q_X6_share_0 hg rfl trivial lk_6_32 nm_X6_startAt (cs_startAtB hg hg2 _ ho _ _) rfl rfl (px_lit hg rfl) rfl rfl rfl ⟨rfl, rfl⟩ ?_
  intro I4 L4 h4
  obtain ⟨rfl, h9, hF9⟩ := h4
  refine px_b rfl q_X6_share_7 hg rfl trivial ?_
  obtain ⟨n1, n2, n3⟩ := x12 ha
  exact px_go ((ls_share hg2 hg a o h ha ho hW L (fun L2 R2 h2 h3 => ⟨rfl, rfl, h2, h3, rfl⟩) (a - 1) (by grind) (by grind) _ h9).2 (fun j hj => by rw [n3, Nat.sub_self, hF9 j hj]; exact y0_x)) ⟨rfl, rfl, rfl, rfl, rfl, trivial⟩

set_option maxRecDepth 100000 in
theorem bs_chanceB {n : Nat} {I : px_I} {L : px_L} {R : px_R} (hg : px_G n (cRB R)) (hg2 : px_G n (cRA R)) (a o h : Int32) (hW : cW I) : px_K M_X11_chance [.ref 32, .int a, .int o, .int h] n I L (cRB R) (fun r n' I' L' R' => n' = n ∧ I' = I ∧ cSL L L' ∧ (R' = cRA R ∨ R' = cRB R) ∧ ∃ x, r = some (.long x) ∧ ((((1 ≤ a ∧ a ≤ 12) ∧ (-20 ≤ o ∧ o ≤ 20)) ∧ x = cShr I a o h) ∨ (¬ ((1 ≤ a ∧ a ≤ 12) ∧ (-20 ≤ o ∧ o ≤ 20)) ∧ x = -1))) := by
  refine px_of (plainFor_of_name np_RX11) (fun _ _ _ => trivial) rfl ?_
  refine px_cSP rfl q_X11_chance_0 hg rfl trivial lk_11_85 nm_X11_within (c_within hg _ _ _) rfl rfl rfl ⟨rfl, rfl⟩ ?_
  intro x4 h4
  refine px_eq rfl q_X11_chance_7 hg rfl trivial (fun c7 => ?_) (fun c7 => ?_)
  · replace h4 := px_bf h4 c7
    refine px_rl rfl q_X11_chance_21 rfl rfl rfl hg rfl trivial ?_
    exact ⟨rfl, rfl, cSL.rfl', Or.inr rfl, _, rfl, Or.inr ⟨by grind, rfl⟩⟩
  · replace h4 := px_bt h4 c7
    refine px_cSP rfl q_X11_chance_10 hg rfl trivial lk_11_85 nm_X11_within (c_within hg _ _ _) rfl rfl rfl ⟨rfl, rfl⟩ ?_
    intro x15 h15
    refine px_ne rfl q_X11_chance_18 hg rfl trivial (fun c18 => ?_) (fun c18 => ?_)
    · replace h15 := px_bt h15 c18
      refine px_cVG (ci := 6) rfl q_X11_chance_25 hg rfl trivial lk_11_255 nm_X6_share (cs_shareB hg hg2 _ _ _ (by grind) (by grind) hW) rfl rfl (px_lit hg rfl) rfl rfl rfl ?_
      intro r32 n32 I32 L32 R32 h32
      obtain ⟨rfl, rfl, h32a, h32b, rfl⟩ := h32
      have hg : px_G n32 R32 := by rcases h32b with z | z <;> (rw [z]; assumption)
      refine px_rl rfl q_X11_chance_35 rfl rfl rfl hg rfl trivial ?_
      exact ⟨rfl, rfl, by assumption, by assumption, _, rfl, Or.inl ⟨by grind, rfl⟩⟩
    · replace h15 := px_bf h15 c18
      refine px_rl rfl q_X11_chance_21 rfl rfl rfl hg rfl trivial ?_
      exact ⟨rfl, rfl, cSL.rfl', Or.inr rfl, _, rfl, Or.inr ⟨by grind, rfl⟩⟩
