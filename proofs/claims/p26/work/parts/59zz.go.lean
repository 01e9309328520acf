/-! the end of a run -/
def cOx (I : px_I) (w : Nat) (zs : List (Int32 × Int32)) : Prop := I w 3 = Int32.ofNat (min zs.length 5001) ∧ ∃ s c q, cRx (fun j => I (w + 1) j.toNatClampNeg) (fun j => I (w + 2) j.toNatClampNeg) (I w 2) s c q 0 (I w 2) zs ∧ s ≤ 80 ∧ q ≤ 8
def cEnd (T : Nat → Int32) (zs : List (Int32 × Int32)) (h : Int32) (I2 : px_I) (L2 : px_L) : Prop := (I2 86 17 = 0 ∧ (5000 < zs.length ∨ fD T zs (V0 h) = none)) ∨ (I2 86 17 = 1 ∧ zs.length ≤ 5000 ∧ fD T zs (V0 h) = some (cV I2 L2))
theorem nice0 {h : Int32} (hs : 0 ≤ h ∧ h ≤ 15) : nice (V0 h) := by
  have h1 := Int32.le_iff_toInt_le.mp hs.1
  have h2 := Int32.le_iff_toInt_le.mp hs.2
  rw [show (0 : Int32).toInt = 0 by decide] at h1
  rw [show (15 : Int32).toInt = 15 by decide] at h2
  have z : ∀ k, k ≠ 7 → (V0 h k).toInt = 0 := fun k hk => by unfold V0; rw [if_neg hk]; decide
  have z7 : (V0 h 7).toInt = h.toInt := by
    show (h.toInt64).toInt = _
    rw [Int32.toInt_toInt64]
  refine ⟨fun k hk => ?_, fun k a b => ?_, ?_, ?_⟩
  · rw [z k (by omega)]; omega
  · rw [z k (by omega)]; omega
  · rw [z7]; omega
  · rw [z 8 (by decide)]; omega
theorem on5 {m : Nat} (h : m ≤ 5001) : Int32.ofNat m ≤ 5000 ↔ m ≤ 5000 := by
  rw [Int32.le_iff_toInt_le, Int32.toInt_ofNat_of_lt (by omega), show (5000 : Int32).toInt = 5000 by decide]
  omega
theorem cx_enter {w : Nat} {n : Nat} {R : px_R} (hg : px_G n R) (hw : cWay n w) (s : Int32) (hs : 0 ≤ s ∧ s ≤ 15) (h0 : w = 77 ∨ 147 ≤ w) {I I1 : px_I} {L L1 : px_L} (hv : cWv I w) (hT : tOk (cTl I)) {zs : List (Int32 × Int32)} (hz : cOx I w zs) (hb : cWI I I1 ∧ cWL L L1 ∧ I1 86 2 = 0 ∧ I1 86 15 = s ∧ cV I1 L1 = V0 s) (hc : I1 w 3 ≤ 5000) {Q : px_Q} (hq : ∀ I2 L2, cWI I I2 → cWL L L2 → cEnd (cTl I) zs s I2 L2 → Q none n I2 L2 R) : px M_X9_go 0 0 29 [(0, .ref 86), (1, .ref w), (2, .int s), (3, .int 0), (4, .int 0)] [] n (px_u I1 86 17 1) L1 R Q := by
  obtain ⟨b1, b2, b3, b4, b5⟩ := hb
  obtain ⟨z1, s9, c, q, hR, hs9, hq9⟩ := hz
  have e3 : I1 w 3 = I w 3 := b1 w 3 (by omega) (by omega) (by omega)
  have hl : zs.length ≤ 5000 := by
    rw [e3, z1, on5 (by omega)] at hc
    omega
  have eV : cV (px_u I1 86 17 1) L1 = V0 s := by rw [← b5]; exact cV_e (by simp [px_ur]) (by simp [px_ur])
  have hc9 := cRx_le hR
  have hm : (2 * s9 + 1) * zs.length ≤ 161 * 5000 := Nat.mul_le_mul (by omega) hl
  have hn := nice0 hs
  have v8 : (V0 s 8).toInt = 0 := by unfold V0; rw [if_neg (by decide)]; decide
  have hH : cHe I L 0 (px_u I1 86 17 1) L1 := ⟨by unfold cWk; simp [px_ur, b3, b4]; exact hs, b1.f _ _ (by decide), b2, by simp [px_ur, b3], by simp [px_ur], by rw [eV]; exact hn⟩
  refine cRx_sem h0 hv hT hR hg hw s L 0 (px_u I1 86 17 1) L1 hH (by decide) (by rw [show (0 : Int32).toInt = 0 by decide]; omega) (by rw [eV, v8]; omega) 0 (by omega) (fun hn2 I2 L2 a b d => ?_) (fun V hV I2 L2 hH2 hV2 _ _ => ?_)
  · exact hq I2 L2 a b (Or.inl ⟨d, Or.inr (by rw [← eV]; exact hn2)⟩)
  · refine cx_out hg hw s (hH2.2.1.wv h0 hv) _ _ (Or.inr (fun y => ?_)) (hq I2 L2 hH2.2.1 hH2.2.2.1 (Or.inr ⟨hH2.2.2.2.2.1, hl, by rw [← eV, hV, hV2]⟩))
    have e2 : I2 w 2 = I w 2 := hH2.2.1 w 2 (by omega) (by omega) (by omega)
    rw [e2] at y
    exact absurd y.2 (by grind)
theorem cx_never {w : Nat} {n : Nat} {R : px_R} (hg : px_G n R) (hw : cWay n w) (s : Int32) (hs : 0 ≤ s ∧ s ≤ 15) (h0 : w = 77 ∨ 147 ≤ w) {I I1 : px_I} {L L1 : px_L} (hv : cWv I w) {zs : List (Int32 × Int32)} {T : Nat → Int32} (hz : cOx I w zs) (hb : cWI I I1 ∧ cWL L L1 ∧ I1 86 2 = 0 ∧ I1 86 15 = s ∧ cV I1 L1 = V0 s) (hc : ¬ I1 w 3 ≤ 5000) {Q : px_Q} (hq : ∀ I2 L2, cWI I I2 → cWL L L2 → cEnd T zs s I2 L2 → Q none n I2 L2 R) : px M_X9_go 0 0 29 [(0, .ref 86), (1, .ref w), (2, .int s), (3, .int 0), (4, .int 0)] [] n (px_u I1 86 17 0) L1 R Q := by
  obtain ⟨b1, b2, b3, b4, b5⟩ := hb
  obtain ⟨z1, _⟩ := hz
  have e3 : I1 w 3 = I w 3 := b1 w 3 (by omega) (by omega) (by omega)
  have hl : 5000 < zs.length := by
    rw [e3, z1, on5 (by omega)] at hc
    omega
  have hI : cWI I (px_u I1 86 17 0) := b1.f _ _ (by decide)
  exact cx_out hg hw s (hI.wv h0 hv) _ _ (Or.inl (by simp [px_ur])) (hq _ _ hI b2 (Or.inl ⟨by simp [px_ur], Or.inl hl⟩))

set_option maxRecDepth 100000 in
theorem cs_begin {n : Nat} {I : px_I} {L : px_L} {R : px_R} (hg : px_G n R) (x : Int32) (hx : 0 ≤ x ∧ x ≤ 15) : px_KV M_X9_begin [.ref 86, .int x] n I L R (fun I2 L2 => cWI I I2 ∧ cWL L L2 ∧ I2 86 2 = 0 ∧ I2 86 15 = x ∧ cV I2 L2 = V0 x) := by
  refine px_of (plainFor_of_name np_RX9) (fun _ _ _ => trivial) rfl ?_
  refine px_rvW rfl q_X9_begin_0 rfl rfl rfl hg rfl trivial ⟨⟨rfl, rfl⟩, ?_⟩
  refine ⟨(by repeat (first | exact cWI.rfl' | with_reducible assumption | refine cWI.a7 ?_ _ _ | refine cWI.a8 ?_ _ _ | refine cWI.f ?_ _ _ (by decide))), (by repeat (first | exact cWL.rfl' | with_reducible assumption | refine cWL.u ?_ _ _)), by simp [px_ur], by simp [px_ur], ?_⟩
  exact by
    funext k
    unfold cV V0
    by_cases c : k < 7
    · rw [if_pos c, if_neg (by omega)]
      rcases (by omega : k = 0 ∨ k = 1 ∨ k = 2 ∨ k = 3 ∨ k = 4 ∨ k = 5 ∨ k = 6) with rfl | rfl | rfl | rfl | rfl | rfl | rfl <;> simp [px_ur]
    · rw [if_neg c]
      by_cases c7 : k = 7
      · rw [if_pos c7, if_pos c7]; simp [px_ur]
      · rw [if_neg c7, if_neg c7]
        by_cases c8 : k = 8
        · rw [if_pos c8]; simp [px_ur]
        · rw [if_neg c8]

set_option maxRecDepth 100000 in
theorem cx_go {n : Nat} {I : px_I} {L : px_L} {R : px_R} {w : Nat} (hg : px_G n R) (hw : cWay n w) (s : Int32) (hs : 0 ≤ s ∧ s ≤ 15) (h0 : w = 77 ∨ 147 ≤ w) (hv : cWv I w) (hT : tOk (cTl I)) {zs : List (Int32 × Int32)} (hz : cOx I w zs) : px_KV M_X9_go [.ref 86, .ref w, .int s] n I L R (fun I2 L2 => cWI I I2 ∧ cWL L L2 ∧ cEnd (cTl I) zs s I2 L2) := by
  refine px_of (plainFor_of_name np_RX9) (fun _ _ _ => trivial) rfl ?_
  refine px_cVW (ci := 9) rfl q_X9_go_0 hg rfl trivial lk_9_67 nm_X9_begin (cs_begin hg _ hs) rfl rfl (px_lit hg rfl) rfl rfl rfl ⟨rfl, rfl⟩ ?_
  intro I2 L2 h2
  refine px_igt rfl q_X9_go_5 hg rfl ⟨trivial, (by first | exact hw.1 | exact Or.inl rfl | exact Or.inr rfl)⟩ (fun c13 => ?_) (fun c13 => ?_)
  · refine px_b rfl q_X9_go_20 hg rfl ⟨trivial, (by first | exact hw.1 | exact Or.inl rfl | exact Or.inr rfl)⟩ ?_
    first
      | exact px_go (cx_enter hg hw s hs h0 hv hT hz h2 (by first | assumption | exact Int32.not_lt.mp (by assumption)) (fun I2 L2 a b c => ⟨rfl, rfl, rfl, a, b, c⟩)) ⟨rfl, rfl, rfl, rfl, rfl, trivial⟩
      | exact px_go (cx_never hg hw s hs h0 hv hz h2 (by first | assumption | exact Int32.not_le.mpr (by assumption)) (fun I2 L2 a b c => ⟨rfl, rfl, rfl, a, b, c⟩)) ⟨rfl, rfl, rfl, rfl, rfl, trivial⟩
  · refine px_b rfl q_X9_go_16 hg rfl ⟨trivial, (by first | exact hw.1 | exact Or.inl rfl | exact Or.inr rfl)⟩ ?_
    first
      | exact px_go (cx_enter hg hw s hs h0 hv hT hz h2 (by first | assumption | exact Int32.not_lt.mp (by assumption)) (fun I2 L2 a b c => ⟨rfl, rfl, rfl, a, b, c⟩)) ⟨rfl, rfl, rfl, rfl, rfl, trivial⟩
      | exact px_go (cx_never hg hw s hs h0 hv hz h2 (by first | assumption | exact Int32.not_le.mpr (by assumption)) (fun I2 L2 a b c => ⟨rfl, rfl, rfl, a, b, c⟩)) ⟨rfl, rfl, rfl, rfl, rfl, trivial⟩
