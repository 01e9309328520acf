/-! which ways were told, as a set -/
def twB (f : Nat → Bool) : Nat → Int32
  | 0 => 0
  | k + 1 => if f k = true then twB f k ||| ((1 : Int32) <<< (Int32.ofNat k &&& 31)) else twB f k
def twK (I : px_I) : Nat → Int32
  | 0 => 0
  | k + 1 => twK I k ||| (I 129 k <<< (Int32.ofNat k &&& 31))
def bAb (R : px_R) (I : px_I) (w : Int32) : Int32 := if w = 0 then I 32 10 else if w = 1 then I 33 7 else if w = 2 then I 33 8 else if w = 3 then I 41 13 else if w = 4 then I 55 13 else if w = 5 then I 41 14 + I 55 14 else if w = 6 then I 69 0 else if w = 7 then twB (fun k => (R 89 k).isSome) 6 else if w = 8 then I 41 15 + I 55 15 else if w = 9 then I 101 2 else if w = 10 then I 70 5 else if 20 ≤ w ∧ w ≤ 29 then I 102 (w - 20).toNatClampNeg else -1
def kAb (I : px_I) (w : Int32) : Int32 := if 20 ≤ w ∧ w ≤ 29 then I 138 (w - 20).toNatClampNeg else if w = 0 then I 103 0 else if w = 1 then I 103 1 else if w = 2 then I 103 2 else if w = 3 then I 110 0 else if w = 4 then I 110 1 else if w = 5 then I 103 16 else if w = 6 then I 103 21 else if w = 7 then twK I 6 else if w = 8 then I 103 63 else if w = 9 then I 103 68 else if w = 10 then I 103 25 else -1
theorem twB_up {f : Nat → Bool} {i : Int32} (h0 : 0 ≤ i) (h1 : i < 6) : twB f (i + 1).toNatClampNeg = if f i.toNatClampNeg = true then twB f i.toNatClampNeg ||| ((1 : Int32) <<< (i &&& 31)) else twB f i.toNatClampNeg := by
  have e := px_tnS h0 (by grind)
  rw [e.1]
  show (if f i.toNatClampNeg = true then twB f i.toNatClampNeg ||| ((1 : Int32) <<< (Int32.ofNat i.toNatClampNeg &&& 31)) else twB f i.toNatClampNeg) = _
  rw [e.2]
theorem twK_up {I : px_I} {i : Int32} (h0 : 0 ≤ i) (h1 : i < 6) : twK I (i + 1).toNatClampNeg = twK I i.toNatClampNeg ||| (I 129 i.toNatClampNeg <<< (i &&& 31)) := by
  have e := px_tnS h0 (by grind)
  rw [e.1]
  show twK I i.toNatClampNeg ||| (I 129 i.toNatClampNeg <<< (Int32.ofNat i.toNatClampNeg &&& 31)) = _
  rw [e.2]
theorem tw_same {f : Nat → Bool} {I : px_I} (h : ∀ k : Nat, k < 6 → I 129 k = (if f k = true then 1 else 0)) : twB f 6 = twK I 6 := by
  have z : ∀ k, k < 6 → (0 : Int32) <<< (Int32.ofNat k &&& 31) = 0 := by decide
  have o : ∀ x : Int32, x ||| 0 = x := fun x => by rw [← Int32.toBitVec_inj, Int32.toBitVec_or]; exact BitVec.or_zero
  have key : ∀ k, k ≤ 6 → twB f k = twK I k := by
    intro k
    induction k with
    | zero => intro _; rfl
    | succ k ih =>
      intro hk
      show (if f k = true then twB f k ||| ((1 : Int32) <<< (Int32.ofNat k &&& 31)) else twB f k) = twK I k ||| (I 129 k <<< (Int32.ofNat k &&& 31))
      rw [ih (by omega), h k (by omega)]
      by_cases c : f k = true
      · rw [if_pos c, if_pos c]
      · rw [if_neg c, if_neg c, z k (by omega), o]
  exact key 6 (Nat.le_refl _)

set_option maxRecDepth 100000 in
theorem ls_toldWays {n : Nat} {R : px_R} (hg : px_G n R) {Q : px_Q} {I : px_I} {L : px_L} (hq : Q (some (.int (twB (fun k => (R 89 k).isSome) 6))) n I L R) : ∀ i : Int32, i ≤ 6 → 0 ≤ i → px M_X5_toldWays 0 0 4 [(0, .ref 85), (1, .int (twB (fun k => (R 89 k).isSome) i.toNatClampNeg)), (2, .int i)] [] n I L R Q := by
  refine px_up 6 (fun i ih hi => ?_)
  intro h0
  refine px_ige rfl q_X5_toldWays_4 hg rfl trivial (fun c7 => ?_) (fun c7 => ?_)
  · refine px_ri rfl q_X5_toldWays_30 rfl rfl rfl hg rfl trivial ?_
    have e9 : i = 6 := by grind
    subst e9
    exact hq
  · refine px_cVP (ci := 5) rfl q_X5_toldWays_10 hg rfl trivial lk_5_36 nm_X5_isTold (c_isTold hg _) rfl rfl (px_lit hg rfl) rfl rfl rfl ⟨rfl, rfl⟩ ?_
    intro x12 h12
    refine px_eq rfl q_X5_toldWays_15 hg rfl trivial (fun c15 => ?_) (fun c15 => ?_)
    · replace h12 := px_bf h12 c15
      refine px_b rfl q_X5_toldWays_24 hg rfl trivial ?_
      have up := twB_up (f := fun k => (R 89 k).isSome) h0 (show i < 6 by grind)
      have k9 := ih (i + 1) (by grind) (by grind) (by grind)
      rw [up, if_neg (by have z := h12; grind)] at k9
      exact px_go k9 ⟨rfl, rfl, rfl, trivial⟩
    · replace h12 := px_bt h12 c15
      refine px_b rfl q_X5_toldWays_18 hg rfl trivial ?_
      have up := twB_up (f := fun k => (R 89 k).isSome) h0 (show i < 6 by grind)
      have k9 := ih (i + 1) (by grind) (by grind) (by grind)
      rw [up, if_pos (by have z := h12; exact Option.isSome_iff_ne_none.mpr z.2)] at k9
      exact px_go k9 ⟨rfl, rfl, rfl, trivial⟩

set_option maxRecDepth 100000 in
theorem cs_toldWays {n : Nat} {I : px_I} {L : px_L} {R : px_R} (hg : px_G n R)  : px_KP M_X5_toldWays [.ref 85] n I L R (fun r => r = twB (fun k => (R 89 k).isSome) 6) := by
  refine px_of (plainFor_of_name np_RX5) (fun _ _ _ => trivial) rfl ?_
  refine px_b rfl q_X5_toldWays_0 hg rfl trivial ?_
  exact px_go (ls_toldWays hg ⟨rfl, rfl, _, rfl, rfl, rfl, rfl⟩ 0 (by decide) (by decide)) ⟨rfl, rfl, rfl, trivial⟩

set_option maxRecDepth 100000 in
theorem bs_about {n : Nat} {I : px_I} {L : px_L} {R : px_R} (hg : px_G n R) (w : Int32) : px_KP M_X11_about [.ref 32, .int w] n I L R (fun r => r = bAb R I w) := by
  refine px_of (plainFor_of_name np_RX11) (fun _ _ _ => trivial) rfl ?_
  refine px_b rfl q_X11_about_0 hg rfl trivial ?_
  by_cases s1_0 : w = 0
  · refine px_swI (tgt := 60) (off := 59) q_X11_about_1S s1_0 (by decide) (by decide) (by decide) (by decide) ?_
    refine px_riP rfl q_X11_about_60 rfl rfl rfl hg rfl trivial ⟨⟨rfl, rfl, rfl, rfl⟩, ?_⟩
    unfold bAb
    grind
  by_cases s1_1 : w = 1
  · refine px_swI (tgt := 65) (off := 64) q_X11_about_1S s1_1 (by decide) (by decide) (by decide) (by decide) ?_
    refine px_riP rfl q_X11_about_65 rfl rfl rfl hg rfl trivial ⟨⟨rfl, rfl, rfl, rfl⟩, ?_⟩
    unfold bAb
    grind
  by_cases s1_2 : w = 2
  · refine px_swI (tgt := 73) (off := 72) q_X11_about_1S s1_2 (by decide) (by decide) (by decide) (by decide) ?_
    refine px_riP rfl q_X11_about_73 rfl rfl rfl hg rfl trivial ⟨⟨rfl, rfl, rfl, rfl⟩, ?_⟩
    unfold bAb
    grind
  by_cases s1_3 : w = 3
  · refine px_swI (tgt := 81) (off := 80) q_X11_about_1S s1_3 (by decide) (by decide) (by decide) (by decide) ?_
    refine px_riP rfl q_X11_about_81 rfl rfl rfl hg rfl trivial ⟨⟨rfl, rfl, rfl, rfl⟩, ?_⟩
    unfold bAb
    grind
  by_cases s1_4 : w = 4
  · refine px_swI (tgt := 89) (off := 88) q_X11_about_1S s1_4 (by decide) (by decide) (by decide) (by decide) ?_
    refine px_riP rfl q_X11_about_89 rfl rfl rfl hg rfl trivial ⟨⟨rfl, rfl, rfl, rfl⟩, ?_⟩
    unfold bAb
    grind
  by_cases s1_5 : w = 5
  · refine px_swI (tgt := 97) (off := 96) q_X11_about_1S s1_5 (by decide) (by decide) (by decide) (by decide) ?_
    refine px_cVP (ci := 11) rfl q_X11_about_97 hg rfl trivial lk_11_138 nm_X11_marks (b_marks hg) rfl rfl (px_lit hg rfl) rfl rfl rfl ⟨rfl, rfl⟩ ?_
    intro x98 h98
    refine px_riP rfl q_X11_about_101 rfl rfl rfl hg rfl trivial ⟨⟨rfl, rfl, rfl, rfl⟩, ?_⟩
    unfold bAb
    grind
  by_cases s1_6 : w = 6
  · refine px_swI (tgt := 102) (off := 101) q_X11_about_1S s1_6 (by decide) (by decide) (by decide) (by decide) ?_
    refine px_riP rfl q_X11_about_102 rfl rfl rfl hg rfl trivial ⟨⟨rfl, rfl, rfl, rfl⟩, ?_⟩
    unfold bAb
    grind
  by_cases s1_7 : w = 7
  · refine px_swI (tgt := 110) (off := 109) q_X11_about_1S s1_7 (by decide) (by decide) (by decide) (by decide) ?_
    refine px_cVP (ci := 5) rfl q_X11_about_110 hg rfl trivial lk_11_291 nm_X5_toldWays (cs_toldWays hg) rfl rfl (px_lit hg rfl) rfl rfl rfl ⟨rfl, rfl⟩ ?_
    intro x114 h114
    refine px_riP rfl q_X11_about_117 rfl rfl rfl hg rfl trivial ⟨⟨rfl, rfl, rfl, rfl⟩, ?_⟩
    unfold bAb
    grind
  by_cases s1_8 : w = 8
  · refine px_swI (tgt := 118) (off := 117) q_X11_about_1S s1_8 (by decide) (by decide) (by decide) (by decide) ?_
    refine px_cVP (ci := 11) rfl q_X11_about_118 hg rfl trivial lk_11_266 nm_X11_repairs (b_repairs hg) rfl rfl (px_lit hg rfl) rfl rfl rfl ⟨rfl, rfl⟩ ?_
    intro x119 h119
    refine px_riP rfl q_X11_about_122 rfl rfl rfl hg rfl trivial ⟨⟨rfl, rfl, rfl, rfl⟩, ?_⟩
    unfold bAb
    grind
  by_cases s1_9 : w = 9
  · refine px_swI (tgt := 123) (off := 122) q_X11_about_1S s1_9 (by decide) (by decide) (by decide) (by decide) ?_
    refine px_riP rfl q_X11_about_123 rfl rfl rfl hg rfl trivial ⟨⟨rfl, rfl, rfl, rfl⟩, ?_⟩
    unfold bAb
    grind
  by_cases s1_10 : w = 10
  · refine px_swI (tgt := 131) (off := 130) q_X11_about_1S s1_10 (by decide) (by decide) (by decide) (by decide) ?_
    refine px_riP rfl q_X11_about_131 rfl rfl rfl hg rfl trivial ⟨⟨rfl, rfl, rfl, rfl⟩, ?_⟩
    unfold bAb
    grind
  refine px_swO (tgt := 139) q_X11_about_1S (px_out 0 10 (by decide) (fun k9 h8 h9 => ?_)) (by decide) ?_
  · match k9, h8, h9 with
    | 0, _, _ => exact s1_0
    | 1, _, _ => exact s1_1
    | 2, _, _ => exact s1_2
    | 3, _, _ => exact s1_3
    | 4, _, _ => exact s1_4
    | 5, _, _ => exact s1_5
    | 6, _, _ => exact s1_6
    | 7, _, _ => exact s1_7
    | 8, _, _ => exact s1_8
    | 9, _, _ => exact s1_9
    | 10, _, _ => exact s1_10
    | k9 + 11, _, h9 => exact absurd h9 (by omega)
  refine px_cSP rfl q_X11_about_139 hg rfl trivial lk_11_85 nm_X11_within (c_within hg _ _ _) rfl rfl rfl ⟨rfl, rfl⟩ ?_
  intro x144 h144
  refine px_eq rfl q_X11_about_147 hg rfl trivial (fun c147 => ?_) (fun c147 => ?_)
  · replace h144 := px_bf h144 c147
    refine px_riP rfl q_X11_about_164 rfl rfl rfl hg rfl trivial ⟨⟨rfl, rfl, rfl, rfl⟩, ?_⟩
    unfold bAb
    grind
  · replace h144 := px_bt h144 c147
    refine px_cVP (ci := 0) rfl q_X11_about_150 hg rfl trivial lk_11_294 nm_X0_rowOf (c_rowOf hg _) rfl rfl (px_lit hg rfl) rfl rfl rfl ⟨rfl, rfl⟩ ?_
    intro x158 h158
    refine px_riP rfl q_X11_about_161 rfl rfl rfl hg rfl trivial ⟨⟨rfl, rfl, rfl, rfl⟩, ?_⟩
    unfold bAb
    grind

set_option maxRecDepth 100000 in
theorem ls_about {n : Nat} {R : px_R} (hg : px_G n R) {Q : px_Q} (w : Int32) (hw : ¬ (20 ≤ w ∧ w ≤ 29)) {I : px_I} {L : px_L} (hq : ∀ r, r = kAb I w → Q (some (.int r)) n I L R) : ∀ i : Int32, i ≤ 6 → 0 ≤ i → px M_X12_about 0 0 28 [(0, .ref 103), (1, .int w), (2, .int (twK I i.toNatClampNeg)), (3, .int i)] [] n I L R Q := by
  refine px_up _ (fun i ih hi => ?_)
  intro h0
  refine px_ige rfl q_X12_about_28 hg rfl trivial (fun c31 => ?_) (fun c31 => ?_)
  · refine px_b rfl q_X12_about_51 hg rfl trivial ?_
    by_cases s52_0 : w = 0
    · refine px_swI (tgt := 112) (off := 60) q_X12_about_52S s52_0 (by decide) (by decide) (by decide) (by decide) ?_
      refine px_ri rfl q_X12_about_112 rfl rfl rfl hg rfl trivial ?_
      have e9 : i = 6 := by grind
      refine hq _ ?_
      unfold kAb
      rw [if_neg hw]
      subst e9
      first | (simp only [show (6 : Int32).toNatClampNeg = 6 by decide] at *; grind) | grind
    by_cases s52_1 : w = 1
    · refine px_swI (tgt := 117) (off := 65) q_X12_about_52S s52_1 (by decide) (by decide) (by decide) (by decide) ?_
      refine px_ri rfl q_X12_about_117 rfl rfl rfl hg rfl trivial ?_
      have e9 : i = 6 := by grind
      refine hq _ ?_
      unfold kAb
      rw [if_neg hw]
      subst e9
      first | (simp only [show (6 : Int32).toNatClampNeg = 6 by decide] at *; grind) | grind
    by_cases s52_2 : w = 2
    · refine px_swI (tgt := 122) (off := 70) q_X12_about_52S s52_2 (by decide) (by decide) (by decide) (by decide) ?_
      refine px_ri rfl q_X12_about_122 rfl rfl rfl hg rfl trivial ?_
      have e9 : i = 6 := by grind
      refine hq _ ?_
      unfold kAb
      rw [if_neg hw]
      subst e9
      first | (simp only [show (6 : Int32).toNatClampNeg = 6 by decide] at *; grind) | grind
    by_cases s52_3 : w = 3
    · refine px_swI (tgt := 127) (off := 75) q_X12_about_52S s52_3 (by decide) (by decide) (by decide) (by decide) ?_
      refine px_ri rfl q_X12_about_127 rfl rfl rfl hg rfl ⟨trivial, (by first | decide | (refine ⟨?_, ?_⟩ <;> grind) | grind)⟩ ?_
      have e9 : i = 6 := by grind
      refine hq _ ?_
      unfold kAb
      rw [if_neg hw]
      subst e9
      first | (simp only [show (6 : Int32).toNatClampNeg = 6 by decide] at *; grind) | grind
    by_cases s52_4 : w = 4
    · refine px_swI (tgt := 134) (off := 82) q_X12_about_52S s52_4 (by decide) (by decide) (by decide) (by decide) ?_
      refine px_ri rfl q_X12_about_134 rfl rfl rfl hg rfl ⟨trivial, (by first | decide | (refine ⟨?_, ?_⟩ <;> grind) | grind)⟩ ?_
      have e9 : i = 6 := by grind
      refine hq _ ?_
      unfold kAb
      rw [if_neg hw]
      subst e9
      first | (simp only [show (6 : Int32).toNatClampNeg = 6 by decide] at *; grind) | grind
    by_cases s52_5 : w = 5
    · refine px_swI (tgt := 141) (off := 89) q_X12_about_52S s52_5 (by decide) (by decide) (by decide) (by decide) ?_
      refine px_ri rfl q_X12_about_141 rfl rfl rfl hg rfl trivial ?_
      have e9 : i = 6 := by grind
      refine hq _ ?_
      unfold kAb
      rw [if_neg hw]
      subst e9
      first | (simp only [show (6 : Int32).toNatClampNeg = 6 by decide] at *; grind) | grind
    by_cases s52_6 : w = 6
    · refine px_swI (tgt := 146) (off := 94) q_X12_about_52S s52_6 (by decide) (by decide) (by decide) (by decide) ?_
      refine px_ri rfl q_X12_about_146 rfl rfl rfl hg rfl trivial ?_
      have e9 : i = 6 := by grind
      refine hq _ ?_
      unfold kAb
      rw [if_neg hw]
      subst e9
      first | (simp only [show (6 : Int32).toNatClampNeg = 6 by decide] at *; grind) | grind
    by_cases s52_7 : w = 7
    · refine px_swI (tgt := 151) (off := 99) q_X12_about_52S s52_7 (by decide) (by decide) (by decide) (by decide) ?_
      refine px_ri rfl q_X12_about_151 rfl rfl rfl hg rfl trivial ?_
      have e9 : i = 6 := by grind
      refine hq _ ?_
      unfold kAb
      rw [if_neg hw]
      subst e9
      first | (simp only [show (6 : Int32).toNatClampNeg = 6 by decide] at *; grind) | grind
    by_cases s52_8 : w = 8
    · refine px_swI (tgt := 153) (off := 101) q_X12_about_52S s52_8 (by decide) (by decide) (by decide) (by decide) ?_
      refine px_ri rfl q_X12_about_153 rfl rfl rfl hg rfl trivial ?_
      have e9 : i = 6 := by grind
      refine hq _ ?_
      unfold kAb
      rw [if_neg hw]
      subst e9
      first | (simp only [show (6 : Int32).toNatClampNeg = 6 by decide] at *; grind) | grind
    by_cases s52_9 : w = 9
    · refine px_swI (tgt := 158) (off := 106) q_X12_about_52S s52_9 (by decide) (by decide) (by decide) (by decide) ?_
      refine px_ri rfl q_X12_about_158 rfl rfl rfl hg rfl trivial ?_
      have e9 : i = 6 := by grind
      refine hq _ ?_
      unfold kAb
      rw [if_neg hw]
      subst e9
      first | (simp only [show (6 : Int32).toNatClampNeg = 6 by decide] at *; grind) | grind
    by_cases s52_10 : w = 10
    · refine px_swI (tgt := 163) (off := 111) q_X12_about_52S s52_10 (by decide) (by decide) (by decide) (by decide) ?_
      refine px_ri rfl q_X12_about_163 rfl rfl rfl hg rfl trivial ?_
      have e9 : i = 6 := by grind
      refine hq _ ?_
      unfold kAb
      rw [if_neg hw]
      subst e9
      first | (simp only [show (6 : Int32).toNatClampNeg = 6 by decide] at *; grind) | grind
    refine px_swO (tgt := 168) q_X12_about_52S (px_out 0 10 (by decide) (fun k9 h8 h9 => ?_)) (by decide) ?_
    · match k9, h8, h9 with
      | 0, _, _ => exact s52_0
      | 1, _, _ => exact s52_1
      | 2, _, _ => exact s52_2
      | 3, _, _ => exact s52_3
      | 4, _, _ => exact s52_4
      | 5, _, _ => exact s52_5
      | 6, _, _ => exact s52_6
      | 7, _, _ => exact s52_7
      | 8, _, _ => exact s52_8
      | 9, _, _ => exact s52_9
      | 10, _, _ => exact s52_10
      | k9 + 11, _, h9 => exact absurd h9 (by omega)
    refine px_ri rfl q_X12_about_168 rfl rfl rfl hg rfl trivial ?_
    have e9 : i = 6 := by grind
    refine hq _ ?_
    unfold kAb
    rw [if_neg hw]
    subst e9
    first | (simp only [show (6 : Int32).toNatClampNeg = 6 by decide] at *; grind) | grind
  · refine px_b rfl q_X12_about_34 hg rfl ⟨trivial, (by first | decide | (refine ⟨?_, ?_⟩ <;> grind) | grind)⟩ ?_
    have up := twK_up (I := I) h0 (show i < 6 by grind)
    have k9 := ih (i + 1) (by grind) (by grind) (by grind)
    rw [up] at k9
    exact px_go k9 ⟨rfl, rfl, rfl, rfl, trivial⟩

set_option maxRecDepth 100000 in
theorem ks_about {n : Nat} {I : px_I} {L : px_L} {R : px_R} (hg : px_G n R) (w : Int32) : px_KP M_X12_about [.ref 103, .int w] n I L R (fun r => r = kAb I w) := by
  refine px_of (plainFor_of_name np_RX12) (fun _ _ _ => trivial) rfl ?_
  refine px_cSP rfl q_X12_about_0 hg rfl trivial lk_12_167 nm_X12_in (k_inI hg _ (20) (29) (by decide) (by decide)) rfl rfl rfl ⟨rfl, rfl⟩ ?_
  intro x8 h8
  refine px_eq rfl q_X12_about_11 hg rfl trivial (fun c11 => ?_) (fun c11 => ?_)
  · replace h8 := px_bf h8 c11
    refine px_b rfl q_X12_about_24 hg rfl trivial ?_
    exact px_go (ls_about hg w (by assumption) (fun r hr => ⟨rfl, rfl, r, rfl, rfl, rfl, hr⟩) 0 (by decide) (by decide)) ⟨rfl, rfl, rfl, rfl, trivial⟩
  · replace h8 := px_bt h8 c11
    refine px_riP rfl q_X12_about_14 rfl rfl rfl hg rfl ⟨trivial, (by first | decide | (refine ⟨?_, ?_⟩ <;> grind) | grind)⟩ ⟨⟨rfl, rfl, rfl, rfl⟩, ?_⟩
    unfold kAb
    grind

def pbs_about (R : px_R) (w : Int32) (I : px_I) (L : px_L) : Int32 → px_I → px_L → Prop := fun x I2 L2 => I2 = I ∧ L2 = L ∧ (fun r => r = bAb R I w) x
def pks_about (w : Int32) (I : px_I) (L : px_L) : Int32 → px_I → px_L → Prop := fun x I2 L2 => I2 = I ∧ L2 = L ∧ (fun r => r = kAb I w) x
theorem pbs_about.old {w x : Int32} {I I2 : px_I} {L L2 : px_L} {R : px_R} (q : pbs_about R w I L x I2 L2) : pb_about w I L x I2 L2 := ⟨q.1, q.2.1, trivial⟩
theorem pks_about.old {w x : Int32} {I I2 : px_I} {L L2 : px_L} (q : pks_about w I L x I2 L2) : pk_about w I L x I2 L2 := ⟨q.1, q.2.1, trivial⟩
theorem jbs_about {n : Nat} {I : px_I} {L : px_L} {R : px_R} (hj : jJ n I R) (w : Int32) : px_K M_X11_about [.ref 32, .int w] n I L R (jB n I L (kR R) (pbs_about R w I L)) := jP (bs_about hj.g w) hj
theorem jks_about {n : Nat} {I : px_I} {L : px_L} {R : px_R} (hj : jJ n I R) (w : Int32) : px_K M_X12_about [.ref 103, .int w] n I L R (jK n I L R (pks_about w I L)) := jKP (ks_about hj.g w) hj



set_option maxRecDepth 100000 in
theorem lcs_about {N : Nat} {xs : Nat → Int32} {n cu su : Nat} {I : px_I} {L : px_L} {R : px_R} {Q : px_Q} {i : Int32} (hi : lwI N i) (hcu : cu ≤ 490000) (hsu : su ≤ 6900000) (hj : jJ n I R) (he : ∀ (x : Int32) (n2 : Nat) I2 L2 (y : Int32) I3 L3, frB I I2 L L2 → pbs_about R (ag xs i 1) I L x I2 L2 → frK I2 I3 L2 L3 → pks_about (ag xs i 1) I2 L2 y I3 L3 → x = y) (kk : ∀ (x : Int32) (n2 : Nat) I2 L2 R2 (y : Int32) I3 L3, jJ n2 I3 R2 → frB I I2 L L2 → kR R I2 R2 → pbs_about R (ag xs i 1) I L x I2 L2 → frK I2 I3 L2 L3 → pks_about (ag xs i 1) I2 L2 y I3 L3 → px (M_law N xs) (cu + 3) (su + 404) 1868 (lwL i) [] n2 I3 L3 R2 Q) : px (M_law N xs) cu su 1845 (lwL i) [] n I L R Q := by
  have hg := hj.g
  refine px_b (on := 13) rfl q_law_1845 hg rfl trivial ?_
  refine px_argC q_law_1846 hg hi (by decide) ?_
  refine px_kB q_law_1851 lk_13_163 nm_X11_about (jbs_about hj _) rfl rfl hg rfl (rkL rfl rfl rfl rfl (by omega) (by omega) rfl) ?_
  intro x n2 I2 L2 R2 hj2 f1 fR p1
  have hg := hj2.g
  refine px_b (on := 13) rfl q_law_1854 hg rfl trivial ?_
  refine px_argC q_law_1855 hg hi (by decide) ?_
  refine px_kK q_law_1860 lk_13_166 nm_X12_about (jks_about hj2 _) rfl rfl hg rfl (rkL rfl rfl rfl rfl (by show cu + 0 ≤ 500000; omega) (by show su + 0 ≤ 7000000; omega) rfl) ?_
  intro y I3 L3 hj3 f2 p2
  have hg := hj3.g
  refine px_ieq (on := 13) rfl q_law_1863 hg rfl trivial (fun c => ?_) (fun c => ?_)
  · exact px_wid (cu2 := cu + 3) (su2 := su + 404) (by show cu + 0 + 0 ≤ cu + 3; omega) (by show su + 0 + 0 ≤ su + 404; omega) (kk x n2 I2 L2 R2 y I3 L3 hj3 f1 fR p1 f2 p2)
  · exact absurd (he x n2 I2 L2 y I3 L3 f1 p1 f2 p2) c
