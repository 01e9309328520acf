/-! one step of a way: what it does to the nine numbers -/
def aQ (q : Int32) : Int32 := if q = 0 then 1000 else if q = 1 then 924 else if q = 2 then 707 else if q = 3 then 383 else if q = 4 then 0 else if q = 5 then -383 else if q = 6 then -707 else -924
def aH (x : Int32) : Int32 := x - x / 16 * 16
def aR (x : Int32) : Int32 := if aH x < 8 then aQ (aH x - aH x / 8 * 8) else 0 - aQ (aH x - aH x / 8 * 8)
def wUp (v b : Int64) : Int64 := (v + b - 1) / b
def wAb (x : Int32) : Int32 := if x < 0 then 0 - x else x
/-- the tools -/
def tR (I : px_I) (k : Nat) : Int32 := I 103 (47 + k)
def gO (T : Nat → Int32) (V : Nat → Int64) (n : Int32) : Nat → Int64 := fun k =>
  if k = 0 then V 0 + n.toInt64 * (aR (V 7).toInt32).toInt64
  else if k = 1 then V 1 + n.toInt64 * (aR ((V 7).toInt32 + 12)).toInt64
  else if k = 3 then V 3 + wUp (wUp (n.toInt64 * (T 0).toInt64) 10 * (wAb (aR (V 7).toInt32)).toInt64 + wUp (n.toInt64 * V 6) 10 * (wAb (aR ((V 7).toInt32 + 12))).toInt64) 1000
  else if k = 4 then V 4 + wUp (wUp (n.toInt64 * (T 0).toInt64) 10 * (wAb (aR ((V 7).toInt32 + 12))).toInt64 + wUp (n.toInt64 * V 6) 10 * (wAb (aR (V 7).toInt32)).toInt64) 1000
  else if k = 5 then V 5 + wUp (n.toInt64 * (T 1).toInt64) 10
  else V k
def wMn (a b : Int64) : Int64 := if b < a then b else a
def rDo (T : Nat → Int32) (o v : Int32) (V : Nat → Int64) : Nat → Int64 :=
  if o = 1 then gO T V v
  else if o = 2 then fun k => if k = 7 then V 7 + v.toInt64 - (V 7 + v.toInt64) / 16 * 16 else if k = 6 then V 6 + (T 2).toInt64 else V k
  else if o = 3 then fun k => if k = 2 then V 2 + v.toInt64 else V k
  else if o = 4 then fun k => if k = 2 then V 2 - v.toInt64 else V k
  else if o = 5 then fun k => if k = 3 then wMn (V 3) (T 3).toInt64 else if k = 4 then wMn (V 4) (T 3).toInt64 else if k = 6 then wMn (V 6) (T 2).toInt64 else V k
  else if o = 6 then fun k => if k = 6 then wMn (V 6) (T 4).toInt64 else V k
  else V
def rSt (T : Nat → Int32) (o v : Int32) (V : Nat → Int64) : Nat → Int64 := rDo T o v (fun k => if k = 8 then V 8 + 1 else V k)
def rBy1 (V : Nat → Int64) (k : Nat) : Prop := 100000000 < V k ∨ V k < -100000000
def rByN (V : Nat → Int64) : Nat → Prop
  | 0 => 5000 < V 8
  | k + 1 => rByN V k ∨ rBy1 V k
def rBy (V : Nat → Int64) : Prop := rByN V 7
theorem rBy_up {V : Nat → Int64} {i : Int32} (h0 : 0 ≤ i) (h1 : i < 7) : rByN V (i + 1).toNatClampNeg ↔ (rByN V i.toNatClampNeg ∨ (100000000 < V i.toNatClampNeg ∨ V i.toNatClampNeg < -100000000)) := by
  rw [(px_tnS h0 (by grind)).1]
  exact Iff.rfl

set_option maxRecDepth 100000 in
theorem ks_along {n : Nat} {I : px_I} {L : px_L} {R : px_R} (hg : px_G n R) (x : Int32) : px_KP M_X12_along [.int x] n I L R (fun r => r = aR x) := by
  refine px_of (plainFor_of_name np_RX12) (fun _ _ _ => trivial) rfl ?_
  refine px_ne rfl q_X12_along_0 hg rfl ⟨⟨trivial, (by first | decide | (refine ⟨?_, ?_⟩ <;> grind) | grind)⟩, (by first | decide | (refine ⟨?_, ?_⟩ <;> grind) | grind)⟩ (fun c11 => ?_) (fun c11 => ?_)
  · refine px_ine rfl q_X12_along_20 hg rfl trivial (fun c22 => ?_) (fun c22 => ?_)
    · refine px_ine rfl q_X12_along_31 hg rfl trivial (fun c33 => ?_) (fun c33 => ?_)
      · refine px_ine rfl q_X12_along_42 hg rfl trivial (fun c44 => ?_) (fun c44 => ?_)
        · refine px_ine rfl q_X12_along_53 hg rfl trivial (fun c55 => ?_) (fun c55 => ?_)
          · refine px_ine rfl q_X12_along_62 hg rfl trivial (fun c64 => ?_) (fun c64 => ?_)
            · refine px_ine rfl q_X12_along_73 hg rfl trivial (fun c76 => ?_) (fun c76 => ?_)
              · refine px_ige rfl q_X12_along_85 hg rfl trivial (fun c92 => ?_) (fun c92 => ?_)
                · refine px_riP rfl q_X12_along_99 rfl rfl rfl hg rfl trivial ⟨⟨rfl, rfl, rfl, rfl⟩, ?_⟩
                  unfold aR aQ aH
                  grind
                · refine px_riP rfl q_X12_along_95 rfl rfl rfl hg rfl trivial ⟨⟨rfl, rfl, rfl, rfl⟩, ?_⟩
                  unfold aR aQ aH
                  grind
              · refine px_ige rfl q_X12_along_79 hg rfl trivial (fun c92 => ?_) (fun c92 => ?_)
                · refine px_riP rfl q_X12_along_99 rfl rfl rfl hg rfl trivial ⟨⟨rfl, rfl, rfl, rfl⟩, ?_⟩
                  unfold aR aQ aH
                  grind
                · refine px_riP rfl q_X12_along_95 rfl rfl rfl hg rfl trivial ⟨⟨rfl, rfl, rfl, rfl⟩, ?_⟩
                  unfold aR aQ aH
                  grind
            · refine px_ige rfl q_X12_along_67 hg rfl trivial (fun c92 => ?_) (fun c92 => ?_)
              · refine px_riP rfl q_X12_along_99 rfl rfl rfl hg rfl trivial ⟨⟨rfl, rfl, rfl, rfl⟩, ?_⟩
                unfold aR aQ aH
                grind
              · refine px_riP rfl q_X12_along_95 rfl rfl rfl hg rfl trivial ⟨⟨rfl, rfl, rfl, rfl⟩, ?_⟩
                unfold aR aQ aH
                grind
          · refine px_ige rfl q_X12_along_58 hg rfl trivial (fun c92 => ?_) (fun c92 => ?_)
            · refine px_riP rfl q_X12_along_99 rfl rfl rfl hg rfl trivial ⟨⟨rfl, rfl, rfl, rfl⟩, ?_⟩
              unfold aR aQ aH
              grind
            · refine px_riP rfl q_X12_along_95 rfl rfl rfl hg rfl trivial ⟨⟨rfl, rfl, rfl, rfl⟩, ?_⟩
              unfold aR aQ aH
              grind
        · refine px_ige rfl q_X12_along_47 hg rfl trivial (fun c92 => ?_) (fun c92 => ?_)
          · refine px_riP rfl q_X12_along_99 rfl rfl rfl hg rfl trivial ⟨⟨rfl, rfl, rfl, rfl⟩, ?_⟩
            unfold aR aQ aH
            grind
          · refine px_riP rfl q_X12_along_95 rfl rfl rfl hg rfl trivial ⟨⟨rfl, rfl, rfl, rfl⟩, ?_⟩
            unfold aR aQ aH
            grind
      · refine px_ige rfl q_X12_along_36 hg rfl trivial (fun c92 => ?_) (fun c92 => ?_)
        · refine px_riP rfl q_X12_along_99 rfl rfl rfl hg rfl trivial ⟨⟨rfl, rfl, rfl, rfl⟩, ?_⟩
          unfold aR aQ aH
          grind
        · refine px_riP rfl q_X12_along_95 rfl rfl rfl hg rfl trivial ⟨⟨rfl, rfl, rfl, rfl⟩, ?_⟩
          unfold aR aQ aH
          grind
    · refine px_ige rfl q_X12_along_25 hg rfl trivial (fun c92 => ?_) (fun c92 => ?_)
      · refine px_riP rfl q_X12_along_99 rfl rfl rfl hg rfl trivial ⟨⟨rfl, rfl, rfl, rfl⟩, ?_⟩
        unfold aR aQ aH
        grind
      · refine px_riP rfl q_X12_along_95 rfl rfl rfl hg rfl trivial ⟨⟨rfl, rfl, rfl, rfl⟩, ?_⟩
        unfold aR aQ aH
        grind
  · refine px_ige rfl q_X12_along_14 hg rfl trivial (fun c92 => ?_) (fun c92 => ?_)
    · refine px_riP rfl q_X12_along_99 rfl rfl rfl hg rfl trivial ⟨⟨rfl, rfl, rfl, rfl⟩, ?_⟩
      unfold aR aQ aH
      grind
    · refine px_riP rfl q_X12_along_95 rfl rfl rfl hg rfl trivial ⟨⟨rfl, rfl, rfl, rfl⟩, ?_⟩
      unfold aR aQ aH
      grind

set_option maxRecDepth 100000 in
theorem ks_up {n : Nat} {I : px_I} {L : px_L} {R : px_R} (hg : px_G n R) (v b : Int64) (hb : ¬ b = 0) : px_KQ M_X12_up [.long v, .long b] n I L R (fun r => r = wUp v b) := by
  refine px_of (plainFor_of_name np_RX12) (fun _ _ _ => trivial) rfl ?_
  refine px_rlQ rfl q_X12_up_0 rfl rfl rfl hg rfl ⟨trivial, hb⟩ ⟨⟨rfl, rfl, rfl, rfl⟩, ?_⟩
  rfl

set_option maxRecDepth 100000 in
theorem ks_goesOn {n : Nat} {I : px_I} {L : px_L} {R : px_R} (hg : px_G n R) (x : Int32) : px_KV M_X12_goesOn [.ref 103, .int x] n I L R (fun I2 L2 => I2 = I ∧ mRL L L2 ∧ L2 132 = gO (tR I) (L 132) x) := by
  refine px_of (plainFor_of_name np_RX12) (fun _ _ _ => trivial) rfl ?_
  refine px_cSP rfl q_X12_goesOn_0 hg rfl ⟨trivial, (by decide)⟩ lk_12_375 nm_X12_along (ks_along hg _) rfl rfl rfl ⟨rfl, rfl⟩ ?_
  intro x8 h8
  refine px_cSP rfl q_X12_goesOn_11 hg rfl ⟨trivial, (by decide)⟩ lk_12_375 nm_X12_along (ks_along hg _) rfl rfl rfl ⟨rfl, rfl⟩ ?_
  intro x23 h23
  refine px_cSQ rfl q_X12_goesOn_26 hg rfl trivial lk_12_381 nm_X12_up (ks_up hg _ _ (by decide)) rfl rfl rfl ⟨rfl, rfl⟩ ?_
  intro x38 h38
  refine px_cSQ rfl q_X12_goesOn_41 hg rfl ⟨trivial, (by decide)⟩ lk_12_381 nm_X12_up (ks_up hg _ _ (by decide)) rfl rfl rfl ⟨rfl, rfl⟩ ?_
  intro x56 h56
  refine px_cSP rfl q_X12_goesOn_59 hg rfl ⟨⟨⟨⟨⟨trivial, (by decide)⟩, (by decide)⟩, (by decide)⟩, (by decide)⟩, (by decide)⟩ lk_12_385 nm_X12_size (k_size hg _) rfl rfl rfl ⟨rfl, rfl⟩ ?_
  intro x99 h99
  refine px_cSP rfl q_X12_goesOn_102 hg rfl trivial lk_12_385 nm_X12_size (k_size hg _) rfl rfl rfl ⟨rfl, rfl⟩ ?_
  intro x107 h107
  refine px_cSQ rfl q_X12_goesOn_110 hg rfl trivial lk_12_381 nm_X12_up (ks_up hg _ _ (by decide)) rfl rfl rfl ⟨rfl, rfl⟩ ?_
  intro x116 h116
  refine px_cSP rfl q_X12_goesOn_119 hg rfl ⟨⟨trivial, (by decide)⟩, (by decide)⟩ lk_12_385 nm_X12_size (k_size hg _) rfl rfl rfl ⟨rfl, rfl⟩ ?_
  intro x131 h131
  refine px_cSP rfl q_X12_goesOn_134 hg rfl trivial lk_12_385 nm_X12_size (k_size hg _) rfl rfl rfl ⟨rfl, rfl⟩ ?_
  intro x139 h139
  refine px_cSQ rfl q_X12_goesOn_142 hg rfl trivial lk_12_381 nm_X12_up (ks_up hg _ _ (by decide)) rfl rfl rfl ⟨rfl, rfl⟩ ?_
  intro x148 h148
  refine px_cSQ rfl q_X12_goesOn_151 hg rfl ⟨⟨trivial, (by decide)⟩, (by decide)⟩ lk_12_381 nm_X12_up (ks_up hg _ _ (by decide)) rfl rfl rfl ⟨rfl, rfl⟩ ?_
  intro x171 h171
  refine px_rvW rfl q_X12_goesOn_174 rfl rfl rfl hg rfl ⟨trivial, (by decide)⟩ ⟨⟨rfl, rfl⟩, ?_⟩
  refine ⟨rfl, mRL.u (mRL.u (mRL.u (mRL.u (mRL.u (fun _ _ => rfl) _ _) _ _) _ _) _ _) _ _, ?_⟩
  (try simp only [show Int32.toNatClampNeg 0 = 0 by decide, show Int32.toNatClampNeg 1 = 1 by decide, show Int32.toNatClampNeg 2 = 2 by decide, show Int32.toNatClampNeg 3 = 3 by decide, show Int32.toNatClampNeg 4 = 4 by decide, show Int32.toNatClampNeg 5 = 5 by decide, show Int32.toNatClampNeg 6 = 6 by decide, show Int32.toNatClampNeg 7 = 7 by decide, show Int32.toNatClampNeg 8 = 8 by decide] at *)
  funext k
  subst_vars
  unfold gO wAb tR
  simp only [px_ur, if_pos, Nat.add_zero, Nat.reduceAdd]
  by_cases k5 : k = 5
  · subst k5; simp
  by_cases k4 : k = 4
  · subst k4; simp
  by_cases k3 : k = 3
  · subst k3; simp
  by_cases k1 : k = 1
  · subst k1; simp
  by_cases k0 : k = 0
  · subst k0; simp
  simp [k5, k4, k3, k1, k0]

set_option maxRecDepth 100000 in
theorem ks_does {n : Nat} {I : px_I} {L : px_L} {R : px_R} (hg : px_G n R) (o v : Int32) : px_KV M_X12_does [.ref 103, .int o, .int v] n I L R (fun I2 L2 => I2 = I ∧ mRL L L2 ∧ L2 132 = rDo (tR I) o v (L 132)) := by
  refine px_of (plainFor_of_name np_RX12) (fun _ _ _ => trivial) rfl ?_
  refine px_b rfl q_X12_does_0 hg rfl trivial ?_
  by_cases s1_1 : o = 1
  · refine px_swI (tgt := 40) (off := 39) q_X12_does_1S s1_1 (by decide) (by decide) (by decide) (by decide) ?_
    refine px_cVW (ci := 12) rfl q_X12_does_40 hg rfl trivial lk_12_387 nm_X12_goesOn (ks_goesOn hg _) rfl rfl (px_lit hg rfl) rfl rfl rfl ⟨rfl, rfl⟩ ?_
    intro I42 L42 h42
    refine px_rvW rfl q_X12_does_45 rfl rfl rfl hg rfl trivial ⟨⟨rfl, rfl⟩, ?_⟩
    obtain ⟨rfl, g1, g2⟩ := h42
    exact ⟨rfl, g1, by rw [g2]; unfold rDo; rw [if_pos (by assumption)]⟩
  by_cases s1_2 : o = 2
  · refine px_swI (tgt := 48) (off := 47) q_X12_does_1S s1_2 (by decide) (by decide) (by decide) (by decide) ?_
    refine px_rvW rfl q_X12_does_48 rfl rfl rfl hg rfl ⟨⟨⟨⟨⟨trivial, (by decide)⟩, (by decide)⟩, (by decide)⟩, (by decide)⟩, (by decide)⟩ ⟨⟨rfl, rfl⟩, ?_⟩
    refine ⟨rfl, (by first | exact fun _ _ => rfl | exact mRL.u (fun _ _ => rfl) _ _ | exact mRL.u (mRL.u (fun _ _ => rfl) _ _) _ _ | exact mRL.u (mRL.u (mRL.u (fun _ _ => rfl) _ _) _ _) _ _), ?_⟩
    (try simp only [show Int32.toNatClampNeg 0 = 0 by decide, show Int32.toNatClampNeg 1 = 1 by decide, show Int32.toNatClampNeg 2 = 2 by decide, show Int32.toNatClampNeg 3 = 3 by decide, show Int32.toNatClampNeg 4 = 4 by decide, show Int32.toNatClampNeg 5 = 5 by decide, show Int32.toNatClampNeg 6 = 6 by decide, show Int32.toNatClampNeg 7 = 7 by decide, show Int32.toNatClampNeg 8 = 8 by decide] at *)
    unfold rDo tR wMn
    funext k
    (try simp only [px_ur, if_pos, Nat.reduceAdd] at *)
    grind
  by_cases s1_3 : o = 3
  · refine px_swI (tgt := 87) (off := 86) q_X12_does_1S s1_3 (by decide) (by decide) (by decide) (by decide) ?_
    refine px_rvW rfl q_X12_does_87 rfl rfl rfl hg rfl ⟨⟨trivial, (by decide)⟩, (by decide)⟩ ⟨⟨rfl, rfl⟩, ?_⟩
    refine ⟨rfl, (by first | exact fun _ _ => rfl | exact mRL.u (fun _ _ => rfl) _ _ | exact mRL.u (mRL.u (fun _ _ => rfl) _ _) _ _ | exact mRL.u (mRL.u (mRL.u (fun _ _ => rfl) _ _) _ _) _ _), ?_⟩
    (try simp only [show Int32.toNatClampNeg 0 = 0 by decide, show Int32.toNatClampNeg 1 = 1 by decide, show Int32.toNatClampNeg 2 = 2 by decide, show Int32.toNatClampNeg 3 = 3 by decide, show Int32.toNatClampNeg 4 = 4 by decide, show Int32.toNatClampNeg 5 = 5 by decide, show Int32.toNatClampNeg 6 = 6 by decide, show Int32.toNatClampNeg 7 = 7 by decide, show Int32.toNatClampNeg 8 = 8 by decide] at *)
    unfold rDo tR wMn
    funext k
    (try simp only [px_ur, if_pos, Nat.reduceAdd] at *)
    grind
  by_cases s1_4 : o = 4
  · refine px_swI (tgt := 101) (off := 100) q_X12_does_1S s1_4 (by decide) (by decide) (by decide) (by decide) ?_
    refine px_rvW rfl q_X12_does_101 rfl rfl rfl hg rfl ⟨⟨trivial, (by decide)⟩, (by decide)⟩ ⟨⟨rfl, rfl⟩, ?_⟩
    refine ⟨rfl, (by first | exact fun _ _ => rfl | exact mRL.u (fun _ _ => rfl) _ _ | exact mRL.u (mRL.u (fun _ _ => rfl) _ _) _ _ | exact mRL.u (mRL.u (mRL.u (fun _ _ => rfl) _ _) _ _) _ _), ?_⟩
    (try simp only [show Int32.toNatClampNeg 0 = 0 by decide, show Int32.toNatClampNeg 1 = 1 by decide, show Int32.toNatClampNeg 2 = 2 by decide, show Int32.toNatClampNeg 3 = 3 by decide, show Int32.toNatClampNeg 4 = 4 by decide, show Int32.toNatClampNeg 5 = 5 by decide, show Int32.toNatClampNeg 6 = 6 by decide, show Int32.toNatClampNeg 7 = 7 by decide, show Int32.toNatClampNeg 8 = 8 by decide] at *)
    unfold rDo tR wMn
    funext k
    (try simp only [px_ur, if_pos, Nat.reduceAdd] at *)
    grind
  by_cases s1_5 : o = 5
  · refine px_swI (tgt := 115) (off := 114) q_X12_does_1S s1_5 (by decide) (by decide) (by decide) (by decide) ?_
    refine px_lle rfl q_X12_does_115 hg rfl ⟨trivial, (by decide)⟩ (fun c132 => ?_) (fun c132 => ?_)
    · refine px_lle rfl q_X12_does_143 hg rfl ⟨⟨⟨trivial, (by decide)⟩, (by decide)⟩, (by decide)⟩ (fun c167 => ?_) (fun c167 => ?_)
      · refine px_lle rfl q_X12_does_178 hg rfl ⟨⟨⟨trivial, (by decide)⟩, (by decide)⟩, (by decide)⟩ (fun c204 => ?_) (fun c204 => ?_)
        · refine px_rvW rfl q_X12_does_215 rfl rfl rfl hg rfl ⟨⟨trivial, (by decide)⟩, (by decide)⟩ ⟨⟨rfl, rfl⟩, ?_⟩
          refine ⟨rfl, (by first | exact fun _ _ => rfl | exact mRL.u (fun _ _ => rfl) _ _ | exact mRL.u (mRL.u (fun _ _ => rfl) _ _) _ _ | exact mRL.u (mRL.u (mRL.u (fun _ _ => rfl) _ _) _ _) _ _), ?_⟩
          (try simp only [show Int32.toNatClampNeg 0 = 0 by decide, show Int32.toNatClampNeg 1 = 1 by decide, show Int32.toNatClampNeg 2 = 2 by decide, show Int32.toNatClampNeg 3 = 3 by decide, show Int32.toNatClampNeg 4 = 4 by decide, show Int32.toNatClampNeg 5 = 5 by decide, show Int32.toNatClampNeg 6 = 6 by decide, show Int32.toNatClampNeg 7 = 7 by decide, show Int32.toNatClampNeg 8 = 8 by decide] at *)
          unfold rDo tR wMn
          funext k
          (try simp only [px_ur, if_pos, Nat.reduceAdd] at *)
          grind
        · refine px_rvW rfl q_X12_does_207 rfl rfl rfl hg rfl ⟨trivial, (by decide)⟩ ⟨⟨rfl, rfl⟩, ?_⟩
          refine ⟨rfl, (by first | exact fun _ _ => rfl | exact mRL.u (fun _ _ => rfl) _ _ | exact mRL.u (mRL.u (fun _ _ => rfl) _ _) _ _ | exact mRL.u (mRL.u (mRL.u (fun _ _ => rfl) _ _) _ _) _ _), ?_⟩
          (try simp only [show Int32.toNatClampNeg 0 = 0 by decide, show Int32.toNatClampNeg 1 = 1 by decide, show Int32.toNatClampNeg 2 = 2 by decide, show Int32.toNatClampNeg 3 = 3 by decide, show Int32.toNatClampNeg 4 = 4 by decide, show Int32.toNatClampNeg 5 = 5 by decide, show Int32.toNatClampNeg 6 = 6 by decide, show Int32.toNatClampNeg 7 = 7 by decide, show Int32.toNatClampNeg 8 = 8 by decide] at *)
          unfold rDo tR wMn
          funext k
          (try simp only [px_ur, if_pos, Nat.reduceAdd] at *)
          grind
      · refine px_lle rfl q_X12_does_170 hg rfl ⟨⟨trivial, (by decide)⟩, (by decide)⟩ (fun c204 => ?_) (fun c204 => ?_)
        · refine px_rvW rfl q_X12_does_215 rfl rfl rfl hg rfl ⟨⟨trivial, (by decide)⟩, (by decide)⟩ ⟨⟨rfl, rfl⟩, ?_⟩
          refine ⟨rfl, (by first | exact fun _ _ => rfl | exact mRL.u (fun _ _ => rfl) _ _ | exact mRL.u (mRL.u (fun _ _ => rfl) _ _) _ _ | exact mRL.u (mRL.u (mRL.u (fun _ _ => rfl) _ _) _ _) _ _), ?_⟩
          (try simp only [show Int32.toNatClampNeg 0 = 0 by decide, show Int32.toNatClampNeg 1 = 1 by decide, show Int32.toNatClampNeg 2 = 2 by decide, show Int32.toNatClampNeg 3 = 3 by decide, show Int32.toNatClampNeg 4 = 4 by decide, show Int32.toNatClampNeg 5 = 5 by decide, show Int32.toNatClampNeg 6 = 6 by decide, show Int32.toNatClampNeg 7 = 7 by decide, show Int32.toNatClampNeg 8 = 8 by decide] at *)
          unfold rDo tR wMn
          funext k
          (try simp only [px_ur, if_pos, Nat.reduceAdd] at *)
          grind
        · refine px_rvW rfl q_X12_does_207 rfl rfl rfl hg rfl ⟨trivial, (by decide)⟩ ⟨⟨rfl, rfl⟩, ?_⟩
          refine ⟨rfl, (by first | exact fun _ _ => rfl | exact mRL.u (fun _ _ => rfl) _ _ | exact mRL.u (mRL.u (fun _ _ => rfl) _ _) _ _ | exact mRL.u (mRL.u (mRL.u (fun _ _ => rfl) _ _) _ _) _ _), ?_⟩
          (try simp only [show Int32.toNatClampNeg 0 = 0 by decide, show Int32.toNatClampNeg 1 = 1 by decide, show Int32.toNatClampNeg 2 = 2 by decide, show Int32.toNatClampNeg 3 = 3 by decide, show Int32.toNatClampNeg 4 = 4 by decide, show Int32.toNatClampNeg 5 = 5 by decide, show Int32.toNatClampNeg 6 = 6 by decide, show Int32.toNatClampNeg 7 = 7 by decide, show Int32.toNatClampNeg 8 = 8 by decide] at *)
          unfold rDo tR wMn
          funext k
          (try simp only [px_ur, if_pos, Nat.reduceAdd] at *)
          grind
    · refine px_lle rfl q_X12_does_135 hg rfl ⟨⟨trivial, (by decide)⟩, (by decide)⟩ (fun c167 => ?_) (fun c167 => ?_)
      · refine px_lle rfl q_X12_does_178 hg rfl ⟨⟨⟨trivial, (by decide)⟩, (by decide)⟩, (by decide)⟩ (fun c204 => ?_) (fun c204 => ?_)
        · refine px_rvW rfl q_X12_does_215 rfl rfl rfl hg rfl ⟨⟨trivial, (by decide)⟩, (by decide)⟩ ⟨⟨rfl, rfl⟩, ?_⟩
          refine ⟨rfl, (by first | exact fun _ _ => rfl | exact mRL.u (fun _ _ => rfl) _ _ | exact mRL.u (mRL.u (fun _ _ => rfl) _ _) _ _ | exact mRL.u (mRL.u (mRL.u (fun _ _ => rfl) _ _) _ _) _ _), ?_⟩
          (try simp only [show Int32.toNatClampNeg 0 = 0 by decide, show Int32.toNatClampNeg 1 = 1 by decide, show Int32.toNatClampNeg 2 = 2 by decide, show Int32.toNatClampNeg 3 = 3 by decide, show Int32.toNatClampNeg 4 = 4 by decide, show Int32.toNatClampNeg 5 = 5 by decide, show Int32.toNatClampNeg 6 = 6 by decide, show Int32.toNatClampNeg 7 = 7 by decide, show Int32.toNatClampNeg 8 = 8 by decide] at *)
          unfold rDo tR wMn
          funext k
          (try simp only [px_ur, if_pos, Nat.reduceAdd] at *)
          grind
        · refine px_rvW rfl q_X12_does_207 rfl rfl rfl hg rfl ⟨trivial, (by decide)⟩ ⟨⟨rfl, rfl⟩, ?_⟩
          refine ⟨rfl, (by first | exact fun _ _ => rfl | exact mRL.u (fun _ _ => rfl) _ _ | exact mRL.u (mRL.u (fun _ _ => rfl) _ _) _ _ | exact mRL.u (mRL.u (mRL.u (fun _ _ => rfl) _ _) _ _) _ _), ?_⟩
          (try simp only [show Int32.toNatClampNeg 0 = 0 by decide, show Int32.toNatClampNeg 1 = 1 by decide, show Int32.toNatClampNeg 2 = 2 by decide, show Int32.toNatClampNeg 3 = 3 by decide, show Int32.toNatClampNeg 4 = 4 by decide, show Int32.toNatClampNeg 5 = 5 by decide, show Int32.toNatClampNeg 6 = 6 by decide, show Int32.toNatClampNeg 7 = 7 by decide, show Int32.toNatClampNeg 8 = 8 by decide] at *)
          unfold rDo tR wMn
          funext k
          (try simp only [px_ur, if_pos, Nat.reduceAdd] at *)
          grind
      · refine px_lle rfl q_X12_does_170 hg rfl ⟨⟨trivial, (by decide)⟩, (by decide)⟩ (fun c204 => ?_) (fun c204 => ?_)
        · refine px_rvW rfl q_X12_does_215 rfl rfl rfl hg rfl ⟨⟨trivial, (by decide)⟩, (by decide)⟩ ⟨⟨rfl, rfl⟩, ?_⟩
          refine ⟨rfl, (by first | exact fun _ _ => rfl | exact mRL.u (fun _ _ => rfl) _ _ | exact mRL.u (mRL.u (fun _ _ => rfl) _ _) _ _ | exact mRL.u (mRL.u (mRL.u (fun _ _ => rfl) _ _) _ _) _ _), ?_⟩
          (try simp only [show Int32.toNatClampNeg 0 = 0 by decide, show Int32.toNatClampNeg 1 = 1 by decide, show Int32.toNatClampNeg 2 = 2 by decide, show Int32.toNatClampNeg 3 = 3 by decide, show Int32.toNatClampNeg 4 = 4 by decide, show Int32.toNatClampNeg 5 = 5 by decide, show Int32.toNatClampNeg 6 = 6 by decide, show Int32.toNatClampNeg 7 = 7 by decide, show Int32.toNatClampNeg 8 = 8 by decide] at *)
          unfold rDo tR wMn
          funext k
          (try simp only [px_ur, if_pos, Nat.reduceAdd] at *)
          grind
        · refine px_rvW rfl q_X12_does_207 rfl rfl rfl hg rfl ⟨trivial, (by decide)⟩ ⟨⟨rfl, rfl⟩, ?_⟩
          refine ⟨rfl, (by first | exact fun _ _ => rfl | exact mRL.u (fun _ _ => rfl) _ _ | exact mRL.u (mRL.u (fun _ _ => rfl) _ _) _ _ | exact mRL.u (mRL.u (mRL.u (fun _ _ => rfl) _ _) _ _) _ _), ?_⟩
          (try simp only [show Int32.toNatClampNeg 0 = 0 by decide, show Int32.toNatClampNeg 1 = 1 by decide, show Int32.toNatClampNeg 2 = 2 by decide, show Int32.toNatClampNeg 3 = 3 by decide, show Int32.toNatClampNeg 4 = 4 by decide, show Int32.toNatClampNeg 5 = 5 by decide, show Int32.toNatClampNeg 6 = 6 by decide, show Int32.toNatClampNeg 7 = 7 by decide, show Int32.toNatClampNeg 8 = 8 by decide] at *)
          unfold rDo tR wMn
          funext k
          (try simp only [px_ur, if_pos, Nat.reduceAdd] at *)
          grind
  by_cases s1_6 : o = 6
  · refine px_swI (tgt := 226) (off := 225) q_X12_does_1S s1_6 (by decide) (by decide) (by decide) (by decide) ?_
    refine px_lle rfl q_X12_does_226 hg rfl ⟨trivial, (by decide)⟩ (fun c245 => ?_) (fun c245 => ?_)
    · refine px_rvW rfl q_X12_does_256 rfl rfl rfl hg rfl ⟨⟨trivial, (by decide)⟩, (by decide)⟩ ⟨⟨rfl, rfl⟩, ?_⟩
      refine ⟨rfl, (by first | exact fun _ _ => rfl | exact mRL.u (fun _ _ => rfl) _ _ | exact mRL.u (mRL.u (fun _ _ => rfl) _ _) _ _ | exact mRL.u (mRL.u (mRL.u (fun _ _ => rfl) _ _) _ _) _ _), ?_⟩
      (try simp only [show Int32.toNatClampNeg 0 = 0 by decide, show Int32.toNatClampNeg 1 = 1 by decide, show Int32.toNatClampNeg 2 = 2 by decide, show Int32.toNatClampNeg 3 = 3 by decide, show Int32.toNatClampNeg 4 = 4 by decide, show Int32.toNatClampNeg 5 = 5 by decide, show Int32.toNatClampNeg 6 = 6 by decide, show Int32.toNatClampNeg 7 = 7 by decide, show Int32.toNatClampNeg 8 = 8 by decide] at *)
      unfold rDo tR wMn
      funext k
      (try simp only [px_ur, if_pos, Nat.reduceAdd] at *)
      grind
    · refine px_rvW rfl q_X12_does_248 rfl rfl rfl hg rfl ⟨trivial, (by decide)⟩ ⟨⟨rfl, rfl⟩, ?_⟩
      refine ⟨rfl, (by first | exact fun _ _ => rfl | exact mRL.u (fun _ _ => rfl) _ _ | exact mRL.u (mRL.u (fun _ _ => rfl) _ _) _ _ | exact mRL.u (mRL.u (mRL.u (fun _ _ => rfl) _ _) _ _) _ _), ?_⟩
      (try simp only [show Int32.toNatClampNeg 0 = 0 by decide, show Int32.toNatClampNeg 1 = 1 by decide, show Int32.toNatClampNeg 2 = 2 by decide, show Int32.toNatClampNeg 3 = 3 by decide, show Int32.toNatClampNeg 4 = 4 by decide, show Int32.toNatClampNeg 5 = 5 by decide, show Int32.toNatClampNeg 6 = 6 by decide, show Int32.toNatClampNeg 7 = 7 by decide, show Int32.toNatClampNeg 8 = 8 by decide] at *)
      unfold rDo tR wMn
      funext k
      (try simp only [px_ur, if_pos, Nat.reduceAdd] at *)
      grind
  refine px_swO (tgt := 267) q_X12_does_1S (px_out 1 6 (by decide) (fun k9 h8 h9 => ?_)) (by decide) ?_
  · match k9, h8, h9 with
    | 1, _, _ => exact s1_1
    | 2, _, _ => exact s1_2
    | 3, _, _ => exact s1_3
    | 4, _, _ => exact s1_4
    | 5, _, _ => exact s1_5
    | 6, _, _ => exact s1_6
    | 0, h8, _ => exact absurd h8 (by decide)
    | k9 + 7, _, h9 => exact absurd h9 (by omega)
  refine px_rvW rfl q_X12_does_267 rfl rfl rfl hg rfl trivial ⟨⟨rfl, rfl⟩, ?_⟩
  refine ⟨rfl, (by first | exact fun _ _ => rfl | exact mRL.u (fun _ _ => rfl) _ _ | exact mRL.u (mRL.u (fun _ _ => rfl) _ _) _ _ | exact mRL.u (mRL.u (mRL.u (fun _ _ => rfl) _ _) _ _) _ _), ?_⟩
  (try simp only [show Int32.toNatClampNeg 0 = 0 by decide, show Int32.toNatClampNeg 1 = 1 by decide, show Int32.toNatClampNeg 2 = 2 by decide, show Int32.toNatClampNeg 3 = 3 by decide, show Int32.toNatClampNeg 4 = 4 by decide, show Int32.toNatClampNeg 5 = 5 by decide, show Int32.toNatClampNeg 6 = 6 by decide, show Int32.toNatClampNeg 7 = 7 by decide, show Int32.toNatClampNeg 8 = 8 by decide] at *)
  unfold rDo tR wMn
  funext k
  (try simp only [px_ur, if_pos, Nat.reduceAdd] at *)
  grind

set_option maxRecDepth 100000 in
theorem ls_isBeyond {n : Nat} {R : px_R} (hg : px_G n R) {Q : px_Q} {I : px_I} {L : px_L} (hq : ∀ r, (r = 0 ∨ r = 1) → (r = 1 ↔ rBy (L 132)) → Q (some (.int r)) n I L R) : ∀ i : Int32, i ≤ 7 → 0 ≤ i → ∀ b : Int32, (b = 0 ∨ b = 1) → (b = 1 ↔ rByN (L 132) i.toNatClampNeg) → px M_X12_isBeyond 0 0 22 [(0, .ref 103), (1, .int b), (2, .int i)] [] n I L R Q := by
  refine px_up 7 (fun i ih hi => ?_)
  intro h0 b hb hx
  have up := rBy_up (V := L 132) h0
  refine px_ige rfl q_X12_isBeyond_22 hg rfl trivial (fun c25 => ?_) (fun c25 => ?_)
  · refine px_rz rfl q_X12_isBeyond_70 rfl rfl rfl hg rfl trivial (by first | exact Or.inl rfl | exact Or.inr rfl | grind) ?_
    refine hq _ hb ?_
    have e9 : i = 7 := by grind
    subst e9
    exact hx
  · refine px_ne rfl q_X12_isBeyond_28 hg rfl trivial (fun c29 => ?_) (fun c29 => ?_)
    · refine px_b rfl q_X12_isBeyond_58 hg rfl trivial ?_
      have i7 : i < 7 := by grind
      exact px_go (ih (i + 1) (by grind) (by grind) (by grind) _ (by first | exact Or.inl rfl | exact Or.inr rfl) (by rw [up i7]; grind)) ⟨rfl, rfl, rfl, trivial⟩
    · refine px_lgt rfl q_X12_isBeyond_32 hg rfl ⟨trivial, (by first | decide | (refine ⟨?_, ?_⟩ <;> grind) | grind)⟩ (fun c42 => ?_) (fun c42 => ?_)
      · refine px_b rfl q_X12_isBeyond_58 hg rfl trivial ?_
        have i7 : i < 7 := by grind
        exact px_go (ih (i + 1) (by grind) (by grind) (by grind) _ (by first | exact Or.inl rfl | exact Or.inr rfl) (by rw [up i7]; grind)) ⟨rfl, rfl, rfl, trivial⟩
      · refine px_lge rfl q_X12_isBeyond_45 hg rfl ⟨trivial, (by first | decide | (refine ⟨?_, ?_⟩ <;> grind) | grind)⟩ (fun c55 => ?_) (fun c55 => ?_)
        · refine px_b rfl q_X12_isBeyond_62 hg rfl trivial ?_
          have i7 : i < 7 := by grind
          exact px_go (ih (i + 1) (by grind) (by grind) (by grind) _ (by first | exact Or.inl rfl | exact Or.inr rfl) (by rw [up i7]; grind)) ⟨rfl, rfl, rfl, trivial⟩
        · refine px_b rfl q_X12_isBeyond_58 hg rfl trivial ?_
          have i7 : i < 7 := by grind
          exact px_go (ih (i + 1) (by grind) (by grind) (by grind) _ (by first | exact Or.inl rfl | exact Or.inr rfl) (by rw [up i7]; grind)) ⟨rfl, rfl, rfl, trivial⟩

set_option maxRecDepth 100000 in
theorem ks_isBeyond {n : Nat} {I : px_I} {L : px_L} {R : px_R} (hg : px_G n R)  : px_KP M_X12_isBeyond [.ref 103] n I L R (fun r => (r = 0 ∨ r = 1) ∧ (r = 1 ↔ rBy (L 132))) := by
  refine px_of (plainFor_of_name np_RX12) (fun _ _ _ => trivial) rfl ?_
  refine px_lle rfl q_X12_isBeyond_0 hg rfl ⟨trivial, (by first | decide | (refine ⟨?_, ?_⟩ <;> grind) | grind)⟩ (fun c11 => ?_) (fun c11 => ?_)
  · refine px_b rfl q_X12_isBeyond_18 hg rfl trivial ?_
    first | exact px_go (ls_isBeyond hg (fun r hr hx => ⟨rfl, rfl, r, rfl, rfl, rfl, hr, hx⟩) 0 (by decide) (by decide) 1 (Or.inr rfl) (by unfold rByN; grind)) ⟨rfl, rfl, rfl, trivial⟩ | exact px_go (ls_isBeyond hg (fun r hr hx => ⟨rfl, rfl, r, rfl, rfl, rfl, hr, hx⟩) 0 (by decide) (by decide) 0 (Or.inl rfl) (by unfold rByN; grind)) ⟨rfl, rfl, rfl, trivial⟩
  · refine px_b rfl q_X12_isBeyond_14 hg rfl trivial ?_
    first | exact px_go (ls_isBeyond hg (fun r hr hx => ⟨rfl, rfl, r, rfl, rfl, rfl, hr, hx⟩) 0 (by decide) (by decide) 1 (Or.inr rfl) (by unfold rByN; grind)) ⟨rfl, rfl, rfl, trivial⟩ | exact px_go (ls_isBeyond hg (fun r hr hx => ⟨rfl, rfl, r, rfl, rfl, rfl, hr, hx⟩) 0 (by decide) (by decide) 0 (Or.inl rfl) (by unfold rByN; grind)) ⟨rfl, rfl, rfl, trivial⟩
