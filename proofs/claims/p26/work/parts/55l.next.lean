/-! the reference's next token -/
def byR (I : px_I) (i : Nat) : Int32 := if i < (I 103 26).toNatClampNeg then nb (I 121 i) else 0
def nR (I : px_I) : Nat := (I 103 26).toNatClampNeg
def wOf (z : Int64) : Int32 := if z = 149862 then 0 else if z = 11705253 then 1 else if z = 13851822 then 2 else if z = 13278437 then 3 else if z = 10099500 then 4 else if z = 866261428 then 5 else if z = 817809779 then 6 else if z = 2351 then 7 else if z = 54320584820 then 8 else -1
theorem wOf_id {B : Nat → Int32} {s m : Nat} {z : Int64} (h : ∀ j, j < m → bL (B (s + j)) = true) (hz : z.toInt = wH B s m) : wOf z = wId B s m := by
  have c : ∀ k : Int64, z = k ↔ wH B s m = k.toInt := fun k => by rw [← Int64.toInt_inj, hz]
  have w : ∀ i, i < 9 → (wI B s m i = true ↔ wH B s m = lH (px_byt.getD i [])) := fun i hi => wI_iff hi h
  unfold wOf wId
  have l0 : lH (px_byt.getD 0 []) = 11705253 := by decide
  have l1 : lH (px_byt.getD 1 []) = 13851822 := by decide
  have l2 : lH (px_byt.getD 2 []) = 13278437 := by decide
  have l3 : lH (px_byt.getD 3 []) = 10099500 := by decide
  have l4 : lH (px_byt.getD 4 []) = 866261428 := by decide
  have l5 : lH (px_byt.getD 5 []) = 817809779 := by decide
  have l6 : lH (px_byt.getD 6 []) = 2351 := by decide
  have l7 : lH (px_byt.getD 7 []) = 54320584820 := by decide
  have l8 : lH (px_byt.getD 8 []) = 149862 := by decide
  simp only [c, w 0 (by decide), w 1 (by decide), w 2 (by decide), w 3 (by decide), w 4 (by decide), w 5 (by decide), w 6 (by decide), w 7 (by decide), w 8 (by decide), l0, l1, l2, l3, l4, l5, l6, l7, l8, show (149862 : Int64).toInt = 149862 by decide, show (11705253 : Int64).toInt = 11705253 by decide, show (13851822 : Int64).toInt = 13851822 by decide, show (13278437 : Int64).toInt = 13278437 by decide, show (10099500 : Int64).toInt = 10099500 by decide, show (866261428 : Int64).toInt = 866261428 by decide, show (817809779 : Int64).toInt = 817809779 by decide, show (2351 : Int64).toInt = 2351 by decide, show (54320584820 : Int64).toInt = 54320584820 by decide]
  generalize wH B s m = x
  by_cases c0 : x = 149862
  · subst c0; decide
  · simp only [if_neg c0]
theorem wId_long {B : Nat → Int32} {s m : Nat} (h : 6 < m) : wId B s m = -1 := by
  have n : ∀ i, i < 9 → ¬ wI B s m i = true := fun i hi q => by
    unfold wI at q
    rw [decide_eq_true_iff] at q
    have : ∀ i, i < 9 → px_len.getD i 0 ≤ 6 := by decide
    have := this i hi
    omega
  unfold wId
  rw [if_neg (n 0 (by decide)), if_neg (n 1 (by decide)), if_neg (n 2 (by decide)), if_neg (n 3 (by decide)), if_neg (n 4 (by decide)), if_neg (n 5 (by decide)), if_neg (n 6 (by decide)), if_neg (n 7 (by decide)), if_neg (n 8 (by decide))]
theorem wH_ub {B : Nat → Int32} {s : Nat} : ∀ m, (∀ j, j < m → bL (B (s + j)) = true) → wH B s m < 64 ^ m
  | 0, _ => by show (0 : Int) < 64 ^ 0; decide
  | m + 1, h => by
    have a := wH_ub (B := B) (s := s) m (fun j hj => h j (by omega))
    have b := h m (by omega)
    unfold bL at b
    rw [decide_eq_true_iff] at b
    have c : (B (s + m)).toInt ≤ 122 := by
      rcases b with b | b
      · have := Int32.le_iff_toInt_le.mp b.2; rw [show (122 : Int32).toInt = 122 by decide] at this; omega
      · have := Int32.le_iff_toInt_le.mp b.2; rw [show (90 : Int32).toInt = 90 by decide] at this; omega
    show 64 * wH B s m + ((B (s + m)).toInt - 64) < 64 ^ (m + 1)
    rw [Int.pow_succ]
    omega
def nXt (B : Nat → Int32) (n p : Nat) (I2 : px_I) : Prop := (I2 103 28).toNatClampNeg = tS B n p ∧ (I2 103 27).toNatClampNeg = tE B n p ∧ I2 103 29 = tK B n p ∧ (tK B n p = 3 → cMn 1000000 (I2 103 30) = tV B n p) ∧ (tK B n p = 1 ∨ tK B n p = 2 ∨ tK B n p = 4 → I2 103 30 = tV B n p)
theorem byR_at {I : px_I} {a : Int32} (h0 : 0 ≤ a) (h : a < I 103 26) : byR I a.toNatClampNeg = nb (I 121 a.toNatClampNeg) := if_pos (xlt h0 h)
theorem cMn_dig {v y : Int32} (hv : 0 ≤ v ∧ v ≤ 9999999) (hy : 48 ≤ y ∧ y ≤ 57) : (¬ 999999 < v → 0 ≤ 10 * v + y - 48 ∧ 10 * v + y - 48 ≤ 9999999 ∧ cMn 1000000 (10 * v + y - 48) = nS (cMn 1000000 v) y) ∧ (999999 < v → cMn 1000000 v = nS (cMn 1000000 v) y) := by
  have v1 := Int32.le_iff_toInt_le.mp hv.1
  have v2 := Int32.le_iff_toInt_le.mp hv.2
  have y1 := Int32.le_iff_toInt_le.mp hy.1
  have y2 := Int32.le_iff_toInt_le.mp hy.2
  rw [show (0 : Int32).toInt = 0 by decide] at v1
  rw [show (9999999 : Int32).toInt = 9999999 by decide] at v2
  rw [show (48 : Int32).toInt = 48 by decide] at y1
  rw [show (57 : Int32).toInt = 57 by decide] at y2
  have e1 : (10 * v).toInt = 10 * v.toInt := by rw [Int32.toInt_mul, show (10 : Int32).toInt = 10 by decide, Int.bmod_eq_of_le (by omega) (by omega)]
  have e2 : (10 * v + y).toInt = 10 * v.toInt + y.toInt := by rw [Int32.toInt_add, e1, Int.bmod_eq_of_le (by omega) (by omega)]
  have e3 : (10 * v + y - 48).toInt = 10 * v.toInt + y.toInt - 48 := by rw [Int32.toInt_sub, e2, show (48 : Int32).toInt = 48 by decide, Int.bmod_eq_of_le (by omega) (by omega)]
  refine ⟨fun c => ?_, fun c => ?_⟩
  · have c2 := Int32.le_iff_toInt_le.mp (Int32.not_lt.mp c)
    rw [show (999999 : Int32).toInt = 999999 by decide] at c2
    have m : cMn 1000000 v = v := by
      unfold cMn
      rw [if_pos (Int32.lt_iff_toInt_lt.mpr (by rw [show (1000000 : Int32).toInt = 1000000 by decide]; omega))]
    refine ⟨?_, ?_, by rw [m]; rfl⟩
    · rw [Int32.le_iff_toInt_le, e3, show (0 : Int32).toInt = 0 by decide]; omega
    · rw [Int32.le_iff_toInt_le, e3, show (9999999 : Int32).toInt = 9999999 by decide]; omega
  · have c2 := Int32.lt_iff_toInt_lt.mp c
    rw [show (999999 : Int32).toInt = 999999 by decide] at c2
    have m : cMn 1000000 v = 1000000 := by
      unfold cMn
      rw [if_neg (fun q => by have := Int32.lt_iff_toInt_lt.mp q; rw [show (1000000 : Int32).toInt = 1000000 by decide] at this; omega)]
    have f1 : (10 * (1000000 : Int32) + y).toInt = 10000000 + y.toInt := by rw [Int32.toInt_add, show (10 * (1000000 : Int32)).toInt = 10000000 by decide, Int.bmod_eq_of_le (by omega) (by omega)]
    have f2 : (10 * (1000000 : Int32) + y - 48).toInt = 10000000 + y.toInt - 48 := by rw [Int32.toInt_sub, f1, show (48 : Int32).toInt = 48 by decide, Int.bmod_eq_of_le (by omega) (by omega)]
    rw [m]
    unfold nS cMn
    rw [if_neg (fun q => by have := Int32.lt_iff_toInt_lt.mp q; rw [f2, show (1000000 : Int32).toInt = 1000000 by decide] at this; omega)]

set_option maxRecDepth 100000 in
theorem ks_wordOf {n : Nat} {I : px_I} {L : px_L} {R : px_R} (hg : px_G n R) (z : Int64) : px_KP M_X12_wordOf [.long z] n I L R (fun r => r = wOf z ∧ (-1 ≤ r ∧ r ≤ 8)) := by
  refine px_of (plainFor_of_name np_RX12) (fun _ _ _ => trivial) rfl ?_
  refine px_lne rfl q_X12_wordOf_0 hg rfl trivial (fun c5 => ?_) (fun c5 => ?_)
  · refine px_lne rfl q_X12_wordOf_10 hg rfl trivial (fun c15 => ?_) (fun c15 => ?_)
    · refine px_lne rfl q_X12_wordOf_20 hg rfl trivial (fun c25 => ?_) (fun c25 => ?_)
      · refine px_lne rfl q_X12_wordOf_30 hg rfl trivial (fun c35 => ?_) (fun c35 => ?_)
        · refine px_lne rfl q_X12_wordOf_40 hg rfl trivial (fun c45 => ?_) (fun c45 => ?_)
          · refine px_lne rfl q_X12_wordOf_50 hg rfl trivial (fun c55 => ?_) (fun c55 => ?_)
            · refine px_lne rfl q_X12_wordOf_60 hg rfl trivial (fun c65 => ?_) (fun c65 => ?_)
              · refine px_lne rfl q_X12_wordOf_71 hg rfl trivial (fun c76 => ?_) (fun c76 => ?_)
                · refine px_lne rfl q_X12_wordOf_82 hg rfl trivial (fun c87 => ?_) (fun c87 => ?_)
                  · refine px_riP rfl q_X12_wordOf_93 rfl rfl rfl hg rfl trivial ⟨⟨rfl, rfl, rfl, rfl⟩, ?_⟩
                    refine ⟨?_, by decide, by decide⟩
                    unfold wOf
                    rw [if_neg c5, if_neg c15, if_neg c25, if_neg c35, if_neg c45, if_neg c55, if_neg c65, if_neg c76, if_neg c87]
                  · refine px_riP rfl q_X12_wordOf_90 rfl rfl rfl hg rfl trivial ⟨⟨rfl, rfl, rfl, rfl⟩, ?_⟩
                    refine ⟨?_, by decide, by decide⟩
                    unfold wOf
                    rw [if_neg c5, if_neg c15, if_neg c25, if_neg c35, if_neg c45, if_neg c55, if_neg c65, if_neg c76, if_pos c87]
                · refine px_riP rfl q_X12_wordOf_79 rfl rfl rfl hg rfl trivial ⟨⟨rfl, rfl, rfl, rfl⟩, ?_⟩
                  refine ⟨?_, by decide, by decide⟩
                  unfold wOf
                  rw [if_neg c5, if_neg c15, if_neg c25, if_neg c35, if_neg c45, if_neg c55, if_neg c65, if_pos c76]
              · refine px_riP rfl q_X12_wordOf_68 rfl rfl rfl hg rfl trivial ⟨⟨rfl, rfl, rfl, rfl⟩, ?_⟩
                refine ⟨?_, by decide, by decide⟩
                unfold wOf
                rw [if_neg c5, if_neg c15, if_neg c25, if_neg c35, if_neg c45, if_neg c55, if_pos c65]
            · refine px_riP rfl q_X12_wordOf_58 rfl rfl rfl hg rfl trivial ⟨⟨rfl, rfl, rfl, rfl⟩, ?_⟩
              refine ⟨?_, by decide, by decide⟩
              unfold wOf
              rw [if_neg c5, if_neg c15, if_neg c25, if_neg c35, if_neg c45, if_pos c55]
          · refine px_riP rfl q_X12_wordOf_48 rfl rfl rfl hg rfl trivial ⟨⟨rfl, rfl, rfl, rfl⟩, ?_⟩
            refine ⟨?_, by decide, by decide⟩
            unfold wOf
            rw [if_neg c5, if_neg c15, if_neg c25, if_neg c35, if_pos c45]
        · refine px_riP rfl q_X12_wordOf_38 rfl rfl rfl hg rfl trivial ⟨⟨rfl, rfl, rfl, rfl⟩, ?_⟩
          refine ⟨?_, by decide, by decide⟩
          unfold wOf
          rw [if_neg c5, if_neg c15, if_neg c25, if_pos c35]
      · refine px_riP rfl q_X12_wordOf_28 rfl rfl rfl hg rfl trivial ⟨⟨rfl, rfl, rfl, rfl⟩, ?_⟩
        refine ⟨?_, by decide, by decide⟩
        unfold wOf
        rw [if_neg c5, if_neg c15, if_pos c25]
    · refine px_riP rfl q_X12_wordOf_18 rfl rfl rfl hg rfl trivial ⟨⟨rfl, rfl, rfl, rfl⟩, ?_⟩
      refine ⟨?_, by decide, by decide⟩
      unfold wOf
      rw [if_neg c5, if_pos c15]
  · refine px_riP rfl q_X12_wordOf_8 rfl rfl rfl hg rfl trivial ⟨⟨rfl, rfl, rfl, rfl⟩, ?_⟩
    refine ⟨?_, by decide, by decide⟩
    unfold wOf
    rw [if_pos c5]

set_option maxRecDepth 100000 in
theorem ls_next271 {n : Nat} {R : px_R} (hg : px_G n R) {Q : px_Q} (x tk len : Int32) {I : px_I} {L : px_L} (hl : I 103 26 = len ∧ len ≤ 400) (ht : 0 ≤ tk ∧ tk < len ∧ I 103 27 ≤ tk) (hs : tk.toNatClampNeg = tS (byR I) (nR I) (I 103 27).toNatClampNeg) (hd : bD (byR I tk.toNatClampNeg) = true) (hnl : ¬ bL (byR I tk.toNatClampNeg) = true) (hq : ∀ I2, mKI I I2 → I 103 27 ≤ I2 103 28 → mTk I2 → nXt (byR I) (nR I) (I 103 27).toNatClampNeg I2 → Q none n I2 L R) : ∀ a : Int32, a ≤ len → tk ≤ a → ∀ I1, mKI I I1 → I1 103 27 = a → I1 103 28 = tk → I1 103 29 = 3 → (0 ≤ I1 103 30 ∧ I1 103 30 ≤ 9999999) → rn bD (byR I) (nR I) a.toNatClampNeg = rn bD (byR I) (nR I) tk.toNatClampNeg → nv (byR I) (nR I) a.toNatClampNeg (cMn 1000000 (I1 103 30)) = nv (byR I) (nR I) tk.toNatClampNeg 0 → px M_X12_next 0 0 271 [(0, .ref 103), (1, .int x)] [] n I1 L R Q := by
  refine px_up _ (fun a ih ha => ?_)
  intro h0 I1 hI e27 e28 e29 hv hr hnv
  have a0 : 0 ≤ a := Int32.le_trans ht.1 h0
  have f26 : I1 103 26 = len := (hI.f 26 (by decide)).trans hl.1
  have f121 : I1 121 = I 121 := hI.o 121 (by decide)
  have nl : nR I = len.toNatClampNeg := by unfold nR; rw [hl.1]
  refine px_ige rfl q_X12_next_271 hg rfl trivial (fun c279 => ?_) (fun c279 => ?_)
  · refine px_rv rfl q_X12_next_400 rfl rfl rfl hg rfl trivial ?_
    have fin : rn bD (byR I) (nR I) a.toNatClampNeg = a.toNatClampNeg ∧ nv (byR I) (nR I) a.toNatClampNeg (cMn 1000000 (I1 103 30)) = cMn 1000000 (I1 103 30) := by
      have e9 : a = len := by grind
      exact ⟨rn_end (by rw [nl, e9]; exact Nat.le_refl _), nv_end (by rw [nl, e9]; exact Nat.le_refl _)⟩
    rw [hr] at fin
    rw [hnv] at fin
    have t1 : ¬ nR I ≤ tk.toNatClampNeg := by rw [nl]; exact Nat.not_le.mpr (xlt ht.1 ht.2.1)
    have k3 : tK (byR I) (nR I) (I 103 27).toNatClampNeg = 3 := by unfold tK; rw [← hs, if_neg t1, if_neg hnl, if_pos hd]
    have hlt : tk < a := by
      have z := rn_in (c := bD) (B := byR I) (n := nR I) (p := tk.toNatClampNeg) (by omega) hd
      have z2 := (rn_b (c := bD) (B := byR I) (n := nR I) (p := tk.toNatClampNeg + 1) (by omega)).1
      have x1 := xnat ht.1
      have x2 := xnat a0
      exact Int32.lt_iff_toInt_lt.mpr (by omega)
    refine hq _ hI (by grind) (by unfold mTk; grind) ⟨by rw [e28]; exact hs, ?_, by rw [e29, k3], fun _ => ?_, fun q => by rw [k3] at q; exact absurd q (by decide)⟩
    · rw [e27]; unfold tE; rw [← hs, if_neg t1, if_neg hnl, if_pos hd]; exact fin.1.symm
    · unfold tV; rw [← hs, if_neg hnl, if_pos hd]; exact fin.2.symm
  · refine px_cSP rfl q_X12_next_282 hg rfl ⟨trivial, (by first | decide | (refine ⟨?_, ?_⟩ <;> grind) | grind)⟩ lk_12_167 nm_X12_in (k_inI hg _ (48) (57) (by decide) (by decide)) rfl rfl rfl ⟨rfl, rfl⟩ ?_
    intro x298 h298
    refine px_eq rfl q_X12_next_301 hg rfl trivial (fun c301 => ?_) (fun c301 => ?_)
    · replace h298 := px_bf h298 c301
      refine px_rv rfl q_X12_next_400 rfl rfl rfl hg rfl trivial ?_
      have fin : rn bD (byR I) (nR I) a.toNatClampNeg = a.toNatClampNeg ∧ nv (byR I) (nR I) a.toNatClampNeg (cMn 1000000 (I1 103 30)) = cMn 1000000 (I1 103 30) := by
        have nd : ¬ bD (byR I a.toNatClampNeg) = true := by
          rw [byR_at a0 (by rw [hl.1]; grind), nb_D, ← f121, ← e27]; exact h298
        exact ⟨rn_no nd, nv_no nd⟩
      rw [hr] at fin
      rw [hnv] at fin
      have t1 : ¬ nR I ≤ tk.toNatClampNeg := by rw [nl]; exact Nat.not_le.mpr (xlt ht.1 ht.2.1)
      have k3 : tK (byR I) (nR I) (I 103 27).toNatClampNeg = 3 := by unfold tK; rw [← hs, if_neg t1, if_neg hnl, if_pos hd]
      have hlt : tk < a := by
        have z := rn_in (c := bD) (B := byR I) (n := nR I) (p := tk.toNatClampNeg) (by omega) hd
        have z2 := (rn_b (c := bD) (B := byR I) (n := nR I) (p := tk.toNatClampNeg + 1) (by omega)).1
        have x1 := xnat ht.1
        have x2 := xnat a0
        exact Int32.lt_iff_toInt_lt.mpr (by omega)
      refine hq _ hI (by grind) (by unfold mTk; grind) ⟨by rw [e28]; exact hs, ?_, by rw [e29, k3], fun _ => ?_, fun q => by rw [k3] at q; exact absurd q (by decide)⟩
      · rw [e27]; unfold tE; rw [← hs, if_neg t1, if_neg hnl, if_pos hd]; exact fin.1.symm
      · unfold tV; rw [← hs, if_neg hnl, if_pos hd]; exact fin.2.symm
    · replace h298 := px_bt h298 c301
      refine px_ile rfl q_X12_next_304 hg rfl trivial (fun c312 => ?_) (fun c312 => ?_)
      · refine px_b rfl q_X12_next_322 hg rfl ⟨trivial, (by first | decide | (refine ⟨?_, ?_⟩ <;> grind) | grind)⟩ ?_
        have alt : a < len := by rw [← e27, ← f26]; grind
        have ba : byR I a.toNatClampNeg = I 121 a.toNatClampNeg := by rw [byR_at a0 (by rw [hl.1]; exact alt)]; exact nb_in ⟨by rw [← f121, ← e27]; grind, by rw [← f121, ← e27]; grind⟩
        have dg : 48 ≤ I 121 a.toNatClampNeg ∧ I 121 a.toNatClampNeg ≤ 57 := by rw [← f121, ← e27]; exact h298
        have bd : bD (byR I a.toNatClampNeg) = true := by rw [ba]; unfold bD; rw [decide_eq_true_iff]; exact dg
        have lt : a.toNatClampNeg < nR I := by rw [nl]; exact xlt a0 alt
        have an := (px_tnS a0 (by grind)).1
        have cm := cMn_dig hv dg
        rw [rn_in lt bd] at hr
        rw [nv_in lt bd, ba] at hnv
        have cm1 := cm.1 (by grind)
        have e30 : 10 * I1 103 30 + I1 121 (I1 103 27).toNatClampNeg - 48 = 10 * I1 103 30 + I 121 a.toNatClampNeg - 48 := by rw [f121, e27]
        exact px_go (ih (a + 1) (by grind) (by grind) (by grind) _ (by repeat (first | exact hI | refine mKI.u27 ?_ _ | refine mKI.u28 ?_ _ | refine mKI.u29 ?_ _ | refine mKI.u30 ?_ _)) (by simp [px_ur]; grind) (by simp [px_ur]; exact e28) (by simp [px_ur]; exact e29) (by simp only [px_ur]; simp; rw [e30]; exact ⟨cm1.1, cm1.2.1⟩) (by rw [an]; exact hr) (by rw [an]; simp only [px_ur]; simp; rw [e30, cm1.2.2]; exact hnv)) ⟨rfl, rfl, trivial⟩
      · refine px_b rfl q_X12_next_315 hg rfl trivial ?_
        have alt : a < len := by rw [← e27, ← f26]; grind
        have ba : byR I a.toNatClampNeg = I 121 a.toNatClampNeg := by rw [byR_at a0 (by rw [hl.1]; exact alt)]; exact nb_in ⟨by rw [← f121, ← e27]; grind, by rw [← f121, ← e27]; grind⟩
        have dg : 48 ≤ I 121 a.toNatClampNeg ∧ I 121 a.toNatClampNeg ≤ 57 := by rw [← f121, ← e27]; exact h298
        have bd : bD (byR I a.toNatClampNeg) = true := by rw [ba]; unfold bD; rw [decide_eq_true_iff]; exact dg
        have lt : a.toNatClampNeg < nR I := by rw [nl]; exact xlt a0 alt
        have an := (px_tnS a0 (by grind)).1
        have cm := cMn_dig hv dg
        rw [rn_in lt bd] at hr
        rw [nv_in lt bd, ba] at hnv
        exact px_go (ih (a + 1) (by grind) (by grind) (by grind) _ (by repeat (first | exact hI | refine mKI.u27 ?_ _ | refine mKI.u28 ?_ _ | refine mKI.u29 ?_ _ | refine mKI.u30 ?_ _)) (by simp [px_ur]; grind) (by simp [px_ur]; exact e28) (by simp [px_ur]; exact e29) (by simp [px_ur]; exact hv) (by rw [an]; exact hr) (by rw [an]; simp only [px_ur]; simp; rw [cm.2 (by grind)]; exact hnv)) ⟨rfl, rfl, trivial⟩

theorem wH_up {B : Nat → Int32} {s m : Nat} {z : Int64} {y : Int32} (h : ∀ j, j < m → bL (B (s + j)) = true) (hm : m ≤ 6) (hz : z.toInt = wH B s m) (hy : B (s + m) = y) (hl : bL y = true) : (64 * z + y.toInt64 - 64).toInt = wH B s (m + 1) := by
  have a := (wH_0 m h).1
  have b := wH_ub m h
  have c : (64 : Int) ^ m ≤ 64 ^ 6 := by exact_mod_cast Nat.pow_le_pow_right (by decide : 64 > 0) hm
  have d : (64 : Int) ^ 6 = 68719476736 := by decide
  unfold bL at hl
  rw [decide_eq_true_iff] at hl
  have y1 : 65 ≤ y.toInt ∧ y.toInt ≤ 122 := by
    rcases hl with q | q
    · have p := Int32.le_iff_toInt_le.mp q.1; have q := Int32.le_iff_toInt_le.mp q.2
      rw [show (97 : Int32).toInt = 97 by decide] at p; rw [show (122 : Int32).toInt = 122 by decide] at q; omega
    · have p := Int32.le_iff_toInt_le.mp q.1; have q := Int32.le_iff_toInt_le.mp q.2
      rw [show (65 : Int32).toInt = 65 by decide] at p; rw [show (90 : Int32).toInt = 90 by decide] at q; omega
  have e1 : (64 * z).toInt = 64 * z.toInt := by rw [Int64.toInt_mul, show (64 : Int64).toInt = 64 by decide, Int.bmod_eq_of_le (by omega) (by omega)]
  have e2 : (64 * z + y.toInt64).toInt = 64 * z.toInt + y.toInt := by rw [Int64.toInt_add, e1, Int32.toInt_toInt64, Int.bmod_eq_of_le (by omega) (by omega)]
  rw [Int64.toInt_sub, e2, show (64 : Int64).toInt = 64 by decide, Int.bmod_eq_of_le (by omega) (by omega), hz]
  show _ = 64 * wH B s m + ((B (s + m)).toInt - 64)
  rw [hy]; omega

set_option maxRecDepth 100000 in
theorem ls_next99 {n : Nat} {R : px_R} (hg : px_G n R) {Q : px_Q} (x tk len : Int32) {I : px_I} {L : px_L} (hl : I 103 26 = len ∧ len ≤ 400) (ht : 0 ≤ tk ∧ tk < len ∧ I 103 27 ≤ tk) (hs : tk.toNatClampNeg = tS (byR I) (nR I) (I 103 27).toNatClampNeg) (hd : bL (byR I tk.toNatClampNeg) = true) (hxb : byR I tk.toNatClampNeg = x) (hq : ∀ I2, mKI I I2 → I 103 27 ≤ I2 103 28 → mTk I2 → nXt (byR I) (nR I) (I 103 27).toNatClampNeg I2 → Q none n I2 L R) : ∀ a : Int32, a ≤ len → tk ≤ a → ∀ I1, mKI I I1 → I1 103 27 = a → I1 103 28 = tk → rn bL (byR I) (nR I) a.toNatClampNeg = rn bL (byR I) (nR I) tk.toNatClampNeg → ∀ (z : Int64) (c : Int32), c = a - tk → (c ≤ 6 → z.toInt = wH (byR I) tk.toNatClampNeg (a.toNatClampNeg - tk.toNatClampNeg)) → px M_X12_next 0 0 99 [(0, .ref 103), (1, .int x), (2, .long z), (4, .int c)] [] n I1 L R Q := by
  refine px_up _ (fun a ih ha => ?_)
  intro h0 I1 hI e27 e28 hr z c hc hz
  have a0 : 0 ≤ a := Int32.le_trans ht.1 h0
  have f26 : I1 103 26 = len := (hI.f 26 (by decide)).trans hl.1
  have f121 : I1 121 = I 121 := hI.o 121 (by decide)
  have nl : nR I = len.toNatClampNeg := by unfold nR; rw [hl.1]
  have x1 := xnat ht.1
  have x2 := xnat a0
  have x3 := Int32.le_iff_toInt_le.mp h0
  have x4 := Int32.le_iff_toInt_le.mp ha
  have x5 := Int32.le_iff_toInt_le.mp hl.2
  rw [show (400 : Int32).toInt = 400 by decide] at x5
  have cI : c.toInt = a.toInt - tk.toInt := by rw [hc, Int32.toInt_sub, Int.bmod_eq_of_le (by omega) (by omega)]
  have c6 : c ≤ 6 → a.toNatClampNeg - tk.toNatClampNeg ≤ 6 := fun q => by have := Int32.le_iff_toInt_le.mp q; rw [show (6 : Int32).toInt = 6 by decide] at this; omega
  have an1 : a.toNatClampNeg ≤ nR I := by rw [nl]; exact xle a0 ha
  have ge : a.toNatClampNeg ≤ rn bL (byR I) (nR I) tk.toNatClampNeg := by rw [← hr]; exact (rn_b an1).1
  have all : ∀ j, j < a.toNatClampNeg - tk.toNatClampNeg → bL (byR I (tk.toNatClampNeg + j)) = true := fun j hj => rn_all (c := bL) (n := nR I) _ tk.toNatClampNeg rfl _ (by omega) (by omega)
  refine px_ige rfl q_X12_next_99 hg rfl trivial (fun c107 => ?_) (fun c107 => ?_)
  · refine px_ine rfl q_X12_next_173 hg rfl trivial (fun c176 => ?_) (fun c176 => ?_)
    · refine px_ile rfl q_X12_next_209 hg rfl trivial (fun c214 => ?_) (fun c214 => ?_)
      · refine px_cSP rfl q_X12_next_221 hg rfl trivial lk_12_313 nm_X12_wordOf (ks_wordOf hg _) rfl rfl rfl ⟨rfl, rfl⟩ ?_
        intro x222 h222
        refine px_ge rfl q_X12_next_225 hg rfl trivial (fun c233 => ?_) (fun c233 => ?_)
        · refine px_rv rfl q_X12_next_240 rfl rfl rfl hg rfl trivial ?_
          have fin : rn bL (byR I) (nR I) a.toNatClampNeg = a.toNatClampNeg := by
            have e9 : a = len := by grind
            exact rn_end (by rw [nl, e9]; exact Nat.le_refl _)
          rw [hr] at fin
          have t1 : ¬ nR I ≤ tk.toNatClampNeg := by rw [nl]; exact Nat.not_le.mpr (xlt ht.1 ht.2.1)
          have ge1 := (rn_b (c := bL) (B := byR I) (n := nR I) (p := tk.toNatClampNeg + 1) (by omega)).1
          rw [← rn_in (by omega) hd, fin] at ge1
          have hlt : tk < a := Int32.lt_iff_toInt_lt.mpr (by omega)
          have c1 : c = 1 ↔ a.toNatClampNeg = tk.toNatClampNeg + 1 := by
            rw [← Int32.toInt_inj, cI, show (1 : Int32).toInt = 1 by decide]; omega
          have tE1 : tE (byR I) (nR I) (I 103 27).toNatClampNeg = a.toNatClampNeg := by unfold tE; rw [← hs, if_neg t1, if_pos hd, fin]
          have kk : tK (byR I) (nR I) (I 103 27).toNatClampNeg = if a.toNatClampNeg = tk.toNatClampNeg + 1 ∧ 97 ≤ x ∧ x ≤ 104 then 2 else if wId (byR I) tk.toNatClampNeg (a.toNatClampNeg - tk.toNatClampNeg) < 0 then 5 else 1 := by unfold tK; rw [← hs, if_neg t1, if_pos hd, fin, hxb]
          have kv : tV (byR I) (nR I) (I 103 27).toNatClampNeg = if a.toNatClampNeg = tk.toNatClampNeg + 1 ∧ 97 ≤ x ∧ x ≤ 104 then x - 97 else wId (byR I) tk.toNatClampNeg (a.toNatClampNeg - tk.toNatClampNeg) := by unfold tV; rw [← hs, if_pos hd, fin, hxb]
          have p9 : ¬ (a.toNatClampNeg = tk.toNatClampNeg + 1 ∧ 97 ≤ x ∧ x ≤ 104) := fun q => absurd (c1.mpr q.1) c176
          have wd : x222 = wId (byR I) tk.toNatClampNeg (a.toNatClampNeg - tk.toNatClampNeg) := by rw [h222.1]; exact wOf_id all (hz (by grind))
          rw [if_neg p9, ← wd] at kk kv
          refine hq _ (by repeat (first | exact hI | refine mKI.u27 ?_ _ | refine mKI.u28 ?_ _ | refine mKI.u29 ?_ _ | refine mKI.u30 ?_ _)) ?_ ?_ ⟨by simp [px_ur]; rw [e28]; exact hs, by simp [px_ur]; rw [e27]; exact tE1.symm, ?_, ?_, ?_⟩
          · simp [px_ur]; grind
          · unfold mTk; simp [px_ur]; grind
          · simp [px_ur]; rw [kk]; (try simp [px_ur] at c233); grind
          · intro q; rw [kk] at q; exfalso; revert q; split <;> decide
          · intro _; simp [px_ur]; exact kv.symm
        · refine px_rv rfl q_X12_next_236 rfl rfl rfl hg rfl trivial ?_
          have fin : rn bL (byR I) (nR I) a.toNatClampNeg = a.toNatClampNeg := by
            have e9 : a = len := by grind
            exact rn_end (by rw [nl, e9]; exact Nat.le_refl _)
          rw [hr] at fin
          have t1 : ¬ nR I ≤ tk.toNatClampNeg := by rw [nl]; exact Nat.not_le.mpr (xlt ht.1 ht.2.1)
          have ge1 := (rn_b (c := bL) (B := byR I) (n := nR I) (p := tk.toNatClampNeg + 1) (by omega)).1
          rw [← rn_in (by omega) hd, fin] at ge1
          have hlt : tk < a := Int32.lt_iff_toInt_lt.mpr (by omega)
          have c1 : c = 1 ↔ a.toNatClampNeg = tk.toNatClampNeg + 1 := by
            rw [← Int32.toInt_inj, cI, show (1 : Int32).toInt = 1 by decide]; omega
          have tE1 : tE (byR I) (nR I) (I 103 27).toNatClampNeg = a.toNatClampNeg := by unfold tE; rw [← hs, if_neg t1, if_pos hd, fin]
          have kk : tK (byR I) (nR I) (I 103 27).toNatClampNeg = if a.toNatClampNeg = tk.toNatClampNeg + 1 ∧ 97 ≤ x ∧ x ≤ 104 then 2 else if wId (byR I) tk.toNatClampNeg (a.toNatClampNeg - tk.toNatClampNeg) < 0 then 5 else 1 := by unfold tK; rw [← hs, if_neg t1, if_pos hd, fin, hxb]
          have kv : tV (byR I) (nR I) (I 103 27).toNatClampNeg = if a.toNatClampNeg = tk.toNatClampNeg + 1 ∧ 97 ≤ x ∧ x ≤ 104 then x - 97 else wId (byR I) tk.toNatClampNeg (a.toNatClampNeg - tk.toNatClampNeg) := by unfold tV; rw [← hs, if_pos hd, fin, hxb]
          have p9 : ¬ (a.toNatClampNeg = tk.toNatClampNeg + 1 ∧ 97 ≤ x ∧ x ≤ 104) := fun q => absurd (c1.mpr q.1) c176
          have wd : x222 = wId (byR I) tk.toNatClampNeg (a.toNatClampNeg - tk.toNatClampNeg) := by rw [h222.1]; exact wOf_id all (hz (by grind))
          rw [if_neg p9, ← wd] at kk kv
          refine hq _ (by repeat (first | exact hI | refine mKI.u27 ?_ _ | refine mKI.u28 ?_ _ | refine mKI.u29 ?_ _ | refine mKI.u30 ?_ _)) ?_ ?_ ⟨by simp [px_ur]; rw [e28]; exact hs, by simp [px_ur]; rw [e27]; exact tE1.symm, ?_, ?_, ?_⟩
          · simp [px_ur]; grind
          · unfold mTk; simp [px_ur]; grind
          · simp [px_ur]; rw [kk]; (try simp [px_ur] at c233); grind
          · intro q; rw [kk] at q; exfalso; revert q; split <;> decide
          · intro _; simp [px_ur]; exact kv.symm
      · refine px_ge rfl q_X12_next_217 hg rfl trivial (fun c233 => ?_) (fun c233 => ?_)
        · refine px_rv rfl q_X12_next_240 rfl rfl rfl hg rfl trivial ?_
          exfalso
          simp [px_ur] at c233
        · refine px_rv rfl q_X12_next_236 rfl rfl rfl hg rfl trivial ?_
          have fin : rn bL (byR I) (nR I) a.toNatClampNeg = a.toNatClampNeg := by
            have e9 : a = len := by grind
            exact rn_end (by rw [nl, e9]; exact Nat.le_refl _)
          rw [hr] at fin
          have t1 : ¬ nR I ≤ tk.toNatClampNeg := by rw [nl]; exact Nat.not_le.mpr (xlt ht.1 ht.2.1)
          have ge1 := (rn_b (c := bL) (B := byR I) (n := nR I) (p := tk.toNatClampNeg + 1) (by omega)).1
          rw [← rn_in (by omega) hd, fin] at ge1
          have hlt : tk < a := Int32.lt_iff_toInt_lt.mpr (by omega)
          have c1 : c = 1 ↔ a.toNatClampNeg = tk.toNatClampNeg + 1 := by
            rw [← Int32.toInt_inj, cI, show (1 : Int32).toInt = 1 by decide]; omega
          have tE1 : tE (byR I) (nR I) (I 103 27).toNatClampNeg = a.toNatClampNeg := by unfold tE; rw [← hs, if_neg t1, if_pos hd, fin]
          have kk : tK (byR I) (nR I) (I 103 27).toNatClampNeg = if a.toNatClampNeg = tk.toNatClampNeg + 1 ∧ 97 ≤ x ∧ x ≤ 104 then 2 else if wId (byR I) tk.toNatClampNeg (a.toNatClampNeg - tk.toNatClampNeg) < 0 then 5 else 1 := by unfold tK; rw [← hs, if_neg t1, if_pos hd, fin, hxb]
          have kv : tV (byR I) (nR I) (I 103 27).toNatClampNeg = if a.toNatClampNeg = tk.toNatClampNeg + 1 ∧ 97 ≤ x ∧ x ≤ 104 then x - 97 else wId (byR I) tk.toNatClampNeg (a.toNatClampNeg - tk.toNatClampNeg) := by unfold tV; rw [← hs, if_pos hd, fin, hxb]
          have p9 : ¬ (a.toNatClampNeg = tk.toNatClampNeg + 1 ∧ 97 ≤ x ∧ x ≤ 104) := fun q => absurd (c1.mpr q.1) c176
          have wd : (-1 : Int32) = wId (byR I) tk.toNatClampNeg (a.toNatClampNeg - tk.toNatClampNeg) := by
            refine (wId_long ?_).symm
            have q := Int32.lt_iff_toInt_lt.mp (Int32.not_le.mp (by first | exact c214 | exact Int32.not_le.mpr c214))
            rw [show (6 : Int32).toInt = 6 by decide] at q
            omega
          rw [if_neg p9, ← wd] at kk kv
          refine hq _ (by repeat (first | exact hI | refine mKI.u27 ?_ _ | refine mKI.u28 ?_ _ | refine mKI.u29 ?_ _ | refine mKI.u30 ?_ _)) ?_ ?_ ⟨by simp [px_ur]; rw [e28]; exact hs, by simp [px_ur]; rw [e27]; exact tE1.symm, ?_, ?_, ?_⟩
          · simp [px_ur]; grind
          · unfold mTk; simp [px_ur]; grind
          · simp [px_ur]; rw [kk]; decide
          · intro q; rw [kk] at q; exfalso; revert q; split <;> decide
          · intro _; simp [px_ur]; exact kv.symm
    · refine px_cSP rfl q_X12_next_179 hg rfl trivial lk_12_167 nm_X12_in (k_inI hg _ (97) (104) (by decide) (by decide)) rfl rfl rfl ⟨rfl, rfl⟩ ?_
      intro x187 h187
      refine px_eq rfl q_X12_next_190 hg rfl trivial (fun c190 => ?_) (fun c190 => ?_)
      · replace h187 := px_bf h187 c190
        refine px_ile rfl q_X12_next_209 hg rfl trivial (fun c214 => ?_) (fun c214 => ?_)
        · refine px_cSP rfl q_X12_next_221 hg rfl trivial lk_12_313 nm_X12_wordOf (ks_wordOf hg _) rfl rfl rfl ⟨rfl, rfl⟩ ?_
          intro x222 h222
          refine px_ge rfl q_X12_next_225 hg rfl trivial (fun c233 => ?_) (fun c233 => ?_)
          · refine px_rv rfl q_X12_next_240 rfl rfl rfl hg rfl trivial ?_
            have fin : rn bL (byR I) (nR I) a.toNatClampNeg = a.toNatClampNeg := by
              have e9 : a = len := by grind
              exact rn_end (by rw [nl, e9]; exact Nat.le_refl _)
            rw [hr] at fin
            have t1 : ¬ nR I ≤ tk.toNatClampNeg := by rw [nl]; exact Nat.not_le.mpr (xlt ht.1 ht.2.1)
            have ge1 := (rn_b (c := bL) (B := byR I) (n := nR I) (p := tk.toNatClampNeg + 1) (by omega)).1
            rw [← rn_in (by omega) hd, fin] at ge1
            have hlt : tk < a := Int32.lt_iff_toInt_lt.mpr (by omega)
            have c1 : c = 1 ↔ a.toNatClampNeg = tk.toNatClampNeg + 1 := by
              rw [← Int32.toInt_inj, cI, show (1 : Int32).toInt = 1 by decide]; omega
            have tE1 : tE (byR I) (nR I) (I 103 27).toNatClampNeg = a.toNatClampNeg := by unfold tE; rw [← hs, if_neg t1, if_pos hd, fin]
            have kk : tK (byR I) (nR I) (I 103 27).toNatClampNeg = if a.toNatClampNeg = tk.toNatClampNeg + 1 ∧ 97 ≤ x ∧ x ≤ 104 then 2 else if wId (byR I) tk.toNatClampNeg (a.toNatClampNeg - tk.toNatClampNeg) < 0 then 5 else 1 := by unfold tK; rw [← hs, if_neg t1, if_pos hd, fin, hxb]
            have kv : tV (byR I) (nR I) (I 103 27).toNatClampNeg = if a.toNatClampNeg = tk.toNatClampNeg + 1 ∧ 97 ≤ x ∧ x ≤ 104 then x - 97 else wId (byR I) tk.toNatClampNeg (a.toNatClampNeg - tk.toNatClampNeg) := by unfold tV; rw [← hs, if_pos hd, fin, hxb]
            have p9 : ¬ (a.toNatClampNeg = tk.toNatClampNeg + 1 ∧ 97 ≤ x ∧ x ≤ 104) := fun q => h187 q.2
            have wd : x222 = wId (byR I) tk.toNatClampNeg (a.toNatClampNeg - tk.toNatClampNeg) := by rw [h222.1]; exact wOf_id all (hz (by grind))
            rw [if_neg p9, ← wd] at kk kv
            refine hq _ (by repeat (first | exact hI | refine mKI.u27 ?_ _ | refine mKI.u28 ?_ _ | refine mKI.u29 ?_ _ | refine mKI.u30 ?_ _)) ?_ ?_ ⟨by simp [px_ur]; rw [e28]; exact hs, by simp [px_ur]; rw [e27]; exact tE1.symm, ?_, ?_, ?_⟩
            · simp [px_ur]; grind
            · unfold mTk; simp [px_ur]; grind
            · simp [px_ur]; rw [kk]; (try simp [px_ur] at c233); grind
            · intro q; rw [kk] at q; exfalso; revert q; split <;> decide
            · intro _; simp [px_ur]; exact kv.symm
          · refine px_rv rfl q_X12_next_236 rfl rfl rfl hg rfl trivial ?_
            have fin : rn bL (byR I) (nR I) a.toNatClampNeg = a.toNatClampNeg := by
              have e9 : a = len := by grind
              exact rn_end (by rw [nl, e9]; exact Nat.le_refl _)
            rw [hr] at fin
            have t1 : ¬ nR I ≤ tk.toNatClampNeg := by rw [nl]; exact Nat.not_le.mpr (xlt ht.1 ht.2.1)
            have ge1 := (rn_b (c := bL) (B := byR I) (n := nR I) (p := tk.toNatClampNeg + 1) (by omega)).1
            rw [← rn_in (by omega) hd, fin] at ge1
            have hlt : tk < a := Int32.lt_iff_toInt_lt.mpr (by omega)
            have c1 : c = 1 ↔ a.toNatClampNeg = tk.toNatClampNeg + 1 := by
              rw [← Int32.toInt_inj, cI, show (1 : Int32).toInt = 1 by decide]; omega
            have tE1 : tE (byR I) (nR I) (I 103 27).toNatClampNeg = a.toNatClampNeg := by unfold tE; rw [← hs, if_neg t1, if_pos hd, fin]
            have kk : tK (byR I) (nR I) (I 103 27).toNatClampNeg = if a.toNatClampNeg = tk.toNatClampNeg + 1 ∧ 97 ≤ x ∧ x ≤ 104 then 2 else if wId (byR I) tk.toNatClampNeg (a.toNatClampNeg - tk.toNatClampNeg) < 0 then 5 else 1 := by unfold tK; rw [← hs, if_neg t1, if_pos hd, fin, hxb]
            have kv : tV (byR I) (nR I) (I 103 27).toNatClampNeg = if a.toNatClampNeg = tk.toNatClampNeg + 1 ∧ 97 ≤ x ∧ x ≤ 104 then x - 97 else wId (byR I) tk.toNatClampNeg (a.toNatClampNeg - tk.toNatClampNeg) := by unfold tV; rw [← hs, if_pos hd, fin, hxb]
            have p9 : ¬ (a.toNatClampNeg = tk.toNatClampNeg + 1 ∧ 97 ≤ x ∧ x ≤ 104) := fun q => h187 q.2
            have wd : x222 = wId (byR I) tk.toNatClampNeg (a.toNatClampNeg - tk.toNatClampNeg) := by rw [h222.1]; exact wOf_id all (hz (by grind))
            rw [if_neg p9, ← wd] at kk kv
            refine hq _ (by repeat (first | exact hI | refine mKI.u27 ?_ _ | refine mKI.u28 ?_ _ | refine mKI.u29 ?_ _ | refine mKI.u30 ?_ _)) ?_ ?_ ⟨by simp [px_ur]; rw [e28]; exact hs, by simp [px_ur]; rw [e27]; exact tE1.symm, ?_, ?_, ?_⟩
            · simp [px_ur]; grind
            · unfold mTk; simp [px_ur]; grind
            · simp [px_ur]; rw [kk]; (try simp [px_ur] at c233); grind
            · intro q; rw [kk] at q; exfalso; revert q; split <;> decide
            · intro _; simp [px_ur]; exact kv.symm
        · refine px_ge rfl q_X12_next_217 hg rfl trivial (fun c233 => ?_) (fun c233 => ?_)
          · refine px_rv rfl q_X12_next_240 rfl rfl rfl hg rfl trivial ?_
            exfalso
            simp [px_ur] at c233
          · refine px_rv rfl q_X12_next_236 rfl rfl rfl hg rfl trivial ?_
            have fin : rn bL (byR I) (nR I) a.toNatClampNeg = a.toNatClampNeg := by
              have e9 : a = len := by grind
              exact rn_end (by rw [nl, e9]; exact Nat.le_refl _)
            rw [hr] at fin
            have t1 : ¬ nR I ≤ tk.toNatClampNeg := by rw [nl]; exact Nat.not_le.mpr (xlt ht.1 ht.2.1)
            have ge1 := (rn_b (c := bL) (B := byR I) (n := nR I) (p := tk.toNatClampNeg + 1) (by omega)).1
            rw [← rn_in (by omega) hd, fin] at ge1
            have hlt : tk < a := Int32.lt_iff_toInt_lt.mpr (by omega)
            have c1 : c = 1 ↔ a.toNatClampNeg = tk.toNatClampNeg + 1 := by
              rw [← Int32.toInt_inj, cI, show (1 : Int32).toInt = 1 by decide]; omega
            have tE1 : tE (byR I) (nR I) (I 103 27).toNatClampNeg = a.toNatClampNeg := by unfold tE; rw [← hs, if_neg t1, if_pos hd, fin]
            have kk : tK (byR I) (nR I) (I 103 27).toNatClampNeg = if a.toNatClampNeg = tk.toNatClampNeg + 1 ∧ 97 ≤ x ∧ x ≤ 104 then 2 else if wId (byR I) tk.toNatClampNeg (a.toNatClampNeg - tk.toNatClampNeg) < 0 then 5 else 1 := by unfold tK; rw [← hs, if_neg t1, if_pos hd, fin, hxb]
            have kv : tV (byR I) (nR I) (I 103 27).toNatClampNeg = if a.toNatClampNeg = tk.toNatClampNeg + 1 ∧ 97 ≤ x ∧ x ≤ 104 then x - 97 else wId (byR I) tk.toNatClampNeg (a.toNatClampNeg - tk.toNatClampNeg) := by unfold tV; rw [← hs, if_pos hd, fin, hxb]
            have p9 : ¬ (a.toNatClampNeg = tk.toNatClampNeg + 1 ∧ 97 ≤ x ∧ x ≤ 104) := fun q => h187 q.2
            have wd : (-1 : Int32) = wId (byR I) tk.toNatClampNeg (a.toNatClampNeg - tk.toNatClampNeg) := by
              refine (wId_long ?_).symm
              have q := Int32.lt_iff_toInt_lt.mp (Int32.not_le.mp (by first | exact c214 | exact Int32.not_le.mpr c214))
              rw [show (6 : Int32).toInt = 6 by decide] at q
              omega
            rw [if_neg p9, ← wd] at kk kv
            refine hq _ (by repeat (first | exact hI | refine mKI.u27 ?_ _ | refine mKI.u28 ?_ _ | refine mKI.u29 ?_ _ | refine mKI.u30 ?_ _)) ?_ ?_ ⟨by simp [px_ur]; rw [e28]; exact hs, by simp [px_ur]; rw [e27]; exact tE1.symm, ?_, ?_, ?_⟩
            · simp [px_ur]; grind
            · unfold mTk; simp [px_ur]; grind
            · simp [px_ur]; rw [kk]; decide
            · intro q; rw [kk] at q; exfalso; revert q; split <;> decide
            · intro _; simp [px_ur]; exact kv.symm
      · replace h187 := px_bt h187 c190
        refine px_rv rfl q_X12_next_193 rfl rfl rfl hg rfl trivial ?_
        have fin : rn bL (byR I) (nR I) a.toNatClampNeg = a.toNatClampNeg := by
          have e9 : a = len := by grind
          exact rn_end (by rw [nl, e9]; exact Nat.le_refl _)
        rw [hr] at fin
        have t1 : ¬ nR I ≤ tk.toNatClampNeg := by rw [nl]; exact Nat.not_le.mpr (xlt ht.1 ht.2.1)
        have ge1 := (rn_b (c := bL) (B := byR I) (n := nR I) (p := tk.toNatClampNeg + 1) (by omega)).1
        rw [← rn_in (by omega) hd, fin] at ge1
        have hlt : tk < a := Int32.lt_iff_toInt_lt.mpr (by omega)
        have c1 : c = 1 ↔ a.toNatClampNeg = tk.toNatClampNeg + 1 := by
          rw [← Int32.toInt_inj, cI, show (1 : Int32).toInt = 1 by decide]; omega
        have tE1 : tE (byR I) (nR I) (I 103 27).toNatClampNeg = a.toNatClampNeg := by unfold tE; rw [← hs, if_neg t1, if_pos hd, fin]
        have kk : tK (byR I) (nR I) (I 103 27).toNatClampNeg = if a.toNatClampNeg = tk.toNatClampNeg + 1 ∧ 97 ≤ x ∧ x ≤ 104 then 2 else if wId (byR I) tk.toNatClampNeg (a.toNatClampNeg - tk.toNatClampNeg) < 0 then 5 else 1 := by unfold tK; rw [← hs, if_neg t1, if_pos hd, fin, hxb]
        have kv : tV (byR I) (nR I) (I 103 27).toNatClampNeg = if a.toNatClampNeg = tk.toNatClampNeg + 1 ∧ 97 ≤ x ∧ x ≤ 104 then x - 97 else wId (byR I) tk.toNatClampNeg (a.toNatClampNeg - tk.toNatClampNeg) := by unfold tV; rw [← hs, if_pos hd, fin, hxb]
        have p9 : a.toNatClampNeg = tk.toNatClampNeg + 1 ∧ 97 ≤ x ∧ x ≤ 104 := ⟨c1.mp (by first | exact c176 | exact Classical.not_not.mp c176), h187⟩
        rw [if_pos p9] at kk kv
        refine hq _ (by repeat (first | exact hI | refine mKI.u27 ?_ _ | refine mKI.u28 ?_ _ | refine mKI.u29 ?_ _ | refine mKI.u30 ?_ _)) ?_ ?_ ⟨by simp [px_ur]; rw [e28]; exact hs, by simp [px_ur]; rw [e27]; exact tE1.symm, ?_, ?_, ?_⟩
        · simp [px_ur]; grind
        · unfold mTk; simp [px_ur]; grind
        · simp [px_ur]; exact kk.symm
        · intro q; rw [kk] at q; exact absurd q (by decide)
        · intro _; simp [px_ur]; exact kv.symm
  · refine px_cSP rfl q_X12_next_110 hg rfl ⟨trivial, (by first | decide | (refine ⟨?_, ?_⟩ <;> grind) | grind)⟩ lk_12_303 nm_X12_isLetter (k_isLetter hg _) rfl rfl rfl ⟨rfl, rfl⟩ ?_
    intro x119 h119
    refine px_eq rfl q_X12_next_122 hg rfl trivial (fun c122 => ?_) (fun c122 => ?_)
    · replace h119 := px_bf h119 c122
      refine px_ine rfl q_X12_next_173 hg rfl trivial (fun c176 => ?_) (fun c176 => ?_)
      · refine px_ile rfl q_X12_next_209 hg rfl trivial (fun c214 => ?_) (fun c214 => ?_)
        · refine px_cSP rfl q_X12_next_221 hg rfl trivial lk_12_313 nm_X12_wordOf (ks_wordOf hg _) rfl rfl rfl ⟨rfl, rfl⟩ ?_
          intro x222 h222
          refine px_ge rfl q_X12_next_225 hg rfl trivial (fun c233 => ?_) (fun c233 => ?_)
          · refine px_rv rfl q_X12_next_240 rfl rfl rfl hg rfl trivial ?_
            have fin : rn bL (byR I) (nR I) a.toNatClampNeg = a.toNatClampNeg := by
              have nd : ¬ bL (byR I a.toNatClampNeg) = true := by
                rw [byR_at a0 (by rw [hl.1]; grind), nb_L, ← f121, ← e27]; exact h119
              exact rn_no nd
            rw [hr] at fin
            have t1 : ¬ nR I ≤ tk.toNatClampNeg := by rw [nl]; exact Nat.not_le.mpr (xlt ht.1 ht.2.1)
            have ge1 := (rn_b (c := bL) (B := byR I) (n := nR I) (p := tk.toNatClampNeg + 1) (by omega)).1
            rw [← rn_in (by omega) hd, fin] at ge1
            have hlt : tk < a := Int32.lt_iff_toInt_lt.mpr (by omega)
            have c1 : c = 1 ↔ a.toNatClampNeg = tk.toNatClampNeg + 1 := by
              rw [← Int32.toInt_inj, cI, show (1 : Int32).toInt = 1 by decide]; omega
            have tE1 : tE (byR I) (nR I) (I 103 27).toNatClampNeg = a.toNatClampNeg := by unfold tE; rw [← hs, if_neg t1, if_pos hd, fin]
            have kk : tK (byR I) (nR I) (I 103 27).toNatClampNeg = if a.toNatClampNeg = tk.toNatClampNeg + 1 ∧ 97 ≤ x ∧ x ≤ 104 then 2 else if wId (byR I) tk.toNatClampNeg (a.toNatClampNeg - tk.toNatClampNeg) < 0 then 5 else 1 := by unfold tK; rw [← hs, if_neg t1, if_pos hd, fin, hxb]
            have kv : tV (byR I) (nR I) (I 103 27).toNatClampNeg = if a.toNatClampNeg = tk.toNatClampNeg + 1 ∧ 97 ≤ x ∧ x ≤ 104 then x - 97 else wId (byR I) tk.toNatClampNeg (a.toNatClampNeg - tk.toNatClampNeg) := by unfold tV; rw [← hs, if_pos hd, fin, hxb]
            have p9 : ¬ (a.toNatClampNeg = tk.toNatClampNeg + 1 ∧ 97 ≤ x ∧ x ≤ 104) := fun q => absurd (c1.mpr q.1) c176
            have wd : x222 = wId (byR I) tk.toNatClampNeg (a.toNatClampNeg - tk.toNatClampNeg) := by rw [h222.1]; exact wOf_id all (hz (by grind))
            rw [if_neg p9, ← wd] at kk kv
            refine hq _ (by repeat (first | exact hI | refine mKI.u27 ?_ _ | refine mKI.u28 ?_ _ | refine mKI.u29 ?_ _ | refine mKI.u30 ?_ _)) ?_ ?_ ⟨by simp [px_ur]; rw [e28]; exact hs, by simp [px_ur]; rw [e27]; exact tE1.symm, ?_, ?_, ?_⟩
            · simp [px_ur]; grind
            · unfold mTk; simp [px_ur]; grind
            · simp [px_ur]; rw [kk]; (try simp [px_ur] at c233); grind
            · intro q; rw [kk] at q; exfalso; revert q; split <;> decide
            · intro _; simp [px_ur]; exact kv.symm
          · refine px_rv rfl q_X12_next_236 rfl rfl rfl hg rfl trivial ?_
            have fin : rn bL (byR I) (nR I) a.toNatClampNeg = a.toNatClampNeg := by
              have nd : ¬ bL (byR I a.toNatClampNeg) = true := by
                rw [byR_at a0 (by rw [hl.1]; grind), nb_L, ← f121, ← e27]; exact h119
              exact rn_no nd
            rw [hr] at fin
            have t1 : ¬ nR I ≤ tk.toNatClampNeg := by rw [nl]; exact Nat.not_le.mpr (xlt ht.1 ht.2.1)
            have ge1 := (rn_b (c := bL) (B := byR I) (n := nR I) (p := tk.toNatClampNeg + 1) (by omega)).1
            rw [← rn_in (by omega) hd, fin] at ge1
            have hlt : tk < a := Int32.lt_iff_toInt_lt.mpr (by omega)
            have c1 : c = 1 ↔ a.toNatClampNeg = tk.toNatClampNeg + 1 := by
              rw [← Int32.toInt_inj, cI, show (1 : Int32).toInt = 1 by decide]; omega
            have tE1 : tE (byR I) (nR I) (I 103 27).toNatClampNeg = a.toNatClampNeg := by unfold tE; rw [← hs, if_neg t1, if_pos hd, fin]
            have kk : tK (byR I) (nR I) (I 103 27).toNatClampNeg = if a.toNatClampNeg = tk.toNatClampNeg + 1 ∧ 97 ≤ x ∧ x ≤ 104 then 2 else if wId (byR I) tk.toNatClampNeg (a.toNatClampNeg - tk.toNatClampNeg) < 0 then 5 else 1 := by unfold tK; rw [← hs, if_neg t1, if_pos hd, fin, hxb]
            have kv : tV (byR I) (nR I) (I 103 27).toNatClampNeg = if a.toNatClampNeg = tk.toNatClampNeg + 1 ∧ 97 ≤ x ∧ x ≤ 104 then x - 97 else wId (byR I) tk.toNatClampNeg (a.toNatClampNeg - tk.toNatClampNeg) := by unfold tV; rw [← hs, if_pos hd, fin, hxb]
            have p9 : ¬ (a.toNatClampNeg = tk.toNatClampNeg + 1 ∧ 97 ≤ x ∧ x ≤ 104) := fun q => absurd (c1.mpr q.1) c176
            have wd : x222 = wId (byR I) tk.toNatClampNeg (a.toNatClampNeg - tk.toNatClampNeg) := by rw [h222.1]; exact wOf_id all (hz (by grind))
            rw [if_neg p9, ← wd] at kk kv
            refine hq _ (by repeat (first | exact hI | refine mKI.u27 ?_ _ | refine mKI.u28 ?_ _ | refine mKI.u29 ?_ _ | refine mKI.u30 ?_ _)) ?_ ?_ ⟨by simp [px_ur]; rw [e28]; exact hs, by simp [px_ur]; rw [e27]; exact tE1.symm, ?_, ?_, ?_⟩
            · simp [px_ur]; grind
            · unfold mTk; simp [px_ur]; grind
            · simp [px_ur]; rw [kk]; (try simp [px_ur] at c233); grind
            · intro q; rw [kk] at q; exfalso; revert q; split <;> decide
            · intro _; simp [px_ur]; exact kv.symm
        · refine px_ge rfl q_X12_next_217 hg rfl trivial (fun c233 => ?_) (fun c233 => ?_)
          · refine px_rv rfl q_X12_next_240 rfl rfl rfl hg rfl trivial ?_
            exfalso
            simp [px_ur] at c233
          · refine px_rv rfl q_X12_next_236 rfl rfl rfl hg rfl trivial ?_
            have fin : rn bL (byR I) (nR I) a.toNatClampNeg = a.toNatClampNeg := by
              have nd : ¬ bL (byR I a.toNatClampNeg) = true := by
                rw [byR_at a0 (by rw [hl.1]; grind), nb_L, ← f121, ← e27]; exact h119
              exact rn_no nd
            rw [hr] at fin
            have t1 : ¬ nR I ≤ tk.toNatClampNeg := by rw [nl]; exact Nat.not_le.mpr (xlt ht.1 ht.2.1)
            have ge1 := (rn_b (c := bL) (B := byR I) (n := nR I) (p := tk.toNatClampNeg + 1) (by omega)).1
            rw [← rn_in (by omega) hd, fin] at ge1
            have hlt : tk < a := Int32.lt_iff_toInt_lt.mpr (by omega)
            have c1 : c = 1 ↔ a.toNatClampNeg = tk.toNatClampNeg + 1 := by
              rw [← Int32.toInt_inj, cI, show (1 : Int32).toInt = 1 by decide]; omega
            have tE1 : tE (byR I) (nR I) (I 103 27).toNatClampNeg = a.toNatClampNeg := by unfold tE; rw [← hs, if_neg t1, if_pos hd, fin]
            have kk : tK (byR I) (nR I) (I 103 27).toNatClampNeg = if a.toNatClampNeg = tk.toNatClampNeg + 1 ∧ 97 ≤ x ∧ x ≤ 104 then 2 else if wId (byR I) tk.toNatClampNeg (a.toNatClampNeg - tk.toNatClampNeg) < 0 then 5 else 1 := by unfold tK; rw [← hs, if_neg t1, if_pos hd, fin, hxb]
            have kv : tV (byR I) (nR I) (I 103 27).toNatClampNeg = if a.toNatClampNeg = tk.toNatClampNeg + 1 ∧ 97 ≤ x ∧ x ≤ 104 then x - 97 else wId (byR I) tk.toNatClampNeg (a.toNatClampNeg - tk.toNatClampNeg) := by unfold tV; rw [← hs, if_pos hd, fin, hxb]
            have p9 : ¬ (a.toNatClampNeg = tk.toNatClampNeg + 1 ∧ 97 ≤ x ∧ x ≤ 104) := fun q => absurd (c1.mpr q.1) c176
            have wd : (-1 : Int32) = wId (byR I) tk.toNatClampNeg (a.toNatClampNeg - tk.toNatClampNeg) := by
              refine (wId_long ?_).symm
              have q := Int32.lt_iff_toInt_lt.mp (Int32.not_le.mp (by first | exact c214 | exact Int32.not_le.mpr c214))
              rw [show (6 : Int32).toInt = 6 by decide] at q
              omega
            rw [if_neg p9, ← wd] at kk kv
            refine hq _ (by repeat (first | exact hI | refine mKI.u27 ?_ _ | refine mKI.u28 ?_ _ | refine mKI.u29 ?_ _ | refine mKI.u30 ?_ _)) ?_ ?_ ⟨by simp [px_ur]; rw [e28]; exact hs, by simp [px_ur]; rw [e27]; exact tE1.symm, ?_, ?_, ?_⟩
            · simp [px_ur]; grind
            · unfold mTk; simp [px_ur]; grind
            · simp [px_ur]; rw [kk]; decide
            · intro q; rw [kk] at q; exfalso; revert q; split <;> decide
            · intro _; simp [px_ur]; exact kv.symm
      · refine px_cSP rfl q_X12_next_179 hg rfl trivial lk_12_167 nm_X12_in (k_inI hg _ (97) (104) (by decide) (by decide)) rfl rfl rfl ⟨rfl, rfl⟩ ?_
        intro x187 h187
        refine px_eq rfl q_X12_next_190 hg rfl trivial (fun c190 => ?_) (fun c190 => ?_)
        · replace h187 := px_bf h187 c190
          refine px_ile rfl q_X12_next_209 hg rfl trivial (fun c214 => ?_) (fun c214 => ?_)
          · refine px_cSP rfl q_X12_next_221 hg rfl trivial lk_12_313 nm_X12_wordOf (ks_wordOf hg _) rfl rfl rfl ⟨rfl, rfl⟩ ?_
            intro x222 h222
            refine px_ge rfl q_X12_next_225 hg rfl trivial (fun c233 => ?_) (fun c233 => ?_)
            · refine px_rv rfl q_X12_next_240 rfl rfl rfl hg rfl trivial ?_
              have fin : rn bL (byR I) (nR I) a.toNatClampNeg = a.toNatClampNeg := by
                have nd : ¬ bL (byR I a.toNatClampNeg) = true := by
                  rw [byR_at a0 (by rw [hl.1]; grind), nb_L, ← f121, ← e27]; exact h119
                exact rn_no nd
              rw [hr] at fin
              have t1 : ¬ nR I ≤ tk.toNatClampNeg := by rw [nl]; exact Nat.not_le.mpr (xlt ht.1 ht.2.1)
              have ge1 := (rn_b (c := bL) (B := byR I) (n := nR I) (p := tk.toNatClampNeg + 1) (by omega)).1
              rw [← rn_in (by omega) hd, fin] at ge1
              have hlt : tk < a := Int32.lt_iff_toInt_lt.mpr (by omega)
              have c1 : c = 1 ↔ a.toNatClampNeg = tk.toNatClampNeg + 1 := by
                rw [← Int32.toInt_inj, cI, show (1 : Int32).toInt = 1 by decide]; omega
              have tE1 : tE (byR I) (nR I) (I 103 27).toNatClampNeg = a.toNatClampNeg := by unfold tE; rw [← hs, if_neg t1, if_pos hd, fin]
              have kk : tK (byR I) (nR I) (I 103 27).toNatClampNeg = if a.toNatClampNeg = tk.toNatClampNeg + 1 ∧ 97 ≤ x ∧ x ≤ 104 then 2 else if wId (byR I) tk.toNatClampNeg (a.toNatClampNeg - tk.toNatClampNeg) < 0 then 5 else 1 := by unfold tK; rw [← hs, if_neg t1, if_pos hd, fin, hxb]
              have kv : tV (byR I) (nR I) (I 103 27).toNatClampNeg = if a.toNatClampNeg = tk.toNatClampNeg + 1 ∧ 97 ≤ x ∧ x ≤ 104 then x - 97 else wId (byR I) tk.toNatClampNeg (a.toNatClampNeg - tk.toNatClampNeg) := by unfold tV; rw [← hs, if_pos hd, fin, hxb]
              have p9 : ¬ (a.toNatClampNeg = tk.toNatClampNeg + 1 ∧ 97 ≤ x ∧ x ≤ 104) := fun q => h187 q.2
              have wd : x222 = wId (byR I) tk.toNatClampNeg (a.toNatClampNeg - tk.toNatClampNeg) := by rw [h222.1]; exact wOf_id all (hz (by grind))
              rw [if_neg p9, ← wd] at kk kv
              refine hq _ (by repeat (first | exact hI | refine mKI.u27 ?_ _ | refine mKI.u28 ?_ _ | refine mKI.u29 ?_ _ | refine mKI.u30 ?_ _)) ?_ ?_ ⟨by simp [px_ur]; rw [e28]; exact hs, by simp [px_ur]; rw [e27]; exact tE1.symm, ?_, ?_, ?_⟩
              · simp [px_ur]; grind
              · unfold mTk; simp [px_ur]; grind
              · simp [px_ur]; rw [kk]; (try simp [px_ur] at c233); grind
              · intro q; rw [kk] at q; exfalso; revert q; split <;> decide
              · intro _; simp [px_ur]; exact kv.symm
            · refine px_rv rfl q_X12_next_236 rfl rfl rfl hg rfl trivial ?_
              have fin : rn bL (byR I) (nR I) a.toNatClampNeg = a.toNatClampNeg := by
                have nd : ¬ bL (byR I a.toNatClampNeg) = true := by
                  rw [byR_at a0 (by rw [hl.1]; grind), nb_L, ← f121, ← e27]; exact h119
                exact rn_no nd
              rw [hr] at fin
              have t1 : ¬ nR I ≤ tk.toNatClampNeg := by rw [nl]; exact Nat.not_le.mpr (xlt ht.1 ht.2.1)
              have ge1 := (rn_b (c := bL) (B := byR I) (n := nR I) (p := tk.toNatClampNeg + 1) (by omega)).1
              rw [← rn_in (by omega) hd, fin] at ge1
              have hlt : tk < a := Int32.lt_iff_toInt_lt.mpr (by omega)
              have c1 : c = 1 ↔ a.toNatClampNeg = tk.toNatClampNeg + 1 := by
                rw [← Int32.toInt_inj, cI, show (1 : Int32).toInt = 1 by decide]; omega
              have tE1 : tE (byR I) (nR I) (I 103 27).toNatClampNeg = a.toNatClampNeg := by unfold tE; rw [← hs, if_neg t1, if_pos hd, fin]
              have kk : tK (byR I) (nR I) (I 103 27).toNatClampNeg = if a.toNatClampNeg = tk.toNatClampNeg + 1 ∧ 97 ≤ x ∧ x ≤ 104 then 2 else if wId (byR I) tk.toNatClampNeg (a.toNatClampNeg - tk.toNatClampNeg) < 0 then 5 else 1 := by unfold tK; rw [← hs, if_neg t1, if_pos hd, fin, hxb]
              have kv : tV (byR I) (nR I) (I 103 27).toNatClampNeg = if a.toNatClampNeg = tk.toNatClampNeg + 1 ∧ 97 ≤ x ∧ x ≤ 104 then x - 97 else wId (byR I) tk.toNatClampNeg (a.toNatClampNeg - tk.toNatClampNeg) := by unfold tV; rw [← hs, if_pos hd, fin, hxb]
              have p9 : ¬ (a.toNatClampNeg = tk.toNatClampNeg + 1 ∧ 97 ≤ x ∧ x ≤ 104) := fun q => h187 q.2
              have wd : x222 = wId (byR I) tk.toNatClampNeg (a.toNatClampNeg - tk.toNatClampNeg) := by rw [h222.1]; exact wOf_id all (hz (by grind))
              rw [if_neg p9, ← wd] at kk kv
              refine hq _ (by repeat (first | exact hI | refine mKI.u27 ?_ _ | refine mKI.u28 ?_ _ | refine mKI.u29 ?_ _ | refine mKI.u30 ?_ _)) ?_ ?_ ⟨by simp [px_ur]; rw [e28]; exact hs, by simp [px_ur]; rw [e27]; exact tE1.symm, ?_, ?_, ?_⟩
              · simp [px_ur]; grind
              · unfold mTk; simp [px_ur]; grind
              · simp [px_ur]; rw [kk]; (try simp [px_ur] at c233); grind
              · intro q; rw [kk] at q; exfalso; revert q; split <;> decide
              · intro _; simp [px_ur]; exact kv.symm
          · refine px_ge rfl q_X12_next_217 hg rfl trivial (fun c233 => ?_) (fun c233 => ?_)
            · refine px_rv rfl q_X12_next_240 rfl rfl rfl hg rfl trivial ?_
              exfalso
              simp [px_ur] at c233
            · refine px_rv rfl q_X12_next_236 rfl rfl rfl hg rfl trivial ?_
              have fin : rn bL (byR I) (nR I) a.toNatClampNeg = a.toNatClampNeg := by
                have nd : ¬ bL (byR I a.toNatClampNeg) = true := by
                  rw [byR_at a0 (by rw [hl.1]; grind), nb_L, ← f121, ← e27]; exact h119
                exact rn_no nd
              rw [hr] at fin
              have t1 : ¬ nR I ≤ tk.toNatClampNeg := by rw [nl]; exact Nat.not_le.mpr (xlt ht.1 ht.2.1)
              have ge1 := (rn_b (c := bL) (B := byR I) (n := nR I) (p := tk.toNatClampNeg + 1) (by omega)).1
              rw [← rn_in (by omega) hd, fin] at ge1
              have hlt : tk < a := Int32.lt_iff_toInt_lt.mpr (by omega)
              have c1 : c = 1 ↔ a.toNatClampNeg = tk.toNatClampNeg + 1 := by
                rw [← Int32.toInt_inj, cI, show (1 : Int32).toInt = 1 by decide]; omega
              have tE1 : tE (byR I) (nR I) (I 103 27).toNatClampNeg = a.toNatClampNeg := by unfold tE; rw [← hs, if_neg t1, if_pos hd, fin]
              have kk : tK (byR I) (nR I) (I 103 27).toNatClampNeg = if a.toNatClampNeg = tk.toNatClampNeg + 1 ∧ 97 ≤ x ∧ x ≤ 104 then 2 else if wId (byR I) tk.toNatClampNeg (a.toNatClampNeg - tk.toNatClampNeg) < 0 then 5 else 1 := by unfold tK; rw [← hs, if_neg t1, if_pos hd, fin, hxb]
              have kv : tV (byR I) (nR I) (I 103 27).toNatClampNeg = if a.toNatClampNeg = tk.toNatClampNeg + 1 ∧ 97 ≤ x ∧ x ≤ 104 then x - 97 else wId (byR I) tk.toNatClampNeg (a.toNatClampNeg - tk.toNatClampNeg) := by unfold tV; rw [← hs, if_pos hd, fin, hxb]
              have p9 : ¬ (a.toNatClampNeg = tk.toNatClampNeg + 1 ∧ 97 ≤ x ∧ x ≤ 104) := fun q => h187 q.2
              have wd : (-1 : Int32) = wId (byR I) tk.toNatClampNeg (a.toNatClampNeg - tk.toNatClampNeg) := by
                refine (wId_long ?_).symm
                have q := Int32.lt_iff_toInt_lt.mp (Int32.not_le.mp (by first | exact c214 | exact Int32.not_le.mpr c214))
                rw [show (6 : Int32).toInt = 6 by decide] at q
                omega
              rw [if_neg p9, ← wd] at kk kv
              refine hq _ (by repeat (first | exact hI | refine mKI.u27 ?_ _ | refine mKI.u28 ?_ _ | refine mKI.u29 ?_ _ | refine mKI.u30 ?_ _)) ?_ ?_ ⟨by simp [px_ur]; rw [e28]; exact hs, by simp [px_ur]; rw [e27]; exact tE1.symm, ?_, ?_, ?_⟩
              · simp [px_ur]; grind
              · unfold mTk; simp [px_ur]; grind
              · simp [px_ur]; rw [kk]; decide
              · intro q; rw [kk] at q; exfalso; revert q; split <;> decide
              · intro _; simp [px_ur]; exact kv.symm
        · replace h187 := px_bt h187 c190
          refine px_rv rfl q_X12_next_193 rfl rfl rfl hg rfl trivial ?_
          have fin : rn bL (byR I) (nR I) a.toNatClampNeg = a.toNatClampNeg := by
            have nd : ¬ bL (byR I a.toNatClampNeg) = true := by
              rw [byR_at a0 (by rw [hl.1]; grind), nb_L, ← f121, ← e27]; exact h119
            exact rn_no nd
          rw [hr] at fin
          have t1 : ¬ nR I ≤ tk.toNatClampNeg := by rw [nl]; exact Nat.not_le.mpr (xlt ht.1 ht.2.1)
          have ge1 := (rn_b (c := bL) (B := byR I) (n := nR I) (p := tk.toNatClampNeg + 1) (by omega)).1
          rw [← rn_in (by omega) hd, fin] at ge1
          have hlt : tk < a := Int32.lt_iff_toInt_lt.mpr (by omega)
          have c1 : c = 1 ↔ a.toNatClampNeg = tk.toNatClampNeg + 1 := by
            rw [← Int32.toInt_inj, cI, show (1 : Int32).toInt = 1 by decide]; omega
          have tE1 : tE (byR I) (nR I) (I 103 27).toNatClampNeg = a.toNatClampNeg := by unfold tE; rw [← hs, if_neg t1, if_pos hd, fin]
          have kk : tK (byR I) (nR I) (I 103 27).toNatClampNeg = if a.toNatClampNeg = tk.toNatClampNeg + 1 ∧ 97 ≤ x ∧ x ≤ 104 then 2 else if wId (byR I) tk.toNatClampNeg (a.toNatClampNeg - tk.toNatClampNeg) < 0 then 5 else 1 := by unfold tK; rw [← hs, if_neg t1, if_pos hd, fin, hxb]
          have kv : tV (byR I) (nR I) (I 103 27).toNatClampNeg = if a.toNatClampNeg = tk.toNatClampNeg + 1 ∧ 97 ≤ x ∧ x ≤ 104 then x - 97 else wId (byR I) tk.toNatClampNeg (a.toNatClampNeg - tk.toNatClampNeg) := by unfold tV; rw [← hs, if_pos hd, fin, hxb]
          have p9 : a.toNatClampNeg = tk.toNatClampNeg + 1 ∧ 97 ≤ x ∧ x ≤ 104 := ⟨c1.mp (by first | exact c176 | exact Classical.not_not.mp c176), h187⟩
          rw [if_pos p9] at kk kv
          refine hq _ (by repeat (first | exact hI | refine mKI.u27 ?_ _ | refine mKI.u28 ?_ _ | refine mKI.u29 ?_ _ | refine mKI.u30 ?_ _)) ?_ ?_ ⟨by simp [px_ur]; rw [e28]; exact hs, by simp [px_ur]; rw [e27]; exact tE1.symm, ?_, ?_, ?_⟩
          · simp [px_ur]; grind
          · unfold mTk; simp [px_ur]; grind
          · simp [px_ur]; exact kk.symm
          · intro q; rw [kk] at q; exact absurd q (by decide)
          · intro _; simp [px_ur]; exact kv.symm
    · replace h119 := px_bt h119 c122
      refine px_ige rfl q_X12_next_125 hg rfl trivial (fun c129 => ?_) (fun c129 => ?_)
      · refine px_b rfl q_X12_next_155 hg rfl trivial ?_
        have alt : a < len := by rw [← e27, ← f26]; grind
        have ba : byR I a.toNatClampNeg = I 121 a.toNatClampNeg := by rw [byR_at a0 (by rw [hl.1]; exact alt)]; exact nb_in ⟨by rw [← f121, ← e27]; unfold mLt at h119; grind, by rw [← f121, ← e27]; unfold mLt at h119; grind⟩
        have bl : bL (byR I a.toNatClampNeg) = true := by rw [ba]; unfold bL; rw [decide_eq_true_iff, ← f121, ← e27]; exact h119
        have lt : a.toNatClampNeg < nR I := by rw [nl]; exact xlt a0 alt
        have an := (px_tnS a0 (by grind)).1
        rw [rn_in lt bl] at hr
        have em : (a + 1).toNatClampNeg - tk.toNatClampNeg = a.toNatClampNeg - tk.toNatClampNeg + 1 := by rw [an]; omega
        exact px_go (ih (a + 1) (by grind) (by grind) (by grind) _ (by repeat (first | exact hI | refine mKI.u27 ?_ _ | refine mKI.u28 ?_ _ | refine mKI.u29 ?_ _ | refine mKI.u30 ?_ _)) (by simp [px_ur]; grind) (by simp [px_ur]; exact e28) (by rw [an]; exact hr) _ (c + 1) (by rw [hc]; grind) (fun q => absurd q (by grind))) ⟨rfl, rfl, rfl, rfl, trivial⟩
      · refine px_b rfl q_X12_next_132 hg rfl ⟨trivial, (by first | decide | (refine ⟨?_, ?_⟩ <;> grind) | grind)⟩ ?_
        have alt : a < len := by rw [← e27, ← f26]; grind
        have ba : byR I a.toNatClampNeg = I 121 a.toNatClampNeg := by rw [byR_at a0 (by rw [hl.1]; exact alt)]; exact nb_in ⟨by rw [← f121, ← e27]; unfold mLt at h119; grind, by rw [← f121, ← e27]; unfold mLt at h119; grind⟩
        have bl : bL (byR I a.toNatClampNeg) = true := by rw [ba]; unfold bL; rw [decide_eq_true_iff, ← f121, ← e27]; exact h119
        have lt : a.toNatClampNeg < nR I := by rw [nl]; exact xlt a0 alt
        have an := (px_tnS a0 (by grind)).1
        rw [rn_in lt bl] at hr
        have em : (a + 1).toNatClampNeg - tk.toNatClampNeg = a.toNatClampNeg - tk.toNatClampNeg + 1 := by rw [an]; omega
        exact px_go (ih (a + 1) (by grind) (by grind) (by grind) _ (by repeat (first | exact hI | refine mKI.u27 ?_ _ | refine mKI.u28 ?_ _ | refine mKI.u29 ?_ _ | refine mKI.u30 ?_ _)) (by simp [px_ur]; grind) (by simp [px_ur]; exact e28) (by rw [an]; exact hr) _ (c + 1) (by rw [hc]; grind) (fun q => by rw [em, f121, e27]; exact wH_up all (c6 (by grind)) (hz (by grind)) (by rw [show tk.toNatClampNeg + (a.toNatClampNeg - tk.toNatClampNeg) = a.toNatClampNeg by omega]; exact ba) (by rw [← ba]; exact bl))) ⟨rfl, rfl, rfl, rfl, trivial⟩

set_option maxRecDepth 100000 in
theorem ls_next0 {n : Nat} {R : px_R} (hg : px_G n R) {Q : px_Q} (len : Int32) {I : px_I} {L : px_L} (hl : I 103 26 = len ∧ len ≤ 400) (hz : 0 ≤ I 103 27) (hq : ∀ I2, mKI I I2 → I 103 27 ≤ I2 103 28 → mTk I2 → nXt (byR I) (nR I) (I 103 27).toNatClampNeg I2 → Q none n I2 L R) : ∀ a : Int32, a ≤ len → I 103 27 ≤ a → ∀ I1, mKI I I1 → I1 103 27 = a → rn bB (byR I) (nR I) a.toNatClampNeg = tS (byR I) (nR I) (I 103 27).toNatClampNeg → px M_X12_next 0 0 0 [(0, .ref 103)] [] n I1 L R Q := by
  refine px_up _ (fun a ih ha => ?_)
  intro h0 I1 hI e27 hr
  have a0 : 0 ≤ a := Int32.le_trans hz h0
  have f26 : I1 103 26 = len := (hI.f 26 (by decide)).trans hl.1
  have f121 : I1 121 = I 121 := hI.o 121 (by decide)
  have nl : nR I = len.toNatClampNeg := by unfold nR; rw [hl.1]
  refine px_ige rfl q_X12_next_0 hg rfl trivial (fun c8 => ?_) (fun c8 => ?_)
  · refine px_ine rfl q_X12_next_52 hg rfl trivial (fun c68 => ?_) (fun c68 => ?_)
    · have f27 : px_u I1 103 28 (I1 103 27) 103 27 = a := by simp [px_ur]; exact e27
      have c68 : ¬ a = len := by
        intro e9
        apply c68
        (try simp only [px_ur])
        (try simp)
        rw [e27, f26]; exact e9
      have e28a : a < len := by grind
      have bx : byR I a.toNatClampNeg = nb (I 121 a.toNatClampNeg) := byR_at a0 (by rw [hl.1]; exact e28a)
      have fx : I1 121 (I1 103 27).toNatClampNeg = I 121 a.toNatClampNeg := by rw [f121, e27]
      have hS : tS (byR I) (nR I) (I 103 27).toNatClampNeg = a.toNatClampNeg := by
        have e9 : a = len := by grind
        rw [← hr]; exact rn_end (by rw [nl, e9]; exact Nat.le_refl _)
      refine px_cSP rfl q_X12_next_77 hg rfl ⟨trivial, (by first | decide | (refine ⟨?_, ?_⟩ <;> grind) | grind)⟩ lk_12_303 nm_X12_isLetter (k_isLetter hg _) rfl rfl rfl ⟨rfl, rfl⟩ ?_
      intro x88 h88
      refine px_eq rfl q_X12_next_91 hg rfl trivial (fun c91 => ?_) (fun c91 => ?_)
      · replace h88 := px_bf h88 c91
        refine px_cSP rfl q_X12_next_247 hg rfl trivial lk_12_167 nm_X12_in (k_inI hg _ (48) (57) (by decide) (by decide)) rfl rfl rfl ⟨rfl, rfl⟩ ?_
        intro x255 h255
        refine px_eq rfl q_X12_next_258 hg rfl trivial (fun c258 => ?_) (fun c258 => ?_)
        · replace h255 := px_bf h255 c258
          refine px_ieq rfl q_X12_next_358 hg rfl trivial (fun c377 => ?_) (fun c377 => ?_)
          · refine px_rv rfl q_X12_next_392 rfl rfl rfl hg rfl trivial ?_
            have t1 : ¬ nR I ≤ a.toNatClampNeg := by rw [nl]; exact Nat.not_le.mpr (xlt a0 e28a)
            have g88 : ¬ mLt (I 121 a.toNatClampNeg) := by rw [← fx]; exact h88
            have g255 : ¬ (48 ≤ I 121 a.toNatClampNeg ∧ I 121 a.toNatClampNeg ≤ 57) := by rw [← fx]; exact h255
            have nl9 : ¬ bL (byR I a.toNatClampNeg) = true := by rw [bx, nb_L]; exact g88
            have nd9 : ¬ bD (byR I a.toNatClampNeg) = true := by rw [bx, nb_D]; exact g255
            have an := (px_tnS a0 (by grind)).1
            have kE : tE (byR I) (nR I) (I 103 27).toNatClampNeg = a.toNatClampNeg + 1 := by unfold tE; rw [hS, if_neg t1, if_neg nl9, if_neg nd9]
            have kV : tV (byR I) (nR I) (I 103 27).toNatClampNeg = byR I a.toNatClampNeg := by unfold tV; rw [hS, if_neg nl9, if_neg nd9]
            have kS : byR I a.toNatClampNeg = 59 ∨ byR I a.toNatClampNeg = 123 ∨ byR I a.toNatClampNeg = 125 ↔ I 121 a.toNatClampNeg = 59 ∨ I 121 a.toNatClampNeg = 123 ∨ I 121 a.toNatClampNeg = 125 := by rw [bx, nb_e (by decide), nb_e (by decide), nb_e (by decide)]
            have kK : tK (byR I) (nR I) (I 103 27).toNatClampNeg = 4 := by
              unfold tK
              rw [hS, if_neg t1, if_neg nl9, if_neg nd9]
              first
                | exact if_pos (kS.mpr (by rw [← fx]; first | exact Or.inl c377 | exact Or.inr (Or.inl c383) | exact Or.inr (Or.inr c389) | exact Or.inr (Or.inr (Classical.not_not.mp c389))))
                | exact if_neg (fun q => by have q := kS.mp q; rw [← fx] at q; exact q.elim c377 (fun q => q.elim c383 (fun q => by first | exact c389 q | exact absurd q c389)))
            refine hq _ (by repeat (first | exact hI | refine mKI.u27 ?_ _ | refine mKI.u28 ?_ _ | refine mKI.u29 ?_ _ | refine mKI.u30 ?_ _)) ?_ ?_ ⟨by simp [px_ur]; rw [e27]; exact hS.symm, by simp [px_ur]; rw [e27, an]; exact kE.symm, by simp [px_ur]; exact kK.symm, fun q => by rw [kK] at q; exact absurd q (by decide), fun q => ?_⟩
            · simp [px_ur]; grind
            · unfold mTk; simp [px_ur]; grind
            · have z := kS.mpr (by rw [← fx]; first | exact Or.inl c377 | exact Or.inr (Or.inl c383) | exact Or.inr (Or.inr c389) | exact Or.inr (Or.inr (Classical.not_not.mp c389)))
              have z2 : I1 121 (I1 103 27).toNatClampNeg = byR I a.toNatClampNeg := by
                rw [fx, bx]
                have z3 := kS.mp z
                exact (nb_in (by rcases z3 with z3 | z3 | z3 <;> rw [z3] <;> decide)).symm
              rw [kV, ← z2]
              simp [px_ur]
          · refine px_ieq rfl q_X12_next_380 hg rfl trivial (fun c383 => ?_) (fun c383 => ?_)
            · refine px_rv rfl q_X12_next_392 rfl rfl rfl hg rfl trivial ?_
              have t1 : ¬ nR I ≤ a.toNatClampNeg := by rw [nl]; exact Nat.not_le.mpr (xlt a0 e28a)
              have g88 : ¬ mLt (I 121 a.toNatClampNeg) := by rw [← fx]; exact h88
              have g255 : ¬ (48 ≤ I 121 a.toNatClampNeg ∧ I 121 a.toNatClampNeg ≤ 57) := by rw [← fx]; exact h255
              have nl9 : ¬ bL (byR I a.toNatClampNeg) = true := by rw [bx, nb_L]; exact g88
              have nd9 : ¬ bD (byR I a.toNatClampNeg) = true := by rw [bx, nb_D]; exact g255
              have an := (px_tnS a0 (by grind)).1
              have kE : tE (byR I) (nR I) (I 103 27).toNatClampNeg = a.toNatClampNeg + 1 := by unfold tE; rw [hS, if_neg t1, if_neg nl9, if_neg nd9]
              have kV : tV (byR I) (nR I) (I 103 27).toNatClampNeg = byR I a.toNatClampNeg := by unfold tV; rw [hS, if_neg nl9, if_neg nd9]
              have kS : byR I a.toNatClampNeg = 59 ∨ byR I a.toNatClampNeg = 123 ∨ byR I a.toNatClampNeg = 125 ↔ I 121 a.toNatClampNeg = 59 ∨ I 121 a.toNatClampNeg = 123 ∨ I 121 a.toNatClampNeg = 125 := by rw [bx, nb_e (by decide), nb_e (by decide), nb_e (by decide)]
              have kK : tK (byR I) (nR I) (I 103 27).toNatClampNeg = 4 := by
                unfold tK
                rw [hS, if_neg t1, if_neg nl9, if_neg nd9]
                first
                  | exact if_pos (kS.mpr (by rw [← fx]; first | exact Or.inl c377 | exact Or.inr (Or.inl c383) | exact Or.inr (Or.inr c389) | exact Or.inr (Or.inr (Classical.not_not.mp c389))))
                  | exact if_neg (fun q => by have q := kS.mp q; rw [← fx] at q; exact q.elim c377 (fun q => q.elim c383 (fun q => by first | exact c389 q | exact absurd q c389)))
              refine hq _ (by repeat (first | exact hI | refine mKI.u27 ?_ _ | refine mKI.u28 ?_ _ | refine mKI.u29 ?_ _ | refine mKI.u30 ?_ _)) ?_ ?_ ⟨by simp [px_ur]; rw [e27]; exact hS.symm, by simp [px_ur]; rw [e27, an]; exact kE.symm, by simp [px_ur]; exact kK.symm, fun q => by rw [kK] at q; exact absurd q (by decide), fun q => ?_⟩
              · simp [px_ur]; grind
              · unfold mTk; simp [px_ur]; grind
              · have z := kS.mpr (by rw [← fx]; first | exact Or.inl c377 | exact Or.inr (Or.inl c383) | exact Or.inr (Or.inr c389) | exact Or.inr (Or.inr (Classical.not_not.mp c389)))
                have z2 : I1 121 (I1 103 27).toNatClampNeg = byR I a.toNatClampNeg := by
                  rw [fx, bx]
                  have z3 := kS.mp z
                  exact (nb_in (by rcases z3 with z3 | z3 | z3 <;> rw [z3] <;> decide)).symm
                rw [kV, ← z2]
                simp [px_ur]
            · refine px_ine rfl q_X12_next_386 hg rfl trivial (fun c389 => ?_) (fun c389 => ?_)
              · refine px_rv rfl q_X12_next_396 rfl rfl rfl hg rfl trivial ?_
                have t1 : ¬ nR I ≤ a.toNatClampNeg := by rw [nl]; exact Nat.not_le.mpr (xlt a0 e28a)
                have g88 : ¬ mLt (I 121 a.toNatClampNeg) := by rw [← fx]; exact h88
                have g255 : ¬ (48 ≤ I 121 a.toNatClampNeg ∧ I 121 a.toNatClampNeg ≤ 57) := by rw [← fx]; exact h255
                have nl9 : ¬ bL (byR I a.toNatClampNeg) = true := by rw [bx, nb_L]; exact g88
                have nd9 : ¬ bD (byR I a.toNatClampNeg) = true := by rw [bx, nb_D]; exact g255
                have an := (px_tnS a0 (by grind)).1
                have kE : tE (byR I) (nR I) (I 103 27).toNatClampNeg = a.toNatClampNeg + 1 := by unfold tE; rw [hS, if_neg t1, if_neg nl9, if_neg nd9]
                have kV : tV (byR I) (nR I) (I 103 27).toNatClampNeg = byR I a.toNatClampNeg := by unfold tV; rw [hS, if_neg nl9, if_neg nd9]
                have kS : byR I a.toNatClampNeg = 59 ∨ byR I a.toNatClampNeg = 123 ∨ byR I a.toNatClampNeg = 125 ↔ I 121 a.toNatClampNeg = 59 ∨ I 121 a.toNatClampNeg = 123 ∨ I 121 a.toNatClampNeg = 125 := by rw [bx, nb_e (by decide), nb_e (by decide), nb_e (by decide)]
                have kK : tK (byR I) (nR I) (I 103 27).toNatClampNeg = 5 := by
                  unfold tK
                  rw [hS, if_neg t1, if_neg nl9, if_neg nd9]
                  first
                    | exact if_pos (kS.mpr (by rw [← fx]; first | exact Or.inl c377 | exact Or.inr (Or.inl c383) | exact Or.inr (Or.inr c389) | exact Or.inr (Or.inr (Classical.not_not.mp c389))))
                    | exact if_neg (fun q => by have q := kS.mp q; rw [← fx] at q; exact q.elim c377 (fun q => q.elim c383 (fun q => by first | exact c389 q | exact absurd q c389)))
                refine hq _ (by repeat (first | exact hI | refine mKI.u27 ?_ _ | refine mKI.u28 ?_ _ | refine mKI.u29 ?_ _ | refine mKI.u30 ?_ _)) ?_ ?_ ⟨by simp [px_ur]; rw [e27]; exact hS.symm, by simp [px_ur]; rw [e27, an]; exact kE.symm, by simp [px_ur]; exact kK.symm, fun q => by rw [kK] at q; exact absurd q (by decide), fun q => ?_⟩
                · simp [px_ur]; grind
                · unfold mTk; simp [px_ur]; grind
                · rw [kK] at q; exact absurd q (by decide)
              · refine px_rv rfl q_X12_next_392 rfl rfl rfl hg rfl trivial ?_
                have t1 : ¬ nR I ≤ a.toNatClampNeg := by rw [nl]; exact Nat.not_le.mpr (xlt a0 e28a)
                have g88 : ¬ mLt (I 121 a.toNatClampNeg) := by rw [← fx]; exact h88
                have g255 : ¬ (48 ≤ I 121 a.toNatClampNeg ∧ I 121 a.toNatClampNeg ≤ 57) := by rw [← fx]; exact h255
                have nl9 : ¬ bL (byR I a.toNatClampNeg) = true := by rw [bx, nb_L]; exact g88
                have nd9 : ¬ bD (byR I a.toNatClampNeg) = true := by rw [bx, nb_D]; exact g255
                have an := (px_tnS a0 (by grind)).1
                have kE : tE (byR I) (nR I) (I 103 27).toNatClampNeg = a.toNatClampNeg + 1 := by unfold tE; rw [hS, if_neg t1, if_neg nl9, if_neg nd9]
                have kV : tV (byR I) (nR I) (I 103 27).toNatClampNeg = byR I a.toNatClampNeg := by unfold tV; rw [hS, if_neg nl9, if_neg nd9]
                have kS : byR I a.toNatClampNeg = 59 ∨ byR I a.toNatClampNeg = 123 ∨ byR I a.toNatClampNeg = 125 ↔ I 121 a.toNatClampNeg = 59 ∨ I 121 a.toNatClampNeg = 123 ∨ I 121 a.toNatClampNeg = 125 := by rw [bx, nb_e (by decide), nb_e (by decide), nb_e (by decide)]
                have kK : tK (byR I) (nR I) (I 103 27).toNatClampNeg = 4 := by
                  unfold tK
                  rw [hS, if_neg t1, if_neg nl9, if_neg nd9]
                  first
                    | exact if_pos (kS.mpr (by rw [← fx]; first | exact Or.inl c377 | exact Or.inr (Or.inl c383) | exact Or.inr (Or.inr c389) | exact Or.inr (Or.inr (Classical.not_not.mp c389))))
                    | exact if_neg (fun q => by have q := kS.mp q; rw [← fx] at q; exact q.elim c377 (fun q => q.elim c383 (fun q => by first | exact c389 q | exact absurd q c389)))
                refine hq _ (by repeat (first | exact hI | refine mKI.u27 ?_ _ | refine mKI.u28 ?_ _ | refine mKI.u29 ?_ _ | refine mKI.u30 ?_ _)) ?_ ?_ ⟨by simp [px_ur]; rw [e27]; exact hS.symm, by simp [px_ur]; rw [e27, an]; exact kE.symm, by simp [px_ur]; exact kK.symm, fun q => by rw [kK] at q; exact absurd q (by decide), fun q => ?_⟩
                · simp [px_ur]; grind
                · unfold mTk; simp [px_ur]; grind
                · have z := kS.mpr (by rw [← fx]; first | exact Or.inl c377 | exact Or.inr (Or.inl c383) | exact Or.inr (Or.inr c389) | exact Or.inr (Or.inr (Classical.not_not.mp c389)))
                  have z2 : I1 121 (I1 103 27).toNatClampNeg = byR I a.toNatClampNeg := by
                    rw [fx, bx]
                    have z3 := kS.mp z
                    exact (nb_in (by rcases z3 with z3 | z3 | z3 <;> rw [z3] <;> decide)).symm
                  rw [kV, ← z2]
                  simp [px_ur]
        · replace h255 := px_bt h255 c258
          refine px_b rfl q_X12_next_261 hg rfl trivial ?_
          exact px_go (ls_next271 hg _ a len hl ⟨a0, e28a, h0⟩ hS.symm (by rw [bx, nb_D, ← fx]; exact h255) (by rw [bx, nb_L, ← fx]; exact h88) hq a ha (Int32.le_refl _) _ (by repeat (first | exact hI | refine mKI.u27 ?_ _ | refine mKI.u28 ?_ _ | refine mKI.u29 ?_ _ | refine mKI.u30 ?_ _)) (by simp [px_ur]; exact e27) (by simp [px_ur]; exact e27) (by simp [px_ur]) (by simp [px_ur]) rfl (by simp [px_ur]; rfl)) ⟨rfl, rfl, trivial⟩
      · replace h88 := px_bt h88 c91
        refine px_b rfl q_X12_next_94 hg rfl trivial ?_
        have lx : mLt (I 121 a.toNatClampNeg) := by rw [← fx]; exact h88
        have bx2 : byR I a.toNatClampNeg = I 121 a.toNatClampNeg := by rw [bx]; exact nb_in (by unfold mLt at lx; constructor <;> grind)
        exact px_go (ls_next99 hg _ a len hl ⟨a0, e28a, h0⟩ hS.symm (by rw [bx, nb_L]; exact lx) (by rw [bx2, ← fx]; rfl) hq a ha (Int32.le_refl _) _ (by repeat (first | exact hI | refine mKI.u27 ?_ _ | refine mKI.u28 ?_ _ | refine mKI.u29 ?_ _ | refine mKI.u30 ?_ _)) (by simp [px_ur]; exact e27) (by simp [px_ur]; exact e27) rfl _ _ (by grind) (fun _ => by rw [Nat.sub_self]; show (0 : Int64).toInt = 0; decide)) ⟨rfl, rfl, rfl, rfl, trivial⟩
    · refine px_rv rfl q_X12_next_71 rfl rfl rfl hg rfl trivial ?_
      have hS : tS (byR I) (nR I) (I 103 27).toNatClampNeg = a.toNatClampNeg := by
        have e9 : a = len := by grind
        rw [← hr]; exact rn_end (by rw [nl, e9]; exact Nat.le_refl _)
      have e9 : a = len := by
        have z := c68
        (try simp only [px_ur] at z)
        (try simp at z)
        rw [e27, f26] at z
        exact z
      have t1 : nR I ≤ a.toNatClampNeg := by rw [nl, e9]; exact Nat.le_refl _
      have kE : tE (byR I) (nR I) (I 103 27).toNatClampNeg = a.toNatClampNeg := by unfold tE; rw [hS, if_pos t1]
      have kK : tK (byR I) (nR I) (I 103 27).toNatClampNeg = 0 := by unfold tK; rw [hS, if_pos t1]
      refine hq _ (by repeat (first | exact hI | refine mKI.u27 ?_ _ | refine mKI.u28 ?_ _ | refine mKI.u29 ?_ _ | refine mKI.u30 ?_ _)) ?_ ?_ ⟨by simp [px_ur]; rw [e27]; exact hS.symm, by simp [px_ur]; rw [e27]; exact kE.symm, by simp [px_ur]; exact kK.symm, fun q => by rw [kK] at q; exact absurd q (by decide), fun q => by rw [kK] at q; exact absurd q (by decide)⟩
      · simp [px_ur]; grind
      · unfold mTk; simp [px_ur]; grind
  · refine px_ieq rfl q_X12_next_11 hg rfl ⟨trivial, (by first | decide | (refine ⟨?_, ?_⟩ <;> grind) | grind)⟩ (fun c22 => ?_) (fun c22 => ?_)
    · refine px_b rfl q_X12_next_39 hg rfl trivial ?_
      have alt : a < len := by rw [← e27, ← f26]; grind
      have bb : bB (byR I a.toNatClampNeg) = true := by rw [byR_at a0 (by rw [hl.1]; exact alt), nb_B, ← f121, ← e27]; first | exact Or.inl c22 | exact Or.inr c36 | exact Or.inr (Classical.not_not.mp c36)
      have lt : a.toNatClampNeg < nR I := by rw [nl]; exact xlt a0 alt
      have an := (px_tnS a0 (by grind)).1
      rw [rn_in lt bb] at hr
      exact px_go (ih (a + 1) (by grind) (by grind) (by grind) _ (by repeat (first | exact hI | refine mKI.u27 ?_ _ | refine mKI.u28 ?_ _ | refine mKI.u29 ?_ _ | refine mKI.u30 ?_ _)) (by simp [px_ur]; grind) (by rw [an]; exact hr)) ⟨rfl, trivial⟩
    · refine px_ine rfl q_X12_next_25 hg rfl ⟨trivial, (by first | decide | (refine ⟨?_, ?_⟩ <;> grind) | grind)⟩ (fun c36 => ?_) (fun c36 => ?_)
      · refine px_ine rfl q_X12_next_52 hg rfl trivial (fun c68 => ?_) (fun c68 => ?_)
        · have f27 : px_u I1 103 28 (I1 103 27) 103 27 = a := by simp [px_ur]; exact e27
          have c68 : ¬ a = len := by
            intro e9
            apply c68
            (try simp only [px_ur])
            (try simp)
            rw [e27, f26]; exact e9
          have e28a : a < len := by grind
          have bx : byR I a.toNatClampNeg = nb (I 121 a.toNatClampNeg) := byR_at a0 (by rw [hl.1]; exact e28a)
          have fx : I1 121 (I1 103 27).toNatClampNeg = I 121 a.toNatClampNeg := by rw [f121, e27]
          have hS : tS (byR I) (nR I) (I 103 27).toNatClampNeg = a.toNatClampNeg := by
            have nb9 : ¬ bB (byR I a.toNatClampNeg) = true := by
              rw [byR_at a0 (by rw [hl.1]; grind), nb_B, ← f121, ← e27]
              exact fun q => q.elim c22 (fun q => by first | exact c36 q | exact absurd q c36)
            rw [← hr]; exact rn_no nb9
          refine px_cSP rfl q_X12_next_77 hg rfl ⟨trivial, (by first | decide | (refine ⟨?_, ?_⟩ <;> grind) | grind)⟩ lk_12_303 nm_X12_isLetter (k_isLetter hg _) rfl rfl rfl ⟨rfl, rfl⟩ ?_
          intro x88 h88
          refine px_eq rfl q_X12_next_91 hg rfl trivial (fun c91 => ?_) (fun c91 => ?_)
          · replace h88 := px_bf h88 c91
            refine px_cSP rfl q_X12_next_247 hg rfl trivial lk_12_167 nm_X12_in (k_inI hg _ (48) (57) (by decide) (by decide)) rfl rfl rfl ⟨rfl, rfl⟩ ?_
            intro x255 h255
            refine px_eq rfl q_X12_next_258 hg rfl trivial (fun c258 => ?_) (fun c258 => ?_)
            · replace h255 := px_bf h255 c258
              refine px_ieq rfl q_X12_next_358 hg rfl trivial (fun c377 => ?_) (fun c377 => ?_)
              · refine px_rv rfl q_X12_next_392 rfl rfl rfl hg rfl trivial ?_
                have t1 : ¬ nR I ≤ a.toNatClampNeg := by rw [nl]; exact Nat.not_le.mpr (xlt a0 e28a)
                have g88 : ¬ mLt (I 121 a.toNatClampNeg) := by rw [← fx]; exact h88
                have g255 : ¬ (48 ≤ I 121 a.toNatClampNeg ∧ I 121 a.toNatClampNeg ≤ 57) := by rw [← fx]; exact h255
                have nl9 : ¬ bL (byR I a.toNatClampNeg) = true := by rw [bx, nb_L]; exact g88
                have nd9 : ¬ bD (byR I a.toNatClampNeg) = true := by rw [bx, nb_D]; exact g255
                have an := (px_tnS a0 (by grind)).1
                have kE : tE (byR I) (nR I) (I 103 27).toNatClampNeg = a.toNatClampNeg + 1 := by unfold tE; rw [hS, if_neg t1, if_neg nl9, if_neg nd9]
                have kV : tV (byR I) (nR I) (I 103 27).toNatClampNeg = byR I a.toNatClampNeg := by unfold tV; rw [hS, if_neg nl9, if_neg nd9]
                have kS : byR I a.toNatClampNeg = 59 ∨ byR I a.toNatClampNeg = 123 ∨ byR I a.toNatClampNeg = 125 ↔ I 121 a.toNatClampNeg = 59 ∨ I 121 a.toNatClampNeg = 123 ∨ I 121 a.toNatClampNeg = 125 := by rw [bx, nb_e (by decide), nb_e (by decide), nb_e (by decide)]
                have kK : tK (byR I) (nR I) (I 103 27).toNatClampNeg = 4 := by
                  unfold tK
                  rw [hS, if_neg t1, if_neg nl9, if_neg nd9]
                  first
                    | exact if_pos (kS.mpr (by rw [← fx]; first | exact Or.inl c377 | exact Or.inr (Or.inl c383) | exact Or.inr (Or.inr c389) | exact Or.inr (Or.inr (Classical.not_not.mp c389))))
                    | exact if_neg (fun q => by have q := kS.mp q; rw [← fx] at q; exact q.elim c377 (fun q => q.elim c383 (fun q => by first | exact c389 q | exact absurd q c389)))
                refine hq _ (by repeat (first | exact hI | refine mKI.u27 ?_ _ | refine mKI.u28 ?_ _ | refine mKI.u29 ?_ _ | refine mKI.u30 ?_ _)) ?_ ?_ ⟨by simp [px_ur]; rw [e27]; exact hS.symm, by simp [px_ur]; rw [e27, an]; exact kE.symm, by simp [px_ur]; exact kK.symm, fun q => by rw [kK] at q; exact absurd q (by decide), fun q => ?_⟩
                · simp [px_ur]; grind
                · unfold mTk; simp [px_ur]; grind
                · have z := kS.mpr (by rw [← fx]; first | exact Or.inl c377 | exact Or.inr (Or.inl c383) | exact Or.inr (Or.inr c389) | exact Or.inr (Or.inr (Classical.not_not.mp c389)))
                  have z2 : I1 121 (I1 103 27).toNatClampNeg = byR I a.toNatClampNeg := by
                    rw [fx, bx]
                    have z3 := kS.mp z
                    exact (nb_in (by rcases z3 with z3 | z3 | z3 <;> rw [z3] <;> decide)).symm
                  rw [kV, ← z2]
                  simp [px_ur]
              · refine px_ieq rfl q_X12_next_380 hg rfl trivial (fun c383 => ?_) (fun c383 => ?_)
                · refine px_rv rfl q_X12_next_392 rfl rfl rfl hg rfl trivial ?_
                  have t1 : ¬ nR I ≤ a.toNatClampNeg := by rw [nl]; exact Nat.not_le.mpr (xlt a0 e28a)
                  have g88 : ¬ mLt (I 121 a.toNatClampNeg) := by rw [← fx]; exact h88
                  have g255 : ¬ (48 ≤ I 121 a.toNatClampNeg ∧ I 121 a.toNatClampNeg ≤ 57) := by rw [← fx]; exact h255
                  have nl9 : ¬ bL (byR I a.toNatClampNeg) = true := by rw [bx, nb_L]; exact g88
                  have nd9 : ¬ bD (byR I a.toNatClampNeg) = true := by rw [bx, nb_D]; exact g255
                  have an := (px_tnS a0 (by grind)).1
                  have kE : tE (byR I) (nR I) (I 103 27).toNatClampNeg = a.toNatClampNeg + 1 := by unfold tE; rw [hS, if_neg t1, if_neg nl9, if_neg nd9]
                  have kV : tV (byR I) (nR I) (I 103 27).toNatClampNeg = byR I a.toNatClampNeg := by unfold tV; rw [hS, if_neg nl9, if_neg nd9]
                  have kS : byR I a.toNatClampNeg = 59 ∨ byR I a.toNatClampNeg = 123 ∨ byR I a.toNatClampNeg = 125 ↔ I 121 a.toNatClampNeg = 59 ∨ I 121 a.toNatClampNeg = 123 ∨ I 121 a.toNatClampNeg = 125 := by rw [bx, nb_e (by decide), nb_e (by decide), nb_e (by decide)]
                  have kK : tK (byR I) (nR I) (I 103 27).toNatClampNeg = 4 := by
                    unfold tK
                    rw [hS, if_neg t1, if_neg nl9, if_neg nd9]
                    first
                      | exact if_pos (kS.mpr (by rw [← fx]; first | exact Or.inl c377 | exact Or.inr (Or.inl c383) | exact Or.inr (Or.inr c389) | exact Or.inr (Or.inr (Classical.not_not.mp c389))))
                      | exact if_neg (fun q => by have q := kS.mp q; rw [← fx] at q; exact q.elim c377 (fun q => q.elim c383 (fun q => by first | exact c389 q | exact absurd q c389)))
                  refine hq _ (by repeat (first | exact hI | refine mKI.u27 ?_ _ | refine mKI.u28 ?_ _ | refine mKI.u29 ?_ _ | refine mKI.u30 ?_ _)) ?_ ?_ ⟨by simp [px_ur]; rw [e27]; exact hS.symm, by simp [px_ur]; rw [e27, an]; exact kE.symm, by simp [px_ur]; exact kK.symm, fun q => by rw [kK] at q; exact absurd q (by decide), fun q => ?_⟩
                  · simp [px_ur]; grind
                  · unfold mTk; simp [px_ur]; grind
                  · have z := kS.mpr (by rw [← fx]; first | exact Or.inl c377 | exact Or.inr (Or.inl c383) | exact Or.inr (Or.inr c389) | exact Or.inr (Or.inr (Classical.not_not.mp c389)))
                    have z2 : I1 121 (I1 103 27).toNatClampNeg = byR I a.toNatClampNeg := by
                      rw [fx, bx]
                      have z3 := kS.mp z
                      exact (nb_in (by rcases z3 with z3 | z3 | z3 <;> rw [z3] <;> decide)).symm
                    rw [kV, ← z2]
                    simp [px_ur]
                · refine px_ine rfl q_X12_next_386 hg rfl trivial (fun c389 => ?_) (fun c389 => ?_)
                  · refine px_rv rfl q_X12_next_396 rfl rfl rfl hg rfl trivial ?_
                    have t1 : ¬ nR I ≤ a.toNatClampNeg := by rw [nl]; exact Nat.not_le.mpr (xlt a0 e28a)
                    have g88 : ¬ mLt (I 121 a.toNatClampNeg) := by rw [← fx]; exact h88
                    have g255 : ¬ (48 ≤ I 121 a.toNatClampNeg ∧ I 121 a.toNatClampNeg ≤ 57) := by rw [← fx]; exact h255
                    have nl9 : ¬ bL (byR I a.toNatClampNeg) = true := by rw [bx, nb_L]; exact g88
                    have nd9 : ¬ bD (byR I a.toNatClampNeg) = true := by rw [bx, nb_D]; exact g255
                    have an := (px_tnS a0 (by grind)).1
                    have kE : tE (byR I) (nR I) (I 103 27).toNatClampNeg = a.toNatClampNeg + 1 := by unfold tE; rw [hS, if_neg t1, if_neg nl9, if_neg nd9]
                    have kV : tV (byR I) (nR I) (I 103 27).toNatClampNeg = byR I a.toNatClampNeg := by unfold tV; rw [hS, if_neg nl9, if_neg nd9]
                    have kS : byR I a.toNatClampNeg = 59 ∨ byR I a.toNatClampNeg = 123 ∨ byR I a.toNatClampNeg = 125 ↔ I 121 a.toNatClampNeg = 59 ∨ I 121 a.toNatClampNeg = 123 ∨ I 121 a.toNatClampNeg = 125 := by rw [bx, nb_e (by decide), nb_e (by decide), nb_e (by decide)]
                    have kK : tK (byR I) (nR I) (I 103 27).toNatClampNeg = 5 := by
                      unfold tK
                      rw [hS, if_neg t1, if_neg nl9, if_neg nd9]
                      first
                        | exact if_pos (kS.mpr (by rw [← fx]; first | exact Or.inl c377 | exact Or.inr (Or.inl c383) | exact Or.inr (Or.inr c389) | exact Or.inr (Or.inr (Classical.not_not.mp c389))))
                        | exact if_neg (fun q => by have q := kS.mp q; rw [← fx] at q; exact q.elim c377 (fun q => q.elim c383 (fun q => by first | exact c389 q | exact absurd q c389)))
                    refine hq _ (by repeat (first | exact hI | refine mKI.u27 ?_ _ | refine mKI.u28 ?_ _ | refine mKI.u29 ?_ _ | refine mKI.u30 ?_ _)) ?_ ?_ ⟨by simp [px_ur]; rw [e27]; exact hS.symm, by simp [px_ur]; rw [e27, an]; exact kE.symm, by simp [px_ur]; exact kK.symm, fun q => by rw [kK] at q; exact absurd q (by decide), fun q => ?_⟩
                    · simp [px_ur]; grind
                    · unfold mTk; simp [px_ur]; grind
                    · rw [kK] at q; exact absurd q (by decide)
                  · refine px_rv rfl q_X12_next_392 rfl rfl rfl hg rfl trivial ?_
                    have t1 : ¬ nR I ≤ a.toNatClampNeg := by rw [nl]; exact Nat.not_le.mpr (xlt a0 e28a)
                    have g88 : ¬ mLt (I 121 a.toNatClampNeg) := by rw [← fx]; exact h88
                    have g255 : ¬ (48 ≤ I 121 a.toNatClampNeg ∧ I 121 a.toNatClampNeg ≤ 57) := by rw [← fx]; exact h255
                    have nl9 : ¬ bL (byR I a.toNatClampNeg) = true := by rw [bx, nb_L]; exact g88
                    have nd9 : ¬ bD (byR I a.toNatClampNeg) = true := by rw [bx, nb_D]; exact g255
                    have an := (px_tnS a0 (by grind)).1
                    have kE : tE (byR I) (nR I) (I 103 27).toNatClampNeg = a.toNatClampNeg + 1 := by unfold tE; rw [hS, if_neg t1, if_neg nl9, if_neg nd9]
                    have kV : tV (byR I) (nR I) (I 103 27).toNatClampNeg = byR I a.toNatClampNeg := by unfold tV; rw [hS, if_neg nl9, if_neg nd9]
                    have kS : byR I a.toNatClampNeg = 59 ∨ byR I a.toNatClampNeg = 123 ∨ byR I a.toNatClampNeg = 125 ↔ I 121 a.toNatClampNeg = 59 ∨ I 121 a.toNatClampNeg = 123 ∨ I 121 a.toNatClampNeg = 125 := by rw [bx, nb_e (by decide), nb_e (by decide), nb_e (by decide)]
                    have kK : tK (byR I) (nR I) (I 103 27).toNatClampNeg = 4 := by
                      unfold tK
                      rw [hS, if_neg t1, if_neg nl9, if_neg nd9]
                      first
                        | exact if_pos (kS.mpr (by rw [← fx]; first | exact Or.inl c377 | exact Or.inr (Or.inl c383) | exact Or.inr (Or.inr c389) | exact Or.inr (Or.inr (Classical.not_not.mp c389))))
                        | exact if_neg (fun q => by have q := kS.mp q; rw [← fx] at q; exact q.elim c377 (fun q => q.elim c383 (fun q => by first | exact c389 q | exact absurd q c389)))
                    refine hq _ (by repeat (first | exact hI | refine mKI.u27 ?_ _ | refine mKI.u28 ?_ _ | refine mKI.u29 ?_ _ | refine mKI.u30 ?_ _)) ?_ ?_ ⟨by simp [px_ur]; rw [e27]; exact hS.symm, by simp [px_ur]; rw [e27, an]; exact kE.symm, by simp [px_ur]; exact kK.symm, fun q => by rw [kK] at q; exact absurd q (by decide), fun q => ?_⟩
                    · simp [px_ur]; grind
                    · unfold mTk; simp [px_ur]; grind
                    · have z := kS.mpr (by rw [← fx]; first | exact Or.inl c377 | exact Or.inr (Or.inl c383) | exact Or.inr (Or.inr c389) | exact Or.inr (Or.inr (Classical.not_not.mp c389)))
                      have z2 : I1 121 (I1 103 27).toNatClampNeg = byR I a.toNatClampNeg := by
                        rw [fx, bx]
                        have z3 := kS.mp z
                        exact (nb_in (by rcases z3 with z3 | z3 | z3 <;> rw [z3] <;> decide)).symm
                      rw [kV, ← z2]
                      simp [px_ur]
            · replace h255 := px_bt h255 c258
              refine px_b rfl q_X12_next_261 hg rfl trivial ?_
              exact px_go (ls_next271 hg _ a len hl ⟨a0, e28a, h0⟩ hS.symm (by rw [bx, nb_D, ← fx]; exact h255) (by rw [bx, nb_L, ← fx]; exact h88) hq a ha (Int32.le_refl _) _ (by repeat (first | exact hI | refine mKI.u27 ?_ _ | refine mKI.u28 ?_ _ | refine mKI.u29 ?_ _ | refine mKI.u30 ?_ _)) (by simp [px_ur]; exact e27) (by simp [px_ur]; exact e27) (by simp [px_ur]) (by simp [px_ur]) rfl (by simp [px_ur]; rfl)) ⟨rfl, rfl, trivial⟩
          · replace h88 := px_bt h88 c91
            refine px_b rfl q_X12_next_94 hg rfl trivial ?_
            have lx : mLt (I 121 a.toNatClampNeg) := by rw [← fx]; exact h88
            have bx2 : byR I a.toNatClampNeg = I 121 a.toNatClampNeg := by rw [bx]; exact nb_in (by unfold mLt at lx; constructor <;> grind)
            exact px_go (ls_next99 hg _ a len hl ⟨a0, e28a, h0⟩ hS.symm (by rw [bx, nb_L]; exact lx) (by rw [bx2, ← fx]; rfl) hq a ha (Int32.le_refl _) _ (by repeat (first | exact hI | refine mKI.u27 ?_ _ | refine mKI.u28 ?_ _ | refine mKI.u29 ?_ _ | refine mKI.u30 ?_ _)) (by simp [px_ur]; exact e27) (by simp [px_ur]; exact e27) rfl _ _ (by grind) (fun _ => by rw [Nat.sub_self]; show (0 : Int64).toInt = 0; decide)) ⟨rfl, rfl, rfl, rfl, trivial⟩
        · refine px_rv rfl q_X12_next_71 rfl rfl rfl hg rfl trivial ?_
          have hS : tS (byR I) (nR I) (I 103 27).toNatClampNeg = a.toNatClampNeg := by
            have nb9 : ¬ bB (byR I a.toNatClampNeg) = true := by
              rw [byR_at a0 (by rw [hl.1]; grind), nb_B, ← f121, ← e27]
              exact fun q => q.elim c22 (fun q => by first | exact c36 q | exact absurd q c36)
            rw [← hr]; exact rn_no nb9
          have e9 : a = len := by
            have z := c68
            (try simp only [px_ur] at z)
            (try simp at z)
            rw [e27, f26] at z
            exact z
          have t1 : nR I ≤ a.toNatClampNeg := by rw [nl, e9]; exact Nat.le_refl _
          have kE : tE (byR I) (nR I) (I 103 27).toNatClampNeg = a.toNatClampNeg := by unfold tE; rw [hS, if_pos t1]
          have kK : tK (byR I) (nR I) (I 103 27).toNatClampNeg = 0 := by unfold tK; rw [hS, if_pos t1]
          refine hq _ (by repeat (first | exact hI | refine mKI.u27 ?_ _ | refine mKI.u28 ?_ _ | refine mKI.u29 ?_ _ | refine mKI.u30 ?_ _)) ?_ ?_ ⟨by simp [px_ur]; rw [e27]; exact hS.symm, by simp [px_ur]; rw [e27]; exact kE.symm, by simp [px_ur]; exact kK.symm, fun q => by rw [kK] at q; exact absurd q (by decide), fun q => by rw [kK] at q; exact absurd q (by decide)⟩
          · simp [px_ur]; grind
          · unfold mTk; simp [px_ur]; grind
      · refine px_b rfl q_X12_next_39 hg rfl trivial ?_
        have alt : a < len := by rw [← e27, ← f26]; grind
        have bb : bB (byR I a.toNatClampNeg) = true := by rw [byR_at a0 (by rw [hl.1]; exact alt), nb_B, ← f121, ← e27]; first | exact Or.inl c22 | exact Or.inr c36 | exact Or.inr (Classical.not_not.mp c36)
        have lt : a.toNatClampNeg < nR I := by rw [nl]; exact xlt a0 alt
        have an := (px_tnS a0 (by grind)).1
        rw [rn_in lt bb] at hr
        exact px_go (ih (a + 1) (by grind) (by grind) (by grind) _ (by repeat (first | exact hI | refine mKI.u27 ?_ _ | refine mKI.u28 ?_ _ | refine mKI.u29 ?_ _ | refine mKI.u30 ?_ _)) (by simp [px_ur]; grind) (by rw [an]; exact hr)) ⟨rfl, trivial⟩

def mNx (I I2 : px_I) : Prop := mKI I I2 ∧ I 103 27 ≤ I2 103 28 ∧ mTk I2 ∧ nXt (byR I) (nR I) (I 103 27).toNatClampNeg I2
set_option maxRecDepth 100000 in
theorem ks_next {n : Nat} {I : px_I} {L : px_L} {R : px_R} (hg : px_G n R) (h : 0 ≤ I 103 27 ∧ I 103 27 ≤ I 103 26 ∧ I 103 26 ≤ 400) : px_KV M_X12_next [.ref 103] n I L R (fun I2 L2 => L2 = L ∧ mNx I I2) := by
  refine px_of (plainFor_of_name np_RX12) (fun _ _ _ => trivial) rfl ?_
  exact ls_next0 hg (I 103 26) ⟨rfl, h.2.2⟩ h.1 (fun I2 h1 h2 h3 h4 => ⟨rfl, rfl, rfl, rfl, h1, h2, h3, h4⟩) (I 103 27) h.2.1 (Int32.le_refl _) I (fun _ _ _ => rfl) rfl rfl
