/-- as far as the last place that counts -/
def xCl (W p : Nat) : Nat := if p < 61 - W then 0 else if p ≤ 61 + W then p - (61 - W) else 2 * W + 1
theorem xCl_out {W p : Nat} (hW : W ≤ 20) (h : p + W < 61 ∨ 61 + W < p) : xCl W (p + 1) = xCl W p := by
  unfold xCl
  split <;> split <;> (try split) <;> (try split) <;> omega
theorem xCl_in {W p : Nat} (hW : W ≤ 20) (h : 61 ≤ p + W ∧ p ≤ 61 + W) : xCl W (p + 1) = xCl W p + 1 ∧ 61 - W + xCl W p = p := by
  unfold xCl
  constructor
  · split <;> split <;> (try split) <;> (try split) <;> omega
  · split <;> (try split) <;> omega
theorem xCl_end {W : Nat} (hW : W ≤ 20) : xCl W 123 = 2 * W + 1 ∧ xCl W 0 = 0 := by
  unfold xCl
  constructor
  · split <;> (try split) <;> omega
  · split <;> (try split) <;> omega
theorem xMs {w i : Int32} (hw : 0 ≤ w ∧ w ≤ 20) (hi : 0 ≤ i ∧ i < 123) : (w < (if i - 61 < 0 then 0 - (i - 61) else i - 61)) ↔ (i.toNatClampNeg + w.toNatClampNeg < 61 ∨ 61 + w.toNatClampNeg < i.toNatClampNeg) := by
  have a := xnat hw.1
  have b := xnat hi.1
  have c := Int32.le_iff_toInt_le.mp hw.2
  have d := Int32.lt_iff_toInt_lt.mp hi.2
  rw [show (20 : Int32).toInt = 20 by decide] at c
  rw [show (123 : Int32).toInt = 123 by decide] at d
  have e : (i - 61).toInt = i.toInt - 61 := by rw [Int32.toInt_sub, show (61 : Int32).toInt = 61 by decide, Int.bmod_eq_of_le (by omega) (by omega)]
  have f : (0 - (i - 61)).toInt = 61 - i.toInt := by rw [Int32.toInt_sub, e, show (0 : Int32).toInt = 0 by decide, Int.bmod_eq_of_le (by omega) (by omega)]; omega
  rw [Int32.lt_iff_toInt_lt]
  by_cases z : i - 61 < 0
  · rw [if_pos z, f]
    have z := Int32.lt_iff_toInt_lt.mp z
    rw [e, show (0 : Int32).toInt = 0 by decide] at z
    omega
  · rw [if_neg z, e]
    have z := Int32.le_iff_toInt_le.mp (Int32.not_lt.mp z)
    rw [e, show (0 : Int32).toInt = 0 by decide] at z
    omega
theorem xPl {I : px_I} {p q : Int32} (hp : 0 ≤ I 97 4 ∧ I 97 4 ≤ 3) (hv : -61 ≤ p - 61 ∧ p - 61 ≤ 61) : cMx 0 (cMn 122 (61 + cPull I p q)) = pOff (I 97 3) (I 97 4) (p - 61) q + 61 ∧ -61 ≤ (pOff (I 97 3) (I 97 4) (p - 61) q).toInt ∧ (pOff (I 97 3) (I 97 4) (p - 61) q).toInt ≤ 61 := by
  have e : cPull I p q = pOff (I 97 3) (I 97 4) (p - 61) q := by
    have w1 := Int32.le_iff_toInt_le.mp hv.1
    have w2 := Int32.le_iff_toInt_le.mp hv.2
    have l1 := Int32.le_iff_toInt_le.mp hp.1
    have l2 := Int32.le_iff_toInt_le.mp hp.2
    rw [show (-61 : Int32).toInt = -61 by decide] at w1
    rw [show (61 : Int32).toInt = 61 by decide] at w2
    rw [show (0 : Int32).toInt = 0 by decide] at l1
    rw [show (3 : Int32).toInt = 3 by decide] at l2
    unfold cPull pOff cMx cMn
    generalize p - 61 = v at w1 w2 ⊢
    generalize I 97 4 = l at l1 l2 ⊢
    have s1 : (v - l).toInt = v.toInt - l.toInt := by rw [Int32.toInt_sub, Int.bmod_eq_of_le (by omega) (by omega)]
    have s2 : (v + l).toInt = v.toInt + l.toInt := by rw [Int32.toInt_add, Int.bmod_eq_of_le (by omega) (by omega)]
    have s3 : (0 - l).toInt = - l.toInt := by rw [Int32.toInt_sub, show (0 : Int32).toInt = 0 by decide, Int.bmod_eq_of_le (by omega) (by omega)]; omega
    have t1 : (0 < v - l) ↔ l < v := by rw [Int32.lt_iff_toInt_lt, Int32.lt_iff_toInt_lt, s1, show (0 : Int32).toInt = 0 by decide]; omega
    have t2 : (v + l < 0) ↔ v < 0 - l := by rw [Int32.lt_iff_toInt_lt, Int32.lt_iff_toInt_lt, s2, s3, show (0 : Int32).toInt = 0 by decide]; omega
    by_cases c : q ≤ I 97 3
    · rw [if_pos c, if_pos c]
      by_cases d : 0 < v
      · rw [if_pos d, if_pos d]
        by_cases e : l < v
        · rw [if_pos e, if_pos (t1.mpr e)]
        · rw [if_neg e, if_neg (fun z => e (t1.mp z))]
      · rw [if_neg d, if_neg d]
        by_cases e : v < 0 - l
        · rw [if_pos e, if_pos (t2.mpr e)]
        · rw [if_neg e, if_neg (fun z => e (t2.mp z))]
    · rw [if_neg c, if_neg c]
  have v1 := Int32.le_iff_toInt_le.mp hv.1
  have v2 := Int32.le_iff_toInt_le.mp hv.2
  rw [show (-61 : Int32).toInt = -61 by decide] at v1
  rw [show (61 : Int32).toInt = 61 by decide] at v2
  have b := pOff_in (hear := I 97 3) (left := q) hp ⟨v1, v2⟩
  rw [e]
  refine ⟨?_, b⟩
  generalize pOff (I 97 3) (I 97 4) (p - 61) q = t at b
  have t1 : (61 + t).toInt = 61 + t.toInt := by rw [Int32.toInt_add, show (61 : Int32).toInt = 61 by decide, Int.bmod_eq_of_le (by omega) (by omega)]
  have m1 : cMn 122 (61 + t) = 61 + t := by
    unfold cMn
    split
    · rfl
    · rename_i c
      have c := Int32.le_iff_toInt_le.mp (Int32.not_lt.mp c)
      rw [t1, show (122 : Int32).toInt = 122 by decide] at c
      apply Int32.toInt_inj.mp
      rw [t1, show (122 : Int32).toInt = 122 by decide]
      omega
  have m2 : cMx 0 (61 + t) = 61 + t := by
    unfold cMx
    split
    · rfl
    · rename_i c
      have c := Int32.le_iff_toInt_le.mp (Int32.not_lt.mp c)
      rw [t1, show (0 : Int32).toInt = 0 by decide] at c
      apply Int32.toInt_inj.mp
      rw [t1, show (0 : Int32).toInt = 0 by decide]
      omega
  rw [m1, m2]
  exact Int32.add_comm 61 t
theorem xT_up {I : px_I} {h q p d : Int32} {A T : Nat → Int64} {x z : Int32} {v : Int64} {L1 : px_L} {P B : Nat} (h0 : 0 ≤ d) (hd : d < 3) (hp : 0 ≤ I 97 4 ∧ I 97 4 ≤ 3) (hpp : 1 ≤ p ∧ p < 122) (hA1 : L1 P = A) (hn : ¬ A p.toNatClampNeg = -1) (hF : L1 B = xS 61 (I 97 3) (I 97 4) q h (I 98) p A T d.toNatClampNeg)
    (hx : x = cMx 0 (cMn 122 (61 + cPull I (p + d - 1) q))) (hz : z = if x - 61 < 0 then 0 - (x - 61) else x - 61) (hw : ¬ I 98 d.toNatClampNeg ≤ 0) (hv : v = cBet (L1 B x.toNatClampNeg) (L1 P p.toNatClampNeg + z.toInt64) h) : px_u L1 B x.toNatClampNeg v B = xS 61 (I 97 3) (I 97 4) q h (I 98) p A T (d + 1).toNatClampNeg := by
  have ed := px_tnS (i := d) h0 (by grind)
  have eS : ∀ e, xS 61 (I 97 3) (I 97 4) q h (I 98) p A T e = xD 61 (I 97 3) (I 97 4) q h (I 98) p (A p.toNatClampNeg) T e := fun e => if_neg hn
  rw [eS] at hF
  rw [eS, ed.1]
  obtain ⟨x1, x2⟩ := xPl (p := p + d - 1) (q := q) hp (by constructor <;> grind)
  have ex : pOff (I 97 3) (I 97 4) (p + d - 1 - 61) q = pOff (I 97 3) (I 97 4) (p + Int32.ofNat d.toNatClampNeg - 1 - 61) q := by rw [ed.2]
  rw [x1] at hx
  have e61 : x - 61 = pOff (I 97 3) (I 97 4) (p + d - 1 - 61) q := by rw [hx]; grind
  rw [hx] at hv ⊢
  refine xD_up hF ex (by grind) ?_
  rw [hv, hA1]
  have ez : z = aV (pOff (I 97 3) (I 97 4) (p + d - 1 - 61) q) := by rw [hz, e61]; rfl
  rw [ez]
theorem xT_st {I : px_I} {h q p d : Int32} {A T F : Nat → Int64} (h0 : 0 ≤ d) (hd : d < 3) (hw : I 98 d.toNatClampNeg ≤ 0) (hF : F = xS 61 (I 97 3) (I 97 4) q h (I 98) p A T d.toNatClampNeg) : F = xS 61 (I 97 3) (I 97 4) q h (I 98) p A T (d + 1).toNatClampNeg := by
  rw [hF, (px_tnS h0 (by grind)).1]
  unfold xS
  by_cases e : A p.toNatClampNeg = -1
  · rw [if_pos e, if_pos e]
  · rw [if_neg e, if_neg e, xD_st (by grind)]

def cAns (I : px_I) (a o h : Int32) : Int32 := (xB h (xR 61 121 (I 97 3) (I 97 4) h (I 98) a.toNatClampNeg (x0 61 o (-1) 0) a.toNatClampNeg) (61 - (I 97 5).toNatClampNeg) (2 * (I 97 5).toNatClampNeg + 1)).toInt32

set_option maxRecDepth 100000 in
theorem ls_startAtA {n : Nat} {R : px_R} (hg : px_G n (cRA R)) (hg2 : px_G n (cRB R)) {Q : px_Q} (o : Int32) (ho : -20 ≤ o ∧ o ≤ 20) (e h : Int64) {I : px_I} (L : px_L) (hq : ∀ L2, cSL L L2 → (∀ j, j ≤ 122 → L2 99 j = x0 61 o e h j) → Q none n I L2 (cRA R)) : ∀ i : Int32, i ≤ 123 → 0 ≤ i → ∀ L1, cSL L L1 → (∀ j, j < i.toNatClampNeg → L1 99 j = x0 61 o e h j) → px M_X6_startAt 0 0 3 [(0, .ref 97), (1, .int o), (2, .long e), (4, .long h), (6, .int i)] [] n I L1 (cRA R) Q := by
  refine px_up 123 (fun i ih hi => ?_)
  intro h0 L1 h1 hF1
  refine px_ige rfl q_X6_startAt_3 hg rfl trivial (fun c7 => ?_) (fun c7 => ?_)
  · refine px_rv rfl q_X6_startAt_38 rfl rfl rfl hg rfl trivial ?_
    exact hq _ h1 (fun j hj => hF1 j (xn123 (by grind) hj))
  · refine px_ine rfl q_X6_startAt_10 hg rfl trivial (fun c22 => ?_) (fun c22 => ?_)
    · refine px_b rfl q_X6_startAt_30 hg rfl ⟨trivial, (by first | decide | (refine ⟨?_, ?_⟩ <;> grind) | grind)⟩ ?_
      exact px_go (ih (i + 1) (by grind) (by grind) (by grind) _ (by repeat (first | exact h1 | refine cSL.u9 ?_ _ _ | refine cSL.u0 ?_ _ _)) (xnext h0 (by grind) hF1 (by rw [x0_at h0 (by grind)]; exact (if_neg (by grind)).symm))) ⟨rfl, rfl, rfl, rfl, rfl, trivial⟩
    · refine px_b rfl q_X6_startAt_25 hg rfl ⟨trivial, (by first | decide | (refine ⟨?_, ?_⟩ <;> grind) | grind)⟩ ?_
      exact px_go (ih (i + 1) (by grind) (by grind) (by grind) _ (by repeat (first | exact h1 | refine cSL.u9 ?_ _ _ | refine cSL.u0 ?_ _ _)) (xnext h0 (by grind) hF1 (by rw [x0_at h0 (by grind)]; exact (if_pos (by grind)).symm))) ⟨rfl, rfl, rfl, rfl, rfl, trivial⟩

set_option maxRecDepth 100000 in
theorem cs_startAtA {n : Nat} {I : px_I} {L : px_L} {R : px_R} (hg : px_G n (cRA R)) (hg2 : px_G n (cRB R)) (o : Int32) (ho : -20 ≤ o ∧ o ≤ 20) (e h : Int64) : px_KV M_X6_startAt [.ref 97, .int o, .long e, .long h] n I L (cRA R) (fun I2 L2 => I2 = I ∧ cSL L L2 ∧ ∀ j, j ≤ 122 → L2 99 j = x0 61 o e h j) := by
  refine px_of (plainFor_of_name np_RX6) (fun _ _ _ => trivial) rfl ?_
  refine px_b rfl q_X6_startAt_0 hg rfl trivial ?_
  exact px_go (ls_startAtA hg hg2 o ho e h L (fun L2 h hF => ⟨rfl, rfl, rfl, rfl, h, hF⟩) 0 (by decide) (by decide) L cSL.rfl' xnone) ⟨rfl, rfl, rfl, rfl, rfl, trivial⟩

set_option maxRecDepth 100000 in
theorem ls_clearNextA {n : Nat} {R : px_R} (hg : px_G n (cRA R)) (hg2 : px_G n (cRB R)) {Q : px_Q} (v : Int64) {I : px_I} (L : px_L) (hq : ∀ L2, cSL L L2 → L2 99 = L 99 → (∀ j, j ≤ 122 → L2 100 j = v) → Q none n I L2 (cRA R)) : ∀ i : Int32, i ≤ 123 → 0 ≤ i → ∀ L1, cSL L L1 → L1 99 = L 99 → (∀ j, j < i.toNatClampNeg → L1 100 j = v) → px M_X6_clearNext 0 0 2 [(0, .ref 97), (1, .long v), (3, .int i)] [] n I L1 (cRA R) Q := by
  refine px_up 123 (fun i ih hi => ?_)
  intro h0 L1 h1 hP1 hF1
  refine px_ige rfl q_X6_clearNext_2 hg rfl trivial (fun c5 => ?_) (fun c5 => ?_)
  · refine px_rv rfl q_X6_clearNext_21 rfl rfl rfl hg rfl trivial ?_
    exact hq _ h1 hP1 (fun j hj => hF1 j (xn123 (by grind) hj))
  · refine px_b rfl q_X6_clearNext_8 hg rfl ⟨trivial, (by first | decide | (refine ⟨?_, ?_⟩ <;> grind) | grind)⟩ ?_
    exact px_go (ih (i + 1) (by grind) (by grind) (by grind) _ (by repeat (first | exact h1 | refine cSL.u9 ?_ _ _ | refine cSL.u0 ?_ _ _)) (by rw [px_u_ne (by decide)]; exact hP1) (xnext (F := fun _ => v) h0 (by grind) hF1 rfl)) ⟨rfl, rfl, rfl, trivial⟩

set_option maxRecDepth 100000 in
theorem cs_clearNextA {n : Nat} {I : px_I} {L : px_L} {R : px_R} (hg : px_G n (cRA R)) (hg2 : px_G n (cRB R)) (v : Int64) : px_KV M_X6_clearNext [.ref 97, .long v] n I L (cRA R) (fun I2 L2 => I2 = I ∧ cSL L L2 ∧ L2 99 = L 99 ∧ ∀ j, j ≤ 122 → L2 100 j = v) := by
  refine px_of (plainFor_of_name np_RX6) (fun _ _ _ => trivial) rfl ?_
  refine px_b rfl q_X6_clearNext_0 hg rfl trivial ?_
  exact px_go (ls_clearNextA hg hg2 v L (fun L2 h h2 h3 => ⟨rfl, rfl, rfl, rfl, h, h2, h3⟩) 0 (by decide) (by decide) L cSL.rfl' rfl xnone) ⟨rfl, rfl, rfl, trivial⟩

set_option maxRecDepth 100000 in
theorem ls_prolongA {n : Nat} {R : px_R} (hg : px_G n (cRA R)) (hg2 : px_G n (cRB R)) {Q : px_Q} (p q h : Int32) (hp : 1 ≤ p ∧ p < 122) {I : px_I} (hpl : 0 ≤ I 97 4 ∧ I 97 4 ≤ 3) (L : px_L) (A T : Nat → Int64) (hn : ¬ A p.toNatClampNeg = -1) (hq : ∀ L2, cSL L L2 → L2 99 = A → L2 100 = xS 61 (I 97 3) (I 97 4) q h (I 98) p A T 3 → Q none n I L2 (cRA R)) : ∀ i : Int32, i ≤ 3 → 0 ≤ i → ∀ L1, cSL L L1 → L1 99 = A → L1 100 = xS 61 (I 97 3) (I 97 4) q h (I 98) p A T i.toNatClampNeg → px M_X6_prolong 0 0 17 [(0, .ref 97), (1, .int p), (2, .int q), (3, .int h), (4, .int i)] [] n I L1 (cRA R) Q := by
  refine px_up 3 (fun i ih hi => ?_)
  intro h0 L1 h1 hA1 hF1
  refine px_ige rfl q_X6_prolong_17 hg rfl trivial (fun c20 => ?_) (fun c20 => ?_)
  · refine px_rv rfl q_X6_prolong_90 rfl rfl rfl hg rfl trivial ?_
    have e9 : i = 3 := (by grind)
    rw [e9, show (3 : Int32).toNatClampNeg = 3 by decide] at hF1
    exact hq _ h1 hA1 hF1
  · refine px_le rfl q_X6_prolong_23 hg rfl ⟨trivial, (by first | with_reducible assumption | (refine ⟨?_, ?_⟩ <;> grind))⟩ (fun c30 => ?_) (fun c30 => ?_)
    · refine px_b rfl q_X6_prolong_84 hg rfl trivial ?_
      exact px_go (ih (i + 1) (by grind) (by grind) (by grind) _ h1 hA1 (xT_st h0 (by grind) c30 hF1)) ⟨rfl, rfl, rfl, rfl, rfl, trivial⟩
    · refine px_cVP (ci := 6) rfl q_X6_prolong_33 hg rfl trivial lk_6_65 nm_X6_pulled (c_pulled hg _ _) rfl rfl (px_lit hg rfl) rfl rfl rfl ⟨rfl, rfl⟩ ?_
      intro x41 h41
      have z41 : 0 ≤ x41 ∧ x41 < 123 := by have z9 := cMx_in (x := 61 + cPull I (p + i - 1) q); rw [← h41] at z9; exact ⟨z9.1, by grind⟩
      refine px_cSP rfl q_X6_prolong_44 hg rfl ⟨trivial, (by first | with_reducible assumption | (refine ⟨?_, ?_⟩ <;> grind))⟩ lk_6_69 nm_J9_abs_0f7a4 (j_abs hg _) rfl rfl rfl ⟨rfl, rfl⟩ ?_
      intro x57 h57
      refine px_cSQ rfl q_X6_prolong_60 hg rfl ⟨trivial, (by first | with_reducible assumption | (refine ⟨?_, ?_⟩ <;> grind))⟩ lk_6_61 nm_X6_better (c_better hg _ _ _) rfl rfl rfl ⟨rfl, rfl⟩ ?_
      intro x80 h80
      refine px_b rfl q_X6_prolong_83 hg rfl ⟨trivial, (by first | with_reducible assumption | (refine ⟨?_, ?_⟩ <;> grind))⟩ ?_
      exact px_go (ih (i + 1) (by grind) (by grind) (by grind) _ (by repeat (first | exact h1 | refine cSL.u9 ?_ _ _ | refine cSL.u0 ?_ _ _)) (by rw [px_u_ne (by decide)]; exact hA1) (xT_up h0 (by grind) hpl hp hA1 hn hF1 h41 h57 c30 h80)) ⟨rfl, rfl, rfl, rfl, rfl, trivial⟩

set_option maxRecDepth 100000 in
theorem cs_prolongA {n : Nat} {I : px_I} {L : px_L} {R : px_R} (hg : px_G n (cRA R)) (hg2 : px_G n (cRB R)) (p q h : Int32) (hp : 1 ≤ p ∧ p < 122) (hpl : 0 ≤ I 97 4 ∧ I 97 4 ≤ 3) : px_KV M_X6_prolong [.ref 97, .int p, .int q, .int h] n I L (cRA R) (fun I2 L2 => I2 = I ∧ cSL L L2 ∧ L2 99 = L 99 ∧ L2 100 = xS 61 (I 97 3) (I 97 4) q h (I 98) p (L 99) (L 100) 3) := by
  refine px_of (plainFor_of_name np_RX6) (fun _ _ _ => trivial) rfl ?_
  have hp0 : 0 ≤ p ∧ p < 123 := ⟨by grind, by grind⟩
  refine px_lne rfl q_X6_prolong_0 hg rfl ⟨trivial, (by with_reducible assumption)⟩ (fun c10 => ?_) (fun c10 => ?_)
  · refine px_b rfl q_X6_prolong_14 hg rfl trivial ?_
    exact px_go (ls_prolongA hg hg2 p q h hp hpl L (L 99) (L 100) (by first | exact c10 | exact fun z => c10 z) (fun L2 h h2 h3 => ⟨rfl, rfl, rfl, rfl, h, h2, h3⟩) 0 (by decide) (by decide) L cSL.rfl' rfl (by rw [xz0, xS_0])) ⟨rfl, rfl, rfl, rfl, rfl, trivial⟩
  · refine px_rvW rfl q_X6_prolong_13 rfl rfl rfl hg rfl trivial ⟨⟨rfl, rfl⟩, ?_⟩
    exact ⟨rfl, cSL.rfl', rfl, (xS_m (by first | exact c10 | exact Classical.not_not.mp c10)).symm⟩

set_option maxRecDepth 100000 in
theorem ls_round69A {n : Nat} {R : px_R} (hg : px_G n (cRA R)) (hg2 : px_G n (cRB R)) {Q : px_Q} (a o h : Int32) {I : px_I} {L : px_L} (F : Nat → Int64) (hw : 0 ≤ I 97 5 ∧ I 97 5 ≤ 20) (hL : ∀ j, j ≤ 122 → L 99 j = F j) (hq : Q (some (.int (xB h F (61 - (I 97 5).toNatClampNeg) (2 * (I 97 5).toNatClampNeg + 1)).toInt32)) n I L (cRA R)) : ∀ i : Int32, i ≤ 123 → 0 ≤ i → ∀ u : Int64, u = xB h F (61 - (I 97 5).toNatClampNeg) (xCl (I 97 5).toNatClampNeg i.toNatClampNeg) → px M_X6_roundabout 0 0 69 [(0, .ref 97), (1, .int a), (2, .int o), (3, .int h), (4, .long u), (6, .int i)] [] n I L (cRA R) Q := by
  refine px_up 123 (fun i ih hi => ?_)
  intro h0 u hu
  have w20 : (I 97 5).toNatClampNeg ≤ 20 := by have := xle hw.1 hw.2; rw [show (20 : Int32).toNatClampNeg = 20 by decide] at this; exact this
  have i122 : i < 123 → i.toNatClampNeg ≤ 122 := fun z => by have := xlt h0 z; rw [show (123 : Int32).toNatClampNeg = 123 by decide] at this; omega
  refine px_ige rfl q_X6_roundabout_69 hg rfl trivial (fun c73 => ?_) (fun c73 => ?_)
  · refine px_ri rfl q_X6_roundabout_106 rfl rfl rfl hg rfl trivial ?_
    have e9 : i = 123 := (by grind)
    rw [e9, show (123 : Int32).toNatClampNeg = 123 by decide, (xCl_end w20).1] at hu
    rw [hu]
    exact hq
  · refine px_cVP (ci := 6) rfl q_X6_roundabout_76 hg rfl trivial lk_6_47 nm_X6_misses (c_misses hg _) rfl rfl (px_lit hg rfl) rfl rfl rfl ⟨rfl, rfl⟩ ?_
    intro x79 h79
    refine px_ne rfl q_X6_roundabout_82 hg rfl trivial (fun c82 => ?_) (fun c82 => ?_)
    · replace h79 := px_bt h79 c82
      refine px_b rfl q_X6_roundabout_100 hg rfl trivial ?_
      have ms := (xMs hw ⟨h0, by grind⟩).mp h79
      exact px_go (ih (i + 1) (by grind) (by grind) (by grind) _ (by rw [(px_tnS h0 (by grind)).1, xCl_out w20 ms]; exact hu)) ⟨rfl, rfl, rfl, rfl, rfl, rfl, trivial⟩
    · replace h79 := px_bf h79 c82
      refine px_cSQ rfl q_X6_roundabout_85 hg rfl ⟨trivial, (by first | decide | (refine ⟨?_, ?_⟩ <;> grind) | grind)⟩ lk_6_61 nm_X6_better (c_better hg _ _ _) rfl rfl rfl ⟨rfl, rfl⟩ ?_
      intro x95 h95
      refine px_b rfl q_X6_roundabout_98 hg rfl trivial ?_
      have ms : 61 ≤ i.toNatClampNeg + (I 97 5).toNatClampNeg ∧ i.toNatClampNeg ≤ 61 + (I 97 5).toNatClampNeg := by
        have q : ¬ (i.toNatClampNeg + (I 97 5).toNatClampNeg < 61 ∨ 61 + (I 97 5).toNatClampNeg < i.toNatClampNeg) := fun z => h79 ((xMs hw ⟨h0, by grind⟩).mpr z)
        omega
      have cl := xCl_in w20 ms
      exact px_go (ih (i + 1) (by grind) (by grind) (by grind) _ (by
        rw [(px_tnS h0 (by grind)).1, cl.1]
        show _ = cBet (xB h F (61 - (I 97 5).toNatClampNeg) (xCl (I 97 5).toNatClampNeg i.toNatClampNeg)) (F (61 - (I 97 5).toNatClampNeg + xCl (I 97 5).toNatClampNeg i.toNatClampNeg)) h
        rw [cl.2, ← hu, ← hL _ (i122 (by grind))]
        exact h95)) ⟨rfl, rfl, rfl, rfl, rfl, rfl, trivial⟩

set_option maxRecDepth 100000 in
theorem ls_round29A {n : Nat} {R : px_R} (hg : px_G n (cRA R)) (hg2 : px_G n (cRB R)) {Q : px_Q} (a o h left : Int32) {I : px_I} (hpl : 0 ≤ I 97 4 ∧ I 97 4 ≤ 3) (L : px_L) (A T : Nat → Int64) (kk : ∀ L2, cSL L L2 → L2 100 = xK 61 (I 97 3) (I 97 4) left h (I 98) A T 121 → px M_X6_roundabout 0 0 14 [(0, .ref 97), (1, .int a), (2, .int o), (3, .int h), (4, .int (left + -1))] [] n I L2 (cRB R) Q) : ∀ i : Int32, i ≤ 122 → 1 ≤ i → ∀ L1, cSL L L1 → L1 99 = A → L1 100 = xK 61 (I 97 3) (I 97 4) left h (I 98) A T (i.toNatClampNeg - 1) → px M_X6_roundabout 0 0 29 [(0, .ref 97), (1, .int a), (2, .int o), (3, .int h), (4, .int left), (5, .int i)] [] n I L1 (cRA R) Q := by
  refine px_up 122 (fun i ih hi => ?_)
  intro h0 L1 h1 hA1 hF1
  refine px_ige rfl q_X6_roundabout_29 hg rfl trivial (fun c33 => ?_) (fun c33 => ?_)
  · refine px_cVG (ci := 6) rfl q_X6_roundabout_51 hg rfl trivial lk_6_44 nm_X6_swap (c_swapA hg hg2) rfl rfl (px_lit hg rfl) rfl rfl rfl ?_
    intro r52 n52 I52 L52 R52 h52
    obtain ⟨rfl, rfl, rfl, rfl, rfl⟩ := h52
    have hg := hg2
    refine px_b rfl q_X6_roundabout_55 hg rfl trivial ?_
    have e9 : i = 122 := (by grind)
    rw [e9, show (122 : Int32).toNatClampNeg - 1 = 121 by decide] at hF1
    exact px_go (kk _ h1 hF1) ⟨rfl, rfl, rfl, rfl, rfl, trivial⟩
  · refine px_cVW (ci := 6) rfl q_X6_roundabout_36 hg rfl trivial lk_6_57 nm_X6_prolong (cs_prolongA hg hg2 _ _ _ (by grind) hpl) rfl rfl (px_lit hg rfl) rfl rfl rfl ⟨rfl, rfl⟩ ?_
    intro I42 L42 h42
    obtain ⟨rfl, h9, hP9, hQ9⟩ := h42
    refine px_b rfl q_X6_roundabout_45 hg rfl trivial ?_
    exact px_go (ih (i + 1) (by grind) (by grind) (by grind) _ (h1.trans h9) (hP9.trans hA1) (by rw [hQ9, hA1, hF1]; exact xS_K h0 (by grind))) ⟨rfl, rfl, rfl, rfl, rfl, rfl, trivial⟩

set_option maxRecDepth 100000 in
theorem ls_round14A {n : Nat} {R : px_R} (hg : px_G n (cRA R)) (hg2 : px_G n (cRB R)) {Q : px_Q} (a o h left : Int32) {I : px_I} (hpl : 0 ≤ I 97 4 ∧ I 97 4 ≤ 3) (hw : 0 ≤ I 97 5 ∧ I 97 5 ≤ 20) (L : px_L) (F : Nat → Int64) (hF : ∀ j, j ≤ 122 → L 99 j = F j) (hq : ¬ -1 < left → Q (some (.int (xB h F (61 - (I 97 5).toNatClampNeg) (2 * (I 97 5).toNatClampNeg + 1)).toInt32)) n I L (cRA R)) (kk : -1 < left → ∀ L2, cSL L L2 → (∀ j, j ≤ 122 → L2 100 j = xK 61 (I 97 3) (I 97 4) left h (I 98) F (fun _ => -1) 121 j) → px M_X6_roundabout 0 0 14 [(0, .ref 97), (1, .int a), (2, .int o), (3, .int h), (4, .int (left + -1))] [] n I L2 (cRB R) Q) : px M_X6_roundabout 0 0 14 [(0, .ref 97), (1, .int a), (2, .int o), (3, .int h), (4, .int left)] [] n I L (cRA R) Q := by
  skip
  refine px_lt rfl q_X6_roundabout_14 hg rfl trivial (fun c16 => ?_) (fun c16 => ?_)
  · refine px_b rfl q_X6_roundabout_61 hg rfl trivial ?_
    have w20 : (I 97 5).toNatClampNeg ≤ 20 := by have := xle hw.1 hw.2; rw [show (20 : Int32).toNatClampNeg = 20 by decide] at this; exact this
    exact px_go (ls_round69A hg hg2 a o h F hw hF (hq (by grind)) 0 (by decide) (by decide) _ (by rw [xz0, (xCl_end w20).2]; rfl)) ⟨rfl, rfl, rfl, rfl, rfl, rfl, trivial⟩
  · refine px_cVW (ci := 6) rfl q_X6_roundabout_19 hg rfl trivial lk_6_36 nm_X6_clearNext (cs_clearNextA hg hg2 _) rfl rfl (px_lit hg rfl) rfl rfl rfl ⟨rfl, rfl⟩ ?_
    intro I23 L23 h23
    obtain ⟨rfl, h9, hP9, hQ9⟩ := h23
    refine px_b rfl q_X6_roundabout_26 hg rfl trivial ?_
    exact px_go (ls_round29A hg hg2 a o h left hpl _ _ _ (fun L2 h2 hX => kk (by grind) L2 (h9.trans h2) (fun j hj => by rw [hX]; exact xK_cg (N := 122) (fun z hz => by rw [hP9]; exact hF z hz) hQ9 121 (by decide) j hj)) 1 (by decide) (by decide) _ cSL.rfl' rfl (by rw [show (1 : Int32).toNatClampNeg - 1 = 0 by decide]; rfl)) ⟨rfl, rfl, rfl, rfl, rfl, rfl, trivial⟩

set_option maxRecDepth 100000 in
theorem ls_startAtB {n : Nat} {R : px_R} (hg : px_G n (cRB R)) (hg2 : px_G n (cRA R)) {Q : px_Q} (o : Int32) (ho : -20 ≤ o ∧ o ≤ 20) (e h : Int64) {I : px_I} (L : px_L) (hq : ∀ L2, cSL L L2 → (∀ j, j ≤ 122 → L2 100 j = x0 61 o e h j) → Q none n I L2 (cRB R)) : ∀ i : Int32, i ≤ 123 → 0 ≤ i → ∀ L1, cSL L L1 → (∀ j, j < i.toNatClampNeg → L1 100 j = x0 61 o e h j) → px M_X6_startAt 0 0 3 [(0, .ref 97), (1, .int o), (2, .long e), (4, .long h), (6, .int i)] [] n I L1 (cRB R) Q := by
  refine px_up 123 (fun i ih hi => ?_)
  intro h0 L1 h1 hF1
  refine px_ige rfl q_X6_startAt_3 hg rfl trivial (fun c7 => ?_) (fun c7 => ?_)
  · refine px_rv rfl q_X6_startAt_38 rfl rfl rfl hg rfl trivial ?_
    exact hq _ h1 (fun j hj => hF1 j (xn123 (by grind) hj))
  · refine px_ine rfl q_X6_startAt_10 hg rfl trivial (fun c22 => ?_) (fun c22 => ?_)
    · refine px_b rfl q_X6_startAt_30 hg rfl ⟨trivial, (by first | decide | (refine ⟨?_, ?_⟩ <;> grind) | grind)⟩ ?_
      exact px_go (ih (i + 1) (by grind) (by grind) (by grind) _ (by repeat (first | exact h1 | refine cSL.u9 ?_ _ _ | refine cSL.u0 ?_ _ _)) (xnext h0 (by grind) hF1 (by rw [x0_at h0 (by grind)]; exact (if_neg (by grind)).symm))) ⟨rfl, rfl, rfl, rfl, rfl, trivial⟩
    · refine px_b rfl q_X6_startAt_25 hg rfl ⟨trivial, (by first | decide | (refine ⟨?_, ?_⟩ <;> grind) | grind)⟩ ?_
      exact px_go (ih (i + 1) (by grind) (by grind) (by grind) _ (by repeat (first | exact h1 | refine cSL.u9 ?_ _ _ | refine cSL.u0 ?_ _ _)) (xnext h0 (by grind) hF1 (by rw [x0_at h0 (by grind)]; exact (if_pos (by grind)).symm))) ⟨rfl, rfl, rfl, rfl, rfl, trivial⟩

set_option maxRecDepth 100000 in
theorem cs_startAtB {n : Nat} {I : px_I} {L : px_L} {R : px_R} (hg : px_G n (cRB R)) (hg2 : px_G n (cRA R)) (o : Int32) (ho : -20 ≤ o ∧ o ≤ 20) (e h : Int64) : px_KV M_X6_startAt [.ref 97, .int o, .long e, .long h] n I L (cRB R) (fun I2 L2 => I2 = I ∧ cSL L L2 ∧ ∀ j, j ≤ 122 → L2 100 j = x0 61 o e h j) := by
  refine px_of (plainFor_of_name np_RX6) (fun _ _ _ => trivial) rfl ?_
  refine px_b rfl q_X6_startAt_0 hg rfl trivial ?_
  exact px_go (ls_startAtB hg hg2 o ho e h L (fun L2 h hF => ⟨rfl, rfl, rfl, rfl, h, hF⟩) 0 (by decide) (by decide) L cSL.rfl' xnone) ⟨rfl, rfl, rfl, rfl, rfl, trivial⟩

set_option maxRecDepth 100000 in
theorem ls_clearNextB {n : Nat} {R : px_R} (hg : px_G n (cRB R)) (hg2 : px_G n (cRA R)) {Q : px_Q} (v : Int64) {I : px_I} (L : px_L) (hq : ∀ L2, cSL L L2 → L2 100 = L 100 → (∀ j, j ≤ 122 → L2 99 j = v) → Q none n I L2 (cRB R)) : ∀ i : Int32, i ≤ 123 → 0 ≤ i → ∀ L1, cSL L L1 → L1 100 = L 100 → (∀ j, j < i.toNatClampNeg → L1 99 j = v) → px M_X6_clearNext 0 0 2 [(0, .ref 97), (1, .long v), (3, .int i)] [] n I L1 (cRB R) Q := by
  refine px_up 123 (fun i ih hi => ?_)
  intro h0 L1 h1 hP1 hF1
  refine px_ige rfl q_X6_clearNext_2 hg rfl trivial (fun c5 => ?_) (fun c5 => ?_)
  · refine px_rv rfl q_X6_clearNext_21 rfl rfl rfl hg rfl trivial ?_
    exact hq _ h1 hP1 (fun j hj => hF1 j (xn123 (by grind) hj))
  · refine px_b rfl q_X6_clearNext_8 hg rfl ⟨trivial, (by first | decide | (refine ⟨?_, ?_⟩ <;> grind) | grind)⟩ ?_
    exact px_go (ih (i + 1) (by grind) (by grind) (by grind) _ (by repeat (first | exact h1 | refine cSL.u9 ?_ _ _ | refine cSL.u0 ?_ _ _)) (by rw [px_u_ne (by decide)]; exact hP1) (xnext (F := fun _ => v) h0 (by grind) hF1 rfl)) ⟨rfl, rfl, rfl, trivial⟩

set_option maxRecDepth 100000 in
theorem cs_clearNextB {n : Nat} {I : px_I} {L : px_L} {R : px_R} (hg : px_G n (cRB R)) (hg2 : px_G n (cRA R)) (v : Int64) : px_KV M_X6_clearNext [.ref 97, .long v] n I L (cRB R) (fun I2 L2 => I2 = I ∧ cSL L L2 ∧ L2 100 = L 100 ∧ ∀ j, j ≤ 122 → L2 99 j = v) := by
  refine px_of (plainFor_of_name np_RX6) (fun _ _ _ => trivial) rfl ?_
  refine px_b rfl q_X6_clearNext_0 hg rfl trivial ?_
  exact px_go (ls_clearNextB hg hg2 v L (fun L2 h h2 h3 => ⟨rfl, rfl, rfl, rfl, h, h2, h3⟩) 0 (by decide) (by decide) L cSL.rfl' rfl xnone) ⟨rfl, rfl, rfl, trivial⟩

set_option maxRecDepth 100000 in
theorem ls_prolongB {n : Nat} {R : px_R} (hg : px_G n (cRB R)) (hg2 : px_G n (cRA R)) {Q : px_Q} (p q h : Int32) (hp : 1 ≤ p ∧ p < 122) {I : px_I} (hpl : 0 ≤ I 97 4 ∧ I 97 4 ≤ 3) (L : px_L) (A T : Nat → Int64) (hn : ¬ A p.toNatClampNeg = -1) (hq : ∀ L2, cSL L L2 → L2 100 = A → L2 99 = xS 61 (I 97 3) (I 97 4) q h (I 98) p A T 3 → Q none n I L2 (cRB R)) : ∀ i : Int32, i ≤ 3 → 0 ≤ i → ∀ L1, cSL L L1 → L1 100 = A → L1 99 = xS 61 (I 97 3) (I 97 4) q h (I 98) p A T i.toNatClampNeg → px M_X6_prolong 0 0 17 [(0, .ref 97), (1, .int p), (2, .int q), (3, .int h), (4, .int i)] [] n I L1 (cRB R) Q := by
  refine px_up 3 (fun i ih hi => ?_)
  intro h0 L1 h1 hA1 hF1
  refine px_ige rfl q_X6_prolong_17 hg rfl trivial (fun c20 => ?_) (fun c20 => ?_)
  · refine px_rv rfl q_X6_prolong_90 rfl rfl rfl hg rfl trivial ?_
    have e9 : i = 3 := (by grind)
    rw [e9, show (3 : Int32).toNatClampNeg = 3 by decide] at hF1
    exact hq _ h1 hA1 hF1
  · refine px_le rfl q_X6_prolong_23 hg rfl ⟨trivial, (by first | with_reducible assumption | (refine ⟨?_, ?_⟩ <;> grind))⟩ (fun c30 => ?_) (fun c30 => ?_)
    · refine px_b rfl q_X6_prolong_84 hg rfl trivial ?_
      exact px_go (ih (i + 1) (by grind) (by grind) (by grind) _ h1 hA1 (xT_st h0 (by grind) c30 hF1)) ⟨rfl, rfl, rfl, rfl, rfl, trivial⟩
    · refine px_cVP (ci := 6) rfl q_X6_prolong_33 hg rfl trivial lk_6_65 nm_X6_pulled (c_pulled hg _ _) rfl rfl (px_lit hg rfl) rfl rfl rfl ⟨rfl, rfl⟩ ?_
      intro x41 h41
      have z41 : 0 ≤ x41 ∧ x41 < 123 := by have z9 := cMx_in (x := 61 + cPull I (p + i - 1) q); rw [← h41] at z9; exact ⟨z9.1, by grind⟩
      refine px_cSP rfl q_X6_prolong_44 hg rfl ⟨trivial, (by first | with_reducible assumption | (refine ⟨?_, ?_⟩ <;> grind))⟩ lk_6_69 nm_J9_abs_0f7a4 (j_abs hg _) rfl rfl rfl ⟨rfl, rfl⟩ ?_
      intro x57 h57
      refine px_cSQ rfl q_X6_prolong_60 hg rfl ⟨trivial, (by first | with_reducible assumption | (refine ⟨?_, ?_⟩ <;> grind))⟩ lk_6_61 nm_X6_better (c_better hg _ _ _) rfl rfl rfl ⟨rfl, rfl⟩ ?_
      intro x80 h80
      refine px_b rfl q_X6_prolong_83 hg rfl ⟨trivial, (by first | with_reducible assumption | (refine ⟨?_, ?_⟩ <;> grind))⟩ ?_
      exact px_go (ih (i + 1) (by grind) (by grind) (by grind) _ (by repeat (first | exact h1 | refine cSL.u9 ?_ _ _ | refine cSL.u0 ?_ _ _)) (by rw [px_u_ne (by decide)]; exact hA1) (xT_up h0 (by grind) hpl hp hA1 hn hF1 h41 h57 c30 h80)) ⟨rfl, rfl, rfl, rfl, rfl, trivial⟩

set_option maxRecDepth 100000 in
theorem cs_prolongB {n : Nat} {I : px_I} {L : px_L} {R : px_R} (hg : px_G n (cRB R)) (hg2 : px_G n (cRA R)) (p q h : Int32) (hp : 1 ≤ p ∧ p < 122) (hpl : 0 ≤ I 97 4 ∧ I 97 4 ≤ 3) : px_KV M_X6_prolong [.ref 97, .int p, .int q, .int h] n I L (cRB R) (fun I2 L2 => I2 = I ∧ cSL L L2 ∧ L2 100 = L 100 ∧ L2 99 = xS 61 (I 97 3) (I 97 4) q h (I 98) p (L 100) (L 99) 3) := by
  refine px_of (plainFor_of_name np_RX6) (fun _ _ _ => trivial) rfl ?_
  have hp0 : 0 ≤ p ∧ p < 123 := ⟨by grind, by grind⟩
  refine px_lne rfl q_X6_prolong_0 hg rfl ⟨trivial, (by with_reducible assumption)⟩ (fun c10 => ?_) (fun c10 => ?_)
  · refine px_b rfl q_X6_prolong_14 hg rfl trivial ?_
    exact px_go (ls_prolongB hg hg2 p q h hp hpl L (L 100) (L 99) (by first | exact c10 | exact fun z => c10 z) (fun L2 h h2 h3 => ⟨rfl, rfl, rfl, rfl, h, h2, h3⟩) 0 (by decide) (by decide) L cSL.rfl' rfl (by rw [xz0, xS_0])) ⟨rfl, rfl, rfl, rfl, rfl, trivial⟩
  · refine px_rvW rfl q_X6_prolong_13 rfl rfl rfl hg rfl trivial ⟨⟨rfl, rfl⟩, ?_⟩
    exact ⟨rfl, cSL.rfl', rfl, (xS_m (by first | exact c10 | exact Classical.not_not.mp c10)).symm⟩

set_option maxRecDepth 100000 in
theorem ls_round69B {n : Nat} {R : px_R} (hg : px_G n (cRB R)) (hg2 : px_G n (cRA R)) {Q : px_Q} (a o h : Int32) {I : px_I} {L : px_L} (F : Nat → Int64) (hw : 0 ≤ I 97 5 ∧ I 97 5 ≤ 20) (hL : ∀ j, j ≤ 122 → L 100 j = F j) (hq : Q (some (.int (xB h F (61 - (I 97 5).toNatClampNeg) (2 * (I 97 5).toNatClampNeg + 1)).toInt32)) n I L (cRB R)) : ∀ i : Int32, i ≤ 123 → 0 ≤ i → ∀ u : Int64, u = xB h F (61 - (I 97 5).toNatClampNeg) (xCl (I 97 5).toNatClampNeg i.toNatClampNeg) → px M_X6_roundabout 0 0 69 [(0, .ref 97), (1, .int a), (2, .int o), (3, .int h), (4, .long u), (6, .int i)] [] n I L (cRB R) Q := by
  refine px_up 123 (fun i ih hi => ?_)
  intro h0 u hu
  have w20 : (I 97 5).toNatClampNeg ≤ 20 := by have := xle hw.1 hw.2; rw [show (20 : Int32).toNatClampNeg = 20 by decide] at this; exact this
  have i122 : i < 123 → i.toNatClampNeg ≤ 122 := fun z => by have := xlt h0 z; rw [show (123 : Int32).toNatClampNeg = 123 by decide] at this; omega
  refine px_ige rfl q_X6_roundabout_69 hg rfl trivial (fun c73 => ?_) (fun c73 => ?_)
  · refine px_ri rfl q_X6_roundabout_106 rfl rfl rfl hg rfl trivial ?_
    have e9 : i = 123 := (by grind)
    rw [e9, show (123 : Int32).toNatClampNeg = 123 by decide, (xCl_end w20).1] at hu
    rw [hu]
    exact hq
  · refine px_cVP (ci := 6) rfl q_X6_roundabout_76 hg rfl trivial lk_6_47 nm_X6_misses (c_misses hg _) rfl rfl (px_lit hg rfl) rfl rfl rfl ⟨rfl, rfl⟩ ?_
    intro x79 h79
    refine px_ne rfl q_X6_roundabout_82 hg rfl trivial (fun c82 => ?_) (fun c82 => ?_)
    · replace h79 := px_bt h79 c82
      refine px_b rfl q_X6_roundabout_100 hg rfl trivial ?_
      have ms := (xMs hw ⟨h0, by grind⟩).mp h79
      exact px_go (ih (i + 1) (by grind) (by grind) (by grind) _ (by rw [(px_tnS h0 (by grind)).1, xCl_out w20 ms]; exact hu)) ⟨rfl, rfl, rfl, rfl, rfl, rfl, trivial⟩
    · replace h79 := px_bf h79 c82
      refine px_cSQ rfl q_X6_roundabout_85 hg rfl ⟨trivial, (by first | decide | (refine ⟨?_, ?_⟩ <;> grind) | grind)⟩ lk_6_61 nm_X6_better (c_better hg _ _ _) rfl rfl rfl ⟨rfl, rfl⟩ ?_
      intro x95 h95
      refine px_b rfl q_X6_roundabout_98 hg rfl trivial ?_
      have ms : 61 ≤ i.toNatClampNeg + (I 97 5).toNatClampNeg ∧ i.toNatClampNeg ≤ 61 + (I 97 5).toNatClampNeg := by
        have q : ¬ (i.toNatClampNeg + (I 97 5).toNatClampNeg < 61 ∨ 61 + (I 97 5).toNatClampNeg < i.toNatClampNeg) := fun z => h79 ((xMs hw ⟨h0, by grind⟩).mpr z)
        omega
      have cl := xCl_in w20 ms
      exact px_go (ih (i + 1) (by grind) (by grind) (by grind) _ (by
        rw [(px_tnS h0 (by grind)).1, cl.1]
        show _ = cBet (xB h F (61 - (I 97 5).toNatClampNeg) (xCl (I 97 5).toNatClampNeg i.toNatClampNeg)) (F (61 - (I 97 5).toNatClampNeg + xCl (I 97 5).toNatClampNeg i.toNatClampNeg)) h
        rw [cl.2, ← hu, ← hL _ (i122 (by grind))]
        exact h95)) ⟨rfl, rfl, rfl, rfl, rfl, rfl, trivial⟩

set_option maxRecDepth 100000 in
theorem ls_round29B {n : Nat} {R : px_R} (hg : px_G n (cRB R)) (hg2 : px_G n (cRA R)) {Q : px_Q} (a o h left : Int32) {I : px_I} (hpl : 0 ≤ I 97 4 ∧ I 97 4 ≤ 3) (L : px_L) (A T : Nat → Int64) (kk : ∀ L2, cSL L L2 → L2 99 = xK 61 (I 97 3) (I 97 4) left h (I 98) A T 121 → px M_X6_roundabout 0 0 14 [(0, .ref 97), (1, .int a), (2, .int o), (3, .int h), (4, .int (left + -1))] [] n I L2 (cRA R) Q) : ∀ i : Int32, i ≤ 122 → 1 ≤ i → ∀ L1, cSL L L1 → L1 100 = A → L1 99 = xK 61 (I 97 3) (I 97 4) left h (I 98) A T (i.toNatClampNeg - 1) → px M_X6_roundabout 0 0 29 [(0, .ref 97), (1, .int a), (2, .int o), (3, .int h), (4, .int left), (5, .int i)] [] n I L1 (cRB R) Q := by
  refine px_up 122 (fun i ih hi => ?_)
  intro h0 L1 h1 hA1 hF1
  refine px_ige rfl q_X6_roundabout_29 hg rfl trivial (fun c33 => ?_) (fun c33 => ?_)
  · refine px_cVG (ci := 6) rfl q_X6_roundabout_51 hg rfl trivial lk_6_44 nm_X6_swap (c_swapB hg hg2) rfl rfl (px_lit hg rfl) rfl rfl rfl ?_
    intro r52 n52 I52 L52 R52 h52
    obtain ⟨rfl, rfl, rfl, rfl, rfl⟩ := h52
    have hg := hg2
    refine px_b rfl q_X6_roundabout_55 hg rfl trivial ?_
    have e9 : i = 122 := (by grind)
    rw [e9, show (122 : Int32).toNatClampNeg - 1 = 121 by decide] at hF1
    exact px_go (kk _ h1 hF1) ⟨rfl, rfl, rfl, rfl, rfl, trivial⟩
  · refine px_cVW (ci := 6) rfl q_X6_roundabout_36 hg rfl trivial lk_6_57 nm_X6_prolong (cs_prolongB hg hg2 _ _ _ (by grind) hpl) rfl rfl (px_lit hg rfl) rfl rfl rfl ⟨rfl, rfl⟩ ?_
    intro I42 L42 h42
    obtain ⟨rfl, h9, hP9, hQ9⟩ := h42
    refine px_b rfl q_X6_roundabout_45 hg rfl trivial ?_
    exact px_go (ih (i + 1) (by grind) (by grind) (by grind) _ (h1.trans h9) (hP9.trans hA1) (by rw [hQ9, hA1, hF1]; exact xS_K h0 (by grind))) ⟨rfl, rfl, rfl, rfl, rfl, rfl, trivial⟩

set_option maxRecDepth 100000 in
theorem ls_round14B {n : Nat} {R : px_R} (hg : px_G n (cRB R)) (hg2 : px_G n (cRA R)) {Q : px_Q} (a o h left : Int32) {I : px_I} (hpl : 0 ≤ I 97 4 ∧ I 97 4 ≤ 3) (hw : 0 ≤ I 97 5 ∧ I 97 5 ≤ 20) (L : px_L) (F : Nat → Int64) (hF : ∀ j, j ≤ 122 → L 100 j = F j) (hq : ¬ -1 < left → Q (some (.int (xB h F (61 - (I 97 5).toNatClampNeg) (2 * (I 97 5).toNatClampNeg + 1)).toInt32)) n I L (cRB R)) (kk : -1 < left → ∀ L2, cSL L L2 → (∀ j, j ≤ 122 → L2 99 j = xK 61 (I 97 3) (I 97 4) left h (I 98) F (fun _ => -1) 121 j) → px M_X6_roundabout 0 0 14 [(0, .ref 97), (1, .int a), (2, .int o), (3, .int h), (4, .int (left + -1))] [] n I L2 (cRA R) Q) : px M_X6_roundabout 0 0 14 [(0, .ref 97), (1, .int a), (2, .int o), (3, .int h), (4, .int left)] [] n I L (cRB R) Q := by
  skip
  refine px_lt rfl q_X6_roundabout_14 hg rfl trivial (fun c16 => ?_) (fun c16 => ?_)
  · refine px_b rfl q_X6_roundabout_61 hg rfl trivial ?_
    have w20 : (I 97 5).toNatClampNeg ≤ 20 := by have := xle hw.1 hw.2; rw [show (20 : Int32).toNatClampNeg = 20 by decide] at this; exact this
    exact px_go (ls_round69B hg hg2 a o h F hw hF (hq (by grind)) 0 (by decide) (by decide) _ (by rw [xz0, (xCl_end w20).2]; rfl)) ⟨rfl, rfl, rfl, rfl, rfl, rfl, trivial⟩
  · refine px_cVW (ci := 6) rfl q_X6_roundabout_19 hg rfl trivial lk_6_36 nm_X6_clearNext (cs_clearNextB hg hg2 _) rfl rfl (px_lit hg rfl) rfl rfl rfl ⟨rfl, rfl⟩ ?_
    intro I23 L23 h23
    obtain ⟨rfl, h9, hP9, hQ9⟩ := h23
    refine px_b rfl q_X6_roundabout_26 hg rfl trivial ?_
    exact px_go (ls_round29B hg hg2 a o h left hpl _ _ _ (fun L2 h2 hX => kk (by grind) L2 (h9.trans h2) (fun j hj => by rw [hX]; exact xK_cg (N := 122) (fun z hz => by rw [hP9]; exact hF z hz) hQ9 121 (by decide) j hj)) 1 (by decide) (by decide) _ cSL.rfl' rfl (by rw [show (1 : Int32).toNatClampNeg - 1 = 0 by decide]; rfl)) ⟨rfl, rfl, rfl, rfl, rfl, rfl, trivial⟩

theorem ls_round {n : Nat} {R : px_R} (hgA : px_G n (cRA R)) (hgB : px_G n (cRB R)) {Q : px_Q} (a o h : Int32) (ha : 1 ≤ a ∧ a ≤ 40) {I : px_I} (hpl : 0 ≤ I 97 4 ∧ I 97 4 ≤ 3) (hw : 0 ≤ I 97 5 ∧ I 97 5 ≤ 20) (L : px_L) (hq : ∀ L2 R2, cSL L L2 → (R2 = cRA R ∨ R2 = cRB R) → Q (some (.int (cAns I a o h))) n I L2 R2) : ∀ left : Int32, -1 ≤ left → left < a → ∀ L1, cSL L L1 → ((∀ j, j ≤ 122 → L1 99 j = xR 61 121 (I 97 3) (I 97 4) h (I 98) a.toNatClampNeg (x0 61 o (-1) 0) (a.toNatClampNeg - (left + 1).toNatClampNeg) j) → px M_X6_roundabout 0 0 14 [(0, .ref 97), (1, .int a), (2, .int o), (3, .int h), (4, .int left)] [] n I L1 (cRA R) Q) ∧ ((∀ j, j ≤ 122 → L1 100 j = xR 61 121 (I 97 3) (I 97 4) h (I 98) a.toNatClampNeg (x0 61 o (-1) 0) (a.toNatClampNeg - (left + 1).toNatClampNeg) j) → px M_X6_roundabout 0 0 14 [(0, .ref 97), (1, .int a), (2, .int o), (3, .int h), (4, .int left)] [] n I L1 (cRB R) Q) := by
  refine px_dn (-1) (fun left ih hl => ?_)
  intro hla L1 h1
  obtain ⟨n1, n2, -⟩ := x40 ha
  have fin : ¬ -1 < left → (xB h (xR 61 121 (I 97 3) (I 97 4) h (I 98) a.toNatClampNeg (x0 61 o (-1) 0) (a.toNatClampNeg - (left + 1).toNatClampNeg)) (61 - (I 97 5).toNatClampNeg) (2 * (I 97 5).toNatClampNeg + 1)).toInt32 = cAns I a o h := fun c => by
    have e9 : left = -1 := by grind
    rw [e9, show ((-1 : Int32) + 1).toNatClampNeg = 0 by decide, Nat.sub_zero]; rfl
  have ln : -1 < left → 0 ≤ left ∧ left.toNatClampNeg < a.toNatClampNeg := fun c => ⟨by grind, xlt (by grind) hla⟩
  refine ⟨fun hF1 => ?_, fun hF1 => ?_⟩
  · exact ls_round14A hgA hgB a o h left hpl hw L1 _ hF1 (fun c => by rw [fin c]; exact hq L1 _ h1 (Or.inl rfl)) (fun h3 L2 h2 hX => (ih (left + -1) (by grind) (by grind) (by grind) L2 (h1.trans h2)).2 (fun j hj => (hX j hj).trans (xR_T (ln h3).1 (ln h3).2 (by grind) (fun _ _ => rfl) j hj)))
  · exact ls_round14B hgB hgA a o h left hpl hw L1 _ hF1 (fun c => by rw [fin c]; exact hq L1 _ h1 (Or.inr rfl)) (fun h3 L2 h2 hX => (ih (left + -1) (by grind) (by grind) (by grind) L2 (h1.trans h2)).1 (fun j hj => (hX j hj).trans (xR_T (ln h3).1 (ln h3).2 (by grind) (fun _ _ => rfl) j hj)))

set_option maxRecDepth 100000 in
theorem cs_roundA {n : Nat} {I : px_I} {L : px_L} {R : px_R} (hg : px_G n (cRA R)) (hg2 : px_G n (cRB R)) (a o h : Int32) (ha : 1 ≤ a ∧ a ≤ 40) (ho : -20 ≤ o ∧ o ≤ 20) (hpl : 0 ≤ I 97 4 ∧ I 97 4 ≤ 3) (hw : 0 ≤ I 97 5 ∧ I 97 5 ≤ 20) : px_K M_X6_roundabout [.ref 97, .int a, .int o, .int h] n I L (cRA R) (fun r n' I' L' R' => n' = n ∧ I' = I ∧ cSL L L' ∧ (R' = cRA R ∨ R' = cRB R) ∧ r = some (.int (cAns I a o h))) := by
  refine px_of (plainFor_of_name np_RX6) (fun _ _ _ => trivial) rfl ?_
  refine px_cVW (ci := 6) rfl q_X6_roundabout_0 hg rfl trivial lk_6_32 nm_X6_startAt (cs_startAtA hg hg2 _ ho _ _) rfl rfl (px_lit hg rfl) rfl rfl rfl ⟨rfl, rfl⟩ ?_
  intro I6 L6 h6
  obtain ⟨rfl, h9, hF9⟩ := h6
  refine px_b rfl q_X6_roundabout_9 hg rfl trivial ?_
  obtain ⟨n1, n2, n3⟩ := x40 ha
  exact px_go ((ls_round hg hg2 a o h ha hpl hw L (fun L2 R2 h2 h3 => ⟨rfl, rfl, h2, h3, rfl⟩) (a - 1) (by grind) (by grind) _ h9).1 (fun j hj => by rw [n3, Nat.sub_self]; exact hF9 j hj)) ⟨rfl, rfl, rfl, rfl, rfl, trivial⟩

set_option maxRecDepth 100000 in
theorem bs_detourA {n : Nat} {I : px_I} {L : px_L} {R : px_R} (hg : px_G n (cRA R)) (hg2 : px_G n (cRB R)) (a o h : Int32) (hpl : 0 ≤ I 97 4 ∧ I 97 4 ≤ 3) (hw : 0 ≤ I 97 5 ∧ I 97 5 ≤ 20) : px_K M_X11_detour [.ref 32, .int a, .int o, .int h] n I L (cRA R) (fun r n' I' L' R' => n' = n ∧ I' = I ∧ cSL L L' ∧ (R' = cRA R ∨ R' = cRB R) ∧ ∃ x, r = some (.int x) ∧ ((((1 ≤ a ∧ a ≤ 40) ∧ (-20 ≤ o ∧ o ≤ 20)) ∧ x = cAns I a o h) ∨ (¬ ((1 ≤ a ∧ a ≤ 40) ∧ (-20 ≤ o ∧ o ≤ 20)) ∧ x = -1))) := by
  refine px_of (plainFor_of_name np_RX11) (fun _ _ _ => trivial) rfl ?_
  refine px_cSP rfl q_X11_detour_0 hg rfl trivial lk_11_85 nm_X11_within (c_within hg _ _ _) rfl rfl rfl ⟨rfl, rfl⟩ ?_
  intro x4 h4
  refine px_eq rfl q_X11_detour_7 hg rfl trivial (fun c7 => ?_) (fun c7 => ?_)
  · replace h4 := px_bf h4 c7
    refine px_ri rfl q_X11_detour_21 rfl rfl rfl hg rfl trivial ?_
    exact ⟨rfl, rfl, cSL.rfl', Or.inl rfl, _, rfl, Or.inr ⟨by grind, rfl⟩⟩
  · replace h4 := px_bt h4 c7
    refine px_cSP rfl q_X11_detour_10 hg rfl trivial lk_11_85 nm_X11_within (c_within hg _ _ _) rfl rfl rfl ⟨rfl, rfl⟩ ?_
    intro x15 h15
    refine px_ne rfl q_X11_detour_18 hg rfl trivial (fun c18 => ?_) (fun c18 => ?_)
    · replace h15 := px_bt h15 c18
      refine px_cVG (ci := 6) rfl q_X11_detour_23 hg rfl trivial lk_11_259 nm_X6_roundabout (cs_roundA hg hg2 _ _ _ (by grind) (by grind) hpl hw) rfl rfl (px_lit hg rfl) rfl rfl rfl ?_
      intro r30 n30 I30 L30 R30 h30
      obtain ⟨rfl, rfl, h30a, h30b, rfl⟩ := h30
      have hg : px_G n30 R30 := by rcases h30b with z | z <;> (rw [z]; assumption)
      refine px_ri rfl q_X11_detour_33 rfl rfl rfl hg rfl trivial ?_
      exact ⟨rfl, rfl, by assumption, by assumption, _, rfl, Or.inl ⟨by grind, rfl⟩⟩
    · replace h15 := px_bf h15 c18
      refine px_ri rfl q_X11_detour_21 rfl rfl rfl hg rfl trivial ?_
      exact ⟨rfl, rfl, cSL.rfl', Or.inl rfl, _, rfl, Or.inr ⟨by grind, rfl⟩⟩

set_option maxRecDepth 100000 in
theorem cs_roundB {n : Nat} {I : px_I} {L : px_L} {R : px_R} (hg : px_G n (cRB R)) (hg2 : px_G n (cRA R)) (a o h : Int32) (ha : 1 ≤ a ∧ a ≤ 40) (ho : -20 ≤ o ∧ o ≤ 20) (hpl : 0 ≤ I 97 4 ∧ I 97 4 ≤ 3) (hw : 0 ≤ I 97 5 ∧ I 97 5 ≤ 20) : px_K M_X6_roundabout [.ref 97, .int a, .int o, .int h] n I L (cRB R) (fun r n' I' L' R' => n' = n ∧ I' = I ∧ cSL L L' ∧ (R' = cRA R ∨ R' = cRB R) ∧ r = some (.int (cAns I a o h))) := by
  refine px_of (plainFor_of_name np_RX6) (fun _ _ _ => trivial) rfl ?_
  refine px_cVW (ci := 6) rfl q_X6_roundabout_0 hg rfl trivial lk_6_32 nm_X6_startAt (cs_startAtB hg hg2 _ ho _ _) rfl rfl (px_lit hg rfl) rfl rfl rfl ⟨rfl, rfl⟩ ?_
  intro I6 L6 h6
  obtain ⟨rfl, h9, hF9⟩ := h6
  refine px_b rfl q_X6_roundabout_9 hg rfl trivial ?_
  obtain ⟨n1, n2, n3⟩ := x40 ha
  exact px_go ((ls_round hg2 hg a o h ha hpl hw L (fun L2 R2 h2 h3 => ⟨rfl, rfl, h2, h3, rfl⟩) (a - 1) (by grind) (by grind) _ h9).2 (fun j hj => by rw [n3, Nat.sub_self]; exact hF9 j hj)) ⟨rfl, rfl, rfl, rfl, rfl, trivial⟩

set_option maxRecDepth 100000 in
theorem bs_detourB {n : Nat} {I : px_I} {L : px_L} {R : px_R} (hg : px_G n (cRB R)) (hg2 : px_G n (cRA R)) (a o h : Int32) (hpl : 0 ≤ I 97 4 ∧ I 97 4 ≤ 3) (hw : 0 ≤ I 97 5 ∧ I 97 5 ≤ 20) : px_K M_X11_detour [.ref 32, .int a, .int o, .int h] n I L (cRB R) (fun r n' I' L' R' => n' = n ∧ I' = I ∧ cSL L L' ∧ (R' = cRA R ∨ R' = cRB R) ∧ ∃ x, r = some (.int x) ∧ ((((1 ≤ a ∧ a ≤ 40) ∧ (-20 ≤ o ∧ o ≤ 20)) ∧ x = cAns I a o h) ∨ (¬ ((1 ≤ a ∧ a ≤ 40) ∧ (-20 ≤ o ∧ o ≤ 20)) ∧ x = -1))) := by
  refine px_of (plainFor_of_name np_RX11) (fun _ _ _ => trivial) rfl ?_
  refine px_cSP rfl q_X11_detour_0 hg rfl trivial lk_11_85 nm_X11_within (c_within hg _ _ _) rfl rfl rfl ⟨rfl, rfl⟩ ?_
  intro x4 h4
  refine px_eq rfl q_X11_detour_7 hg rfl trivial (fun c7 => ?_) (fun c7 => ?_)
  · replace h4 := px_bf h4 c7
    refine px_ri rfl q_X11_detour_21 rfl rfl rfl hg rfl trivial ?_
    exact ⟨rfl, rfl, cSL.rfl', Or.inr rfl, _, rfl, Or.inr ⟨by grind, rfl⟩⟩
  · replace h4 := px_bt h4 c7
    refine px_cSP rfl q_X11_detour_10 hg rfl trivial lk_11_85 nm_X11_within (c_within hg _ _ _) rfl rfl rfl ⟨rfl, rfl⟩ ?_
    intro x15 h15
    refine px_ne rfl q_X11_detour_18 hg rfl trivial (fun c18 => ?_) (fun c18 => ?_)
    · replace h15 := px_bt h15 c18
      refine px_cVG (ci := 6) rfl q_X11_detour_23 hg rfl trivial lk_11_259 nm_X6_roundabout (cs_roundB hg hg2 _ _ _ (by grind) (by grind) hpl hw) rfl rfl (px_lit hg rfl) rfl rfl rfl ?_
      intro r30 n30 I30 L30 R30 h30
      obtain ⟨rfl, rfl, h30a, h30b, rfl⟩ := h30
      have hg : px_G n30 R30 := by rcases h30b with z | z <;> (rw [z]; assumption)
      refine px_ri rfl q_X11_detour_33 rfl rfl rfl hg rfl trivial ?_
      exact ⟨rfl, rfl, by assumption, by assumption, _, rfl, Or.inl ⟨by grind, rfl⟩⟩
    · replace h15 := px_bf h15 c18
      refine px_ri rfl q_X11_detour_21 rfl rfl rfl hg rfl trivial ?_
      exact ⟨rfl, rfl, cSL.rfl', Or.inr rfl, _, rfl, Or.inr ⟨by grind, rfl⟩⟩
