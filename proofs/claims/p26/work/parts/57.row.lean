/-! the class's row, loop by loop -/
def sInv (A : Nat → Bool) (f t : Nat → Nat) (p q : Nat → Int64) (C : Nat) (d : Nat → Int64) (b : Int32) (d1 : Nat → Int64) (i : Nat) : Prop := d1 = sA A f t p q d i ∧ ((b = 0 ∧ d1 = d ∧ sFx A f t p q i d) ∨ (b = 1 ∧ ¬ sFx A f t p q C d))
theorem sInv.skip {A : Nat → Bool} {f t : Nat → Nat} {p q : Nat → Int64} {C i : Nat} {d d1 : Nat → Int64} {b : Int32} (h : sInv A f t p q C d b d1 i) (hA : A i = false) : sInv A f t p q C d b d1 (i + 1) := by
  refine ⟨?_, h.2.imp (fun z => ⟨z.1, z.2.1, fun k hk hAk => ?_⟩) (fun z => z)⟩
  · show d1 = if A i = true then _ else _
    rw [if_neg (by rw [hA]; decide)]; exact h.1
  · by_cases e : k = i
    · rw [e, hA] at hAk; exact absurd hAk (by decide)
    · exact z.2.2 k (by omega) hAk
def sCo (d : Nat → Int64) (i j : Nat) (w : Int64) : Prop := d i ≠ 1000000000000 ∧ d i + w < d j
theorem sInv.step {A : Nat → Bool} {f t : Nat → Nat} {p q : Nat → Int64} {C i : Nat} {d d1 d2 d3 : Nat → Int64} {b x y : Int32} (h : sInv A f t p q C d b d1 i) (hA : A i = true) (hi : i < C)
    (hx : (x = 1 ∧ sCo d1 (f i) (t i) (p i)) ∨ (x = 0 ∧ ¬ sCo d1 (f i) (t i) (p i))) (h2 : d2 = sH d1 (f i) (t i) (p i)) (hy : (y = 1 ∧ sCo d2 (t i) (f i) (q i)) ∨ (y = 0 ∧ ¬ sCo d2 (t i) (f i) (q i))) (h3 : d3 = sH d2 (t i) (f i) (q i)) :
    sInv A f t p q C d (if ¬ b = 0 ∨ ¬ x = 0 ∨ ¬ y = 0 then 1 else 0) d3 (i + 1) := by
  refine ⟨?_, ?_⟩
  · show d3 = if A i = true then _ else _
    rw [if_pos hA, h3, h2, h.1]
  · rcases h.2 with ⟨b0, e1, fx⟩ | ⟨b1, nf⟩
    · rcases hx with ⟨x1, c⟩ | ⟨x0, c⟩
      · rw [if_pos (Or.inr (Or.inl (by rw [x1]; decide)))]
        rw [e1] at c
        exact Or.inr ⟨rfl, fun z => (z i hi hA).1 c⟩
      · have e2 : d2 = d1 := by rw [h2]; exact sH_no c
        rcases hy with ⟨y1, c2⟩ | ⟨y0, c2⟩
        · rw [if_pos (Or.inr (Or.inr (by rw [y1]; decide)))]
          rw [e2, e1] at c2
          exact Or.inr ⟨rfl, fun z => (z i hi hA).2 c2⟩
        · have e3 : d3 = d2 := by rw [h3]; exact sH_no c2
          rw [if_neg (fun z => z.elim (fun z => z b0) (fun z => z.elim (fun z => z x0) (fun z => z y0)))]
          refine Or.inl ⟨rfl, by rw [e3, e2, e1], fun k hk hAk => ?_⟩
          by_cases e : k = i
          · subst e
            rw [e1] at c
            rw [e2, e1] at c2
            exact ⟨c, c2⟩
          · exact fx k (by omega) hAk
    · rw [if_pos (Or.inl (by rw [b1]; decide))]
      exact Or.inr ⟨rfl, nf⟩
theorem cSh_H {L L2 : px_L} {f s m x : Int32} (hf : 0 ≤ f ∧ f < 24) (hs : 0 ≤ s ∧ s < 24) (h : (cSh L f s m ∧ x = 1 ∧ L2 = px_u L 40 s.toNatClampNeg (L 40 f.toNatClampNeg + m.toInt64)) ∨ (¬ cSh L f s m ∧ x = 0 ∧ L2 = L)) :
    ((x = 1 ∧ sCo (L 40) f.toNatClampNeg s.toNatClampNeg m.toInt64) ∨ (x = 0 ∧ ¬ sCo (L 40) f.toNatClampNeg s.toNatClampNeg m.toInt64)) ∧ L2 40 = sH (L 40) f.toNatClampNeg s.toNatClampNeg m.toInt64 := by
  rcases h with ⟨c, x1, e⟩ | ⟨c, x0, e⟩
  · have c2 : sCo (L 40) f.toNatClampNeg s.toNatClampNeg m.toInt64 := c.2.2
    refine ⟨Or.inl ⟨x1, c2⟩, ?_⟩
    have c3 : L 40 f.toNatClampNeg ≠ 1000000000000 ∧ L 40 f.toNatClampNeg + m.toInt64 < L 40 s.toNatClampNeg := c2
    unfold sH
    rw [if_pos c3, e]
    funext k
    rw [px_ur, if_pos rfl]
  · have c2 : ¬ sCo (L 40) f.toNatClampNeg s.toNatClampNeg m.toInt64 := fun z => c ⟨hf, hs, z⟩
    refine ⟨Or.inr ⟨x0, c2⟩, ?_⟩
    rw [e]
    exact (sH_no c2).symm
def d0s (s : Int32) (j : Nat) : Int64 := if s = -1 ∨ Int32.ofNat j = s then 0 else 1000000000000
theorem d0_step {i s : Int32} {L1 : px_L} {v : Int64} (h0 : 0 ≤ i) (h1 : i < 24) (hF : ∀ j : Nat, j < i.toNatClampNeg → L1 40 j = d0s s j) (hv : v = d0s s i.toNatClampNeg) : ∀ j : Nat, j < (i + 1).toNatClampNeg → px_u L1 40 i.toNatClampNeg v 40 j = d0s s j := by
  intro j hj
  rw [(px_tnS h0 (by grind)).1] at hj
  rw [px_ur, if_pos rfl]
  by_cases e : j = i.toNatClampNeg
  · rw [if_pos e, e]; exact hv
  · rw [if_neg e]; exact hF j (by omega)
theorem d0_zero {i s : Int32} {L1 : px_L} (h0 : 0 ≤ i) (h1 : i < 24) (hF : ∀ j : Nat, j < i.toNatClampNeg → L1 40 j = d0s s j) (c : s = -1 ∨ i = s) : ∀ j : Nat, j < (i + 1).toNatClampNeg → px_u L1 40 i.toNatClampNeg 0 40 j = d0s s j :=
  d0_step h0 h1 hF (by unfold d0s; rw [(px_tnS h0 (by grind)).2, if_pos c])
theorem d0_far {i s : Int32} {L1 : px_L} (h0 : 0 ≤ i) (h1 : i < 24) (hF : ∀ j : Nat, j < i.toNatClampNeg → L1 40 j = d0s s j) (c : ¬ (s = -1 ∨ i = s)) : ∀ j : Nat, j < (i + 1).toNatClampNeg → px_u L1 40 i.toNatClampNeg 1000000000000 40 j = d0s s j :=
  d0_step h0 h1 hF (by unfold d0s; rw [(px_tnS h0 (by grind)).2, if_neg c])
theorem px_n24 {i : Int32} (h : 24 ≤ i) {j : Nat} (hj : j < 24) : j < i.toNatClampNeg := by
  have a := Int32.le_iff_toInt_le.mp h
  rw [px_lit24] at a
  show j < i.toInt.toNat
  omega
def cSo (I : px_I) : Prop := ∀ i : Nat, i < (I 33 8).toNatClampNeg → (0 ≤ I 35 i ∧ I 35 i < I 33 7) ∧ (0 ≤ I 36 i ∧ I 36 i < I 33 7) ∧ (-1000000 ≤ I 37 i ∧ I 37 i ≤ 1000000) ∧ (-1000000 ≤ I 38 i ∧ I 38 i ≤ 1000000)
abbrev cAc (I : px_I) (a k w : Int32) : Nat → Bool := sAc (I 34) (I 39) a k w
theorem px_m6 {x : Int32} (h : -1000000 ≤ x ∧ x ≤ 1000000) : (-1000000 ≤ x.toInt64.toInt ∧ x.toInt64.toInt ≤ 1000000) ∧ (-1000000 ≤ (0 - x).toInt64.toInt ∧ (0 - x).toInt64.toInt ≤ 1000000) := by
  have a1 := Int32.le_iff_toInt_le.mp h.1
  have a2 := Int32.le_iff_toInt_le.mp h.2
  rw [show (-1000000 : Int32).toInt = -1000000 by decide] at a1
  rw [show (1000000 : Int32).toInt = 1000000 by decide] at a2
  rw [Int32.toInt_toInt64, Int32.toInt_toInt64, Int32.toInt_sub, show (0 : Int32).toInt = 0 by decide, Int.bmod_eq_of_le (by omega) (by omega)]
  omega
theorem px_lit80 : (80 : Int32).toInt = 80 := by decide
theorem cSo.ok {I : px_I} (h : cSo I) (a k w : Int32) : sOk (I 33 7).toNatClampNeg (I 33 8).toNatClampNeg (cAc I a k w) (sNt (I 35)) (sNt (I 36)) (sPl (I 38)) (sMi (I 37)) := fun i hi _ => by
  obtain ⟨h1, h2, h3, h4⟩ := h i hi
  have e1 := px_nat h1.1
  have e2 := px_nat h2.1
  have e3 := px_nat (x := I 33 7) (by grind)
  have l1 := Int32.lt_iff_toInt_lt.mp h1.2
  have l2 := Int32.lt_iff_toInt_lt.mp h2.2
  refine ⟨⟨?_, ?_⟩, (px_m6 h4).1, (px_m6 h3).2⟩
  · show (I 35 i).toNatClampNeg < _; omega
  · show (I 36 i).toNatClampNeg < _; omega
theorem cSt.nums {I : px_I} (hS : cSt I) : (I 33 7).toNatClampNeg ≤ 24 ∧ (I 33 8).toNatClampNeg ≤ 80 ∧ 1 ≤ (I 33 7).toNatClampNeg := by
  unfold cSt at hS
  have e1 := px_nat (x := I 33 7) (by grind)
  have e2 := px_nat (x := I 33 8) (by grind)
  have l1 := Int32.le_iff_toInt_le.mp hS.1.2
  have l2 := Int32.le_iff_toInt_le.mp hS.2.2
  have l3 := Int32.le_iff_toInt_le.mp hS.1.1
  rw [px_lit24] at l1
  rw [px_lit80] at l2
  rw [show (1 : Int32).toInt = 1 by decide] at l3
  omega
theorem px_ofN {j : Nat} (hj : j < 1000) {s : Int32} (h0 : 0 ≤ s) (h1 : ¬ 1000 ≤ s) : Int32.ofNat j = s ↔ j = s.toNatClampNeg := by
  have a1 := px_nat h0
  have a2 := Int32.lt_iff_toInt_lt.mp (Int32.not_le.mp h1)
  rw [show (1000 : Int32).toInt = 1000 by decide] at a2
  rw [← Int32.toInt_inj, Int32.toInt_ofNat_of_lt (by omega)]
  omega

set_option maxRecDepth 100000 in
theorem ls_shortenAll {n : Nat} {R : px_R} (hg : px_G n R) {Q : px_Q} (a k w : Int32) {I : px_I} (L : px_L) (hS : cSt I) (hO : cSo I) (hq : ∀ r L2, cDL L L2 → L2 40 = sA (cAc I a k w) (sNt (I 35)) (sNt (I 36)) (sPl (I 38)) (sMi (I 37)) (L 40) (I 33 8).toNatClampNeg → ((r = 0 ∧ sFx (cAc I a k w) (sNt (I 35)) (sNt (I 36)) (sPl (I 38)) (sMi (I 37)) (I 33 8).toNatClampNeg (L 40)) ∨ (r = 1 ∧ ¬ sFx (cAc I a k w) (sNt (I 35)) (sNt (I 36)) (sPl (I 38)) (sMi (I 37)) (I 33 8).toNatClampNeg (L 40))) → Q (some (.int r)) n I L2 R) : ∀ i : Int32, i ≤ I 33 8 → 0 ≤ i → ∀ (b : Int32) (L1 : px_L), cDL L L1 → sInv (cAc I a k w) (sNt (I 35)) (sNt (I 36)) (sPl (I 38)) (sMi (I 37)) (I 33 8).toNatClampNeg (L 40) b (L1 40) i.toNatClampNeg → px M_X7_shortenAll 0 0 6 [(0, .ref 33), (1, .int a), (2, .int k), (3, .int w), (4, .int b), (5, .int i)] [] n I L1 R Q := by
  refine px_up _ (fun i ih hk => ?_)
  intro h0 b L1 h1 hb
  have hs := hS.2
  have hn := hS.1
  have hb01 : b = 0 ∨ b = 1 := hb.2.imp (fun q => q.1) (fun q => q.1)
  refine px_ige rfl q_X7_shortenAll_6 hg rfl trivial (fun c12 => ?_) (fun c12 => ?_)
  · refine px_rz rfl q_X7_shortenAll_115 rfl rfl rfl hg rfl trivial (by first | exact Or.inl rfl | exact Or.inr rfl | grind) ?_
    have e9 : i = I 33 8 := (by grind)
    rw [e9] at hb
    exact hq _ _ h1 hb.1 (hb.2.imp (fun q => ⟨q.1, q.2.2⟩) (fun q => q))
  · refine px_ieq rfl q_X7_shortenAll_15 hg rfl trivial (fun c18 => ?_) (fun c18 => ?_)
    · refine px_b rfl q_X7_shortenAll_109 hg rfl trivial ?_
      first
        | exact px_go (ih (i + 1) (by grind) (by grind) (by grind) _ _ (by first | exact h1 | exact (h1.trans (cShD h54)).trans (cShD h82)) (by rw [(px_tnS h0 (by grind)).1]; exact hb.skip (sAc_no h0 (by grind) (fun q => q.2.2 c18)))) ⟨rfl, rfl, rfl, rfl, rfl, rfl, trivial⟩
        | exact px_go (ih (i + 1) (by grind) (by grind) (by grind) _ _ (by first | exact h1 | exact (h1.trans (cShD h54)).trans (cShD h82)) (by rw [(px_tnS h0 (by grind)).1]; exact hb.skip (sAc_no h0 (by grind) (fun q => h26 ⟨q.1, q.2.1⟩)))) ⟨rfl, rfl, rfl, rfl, rfl, rfl, trivial⟩
        | exact px_go (ih (i + 1) (by grind) (by grind) (by grind) _ _ (by first | exact h1 | exact (h1.trans (cShD h54)).trans (cShD h82)) (by have z := hb.step ((sAc_iff h0 (by grind)).mpr ⟨h26.1, h26.2, c18⟩) lt (cSh_H f24 t24 h54).1 (cSh_H f24 t24 h54).2 (cSh_H t24 f24 h82).1 (cSh_H t24 f24 h82).2; rw [if_pos (Or.inl c89)] at z; rw [(px_tnS h0 (by grind)).1]; exact z)) ⟨rfl, rfl, rfl, rfl, rfl, rfl, trivial⟩
        | exact px_go (ih (i + 1) (by grind) (by grind) (by grind) _ _ (by first | exact h1 | exact (h1.trans (cShD h54)).trans (cShD h82)) (by have z := hb.step ((sAc_iff h0 (by grind)).mpr ⟨h26.1, h26.2, c18⟩) lt (cSh_H f24 t24 h54).1 (cSh_H f24 t24 h54).2 (cSh_H t24 f24 h82).1 (cSh_H t24 f24 h82).2; rw [if_pos (Or.inr (Or.inl c94))] at z; rw [(px_tnS h0 (by grind)).1]; exact z)) ⟨rfl, rfl, rfl, rfl, rfl, rfl, trivial⟩
        | exact px_go (ih (i + 1) (by grind) (by grind) (by grind) _ _ (by first | exact h1 | exact (h1.trans (cShD h54)).trans (cShD h82)) (by have z := hb.step ((sAc_iff h0 (by grind)).mpr ⟨h26.1, h26.2, c18⟩) lt (cSh_H f24 t24 h54).1 (cSh_H f24 t24 h54).2 (cSh_H t24 f24 h82).1 (cSh_H t24 f24 h82).2; rw [if_pos (Or.inr (Or.inr c99))] at z; rw [(px_tnS h0 (by grind)).1]; exact z)) ⟨rfl, rfl, rfl, rfl, rfl, rfl, trivial⟩
        | exact px_go (ih (i + 1) (by grind) (by grind) (by grind) _ _ (by first | exact h1 | exact (h1.trans (cShD h54)).trans (cShD h82)) (by have z := hb.step ((sAc_iff h0 (by grind)).mpr ⟨h26.1, h26.2, c18⟩) lt (cSh_H f24 t24 h54).1 (cSh_H f24 t24 h54).2 (cSh_H t24 f24 h82).1 (cSh_H t24 f24 h82).2; rw [if_neg (by grind)] at z; rw [(px_tnS h0 (by grind)).1]; exact z)) ⟨rfl, rfl, rfl, rfl, rfl, rfl, trivial⟩
    · refine px_cVP (ci := 7) rfl q_X7_shortenAll_21 hg rfl trivial lk_7_52 nm_X7_counts (c_counts hg _ _ _ (by grind)) rfl rfl (px_lit hg rfl) rfl rfl rfl ⟨rfl, rfl⟩ ?_
      intro x26 h26
      refine px_eq rfl q_X7_shortenAll_29 hg rfl trivial (fun c29 => ?_) (fun c29 => ?_)
      · replace h26 := px_bf h26 c29
        refine px_b rfl q_X7_shortenAll_109 hg rfl trivial ?_
        first
          | exact px_go (ih (i + 1) (by grind) (by grind) (by grind) _ _ (by first | exact h1 | exact (h1.trans (cShD h54)).trans (cShD h82)) (by rw [(px_tnS h0 (by grind)).1]; exact hb.skip (sAc_no h0 (by grind) (fun q => q.2.2 c18)))) ⟨rfl, rfl, rfl, rfl, rfl, rfl, trivial⟩
          | exact px_go (ih (i + 1) (by grind) (by grind) (by grind) _ _ (by first | exact h1 | exact (h1.trans (cShD h54)).trans (cShD h82)) (by rw [(px_tnS h0 (by grind)).1]; exact hb.skip (sAc_no h0 (by grind) (fun q => h26 ⟨q.1, q.2.1⟩)))) ⟨rfl, rfl, rfl, rfl, rfl, rfl, trivial⟩
          | exact px_go (ih (i + 1) (by grind) (by grind) (by grind) _ _ (by first | exact h1 | exact (h1.trans (cShD h54)).trans (cShD h82)) (by have z := hb.step ((sAc_iff h0 (by grind)).mpr ⟨h26.1, h26.2, c18⟩) lt (cSh_H f24 t24 h54).1 (cSh_H f24 t24 h54).2 (cSh_H t24 f24 h82).1 (cSh_H t24 f24 h82).2; rw [if_pos (Or.inl c89)] at z; rw [(px_tnS h0 (by grind)).1]; exact z)) ⟨rfl, rfl, rfl, rfl, rfl, rfl, trivial⟩
          | exact px_go (ih (i + 1) (by grind) (by grind) (by grind) _ _ (by first | exact h1 | exact (h1.trans (cShD h54)).trans (cShD h82)) (by have z := hb.step ((sAc_iff h0 (by grind)).mpr ⟨h26.1, h26.2, c18⟩) lt (cSh_H f24 t24 h54).1 (cSh_H f24 t24 h54).2 (cSh_H t24 f24 h82).1 (cSh_H t24 f24 h82).2; rw [if_pos (Or.inr (Or.inl c94))] at z; rw [(px_tnS h0 (by grind)).1]; exact z)) ⟨rfl, rfl, rfl, rfl, rfl, rfl, trivial⟩
          | exact px_go (ih (i + 1) (by grind) (by grind) (by grind) _ _ (by first | exact h1 | exact (h1.trans (cShD h54)).trans (cShD h82)) (by have z := hb.step ((sAc_iff h0 (by grind)).mpr ⟨h26.1, h26.2, c18⟩) lt (cSh_H f24 t24 h54).1 (cSh_H f24 t24 h54).2 (cSh_H t24 f24 h82).1 (cSh_H t24 f24 h82).2; rw [if_pos (Or.inr (Or.inr c99))] at z; rw [(px_tnS h0 (by grind)).1]; exact z)) ⟨rfl, rfl, rfl, rfl, rfl, rfl, trivial⟩
          | exact px_go (ih (i + 1) (by grind) (by grind) (by grind) _ _ (by first | exact h1 | exact (h1.trans (cShD h54)).trans (cShD h82)) (by have z := hb.step ((sAc_iff h0 (by grind)).mpr ⟨h26.1, h26.2, c18⟩) lt (cSh_H f24 t24 h54).1 (cSh_H f24 t24 h54).2 (cSh_H t24 f24 h82).1 (cSh_H t24 f24 h82).2; rw [if_neg (by grind)] at z; rw [(px_tnS h0 (by grind)).1]; exact z)) ⟨rfl, rfl, rfl, rfl, rfl, rfl, trivial⟩
      · replace h26 := px_bt h26 c29
        have lt : i.toNatClampNeg < (I 33 8).toNatClampNeg := by
          have a1 := px_nat h0
          have a2 := px_nat (x := I 33 8) (by grind)
          have a3 := Int32.lt_iff_toInt_lt.mp (show i < I 33 8 by grind)
          omega
        obtain ⟨o1, o2, -⟩ := hO _ lt
        have f24 : 0 ≤ I 35 i.toNatClampNeg ∧ I 35 i.toNatClampNeg < 24 := ⟨o1.1, by grind⟩
        have t24 : 0 ≤ I 36 i.toNatClampNeg ∧ I 36 i.toNatClampNeg < 24 := ⟨o2.1, by grind⟩
        refine px_cVS (ci := 7) rfl q_X7_shortenAll_32 hg rfl ⟨⟨⟨trivial, (by first | decide | (refine ⟨?_, ?_⟩ <;> grind) | grind)⟩, (by first | decide | (refine ⟨?_, ?_⟩ <;> grind) | grind)⟩, (by first | decide | (refine ⟨?_, ?_⟩ <;> grind) | grind)⟩ lk_7_59 nm_X7_shorten (c_shorten hg _ _ _) rfl rfl (px_lit hg rfl) rfl rfl rfl ⟨rfl, rfl⟩ ?_
        intro x54 I54 L54 h54
        obtain ⟨rfl, h54⟩ := h54
        refine px_cVS (ci := 7) rfl q_X7_shortenAll_57 hg rfl ⟨⟨⟨trivial, (by first | decide | (refine ⟨?_, ?_⟩ <;> grind) | grind)⟩, (by first | decide | (refine ⟨?_, ?_⟩ <;> grind) | grind)⟩, (by first | decide | (refine ⟨?_, ?_⟩ <;> grind) | grind)⟩ lk_7_59 nm_X7_shorten (c_shorten hg _ _ _) rfl rfl (px_lit hg rfl) rfl rfl rfl ⟨rfl, rfl⟩ ?_
        intro x82 I82 L82 h82
        obtain ⟨rfl, h82⟩ := h82
        refine px_ne rfl q_X7_shortenAll_85 hg rfl trivial (fun c89 => ?_) (fun c89 => ?_)
        · refine px_b rfl q_X7_shortenAll_102 hg rfl trivial ?_
          first
            | exact px_go (ih (i + 1) (by grind) (by grind) (by grind) _ _ (by first | exact h1 | exact (h1.trans (cShD h54)).trans (cShD h82)) (by rw [(px_tnS h0 (by grind)).1]; exact hb.skip (sAc_no h0 (by grind) (fun q => q.2.2 c18)))) ⟨rfl, rfl, rfl, rfl, rfl, rfl, trivial⟩
            | exact px_go (ih (i + 1) (by grind) (by grind) (by grind) _ _ (by first | exact h1 | exact (h1.trans (cShD h54)).trans (cShD h82)) (by rw [(px_tnS h0 (by grind)).1]; exact hb.skip (sAc_no h0 (by grind) (fun q => h26 ⟨q.1, q.2.1⟩)))) ⟨rfl, rfl, rfl, rfl, rfl, rfl, trivial⟩
            | exact px_go (ih (i + 1) (by grind) (by grind) (by grind) _ _ (by first | exact h1 | exact (h1.trans (cShD h54)).trans (cShD h82)) (by have z := hb.step ((sAc_iff h0 (by grind)).mpr ⟨h26.1, h26.2, c18⟩) lt (cSh_H f24 t24 h54).1 (cSh_H f24 t24 h54).2 (cSh_H t24 f24 h82).1 (cSh_H t24 f24 h82).2; rw [if_pos (Or.inl c89)] at z; rw [(px_tnS h0 (by grind)).1]; exact z)) ⟨rfl, rfl, rfl, rfl, rfl, rfl, trivial⟩
            | exact px_go (ih (i + 1) (by grind) (by grind) (by grind) _ _ (by first | exact h1 | exact (h1.trans (cShD h54)).trans (cShD h82)) (by have z := hb.step ((sAc_iff h0 (by grind)).mpr ⟨h26.1, h26.2, c18⟩) lt (cSh_H f24 t24 h54).1 (cSh_H f24 t24 h54).2 (cSh_H t24 f24 h82).1 (cSh_H t24 f24 h82).2; rw [if_pos (Or.inr (Or.inl c94))] at z; rw [(px_tnS h0 (by grind)).1]; exact z)) ⟨rfl, rfl, rfl, rfl, rfl, rfl, trivial⟩
            | exact px_go (ih (i + 1) (by grind) (by grind) (by grind) _ _ (by first | exact h1 | exact (h1.trans (cShD h54)).trans (cShD h82)) (by have z := hb.step ((sAc_iff h0 (by grind)).mpr ⟨h26.1, h26.2, c18⟩) lt (cSh_H f24 t24 h54).1 (cSh_H f24 t24 h54).2 (cSh_H t24 f24 h82).1 (cSh_H t24 f24 h82).2; rw [if_pos (Or.inr (Or.inr c99))] at z; rw [(px_tnS h0 (by grind)).1]; exact z)) ⟨rfl, rfl, rfl, rfl, rfl, rfl, trivial⟩
            | exact px_go (ih (i + 1) (by grind) (by grind) (by grind) _ _ (by first | exact h1 | exact (h1.trans (cShD h54)).trans (cShD h82)) (by have z := hb.step ((sAc_iff h0 (by grind)).mpr ⟨h26.1, h26.2, c18⟩) lt (cSh_H f24 t24 h54).1 (cSh_H f24 t24 h54).2 (cSh_H t24 f24 h82).1 (cSh_H t24 f24 h82).2; rw [if_neg (by grind)] at z; rw [(px_tnS h0 (by grind)).1]; exact z)) ⟨rfl, rfl, rfl, rfl, rfl, rfl, trivial⟩
        · refine px_ne rfl q_X7_shortenAll_92 hg rfl trivial (fun c94 => ?_) (fun c94 => ?_)
          · refine px_b rfl q_X7_shortenAll_102 hg rfl trivial ?_
            first
              | exact px_go (ih (i + 1) (by grind) (by grind) (by grind) _ _ (by first | exact h1 | exact (h1.trans (cShD h54)).trans (cShD h82)) (by rw [(px_tnS h0 (by grind)).1]; exact hb.skip (sAc_no h0 (by grind) (fun q => q.2.2 c18)))) ⟨rfl, rfl, rfl, rfl, rfl, rfl, trivial⟩
              | exact px_go (ih (i + 1) (by grind) (by grind) (by grind) _ _ (by first | exact h1 | exact (h1.trans (cShD h54)).trans (cShD h82)) (by rw [(px_tnS h0 (by grind)).1]; exact hb.skip (sAc_no h0 (by grind) (fun q => h26 ⟨q.1, q.2.1⟩)))) ⟨rfl, rfl, rfl, rfl, rfl, rfl, trivial⟩
              | exact px_go (ih (i + 1) (by grind) (by grind) (by grind) _ _ (by first | exact h1 | exact (h1.trans (cShD h54)).trans (cShD h82)) (by have z := hb.step ((sAc_iff h0 (by grind)).mpr ⟨h26.1, h26.2, c18⟩) lt (cSh_H f24 t24 h54).1 (cSh_H f24 t24 h54).2 (cSh_H t24 f24 h82).1 (cSh_H t24 f24 h82).2; rw [if_pos (Or.inl c89)] at z; rw [(px_tnS h0 (by grind)).1]; exact z)) ⟨rfl, rfl, rfl, rfl, rfl, rfl, trivial⟩
              | exact px_go (ih (i + 1) (by grind) (by grind) (by grind) _ _ (by first | exact h1 | exact (h1.trans (cShD h54)).trans (cShD h82)) (by have z := hb.step ((sAc_iff h0 (by grind)).mpr ⟨h26.1, h26.2, c18⟩) lt (cSh_H f24 t24 h54).1 (cSh_H f24 t24 h54).2 (cSh_H t24 f24 h82).1 (cSh_H t24 f24 h82).2; rw [if_pos (Or.inr (Or.inl c94))] at z; rw [(px_tnS h0 (by grind)).1]; exact z)) ⟨rfl, rfl, rfl, rfl, rfl, rfl, trivial⟩
              | exact px_go (ih (i + 1) (by grind) (by grind) (by grind) _ _ (by first | exact h1 | exact (h1.trans (cShD h54)).trans (cShD h82)) (by have z := hb.step ((sAc_iff h0 (by grind)).mpr ⟨h26.1, h26.2, c18⟩) lt (cSh_H f24 t24 h54).1 (cSh_H f24 t24 h54).2 (cSh_H t24 f24 h82).1 (cSh_H t24 f24 h82).2; rw [if_pos (Or.inr (Or.inr c99))] at z; rw [(px_tnS h0 (by grind)).1]; exact z)) ⟨rfl, rfl, rfl, rfl, rfl, rfl, trivial⟩
              | exact px_go (ih (i + 1) (by grind) (by grind) (by grind) _ _ (by first | exact h1 | exact (h1.trans (cShD h54)).trans (cShD h82)) (by have z := hb.step ((sAc_iff h0 (by grind)).mpr ⟨h26.1, h26.2, c18⟩) lt (cSh_H f24 t24 h54).1 (cSh_H f24 t24 h54).2 (cSh_H t24 f24 h82).1 (cSh_H t24 f24 h82).2; rw [if_neg (by grind)] at z; rw [(px_tnS h0 (by grind)).1]; exact z)) ⟨rfl, rfl, rfl, rfl, rfl, rfl, trivial⟩
          · refine px_eq rfl q_X7_shortenAll_97 hg rfl trivial (fun c99 => ?_) (fun c99 => ?_)
            · refine px_b rfl q_X7_shortenAll_106 hg rfl trivial ?_
              first
                | exact px_go (ih (i + 1) (by grind) (by grind) (by grind) _ _ (by first | exact h1 | exact (h1.trans (cShD h54)).trans (cShD h82)) (by rw [(px_tnS h0 (by grind)).1]; exact hb.skip (sAc_no h0 (by grind) (fun q => q.2.2 c18)))) ⟨rfl, rfl, rfl, rfl, rfl, rfl, trivial⟩
                | exact px_go (ih (i + 1) (by grind) (by grind) (by grind) _ _ (by first | exact h1 | exact (h1.trans (cShD h54)).trans (cShD h82)) (by rw [(px_tnS h0 (by grind)).1]; exact hb.skip (sAc_no h0 (by grind) (fun q => h26 ⟨q.1, q.2.1⟩)))) ⟨rfl, rfl, rfl, rfl, rfl, rfl, trivial⟩
                | exact px_go (ih (i + 1) (by grind) (by grind) (by grind) _ _ (by first | exact h1 | exact (h1.trans (cShD h54)).trans (cShD h82)) (by have z := hb.step ((sAc_iff h0 (by grind)).mpr ⟨h26.1, h26.2, c18⟩) lt (cSh_H f24 t24 h54).1 (cSh_H f24 t24 h54).2 (cSh_H t24 f24 h82).1 (cSh_H t24 f24 h82).2; rw [if_pos (Or.inl c89)] at z; rw [(px_tnS h0 (by grind)).1]; exact z)) ⟨rfl, rfl, rfl, rfl, rfl, rfl, trivial⟩
                | exact px_go (ih (i + 1) (by grind) (by grind) (by grind) _ _ (by first | exact h1 | exact (h1.trans (cShD h54)).trans (cShD h82)) (by have z := hb.step ((sAc_iff h0 (by grind)).mpr ⟨h26.1, h26.2, c18⟩) lt (cSh_H f24 t24 h54).1 (cSh_H f24 t24 h54).2 (cSh_H t24 f24 h82).1 (cSh_H t24 f24 h82).2; rw [if_pos (Or.inr (Or.inl c94))] at z; rw [(px_tnS h0 (by grind)).1]; exact z)) ⟨rfl, rfl, rfl, rfl, rfl, rfl, trivial⟩
                | exact px_go (ih (i + 1) (by grind) (by grind) (by grind) _ _ (by first | exact h1 | exact (h1.trans (cShD h54)).trans (cShD h82)) (by have z := hb.step ((sAc_iff h0 (by grind)).mpr ⟨h26.1, h26.2, c18⟩) lt (cSh_H f24 t24 h54).1 (cSh_H f24 t24 h54).2 (cSh_H t24 f24 h82).1 (cSh_H t24 f24 h82).2; rw [if_pos (Or.inr (Or.inr c99))] at z; rw [(px_tnS h0 (by grind)).1]; exact z)) ⟨rfl, rfl, rfl, rfl, rfl, rfl, trivial⟩
                | exact px_go (ih (i + 1) (by grind) (by grind) (by grind) _ _ (by first | exact h1 | exact (h1.trans (cShD h54)).trans (cShD h82)) (by have z := hb.step ((sAc_iff h0 (by grind)).mpr ⟨h26.1, h26.2, c18⟩) lt (cSh_H f24 t24 h54).1 (cSh_H f24 t24 h54).2 (cSh_H t24 f24 h82).1 (cSh_H t24 f24 h82).2; rw [if_neg (by grind)] at z; rw [(px_tnS h0 (by grind)).1]; exact z)) ⟨rfl, rfl, rfl, rfl, rfl, rfl, trivial⟩
            · refine px_b rfl q_X7_shortenAll_102 hg rfl trivial ?_
              first
                | exact px_go (ih (i + 1) (by grind) (by grind) (by grind) _ _ (by first | exact h1 | exact (h1.trans (cShD h54)).trans (cShD h82)) (by rw [(px_tnS h0 (by grind)).1]; exact hb.skip (sAc_no h0 (by grind) (fun q => q.2.2 c18)))) ⟨rfl, rfl, rfl, rfl, rfl, rfl, trivial⟩
                | exact px_go (ih (i + 1) (by grind) (by grind) (by grind) _ _ (by first | exact h1 | exact (h1.trans (cShD h54)).trans (cShD h82)) (by rw [(px_tnS h0 (by grind)).1]; exact hb.skip (sAc_no h0 (by grind) (fun q => h26 ⟨q.1, q.2.1⟩)))) ⟨rfl, rfl, rfl, rfl, rfl, rfl, trivial⟩
                | exact px_go (ih (i + 1) (by grind) (by grind) (by grind) _ _ (by first | exact h1 | exact (h1.trans (cShD h54)).trans (cShD h82)) (by have z := hb.step ((sAc_iff h0 (by grind)).mpr ⟨h26.1, h26.2, c18⟩) lt (cSh_H f24 t24 h54).1 (cSh_H f24 t24 h54).2 (cSh_H t24 f24 h82).1 (cSh_H t24 f24 h82).2; rw [if_pos (Or.inl c89)] at z; rw [(px_tnS h0 (by grind)).1]; exact z)) ⟨rfl, rfl, rfl, rfl, rfl, rfl, trivial⟩
                | exact px_go (ih (i + 1) (by grind) (by grind) (by grind) _ _ (by first | exact h1 | exact (h1.trans (cShD h54)).trans (cShD h82)) (by have z := hb.step ((sAc_iff h0 (by grind)).mpr ⟨h26.1, h26.2, c18⟩) lt (cSh_H f24 t24 h54).1 (cSh_H f24 t24 h54).2 (cSh_H t24 f24 h82).1 (cSh_H t24 f24 h82).2; rw [if_pos (Or.inr (Or.inl c94))] at z; rw [(px_tnS h0 (by grind)).1]; exact z)) ⟨rfl, rfl, rfl, rfl, rfl, rfl, trivial⟩
                | exact px_go (ih (i + 1) (by grind) (by grind) (by grind) _ _ (by first | exact h1 | exact (h1.trans (cShD h54)).trans (cShD h82)) (by have z := hb.step ((sAc_iff h0 (by grind)).mpr ⟨h26.1, h26.2, c18⟩) lt (cSh_H f24 t24 h54).1 (cSh_H f24 t24 h54).2 (cSh_H t24 f24 h82).1 (cSh_H t24 f24 h82).2; rw [if_pos (Or.inr (Or.inr c99))] at z; rw [(px_tnS h0 (by grind)).1]; exact z)) ⟨rfl, rfl, rfl, rfl, rfl, rfl, trivial⟩
                | exact px_go (ih (i + 1) (by grind) (by grind) (by grind) _ _ (by first | exact h1 | exact (h1.trans (cShD h54)).trans (cShD h82)) (by have z := hb.step ((sAc_iff h0 (by grind)).mpr ⟨h26.1, h26.2, c18⟩) lt (cSh_H f24 t24 h54).1 (cSh_H f24 t24 h54).2 (cSh_H t24 f24 h82).1 (cSh_H t24 f24 h82).2; rw [if_neg (by grind)] at z; rw [(px_tnS h0 (by grind)).1]; exact z)) ⟨rfl, rfl, rfl, rfl, rfl, rfl, trivial⟩

set_option maxRecDepth 100000 in
theorem cs_shortenAll {n : Nat} {I : px_I} {L : px_L} {R : px_R} (hg : px_G n R) (a k w : Int32) (hS : cSt I) (hO : cSo I) : px_KS M_X7_shortenAll [.ref 33, .int a, .int k, .int w] n I L R (fun r I2 L2 => I2 = I ∧ cDL L L2 ∧ L2 40 = sA (cAc I a k w) (sNt (I 35)) (sNt (I 36)) (sPl (I 38)) (sMi (I 37)) (L 40) (I 33 8).toNatClampNeg ∧ ((r = 0 ∧ sFx (cAc I a k w) (sNt (I 35)) (sNt (I 36)) (sPl (I 38)) (sMi (I 37)) (I 33 8).toNatClampNeg (L 40)) ∨ (r = 1 ∧ ¬ sFx (cAc I a k w) (sNt (I 35)) (sNt (I 36)) (sPl (I 38)) (sMi (I 37)) (I 33 8).toNatClampNeg (L 40)))) := by
  refine px_of (plainFor_of_name np_RX7) (fun _ _ _ => trivial) rfl ?_
  refine px_b rfl q_X7_shortenAll_0 hg rfl trivial ?_
  exact px_go (ls_shortenAll hg a k w L hS hO (fun r L2 h h2 hr => ⟨rfl, rfl, r, rfl, rfl, h, h2, hr⟩) 0 hS.2.1 (by decide) 0 L (fun _ _ => rfl) (by rw [px_z0]; exact ⟨rfl, Or.inl ⟨rfl, rfl, fun k hk => absurd hk (Nat.not_lt_zero _)⟩⟩)) ⟨rfl, rfl, rfl, rfl, rfl, rfl, trivial⟩

set_option maxRecDepth 100000 in
theorem ls_settle44 {n : Nat} {R : px_R} (hg : px_G n R) {Q : px_Q} (a k s w : Int32) {I : px_I} (L : px_L) (d : Nat → Int64) (hS : cSt I) (hO : cSo I) (hq1 : ∀ (m : Nat) L2, cDL L L2 → m ≤ (I 33 7).toNatClampNeg → sFx (cAc I a k w) (sNt (I 35)) (sNt (I 36)) (sPl (I 38)) (sMi (I 37)) (I 33 8).toNatClampNeg (sR (cAc I a k w) (sNt (I 35)) (sNt (I 36)) (sPl (I 38)) (sMi (I 37)) (I 33 8).toNatClampNeg d m) → L2 40 = (sR (cAc I a k w) (sNt (I 35)) (sNt (I 36)) (sPl (I 38)) (sMi (I 37)) (I 33 8).toNatClampNeg d m) → Q (some (.int 1)) n I L2 R) (hq0 : ∀ L2, cDL L L2 → (∀ m : Nat, m ≤ (I 33 7).toNatClampNeg → ¬ sFx (cAc I a k w) (sNt (I 35)) (sNt (I 36)) (sPl (I 38)) (sMi (I 37)) (I 33 8).toNatClampNeg (sR (cAc I a k w) (sNt (I 35)) (sNt (I 36)) (sPl (I 38)) (sMi (I 37)) (I 33 8).toNatClampNeg d m)) → Q (some (.int 0)) n I L2 R) : ∀ i : Int32, i ≤ 25 → 0 ≤ i → ∀ (L1 : px_L), cDL L L1 → L1 40 = (sR (cAc I a k w) (sNt (I 35)) (sNt (I 36)) (sPl (I 38)) (sMi (I 37)) (I 33 8).toNatClampNeg d i.toNatClampNeg) → (∀ m : Nat, m < i.toNatClampNeg → ¬ sFx (cAc I a k w) (sNt (I 35)) (sNt (I 36)) (sPl (I 38)) (sMi (I 37)) (I 33 8).toNatClampNeg (sR (cAc I a k w) (sNt (I 35)) (sNt (I 36)) (sPl (I 38)) (sMi (I 37)) (I 33 8).toNatClampNeg d m)) → px M_X7_settle 0 0 44 [(0, .ref 33), (1, .int a), (2, .int k), (3, .int s), (4, .int w), (5, .int i)] [] n I L1 R Q := by
  refine px_up _ (fun i ih hk => ?_)
  intro h0 L1 h1 hF1 hno
  have hn := hS.1
  have x1 := px_nat h0
  have x2 := px_nat (x := I 33 7) (by grind)
  refine px_igt rfl q_X7_settle_44 hg rfl trivial (fun c50 => ?_) (fun c50 => ?_)
  · refine px_rz rfl q_X7_settle_72 rfl rfl rfl hg rfl trivial (by first | exact Or.inl rfl | exact Or.inr rfl | grind) ?_
    exact hq0 _ h1 (fun m hm => hno m (by have a3 := Int32.lt_iff_toInt_lt.mp c50; omega))
  · refine px_cVS (ci := 7) rfl q_X7_settle_53 hg rfl trivial lk_7_56 nm_X7_shortenAll (cs_shortenAll hg _ _ _ hS hO) rfl rfl (px_lit hg rfl) rfl rfl rfl ⟨rfl, rfl⟩ ?_
    intro x58 I58 L58 h58
    obtain ⟨rfl, h58, h58b, h58c⟩ := h58
    replace h58 := h1.trans h58
    refine px_ne rfl q_X7_settle_61 hg rfl trivial (fun c61 => ?_) (fun c61 => ?_)
    · refine px_b rfl q_X7_settle_66 hg rfl trivial ?_
      exact px_go (ih (i + 1) (by grind) (by grind) (by grind) _ h58 (by rw [(px_tnS h0 (by grind)).1, h58b, hF1]; rfl) (fun m hm => by
        rw [(px_tnS h0 (by grind)).1] at hm
        by_cases e : m = i.toNatClampNeg
        · rw [e, ← hF1]; exact h58c.elim (fun q => absurd q.1 c61) (fun q => q.2)
        · exact hno m (by omega))) ⟨rfl, rfl, rfl, rfl, rfl, rfl, trivial⟩
    · refine px_rz rfl q_X7_settle_64 rfl rfl rfl hg rfl trivial (by first | exact Or.inl rfl | exact Or.inr rfl | grind) ?_
      have fx := h58c.elim (fun q => q.2) (fun q => absurd q.1 (by grind))
      rw [sA_fx fx _ (Nat.le_refl _)] at h58b
      rw [hF1] at fx h58b
      exact hq1 _ _ h58 (by have a3 := Int32.le_iff_toInt_le.mp (Int32.not_lt.mp c50); omega) fx h58b

set_option maxRecDepth 100000 in
theorem ls_settle3 {n : Nat} {R : px_R} (hg : px_G n R) {Q : px_Q} (a k s w : Int32) {I : px_I} (L : px_L) (hS : cSt I) (hO : cSo I) (hq1 : ∀ (d : Nat → Int64) (m : Nat) L2, (∀ j, j < 24 → d j = d0s s j) → cDL L L2 → m ≤ (I 33 7).toNatClampNeg → sFx (cAc I a k w) (sNt (I 35)) (sNt (I 36)) (sPl (I 38)) (sMi (I 37)) (I 33 8).toNatClampNeg (sR (cAc I a k w) (sNt (I 35)) (sNt (I 36)) (sPl (I 38)) (sMi (I 37)) (I 33 8).toNatClampNeg d m) → L2 40 = (sR (cAc I a k w) (sNt (I 35)) (sNt (I 36)) (sPl (I 38)) (sMi (I 37)) (I 33 8).toNatClampNeg d m) → Q (some (.int 1)) n I L2 R) (hq0 : ∀ (d : Nat → Int64) L2, (∀ j, j < 24 → d j = d0s s j) → cDL L L2 → (∀ m : Nat, m ≤ (I 33 7).toNatClampNeg → ¬ sFx (cAc I a k w) (sNt (I 35)) (sNt (I 36)) (sPl (I 38)) (sMi (I 37)) (I 33 8).toNatClampNeg (sR (cAc I a k w) (sNt (I 35)) (sNt (I 36)) (sPl (I 38)) (sMi (I 37)) (I 33 8).toNatClampNeg d m)) → Q (some (.int 0)) n I L2 R) : ∀ i : Int32, i ≤ 24 → 0 ≤ i → ∀ (L1 : px_L), cDL L L1 → (∀ j : Nat, j < i.toNatClampNeg → L1 40 j = d0s s j) → px M_X7_settle 0 0 3 [(0, .ref 33), (1, .int a), (2, .int k), (3, .int s), (4, .int w), (5, .int i)] [] n I L1 R Q := by
  refine px_up _ (fun i ih hk => ?_)
  intro h0 L1 h1 hF1
  refine px_ige rfl q_X7_settle_3 hg rfl trivial (fun c7 => ?_) (fun c7 => ?_)
  · refine px_b rfl q_X7_settle_41 hg rfl trivial ?_
    have hd : ∀ j, j < 24 → L1 40 j = d0s s j := fun j hj => hF1 j (px_n24 (by grind) hj)
    exact px_go (ls_settle44 hg a k s w L (L1 40) hS hO (fun m L2 => hq1 _ m L2 hd) (fun L2 => hq0 _ L2 hd) 0 (by decide) (by decide) L1 h1 (by rw [px_z0]; rfl) (fun m hm => absurd hm (by rw [px_z0]; exact Nat.not_lt_zero _))) ⟨rfl, rfl, rfl, rfl, rfl, rfl, trivial⟩
  · refine px_ieq rfl q_X7_settle_10 hg rfl trivial (fun c18 => ?_) (fun c18 => ?_)
    · refine px_b rfl q_X7_settle_27 hg rfl ⟨trivial, (by first | decide | (refine ⟨?_, ?_⟩ <;> grind) | grind)⟩ ?_
      first
        | exact px_go (ih (i + 1) (by grind) (by grind) (by grind) _ (h1.u _ _) (d0_far h0 (by grind) hF1 (fun q => q.elim c18 (fun q => c24 q)))) ⟨rfl, rfl, rfl, rfl, rfl, rfl, trivial⟩
        | exact px_go (ih (i + 1) (by grind) (by grind) (by grind) _ (h1.u _ _) (d0_zero h0 (by grind) hF1 (Or.inl c18))) ⟨rfl, rfl, rfl, rfl, rfl, rfl, trivial⟩
        | exact px_go (ih (i + 1) (by grind) (by grind) (by grind) _ (h1.u _ _) (d0_zero h0 (by grind) hF1 (Or.inr (by grind)))) ⟨rfl, rfl, rfl, rfl, rfl, rfl, trivial⟩
    · refine px_ine rfl q_X7_settle_21 hg rfl trivial (fun c24 => ?_) (fun c24 => ?_)
      · refine px_b rfl q_X7_settle_31 hg rfl ⟨trivial, (by first | decide | (refine ⟨?_, ?_⟩ <;> grind) | grind)⟩ ?_
        first
          | exact px_go (ih (i + 1) (by grind) (by grind) (by grind) _ (h1.u _ _) (d0_far h0 (by grind) hF1 (fun q => q.elim c18 (fun q => c24 q)))) ⟨rfl, rfl, rfl, rfl, rfl, rfl, trivial⟩
          | exact px_go (ih (i + 1) (by grind) (by grind) (by grind) _ (h1.u _ _) (d0_zero h0 (by grind) hF1 (Or.inl c18))) ⟨rfl, rfl, rfl, rfl, rfl, rfl, trivial⟩
          | exact px_go (ih (i + 1) (by grind) (by grind) (by grind) _ (h1.u _ _) (d0_zero h0 (by grind) hF1 (Or.inr (by grind)))) ⟨rfl, rfl, rfl, rfl, rfl, rfl, trivial⟩
      · refine px_b rfl q_X7_settle_27 hg rfl ⟨trivial, (by first | decide | (refine ⟨?_, ?_⟩ <;> grind) | grind)⟩ ?_
        first
          | exact px_go (ih (i + 1) (by grind) (by grind) (by grind) _ (h1.u _ _) (d0_far h0 (by grind) hF1 (fun q => q.elim c18 (fun q => c24 q)))) ⟨rfl, rfl, rfl, rfl, rfl, rfl, trivial⟩
          | exact px_go (ih (i + 1) (by grind) (by grind) (by grind) _ (h1.u _ _) (d0_zero h0 (by grind) hF1 (Or.inl c18))) ⟨rfl, rfl, rfl, rfl, rfl, rfl, trivial⟩
          | exact px_go (ih (i + 1) (by grind) (by grind) (by grind) _ (h1.u _ _) (d0_zero h0 (by grind) hF1 (Or.inr (by grind)))) ⟨rfl, rfl, rfl, rfl, rfl, rfl, trivial⟩

theorem d0s_z (j : Nat) : d0s (-1) j = 0 := by unfold d0s; rw [if_pos (Or.inl rfl)]
theorem d0s_s {s : Int32} (h0 : 0 ≤ s) (h1 : s < 24) (j : Nat) (hj : j < 24) : d0s s j = if j = s.toNatClampNeg then 0 else 1000000000000 := by
  unfold d0s
  have n1 : ¬ s = -1 := fun e => absurd h0 (by rw [e]; decide)
  by_cases e : j = s.toNatClampNeg
  · rw [if_pos e, if_pos (Or.inr ((px_ofN (by omega) h0 (by grind)).mpr e))]
  · rw [if_neg e, if_neg (fun q => q.elim n1 (fun q => e ((px_ofN (by omega) h0 (by grind)).mp q)))]
theorem settle_yes {I : px_I} {a k s w : Int32} {d : Nat → Int64} {m : Nat} {L2 : px_L} (hS : cSt I) (hO : cSo I) (hd : ∀ j, j < 24 → d j = d0s s j) (hm : m ≤ (I 33 7).toNatClampNeg) (hf : sFx (cAc I a k w) (sNt (I 35)) (sNt (I 36)) (sPl (I 38)) (sMi (I 37)) (I 33 8).toNatClampNeg (sR (cAc I a k w) (sNt (I 35)) (sNt (I 36)) (sPl (I 38)) (sMi (I 37)) (I 33 8).toNatClampNeg d m)) (h2 : L2 40 = sR (cAc I a k w) (sNt (I 35)) (sNt (I 36)) (sPl (I 38)) (sMi (I 37)) (I 33 8).toNatClampNeg d m) : (s = -1 → cGd I a k w) ∧ ((0 ≤ s ∧ s < I 33 7) → cGd I a k w → ∀ j, j < (I 33 7).toNatClampNeg → L2 40 j = cD I a k w (24 * s.toNatClampNeg + j)) := by
  obtain ⟨n24, c80, -⟩ := hS.nums
  refine ⟨fun e => ?_, fun hs g j hj => ?_⟩
  · subst e
    exact fx_good n24 c80 (by omega) (hO.ok a k w) (fun j hj => by rw [hd j (by omega), d0s_z]) hf
  · have hs24 : s < 24 := by have := hS.1; grind
    have sn : s.toNatClampNeg < (I 33 7).toNatClampNeg := by
      have a1 := px_nat hs.1
      have a2 := px_nat (x := I 33 7) (by grind)
      have a3 := Int32.lt_iff_toInt_lt.mp hs.2
      omega
    have gr := good_row n24 sn (hO.ok a k w) (d := d) (fun j hj => by rw [hd j (by omega)]; exact d0s_s hs.1 hs24 j (by omega)) g
    have e := sR_fx hf ((I 33 7).toNatClampNeg - m)
    rw [show m + ((I 33 7).toNatClampNeg - m) = (I 33 7).toNatClampNeg by omega] at e
    rw [h2, ← e]
    exact gr.2 j hj
theorem settle_no {I : px_I} {a k s w : Int32} {d : Nat → Int64} (hS : cSt I) (hO : cSo I) (hd : ∀ j, j < 24 → d j = d0s s j) (hf : ∀ m : Nat, m ≤ (I 33 7).toNatClampNeg → ¬ sFx (cAc I a k w) (sNt (I 35)) (sNt (I 36)) (sPl (I 38)) (sMi (I 37)) (I 33 8).toNatClampNeg (sR (cAc I a k w) (sNt (I 35)) (sNt (I 36)) (sPl (I 38)) (sMi (I 37)) (I 33 8).toNatClampNeg d m)) : (s = -1 → ¬ cGd I a k w) ∧ ((0 ≤ s ∧ s < I 33 7) → cGd I a k w → False) := by
  obtain ⟨n24, c80, -⟩ := hS.nums
  refine ⟨fun e g => ?_, fun hs g => ?_⟩
  · subst e
    exact hf _ (Nat.le_refl _) (good_fx n24 (hO.ok a k w) (fun j hj => by rw [hd j (by omega), d0s_z]) g)
  · have hs24 : s < 24 := by have := hS.1; grind
    have sn : s.toNatClampNeg < (I 33 7).toNatClampNeg := by
      have a1 := px_nat hs.1
      have a2 := px_nat (x := I 33 7) (by grind)
      have a3 := Int32.lt_iff_toInt_lt.mp hs.2
      omega
    exact hf _ (Nat.le_refl _) (good_row n24 sn (hO.ok a k w) (d := d) (fun j hj => by rw [hd j (by omega)]; exact d0s_s hs.1 hs24 j (by omega)) g).1
theorem cD_le {I : px_I} {a k w : Int32} (hS : cSt I) (hO : cSo I) (g : cGd I a k w) {i j : Nat} (hi : i < (I 33 7).toNatClampNeg) (hj : j < (I 33 7).toNatClampNeg) : cD I a k w (24 * i + j) ≤ 1000000000000 := by
  obtain ⟨n24, -, -⟩ := hS.nums
  have iv := fAll_inv n24 (gS_B n24 (hO.ok a k w) (I 33 8).toNatClampNeg (Nat.le_refl _)) g
  have := (iv.1 i j hi hj).2
  rw [Int64.le_iff_toInt_le, px_far]
  exact this

set_option maxRecDepth 100000 in
theorem cs_settle {n : Nat} {I : px_I} {L : px_L} {R : px_R} (hg : px_G n R) (a k s w : Int32) (hS : cSt I) (hO : cSo I) : px_KS M_X7_settle [.ref 33, .int a, .int k, .int s, .int w] n I L R (fun r I2 L2 => I2 = I ∧ cDL L L2 ∧ (s = -1 → (r = 1 ∧ cGd I a k w) ∨ (r = 0 ∧ ¬ cGd I a k w)) ∧ ((0 ≤ s ∧ s < I 33 7) → cGd I a k w → ∀ j, j < (I 33 7).toNatClampNeg → L2 40 j = cD I a k w (24 * s.toNatClampNeg + j))) := by
  refine px_of (plainFor_of_name np_RX7) (fun _ _ _ => trivial) rfl ?_
  refine px_b rfl q_X7_settle_0 hg rfl trivial ?_
  exact px_go (ls_settle3 hg a k s w L hS hO (fun d m L2 hd h hm hf h2 => ⟨rfl, rfl, 1, rfl, rfl, h, fun e => Or.inl ⟨rfl, (settle_yes hS hO hd hm hf h2).1 e⟩, (settle_yes hS hO hd hm hf h2).2⟩) (fun d L2 hd h hf => ⟨rfl, rfl, 0, rfl, rfl, h, fun e => Or.inr ⟨rfl, (settle_no hS hO hd hf).1 e⟩, fun hs g => ((settle_no hS hO hd hf).2 hs g).elim⟩) 0 (by decide) (by decide) L (fun _ _ => rfl) (fun j hj => absurd hj (by rw [px_z0]; exact Nat.not_lt_zero _))) ⟨rfl, rfl, rfl, rfl, rfl, rfl, trivial⟩
