/-! the rounds of a repeat; a stretch does what its steps do -/
theorem cSx_round {I0 : px_I} {w : Nat} (h0 : w = 77 ∨ 147 ≤ w) (hv0 : cWv I0 w) {t c2 : Nat} {i e : Int32} {ys : List (Int32 × Int32)} (he : 0 ≤ e ∧ e < I0 w 2) (hk : I0 (w + 1) e.toNatClampNeg = 7) (hb : cSx I0 w t c2 i e ys)
    {n : Nat} {R : px_R} (hg : px_G n R) (hw : cWay n w) {Q : px_Q} (st : Int32) (L0 : px_L) (d : Int32) (hd0 : 0 ≤ d.toInt ∧ d.toInt < 80) (hdt : d.toInt + 1 + t ≤ 80) (I1 : px_I) :
    ∀ (m : Nat) (I : px_I) (L : px_L), 1 ≤ m → m ≤ 99 → cHe I0 L0 (d + 1) I L → I 88 d.toNatClampNeg = Int32.ofNat m → I 87 d.toNatClampNeg = i → (∀ q : Nat, (q : Int) < d.toInt → I 87 q = I1 87 q ∧ I 88 q = I1 88 q) → (cV I L 8).toInt + ((m * ys.length : Nat) : Int) ≤ 5000 → ∀ o : Nat, o + m * (c2 + 1) < 1000000 →
    (fD (cTl I0) (rp m ys) (cV I L) = none → ∀ I2 L2, cWI I0 I2 → cWL L0 L2 → I2 86 17 = 0 → Q none n I2 L2 R) →
    (∀ V, fD (cTl I0) (rp m ys) (cV I L) = some V → ∀ I2 L2, cHe I0 L0 d I2 L2 → cV I2 L2 = V → (V 8).toInt = (cV I L 8).toInt + ((m * ys.length : Nat) : Int) → (∀ q : Nat, (q : Int) < d.toInt → I2 87 q = I1 87 q ∧ I2 88 q = I1 88 q) → cAt w st (e + 1) (o + m * (c2 + 1)) n I2 L2 R Q) →
    cAt w st i o n I L R Q := by
  have d1 := d_up hd0.1 hd0.2
  have hd9 := xnat (d_le hd0.1)
  intro m
  induction m with
  | zero => intro I L h1; omega
  | succ m ih =>
    intro I L _ hm hH hu hi hp h5 o ho hq kk
    have hml : (m + 1) * ys.length = m * ys.length + ys.length := Nat.succ_mul _ _
    have hmc : (m + 1) * (c2 + 1) = m * (c2 + 1) + (c2 + 1) := Nat.succ_mul _ _
    rw [hml] at h5
    rw [hmc] at ho
    refine hb hg hw st L0 (d + 1) I L hH (by omega) (by omega) (by omega) o (by omega) (fun hn => hq (fD_b1 hn)) (fun V hV I2 L2 hH2 hV2 h82 hp2 => ?_)
    have hI8 : I2 88 d.toNatClampNeg = Int32.ofNat (m + 1) := (hp2 d.toNatClampNeg (by omega)).2.trans hu
    have hI7 : I2 87 d.toNatClampNeg = i := (hp2 d.toNatClampNeg (by omega)).1.trans hi
    have mI : (Int32.ofNat (m + 1)).toInt = m + 1 := by rw [Int32.toInt_ofNat_of_lt (by omega)]; rfl
    have mJ : (Int32.ofNat m).toInt = m := Int32.toInt_ofNat_of_lt (by omega)
    have m1 : Int32.ofNat (m + 1) - 1 = Int32.ofNat m := by
      rw [← Int32.toInt_inj, Int32.toInt_sub, mI, mJ, show (1 : Int32).toInt = 1 by decide, Int.bmod_eq_of_le (by omega) (by omega)]
      omega
    have e1 : fD (cTl I0) (rp (m + 1) ys) (cV I L) = fD (cTl I0) (rp m ys) (cV I2 L2) := by rw [hV2]; exact fD_b2 hV
    refine cSx_again h0 hv0 hg hw st L0 d hH2 hd0 he hk (by omega) (fun h6 I3 hH3 hV3 g7 g8 g9 => ?_) (fun h6 I3 hH3 hV3 g7 g9 => ?_)
    · rw [hI8, m1] at h6
      have h7 := Int32.lt_iff_toInt_lt.mp h6
      rw [mJ, show (0 : Int32).toInt = 0 by decide] at h7
      rw [hI7]
      refine ih I3 L2 (by omega) (by omega) hH3 (by rw [g8, hI8, m1]) (by rw [g7, hI7]) (fun q hq1 => ?_) (by rw [hV3, hV2, h82]; omega) (o + c2 + 1) (by omega) (fun hn => hq (by rw [e1, ← hV3]; exact hn)) (fun V2 hV4 I4 L4 hH4 hV5 h84 hp4 => ?_)
      · have a := hp2 q (by omega)
        have b := hp q hq1
        rw [g7, g9 q (by omega)]
        exact ⟨a.1.trans b.1, a.2.trans b.2⟩
      · have z := kk V2 (by rw [e1, ← hV3]; exact hV4) I4 L4 hH4 hV5 (by rw [h84, hV3, hV2, h82, hml]; omega) hp4
        rw [hmc, show o + (m * (c2 + 1) + (c2 + 1)) = o + c2 + 1 + m * (c2 + 1) by omega] at z
        exact z
    · rw [hI8, m1] at h6
      have m0 : m = 0 := by
        rcases Nat.eq_zero_or_pos m with z | z
        · exact z
        · exact absurd (Int32.lt_iff_toInt_lt.mpr (by rw [mJ, show (0 : Int32).toInt = 0 by decide]; omega)) h6
      subst m0
      have z := kk V (by rw [← hV]; exact congrArg (fun z => fD (cTl I0) z (cV I L)) (List.append_nil ys)) I3 L2 hH3 (hV3.trans hV2) (by rw [h82, hml]; omega) (fun q hq1 => by
        have a := hp2 q (by omega)
        have b := hp q hq1
        rw [g7, g9 q (by omega)]
        exact ⟨a.1.trans b.1, a.2.trans b.2⟩)
      rw [hmc, show o + (0 * (c2 + 1) + (c2 + 1)) = o + c2 + 1 by omega] at z
      exact z
theorem cRx_sem {I0 : px_I} {w : Nat} (h0 : w = 77 ∨ 147 ≤ w) (hv0 : cWv I0 w) (hT : tOk (cTl I0)) {s c q : Nat} {i j : Int32} {zs : List (Int32 × Int32)} (h : cRx (fun j => I0 (w + 1) j.toNatClampNeg) (fun j => I0 (w + 2) j.toNatClampNeg) (I0 w 2) s c q i j zs) : cSx I0 w s c i j zs := by
  refine h (fun s c q i j zs => cSx I0 w s c i j zs) ?_ ?_ ?_ ?_ ?_
  · intro s i n R hg hw Q st L0 d I L hH h1 h2 h3 m hm hq kk
    exact kk (cV I L) rfl I L hH rfl (by simp) (fun _ _ => ⟨rfl, rfl⟩)
  · intro s c q i j xs hP hj hk n R hg hw Q st L0 d I L hH h1 h2 h3 m hm hq kk
    simp only [List.length_append, List.length_cons, List.length_nil] at h3 kk
    refine hP hg hw st L0 d I L hH h1 h2 (by omega) m (by omega) (fun hn => hq (fD_b1 hn)) (fun V hV I2 L2 hH2 hV2 h82 hp2 => ?_)
    refine cSx_step h0 hv0 hT hg hw st L0 d hH2 hj hk (by rw [hV2]; omega) (by omega) (fun c0 => hq (by rw [fD_b2 hV, fD_one, ← hV2]; exact if_pos c0)) (fun c0 I3 L3 hH3 hV3 h83 g7 g8 => ?_)
    exact kk _ (by rw [fD_b2 hV, fD_one, ← hV2]; exact if_neg c0) I3 L3 hH3 hV3 (by rw [hV3, hV2] at h83; rw [hV2, h83, h82]; omega) (fun q hq1 => ⟨(congrFun g7 q).trans (hp2 q hq1).1, (congrFun g8 q).trans (hp2 q hq1).2⟩)
  · intro s c q i j xs hP hj hk n R hg hw Q st L0 d I L hH h1 h2 h3 m hm hq kk
    refine hP hg hw st L0 d I L hH h1 h2 h3 m (by omega) hq (fun V hV I2 L2 hH2 hV2 h82 hp2 => ?_)
    exact cSx_skip h0 hv0 hg hw st L0 d hH2 hj hk (by omega) (kk V hV I2 L2 hH2 hV2 h82 hp2)
  · intro s c q i j t c2 e xs ys hP hj hk ht hY hy he h9 n R hg hw Q st L0 d I L hH h1 h2 h3 m hm hq kk
    rw [List.length_append] at h3
    refine hP hg hw st L0 d I L hH h1 h2 (by omega) m (by omega) (fun hn => hq (fD_b1 hn)) (fun V hV I2 L2 hH2 hV2 h82 hp2 => ?_)
    have hd80 : d.toInt < 80 := by omega
    have d1 := d_up h1 hd80
    have hd9 := xnat (d_le h1)
    refine cSx_in h0 hv0 hg hw st L0 d hH2 ⟨h1, hd80⟩ hj (Or.inl ⟨hk, rfl, rfl⟩) (by omega) (fun I3 hH3 hV3 g7 g8 gp => ?_)
    have e5 : fD (cTl I0) (xs ++ ys) (cV I L) = fD (cTl I0) ys (cV I3 L2) := by rw [hV3, hV2]; exact fD_b2 hV
    refine hY hg hw st L0 (d + 1) I3 L2 hH3 (by omega) (by omega) (by rw [hV3, hV2]; omega) (m + c + 1) (by omega) (fun hn => hq (by rw [e5]; exact hn)) (fun V2 hV4 I4 L4 hH4 hV5 h84 hp4 => ?_)
    have e1 : I4 87 d.toNatClampNeg = j + 1 := (hp4 d.toNatClampNeg (by omega)).1.trans g7
    refine cSx_ret h0 hv0 hg hw st L0 d hH4 ⟨h1, hd80⟩ he h9 (by omega) (fun I5 hH5 hV6 q7 q8 => ?_)
    rw [e1]
    have z := kk V2 (by rw [e5]; exact hV4) I5 L4 hH5 (hV6.trans hV5) (by rw [h84, hV3, hV2, h82, List.length_append]; omega) (fun q hq1 => by
      have a := hp4 q (by omega)
      have b := gp q hq1
      have c0 := hp2 q hq1
      rw [q7, q8]
      exact ⟨(a.1.trans b.1).trans c0.1, (a.2.trans b.2).trans c0.2⟩)
    rw [show m + (c + c2 + 2) = m + c + 1 + c2 + 1 by omega] at z
    exact z
  · intro s c q i j t c2 e xs ys hP hj hk ht hY hy he h9 hv n R hg hw Q st L0 d I L hH h1 h2 h3 m hm hq kk
    replace hv : 2 ≤ I0 (w + 2) j.toNatClampNeg ∧ I0 (w + 2) j.toNatClampNeg ≤ 99 := hv
    replace hm : m + (c + 1 + (I0 (w + 2) j.toNatClampNeg).toNatClampNeg * (c2 + 1)) < 1000000 := hm
    rw [List.length_append, rp_len] at h3
    replace h3 : (cV I L 8).toInt + ((xs.length + (I0 (w + 2) j.toNatClampNeg).toNatClampNeg * ys.length : Nat) : Int) ≤ 5000 := h3
    have r0 := xnat (show 0 ≤ I0 (w + 2) j.toNatClampNeg by have := hv.1; grind)
    have r1 := Int32.le_iff_toInt_le.mp hv.1
    have r2 := Int32.le_iff_toInt_le.mp hv.2
    rw [show (2 : Int32).toInt = 2 by decide] at r1
    rw [show (99 : Int32).toInt = 99 by decide] at r2
    refine hP hg hw st L0 d I L hH h1 h2 (by omega) m (by omega) (fun hn => hq (fD_b1 hn)) (fun V hV I2 L2 hH2 hV2 h82 hp2 => ?_)
    have hd80 : d.toInt < 80 := by omega
    have d1 := d_up h1 hd80
    refine cSx_in h0 hv0 hg hw st L0 d hH2 ⟨h1, hd80⟩ hj (Or.inr ⟨hk, rfl, rfl⟩) (by omega) (fun I3 hH3 hV3 g7 g8 gp => ?_)
    have e5 : fD (cTl I0) (xs ++ rp (I0 (w + 2) j.toNatClampNeg).toNatClampNeg ys) (cV I L) = fD (cTl I0) (rp (I0 (w + 2) j.toNatClampNeg).toNatClampNeg ys) (cV I3 L2) := by rw [hV3, hV2]; exact fD_b2 hV
    refine cSx_round h0 hv0 he h9 hY hg hw st L0 d ⟨h1, hd80⟩ (by omega) I (I0 (w + 2) j.toNatClampNeg).toNatClampNeg I3 L2 (by omega) (by omega) hH3 ?_ g7 (fun q hq1 => ⟨(gp q hq1).1.trans (hp2 q hq1).1, (gp q hq1).2.trans (hp2 q hq1).2⟩) (by rw [hV3, hV2, h82]; omega) (m + c + 1) (by omega) (fun hn => hq (by rw [e5]; exact hn)) (fun V2 hV4 I4 L4 hH4 hV5 h84 hp4 => ?_)
    · rw [g8, ← Int32.toInt_inj, Int32.toInt_ofNat_of_lt (by omega)]
      exact r0.symm
    · have z := kk V2 (by rw [e5]; exact hV4) I4 L4 hH4 hV5 (by
        rw [h84, hV3, hV2, h82, List.length_append, rp_len]
        show _ = (cV I L 8).toInt + ((xs.length + (I0 (w + 2) j.toNatClampNeg).toNatClampNeg * ys.length : Nat) : Int)
        omega) hp4
      replace z : cAt w st (e + 1) (m + (c + 1 + (I0 (w + 2) j.toNatClampNeg).toNatClampNeg * (c2 + 1))) n I4 L4 R Q := z
      rw [show m + (c + 1 + (I0 (w + 2) j.toNatClampNeg).toNatClampNeg * (c2 + 1)) = m + c + 1 + (I0 (w + 2) j.toNatClampNeg).toNatClampNeg * (c2 + 1) by omega] at z
      exact z
