/-! a gallery told in both books: the same days -/
theorem px_on {p : Nat} {c : Int32} (hc : 0 ≤ c ∧ c ≤ 40) (h : p < c.toNatClampNeg) : (Int32.ofNat p).toNatClampNeg = p ∧ 0 ≤ Int32.ofNat p ∧ Int32.ofNat p < c ∧ (1 ≤ p → 1 ≤ Int32.ofNat p) := by
  have a1 := px_nat hc.1
  have a2 := Int32.le_iff_toInt_le.mp hc.2
  rw [show (40 : Int32).toInt = 40 by decide] at a2
  have e : (Int32.ofNat p).toInt = p := Int32.toInt_ofNat_of_lt (by omega)
  refine ⟨?_, ?_, ?_, fun q => ?_⟩
  · show (Int32.ofNat p).toInt.toNat = p; omega
  · rw [Int32.le_iff_toInt_le, e, show (0 : Int32).toInt = 0 by decide]; omega
  · rw [Int32.lt_iff_toInt_lt, e]; omega
  · rw [Int32.le_iff_toInt_le, e, show (1 : Int32).toInt = 1 by decide]; omega
theorem dug_sm {I : px_I} {G : Nat} {g : Int32} (hc : 0 ≤ I G 13 ∧ I G 13 ≤ 20) (hd : dgOk I G g) (hq : mqOk I G g) : gSm I G := by
  intro p hp
  obtain ⟨o1, o2, o3, o4⟩ := px_on ⟨hc.1, by grind⟩ hp
  have q := hq (Int32.ofNat p) o2 o3
  rw [o1] at q
  unfold dFw dMo dMf dMt
  by_cases z : p = 0
  · rw [if_pos z, if_pos z]
    exact ⟨by omega, by omega, q.2.2.1, q.2.2.2⟩
  · rw [if_neg z, if_neg z]
    have d := hd (Int32.ofNat p) (o4 (by omega)) o3
    rw [o1] at d
    exact ⟨d.2.1, d.2.2, q.2.2.1, q.2.2.2⟩
theorem px_ng {x : Int32} (h : -1000000 ≤ x.toInt ∧ x.toInt ≤ 1000000) : (0 - x).toInt64.toInt = -x.toInt := by
  rw [Int32.toInt_toInt64, Int32.toInt_sub, show (0 : Int32).toInt = 0 by decide, Int.bmod_eq_of_le (by omega) (by omega)]
  omega
/-- which edge it is -/
theorem jx_cls {I : px_I} {G : Nat} {g : Int32} (hc : 0 ≤ I G 13 ∧ I G 13 ≤ 20) (hN : I G 13 = I 110 g.toNatClampNeg) (hg : 0 ≤ g ∧ g ≤ 1) (hd : dgOk I G g) (hr : mrOk I) (hM : mM I) {k : Nat} (hk : k < 2 * jxN I g + jxM I) (hA : jxA I g k = true) :
    (∃ p, p < jxN I g ∧ jxf I g k = jxN I g ∧ jxt I g k = p ∧ (jxp I g k).toInt = 20000 ∧ (jxq I g k).toInt = 0) ∨
    (∃ p, p + 1 < jxN I g ∧ jxf I g k = p ∧ jxt I g k = p + 1 ∧ (jxp I g k).toInt = dMo I G (p + 1) ∧ (jxq I g k).toInt = -dFw I G (p + 1) ∧ (0 ≤ dFw I G (p + 1) ∧ dFw I G (p + 1) ≤ 1000000) ∧ (0 ≤ dMo I G (p + 1) ∧ dMo I G (p + 1) ≤ 1000000)) ∨
    (∃ m, m < jxM I ∧ I 117 m = g ∧ (0 ≤ I 118 m ∧ I 118 m < I G 13) ∧ jxf I g k = jxN I g ∧ jxt I g k = (I 118 m).toNatClampNeg ∧ (jxp I g k).toInt = (I 120 m).toInt ∧ (jxq I g k).toInt = -(I 119 m).toInt ∧ ((0 ≤ (I 119 m).toInt ∧ (I 119 m).toInt ≤ 20000) ∧ (0 ≤ (I 120 m).toInt ∧ (I 120 m).toInt ≤ 20000))) := by
  have eN : dN I G = jxN I g := by show (I G 13).toNatClampNeg = _; rw [hN]; rfl
  by_cases c : k < 2 * jxN I g
  · by_cases d : k % 2 = 0
    · refine Or.inl ⟨k / 2, by omega, ?_, ?_, ?_, ?_⟩
      · unfold jxf; rw [if_pos c, if_pos d]
      · unfold jxt; rw [if_pos c]
      · unfold jxp; rw [if_pos c, if_pos d]; decide
      · unfold jxq; rw [if_pos c, if_pos d]; decide
    · have k1 : ¬ k = 1 := fun q => by
        unfold jxA at hA
        rw [if_pos c, q] at hA
        exact absurd hA (by decide)
      have kp : k / 2 - 1 + 1 = k / 2 := by omega
      have lt : k / 2 < dN I G := by rw [eN]; omega
      obtain ⟨o1, o2, o3, o4⟩ := px_on ⟨hc.1, by grind⟩ lt
      have dd := hd (Int32.ofNat (k / 2)) (o4 (by omega)) o3
      rw [o1] at dd
      have f1 : jFw I g (k / 2) = I (G + 4) (k / 2) := dd.1.1.symm
      have m1 : jMo I g (k / 2) = I (G + 5) (k / 2) := dd.1.2.symm
      have f2 : dFw I G (k / 2) = (I (G + 4) (k / 2)).toInt := if_neg (by omega)
      have m2 : dMo I G (k / 2) = (I (G + 5) (k / 2)).toInt := if_neg (by omega)
      refine Or.inr (Or.inl ⟨k / 2 - 1, by omega, ?_, ?_, ?_, ?_, ?_, ?_⟩)
      · unfold jxf; rw [if_pos c, if_neg d]
      · unfold jxt; rw [if_pos c, kp]
      · unfold jxp; rw [if_pos c, if_neg d, kp, m1, m2, Int32.toInt_toInt64]
      · unfold jxq; rw [if_pos c, if_neg d, kp, f1, f2, px_ng (by omega)]
      · rw [kp, f2]; exact dd.2.1
      · rw [kp, m2]; exact dd.2.2
  · have hm : k - 2 * jxN I g < jxM I := by omega
    obtain ⟨o1, o2, o3, -⟩ := px_on ⟨hM.1.1, hM.1.2⟩ hm
    have mm := hM.2 (Int32.ofNat (k - 2 * jxN I g)) o2 o3
    rw [o1] at mm
    have hA2 : I 117 (k - 2 * jxN I g) = g := by
      unfold jxA at hA
      rw [if_neg c] at hA
      exact of_decide_eq_true hA
    rw [hA2, ← hN] at mm
    have rr := hr _ hm
    refine Or.inr (Or.inr ⟨k - 2 * jxN I g, hm, hA2, mm.2, ?_, ?_, ?_, ?_, rr⟩)
    · unfold jxf; rw [if_neg c]
    · unfold jxt; rw [if_neg c]
    · unfold jxp; rw [if_neg c, Int32.toInt_toInt64]
    · unfold jxq; rw [if_neg c, px_ng (by omega)]
theorem dug_tab {I : px_I} {G : Nat} {g : Int32} (hc : 0 ≤ I G 13 ∧ I G 13 ≤ 20) (hN : I G 13 = I 110 g.toNatClampNeg) (hg : 0 ≤ g ∧ g ≤ 1) (hd : dgOk I G g) (hq : mqOk I G g) (hr : mrOk I) (hM : mM I) : dTab (dN I G) (dFw I G) (dMo I G) (dMf I G) (dMt I G) (fG (jxD I g)) (jGd I g) := by
  have eN : dN I G = jxN I g := by show (I G 13).toNatClampNeg = _; rw [hN]; rfl
  have n20 : jxN I g ≤ 20 := by rw [← eN]; exact px_n20 hc.1 (by grind)
  have hn : jxN I g + 1 ≤ 24 := by omega
  have cls := fun {k} => jx_cls (k := k) hc hN hg hd hr hM
  have sm := dug_sm hc hd hq
  have ho : sOk (jxN I g + 1) (2 * jxN I g + jxM I) (jxA I g) (jxf I g) (jxt I g) (jxp I g) (jxq I g) := fun k hk hA => by
    rcases cls hk hA with ⟨p, a1, a2, a3, a4, a5⟩ | ⟨p, a1, a2, a3, a4, a5, a6, a7⟩ | ⟨m, a0, a1, a2, a3, a4, a5, a6, a7⟩
    · rw [a2, a3, a4, a5]; omega
    · rw [a2, a3, a4, a5]; omega
    · have := px_ltN a2.1 a2.2
      have e : (I G 13).toNatClampNeg = jxN I g := eN
      rw [a3, a4, a5, a6]; omega
  -- the day that a number is, as the passes have it
  have mq := fun (p : Nat) (hp : p < dN I G) => by
    have o := px_on (p := p) ⟨hc.1, by grind⟩ hp
    have q := hq (Int32.ofNat p) o.2.1 o.2.2.1
    rw [o.1] at q
    exact (⟨q, o⟩ : _ ∧ _)
  refine ⟨fun u ub hu => ?_, fun g0 => ?_⟩
  · rw [eN] at ub hu
    have fe : sFe (2 * jxN I g + jxM I) (jxA I g) (jxf I g) (jxt I g) (jxp I g) (jxq I g) (fun _ => true) u := fun k hk hA => by
      refine ⟨rfl, fun _ => ?_⟩
      rcases cls hk hA with ⟨p, a1, a2, a3, a4, a5⟩ | ⟨p, a1, a2, a3, a4, a5, a6, a7⟩ | ⟨m, a0, a1, a2, a3, a4, a5, a6, a7⟩
      · have z := hu.1 p a1
        have s := sm p (by omega)
        rw [a2, a3, a4, a5]; omega
      · have z := hu.2 p a1
        rw [a2, a3, a4, a5]; omega
      · have lt := px_ltN a2.1 a2.2
        have e : (I G 13).toNatClampNeg = jxN I g := eN
        have z := hu.1 (I 118 m).toNatClampNeg (by omega)
        have q := hq (I 118 m) a2.1 a2.2
        have q1 := ((q.1 (u (I 118 m).toNatClampNeg - u (jxN I g))).mp z.1).2 m a0 a1 rfl
        have q2 := ((q.2.1 (u (I 118 m).toNatClampNeg - u (jxN I g))).mp z.2).2 m a0 a1 rfl
        rw [a3, a4, a5, a6]; omega
    have ub2 : ∀ i, i < jxN I g + 1 → -10000000000 ≤ u i ∧ u i ≤ 10000000000 := fun i hi => ub i (by omega)
    have ok := fAll_ok ub2 (gS_ok hn ub2 ho fe _ (Nat.le_refl _)) hn _ (Nat.le_refl _)
    exact ⟨ok.good, fun i j hi hj => (ok i j (by omega) (by omega)).1⟩
  · obtain ⟨d1, d2, d3, d4⟩ := gD_facts hn ho g0
    rw [eN]
    have ev : ∀ p, p < jxN I g → fG (jxD I g) (jxN I g) p ≤ 20000 ∧ fG (jxD I g) p (jxN I g) ≤ 0 := fun p hp => by
      have a : jxA I g (2 * p) = true := by unfold jxA; rw [if_pos (by omega)]; simp; omega
      have e := d4 (2 * p) (by omega) a
      have f1 : jxf I g (2 * p) = jxN I g := by unfold jxf; rw [if_pos (by omega), if_pos (by omega)]
      have t1 : jxt I g (2 * p) = p := by unfold jxt; rw [if_pos (by omega)]; omega
      have p1 : (jxp I g (2 * p)).toInt = 20000 := by unfold jxp; rw [if_pos (by omega), if_pos (by omega)]; decide
      have q1 : (jxq I g (2 * p)).toInt = 0 := by unfold jxq; rw [if_pos (by omega), if_pos (by omega)]; decide
      rw [f1, t1, p1, q1] at e
      exact e
    have mk : ∀ m, m < jxM I → I 117 m = g → fG (jxD I g) (jxN I g) (I 118 m).toNatClampNeg ≤ (I 120 m).toInt ∧ fG (jxD I g) (I 118 m).toNatClampNeg (jxN I g) ≤ -(I 119 m).toInt := fun m hm h1 => by
      have e0 : 2 * jxN I g + m - 2 * jxN I g = m := by omega
      have a : jxA I g (2 * jxN I g + m) = true := by unfold jxA; rw [if_neg (by omega), e0]; simp [h1]
      have e := d4 (2 * jxN I g + m) (by omega) a
      have f1 : jxf I g (2 * jxN I g + m) = jxN I g := by unfold jxf; rw [if_neg (by omega)]
      have t1 : jxt I g (2 * jxN I g + m) = (I 118 m).toNatClampNeg := by unfold jxt; rw [if_neg (by omega), e0]
      have rr := hr m hm
      have p1 : (jxp I g (2 * jxN I g + m)).toInt = (I 120 m).toInt := by unfold jxp; rw [if_neg (by omega), e0, Int32.toInt_toInt64]
      have q1 : (jxq I g (2 * jxN I g + m)).toInt = -(I 119 m).toInt := by unfold jxq; rw [if_neg (by omega), e0, px_ng (by omega)]
      rw [f1, t1, p1, q1] at e
      exact e
    refine ⟨fun i hi => d3 i (by omega), fun i j k hi hj hk => d2 i j k (by omega) (by omega) (by omega), fun p hp => ?_, fun p hp => ?_⟩
    · have v := ev p hp
      obtain ⟨q, o1, o2, o3, -⟩ := mq p (by rw [eN]; exact hp)
      refine ⟨(q.2.1 _).mpr ⟨v.1, fun m hm h1 h2 => ?_⟩, ?_⟩
      · have e := (mk m hm h1).1
        rw [h2, o1] at e
        exact e
      · have z := (q.1 (-fG (jxD I g) p (jxN I g))).mpr ⟨by omega, fun m hm h1 h2 => by
          have e := (mk m hm h1).2
          rw [h2, o1] at e
          omega⟩
        show _ ≤ -(I (G + 7) p).toInt
        omega
    · have a : jxA I g (2 * (p + 1) + 1) = true := by unfold jxA; rw [if_pos (by omega)]; simp
      have e := d4 (2 * (p + 1) + 1) (by omega) a
      rcases cls (k := 2 * (p + 1) + 1) (by omega) a with ⟨p2, a1, a2, a3, a4, a5⟩ | ⟨p2, a1, a2, a3, a4, a5, a6, a7⟩ | ⟨m, a0, a1, a2, a3, a4, a5, a6, a7⟩
      · have : jxf I g (2 * (p + 1) + 1) = p := by unfold jxf; rw [if_pos (by omega), if_neg (by omega)]; omega
        omega
      · have : jxt I g (2 * (p + 1) + 1) = p + 1 := by unfold jxt; rw [if_pos (by omega)]; omega
        have : p2 = p := by omega
        subst this
        rw [a2, a3, a4, a5] at e
        exact e
      · have : jxf I g (2 * (p + 1) + 1) = p := by unfold jxf; rw [if_pos (by omega), if_neg (by omega)]; omega
        omega
theorem px_t32 {l : Int64} (h : -100000000 ≤ l.toInt ∧ l.toInt ≤ 100000000) : l.toInt32.toInt = l.toInt := by
  rw [Int64.toInt_toInt32]; exact Int.bmod_eq_of_le (by omega) (by omega)
theorem px_n64 {l : Int64} (h : -100000000 ≤ l.toInt ∧ l.toInt ≤ 100000000) : (-l).toInt = -l.toInt := by
  rw [Int64.toInt_neg]; exact Int.bmod_eq_of_le (by omega) (by omega)
theorem gp_val {F : Nat → Int64} {f t h : Int32} (hf : 0 ≤ f ∧ f < 24) (ht : 0 ≤ t ∧ t < 24) (h1 : -100000000 ≤ fG F f.toNatClampNeg t.toNatClampNeg ∧ fG F f.toNatClampNeg t.toNatClampNeg ≤ 100000000) (h2 : -100000000 ≤ fG F t.toNatClampNeg f.toNatClampNeg ∧ fG F t.toNatClampNeg f.toNatClampNeg ≤ 100000000) :
    (¬ h = 0 → (mGp F f t h).toInt = fG F f.toNatClampNeg t.toNatClampNeg) ∧ (h = 0 → (mGp F f t h).toInt = -fG F t.toNatClampNeg f.toNatClampNeg) := by
  unfold mGp
  rw [(px_24 hf ht).1, (px_24 ht hf).1]
  unfold fG at *
  refine ⟨fun q => ?_, fun q => ?_⟩
  · rw [if_pos q, if_neg (by rw [Int64.le_iff_toInt_le, px_far]; omega), px_t32 h1]
  · rw [if_neg (fun z => z q), if_neg (by rw [Int64.le_iff_toInt_le, px_far]; omega), px_t32 (by rw [px_n64 h2]; omega), px_n64 h2]
theorem peg_iff {I : px_I} {G : Nat} {g p : Int32} (hc : 0 ≤ I G 13 ∧ I G 13 ≤ 20) (hN : I G 13 = I 110 g.toNatClampNeg) (hg : 0 ≤ g ∧ g ≤ 1) : mPegOk I g p ↔ (0 ≤ p ∧ p < I G 13) := by
  unfold mPegOk
  rw [← hN]
  constructor
  · intro q; exact ⟨q.2.2.1, by grind⟩
  · intro q; exact ⟨hg.1, hg.2, q.1, by grind⟩
theorem when_eq {I : px_I} {G : Nat} {g p h x y : Int32} (hc : 0 ≤ I G 13 ∧ I G 13 ≤ 20) (hN : I G 13 = I 110 g.toNatClampNeg) (hg : 0 ≤ g ∧ g ≤ 1) (hd : dgOk I G g) (hq : mqOk I G g) (hr : mrOk I) (hM : mM I)
    (h1 : qWh (gOk I G) (gEB I G) (gLB I G) (I G 13) p h x) (h2 : qW3 I g p h y) : x = y := by
  unfold qWh at h1
  unfold qW3 at h2
  rw [peg_iff hc hN hg] at h2
  have tab := dug_tab hc hN hg hd hq hr hM
  have sm := dug_sm hc hd hq
  have eN : dN I G = jxN I g := by show (I G 13).toNatClampNeg = _; rw [hN]; rfl
  rcases h1 with ⟨o1, h1⟩ | ⟨o1, h1⟩
  · rcases h2 with ⟨o2, h2⟩ | ⟨o2, h2⟩
    · have lt := px_ltN o1.1 o1.2
      have ok := dig_ok sm tab (by show 1 ≤ (I G 13).toNatClampNeg; omega)
      rcases h1 with ⟨g1, v1, v2⟩ | ⟨g1, e1⟩
      · rcases h2 with ⟨g2, e2⟩ | ⟨g2, e2⟩
        · have at_ := dig_at sm tab g2 p.toNatClampNeg lt
          have bd := gB_in sm g1 (p := p.toNatClampNeg) lt
          have a1 : fG (jxD I g) (I 110 g.toNatClampNeg).toNatClampNeg p.toNatClampNeg = gLB I G p.toNatClampNeg := by rw [← hN]; exact at_.1
          have a2 : fG (jxD I g) p.toNatClampNeg (I 110 g.toNatClampNeg).toNatClampNeg = -gEB I G p.toNatClampNeg := by rw [← hN]; exact at_.2
          have val := gp_val (F := jxD I g) (h := h) (f := I 110 g.toNatClampNeg) (t := p) (by rw [← hN]; grind) (by grind) (by omega) (by omega)
          apply Int32.toInt_inj.mp
          rw [e2]
          by_cases z : h = 0
          · rw [v2 z, val.2 z, a2]; omega
          · rw [v1 z, val.1 z, a1]
        · exact absurd (ok.mpr g1) g2
      · rcases h2 with ⟨g2, e2⟩ | ⟨g2, e2⟩
        · exact absurd (ok.mp g2) g1
        · rw [e1, e2]
    · exact absurd o1 o2
  · rcases h2 with ⟨o2, h2⟩ | ⟨o2, h2⟩
    · exact absurd o2 o1
    · rw [h1, h2]
theorem btw_eq {I : px_I} {G : Nat} {g a b h x y : Int32} (hc : 0 ≤ I G 13 ∧ I G 13 ≤ 20) (hN : I G 13 = I 110 g.toNatClampNeg) (hg : 0 ≤ g ∧ g ≤ 1) (hd : dgOk I G g) (hq : mqOk I G g) (hr : mrOk I) (hM : mM I)
    (h1 : qBt (gOk I G) (gEB I G) (gLB I G) (dFw I G) (dMo I G) (I G 13) a b h x) (h2 : qB3 I g a b h y) : x = y := by
  unfold qBt at h1
  unfold qB3 at h2
  rw [peg_iff hc hN hg, peg_iff hc hN hg] at h2
  have tab := dug_tab hc hN hg hd hq hr hM
  have sm := dug_sm hc hd hq
  rcases h1 with ⟨o1, h1⟩ | ⟨o1, h1⟩
  · rcases h2 with ⟨o2, h2⟩ | ⟨o2, h2⟩
    · have la := px_ltN o1.1.1 o1.1.2
      have lb := px_ltN o1.2.1.1 o1.2.1.2
      have lab := px_ltN o1.1.1 o1.2.2
      have n20 : dN I G ≤ 20 := px_n20 hc.1 (by grind)
      have ok := dig_ok sm tab (by show 1 ≤ (I G 13).toNatClampNeg; omega)
      rcases h1 with ⟨g1, v1, v2⟩ | ⟨g1, e1⟩
      · rcases h2 with ⟨g2, e2⟩ | ⟨g2, e2⟩
        · have eb : a.toNatClampNeg + (b.toNatClampNeg - a.toNatClampNeg) = b.toNatClampNeg := by omega
          have lt : a.toNatClampNeg + (b.toNatClampNeg - a.toNatClampNeg) < dN I G := by rw [eb]; exact lb
          have bt := dig_btw sm tab g2 n20 lt
          rw [eb] at bt
          have ba := gB_in sm g1 (p := a.toNatClampNeg) la
          have bb := gB_in sm g1 (p := b.toNatClampNeg) lb
          have w1 := wS_bd (w := dMo I G) (N := dN I G) (f := a.toNatClampNeg) (fun p hp => (sm p hp).2.1) (b.toNatClampNeg - a.toNatClampNeg) lt
          have w2 := wS_bd (w := dFw I G) (N := dN I G) (f := a.toNatClampNeg) (fun p hp => (sm p hp).1) (b.toNatClampNeg - a.toNatClampNeg) lt
          have a1 : fG (jxD I g) a.toNatClampNeg b.toNatClampNeg = imn (wS (dMo I G) a.toNatClampNeg (b.toNatClampNeg - a.toNatClampNeg)) (gLB I G b.toNatClampNeg - gEB I G a.toNatClampNeg) := bt.1
          have a2 : fG (jxD I g) b.toNatClampNeg a.toNatClampNeg = -imx (wS (dFw I G) a.toNatClampNeg (b.toNatClampNeg - a.toNatClampNeg)) (gEB I G b.toNatClampNeg - gLB I G a.toNatClampNeg) := bt.2
          have c1 := imn_c (wS (dMo I G) a.toNatClampNeg (b.toNatClampNeg - a.toNatClampNeg)) (gLB I G b.toNatClampNeg - gEB I G a.toNatClampNeg)
          have c2 := imx_c (wS (dFw I G) a.toNatClampNeg (b.toNatClampNeg - a.toNatClampNeg)) (gEB I G b.toNatClampNeg - gLB I G a.toNatClampNeg)
          have val := gp_val (F := jxD I g) (h := h) (f := a) (t := b) (by grind) (by grind) (by rw [a1]; omega) (by rw [a2]; omega)
          apply Int32.toInt_inj.mp
          rw [e2]
          by_cases z : h = 0
          · rw [v2 z, val.2 z, a2]; omega
          · rw [v1 z, val.1 z, a1]
        · exact absurd (ok.mpr g1) g2
      · rcases h2 with ⟨g2, e2⟩ | ⟨g2, e2⟩
        · exact absurd (ok.mp g2) g1
        · rw [e1, e2]
    · exact absurd o1 o2
  · rcases h2 with ⟨o2, h2⟩ | ⟨o2, h2⟩
    · exact absurd o2 o1
    · rw [h1, h2]
theorem jx_eq {I J : px_I} (h : ∀ b, 103 ≤ b → b < 147 → J b = I b) (g : Int32) : jxD J g = jxD I g ∧ (jGd J g ↔ jGd I g) ∧ (∀ p, mPegOk J g p ↔ mPegOk I g p) ∧ J 110 = I 110 := by
  have e : jxD J g = jxD I g := by
    unfold jxD jxA jxf jxt jxp jxq jFw jMo jxN jxM
    rw [h 103 (by omega) (by omega), h 110 (by omega) (by omega), h 111 (by omega) (by omega), h 112 (by omega) (by omega), h 113 (by omega) (by omega), h 114 (by omega) (by omega), h 117 (by omega) (by omega), h 118 (by omega) (by omega), h 119 (by omega) (by omega), h 120 (by omega) (by omega)]
  refine ⟨e, ?_, fun p => ?_, h 110 (by omega) (by omega)⟩
  · unfold jGd jxN
    rw [e, h 110 (by omega) (by omega)]
  · unfold mPegOk
    rw [h 110 (by omega) (by omega)]
