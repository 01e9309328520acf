/-! what agrees of a gallery: days of digging, marks -/
def dgF (F H A B C D : Nat → Int32) (off c : Int32) : Prop := ∀ p : Int32, 1 ≤ p → p < c → (F p.toNatClampNeg = (A (off + p).toNatClampNeg + D (off + p).toNatClampNeg - 1) / D (off + p).toNatClampNeg ∧ H p.toNatClampNeg = B (off + p).toNatClampNeg / C (off + p).toNatClampNeg) ∧ (0 ≤ (F p.toNatClampNeg).toInt ∧ (F p.toNatClampNeg).toInt ≤ 1000000) ∧ (0 ≤ (H p.toNatClampNeg).toInt ∧ (H p.toNatClampNeg).toInt ≤ 1000000)
def dgOk (I : px_I) (G : Nat) (g : Int32) : Prop := dgF (I (G + 4)) (I (G + 5)) (I 111) (I 112) (I 113) (I 114) (20 * g) (I G 13)
def mqF (F H Gl Pg Fr To : Nat → Int32) (g : Int32) (M : Nat) (c : Int32) : Prop := ∀ p : Int32, 0 ≤ p → p < c → (∀ x : Int, (F p.toNatClampNeg).toInt ≤ x ↔ (0 ≤ x ∧ ∀ k, k < M → Gl k = g → Pg k = p → (Fr k).toInt ≤ x)) ∧ (∀ x : Int, x ≤ (H p.toNatClampNeg).toInt ↔ (x ≤ 20000 ∧ ∀ k, k < M → Gl k = g → Pg k = p → x ≤ (To k).toInt)) ∧ (0 ≤ (F p.toNatClampNeg).toInt ∧ (F p.toNatClampNeg).toInt ≤ 20000) ∧ (0 ≤ (H p.toNatClampNeg).toInt ∧ (H p.toNatClampNeg).toInt ≤ 20000)
def mqOk (I : px_I) (G : Nat) (g : Int32) : Prop := mqF (I (G + 7)) (I (G + 8)) (I 117) (I 118) (I 119) (I 120) g (I 103 16).toNatClampNeg (I G 13)
def mrOk (I : px_I) : Prop := ∀ k, k < (I 103 16).toNatClampNeg → (0 ≤ (I 119 k).toInt ∧ (I 119 k).toInt ≤ 20000) ∧ (0 ≤ (I 120 k).toInt ∧ (I 120 k).toInt ≤ 20000)
theorem cReach_4 {G k : Nat} {I : px_I} {lo hi sl fa w st : Int32} : cReach G I lo hi sl fa w st (G + 4) k = if k = (if I G 13 = 0 then 1 else I G 13).toNatClampNeg then (lo + fa - 1) / fa else I (G + 4) k := by
  unfold cReach cRch
  rw [px_u_ne (by omega), px_u_ne (by omega), px_ur, if_pos rfl, px_u_ne (by omega), px_u_ne (by omega)]
  unfold cPeg
  rw [px_u_ne (by omega), px_u_ne (by omega), px_u_ne (by omega), px_u_ne (by omega)]
  by_cases c : I G 13 = 0
  · rw [if_pos c, if_pos c, px_u_ne (by omega), px_u_ne (by omega), px_u_ne (by omega), px_u_ne (by omega)]
  · rw [if_neg c, if_neg c]
theorem cReach_5 {G k : Nat} {I : px_I} {lo hi sl fa w st : Int32} : cReach G I lo hi sl fa w st (G + 5) k = if k = (if I G 13 = 0 then 1 else I G 13).toNatClampNeg then hi / sl else I (G + 5) k := by
  unfold cReach cRch
  rw [px_u_ne (by omega), px_ur, if_pos rfl, px_u_ne (by omega), px_u_ne (by omega), px_u_ne (by omega)]
  unfold cPeg
  rw [px_u_ne (by omega), px_u_ne (by omega), px_u_ne (by omega), px_u_ne (by omega)]
  by_cases c : I G 13 = 0
  · rw [if_pos c, if_pos c, px_u_ne (by omega), px_u_ne (by omega), px_u_ne (by omega), px_u_ne (by omega)]
  · rw [if_neg c, if_neg c]
theorem cReach_7 {G k : Nat} {I : px_I} {lo hi sl fa w st : Int32} : cReach G I lo hi sl fa w st (G + 7) k = if k = (if I G 13 = 0 then 1 else I G 13).toNatClampNeg then 0 else if I G 13 = 0 ∧ k = 0 then 0 else I (G + 7) k := by
  unfold cReach cRch
  rw [px_u_ne (by omega), px_u_ne (by omega), px_u_ne (by omega), px_u_ne (by omega), px_u_ne (by omega)]
  by_cases c : I G 13 = 0
  · rw [if_pos c, if_pos c]
    have e : cPeg G I (-1) G 13 = 1 := by rw [cPeg_13, c]; rfl
    have o : cPeg G (cPeg G I (-1)) st (G + 7) k = if k = (1 : Int32).toNatClampNeg then 0 else cPeg G I (-1) (G + 7) k := by
      rw [cPeg.eq_def G (cPeg G I (-1)), px_u_ne (by omega), px_u_ne (by omega), e, px_ur, if_pos rfl, px_u_ne (by omega)]
    rw [o]
    unfold cPeg
    rw [px_u_ne (by omega), px_u_ne (by omega), c, px_ur, if_pos rfl, px_u_ne (by omega)]
    by_cases k1 : k = (1 : Int32).toNatClampNeg
    · rw [if_pos k1, if_pos k1]
    · rw [if_neg k1, if_neg k1]
      by_cases k0 : k = 0
      · rw [if_pos (by rw [k0]; decide), if_pos ⟨rfl, k0⟩]
      · rw [if_neg (fun q => k0 (q.trans (by decide))), if_neg (fun q => k0 q.2)]
  · rw [if_neg c, if_neg c]
    unfold cPeg
    rw [px_u_ne (by omega), px_u_ne (by omega), px_ur, if_pos rfl, px_u_ne (by omega), if_neg (show ¬ (I G 13 = 0 ∧ k = 0) from fun q => c q.1)]
theorem cReach_8 {G k : Nat} {I : px_I} {lo hi sl fa w st : Int32} : cReach G I lo hi sl fa w st (G + 8) k = if k = (if I G 13 = 0 then 1 else I G 13).toNatClampNeg then 20000 else if I G 13 = 0 ∧ k = 0 then 20000 else I (G + 8) k := by
  unfold cReach cRch
  rw [px_u_ne (by omega), px_u_ne (by omega), px_u_ne (by omega), px_u_ne (by omega), px_u_ne (by omega)]
  by_cases c : I G 13 = 0
  · rw [if_pos c, if_pos c]
    have e : cPeg G I (-1) G 13 = 1 := by rw [cPeg_13, c]; rfl
    have o : cPeg G (cPeg G I (-1)) st (G + 8) k = if k = (1 : Int32).toNatClampNeg then 20000 else cPeg G I (-1) (G + 8) k := by
      rw [cPeg.eq_def G (cPeg G I (-1)), px_u_ne (by omega), e, px_ur, if_pos rfl, px_u_ne (by omega), px_u_ne (by omega)]
    rw [o]
    unfold cPeg
    rw [px_u_ne (by omega), c, px_ur, if_pos rfl, px_u_ne (by omega), px_u_ne (by omega)]
    by_cases k1 : k = (1 : Int32).toNatClampNeg
    · rw [if_pos k1, if_pos k1]
    · rw [if_neg k1, if_neg k1]
      by_cases k0 : k = 0
      · rw [if_pos (by rw [k0]; decide), if_pos ⟨rfl, k0⟩]
      · rw [if_neg (fun q => k0 (q.trans (by decide))), if_neg (fun q => k0 q.2)]
  · rw [if_neg c, if_neg c]
    unfold cPeg
    rw [px_u_ne (by omega), px_ur, if_pos rfl, px_u_ne (by omega), px_u_ne (by omega), if_neg (show ¬ (I G 13 = 0 ∧ k = 0) from fun q => c q.1)]
theorem mReach_1 {k : Nat} {I : px_I} {g lo hi sl fa w st : Int32} : mReach I g lo hi sl fa w st 111 k = if k = (20 * g + mP0 I g).toNatClampNeg then lo else I 111 k := by
  unfold mReach
  rw [px_u_ne (by omega), px_u_ne (by omega), px_u_ne (by omega), px_u_ne (by omega), px_u_ne (by omega), px_u_ne (by omega), px_ur, if_pos rfl, px_u_ne (by omega)]
theorem mReach_2 {k : Nat} {I : px_I} {g lo hi sl fa w st : Int32} : mReach I g lo hi sl fa w st 112 k = if k = (20 * g + mP0 I g).toNatClampNeg then hi else I 112 k := by
  unfold mReach
  rw [px_u_ne (by omega), px_u_ne (by omega), px_u_ne (by omega), px_u_ne (by omega), px_u_ne (by omega), px_ur, if_pos rfl, px_u_ne (by omega), px_u_ne (by omega)]
theorem mReach_3 {k : Nat} {I : px_I} {g lo hi sl fa w st : Int32} : mReach I g lo hi sl fa w st 113 k = if k = (20 * g + mP0 I g).toNatClampNeg then sl else I 113 k := by
  unfold mReach
  rw [px_u_ne (by omega), px_u_ne (by omega), px_u_ne (by omega), px_u_ne (by omega), px_ur, if_pos rfl, px_u_ne (by omega), px_u_ne (by omega), px_u_ne (by omega)]
theorem mReach_4 {k : Nat} {I : px_I} {g lo hi sl fa w st : Int32} : mReach I g lo hi sl fa w st 114 k = if k = (20 * g + mP0 I g).toNatClampNeg then fa else I 114 k := by
  unfold mReach
  rw [px_u_ne (by omega), px_u_ne (by omega), px_u_ne (by omega), px_ur, if_pos rfl, px_u_ne (by omega), px_u_ne (by omega), px_u_ne (by omega), px_u_ne (by omega)]
theorem mReach_o {b : Nat} {I : px_I} {g lo hi sl fa w st : Int32} (h : b < 110 ∨ 116 < b) : mReach I g lo hi sl fa w st b = I b := by
  unfold mReach
  repeat rw [px_u_ne (by omega)]
theorem px_d32 {a b : Int32} (h0 : 0 ≤ a.toInt) (h1 : 1 ≤ b.toInt) : (a / b).toInt = a.toInt / b.toInt := by
  rw [Int32.toInt_div, Int.tdiv_eq_ediv_of_nonneg h0]
  have h2 := Int.ediv_le_self b.toInt h0
  have h3 := Int.ediv_nonneg h0 (by omega : (0 : Int) ≤ b.toInt)
  have h4 := Int32.toInt_lt a
  exact Int.bmod_eq_of_le (by omega) (by omega)
theorem px_few {lo fa : Int32} (h1 : 1 ≤ lo ∧ lo ≤ 1000000) (h2 : 1 ≤ fa ∧ fa ≤ 10000) : 0 ≤ ((lo + fa - 1) / fa).toInt ∧ ((lo + fa - 1) / fa).toInt ≤ 1000000 := by
  have a1 := Int32.le_iff_toInt_le.mp h1.1; have a2 := Int32.le_iff_toInt_le.mp h1.2
  have a3 := Int32.le_iff_toInt_le.mp h2.1; have a4 := Int32.le_iff_toInt_le.mp h2.2
  rw [show (1 : Int32).toInt = 1 by decide] at a1 a3
  rw [show (1000000 : Int32).toInt = 1000000 by decide] at a2
  rw [show (10000 : Int32).toInt = 10000 by decide] at a4
  have e : (lo + fa - 1).toInt = lo.toInt + fa.toInt - 1 := by rw [px_sbi (by rw [px_adi (by omega) (by omega)]; omega) (by decide), px_adi (by omega) (by omega)]; rfl
  rw [px_d32 (by omega) (by omega), e]
  have m : 0 ≤ (lo.toInt - 1) * (fa.toInt - 1) := Int.mul_nonneg (by omega) (by omega)
  rw [Int.sub_mul, Int.mul_sub] at m
  have q : (lo.toInt + fa.toInt - 1) / fa.toInt ≤ lo.toInt := Int.ediv_le_of_le_mul (by omega) (by omega)
  exact ⟨Int.ediv_nonneg (by omega) (by omega), by omega⟩
theorem px_most {hi sl : Int32} (h1 : 1 ≤ hi ∧ hi ≤ 1000000) (h2 : 1 ≤ sl ∧ sl ≤ 10000) : 0 ≤ (hi / sl).toInt ∧ (hi / sl).toInt ≤ 1000000 := by
  have a1 := Int32.le_iff_toInt_le.mp h1.1; have a2 := Int32.le_iff_toInt_le.mp h1.2
  have a3 := Int32.le_iff_toInt_le.mp h2.1
  rw [show (1 : Int32).toInt = 1 by decide] at a1 a3
  rw [show (1000000 : Int32).toInt = 1000000 by decide] at a2
  rw [px_d32 (by omega) (by omega)]
  have q := Int.ediv_le_self sl.toInt (show 0 ≤ hi.toInt by omega)
  exact ⟨Int.ediv_nonneg (by omega) (by omega), by omega⟩
theorem dg_new {F H A B C D F2 H2 A2 B2 C2 D2 : Nat → Int32} {off c P lo hi sl fa : Int32} (h : dgF F H A B C D off c) (ho : off = 0 ∨ off = 20) (hP : (c = 0 ∧ P = 1) ∨ (c ≠ 0 ∧ P = c)) (hc : 0 ≤ c ∧ c < 20) (hl : 1 ≤ lo ∧ lo ≤ hi ∧ hi ≤ 1000000) (hr : 1 ≤ sl ∧ sl ≤ fa ∧ fa ≤ 10000)
    (hF : ∀ k, F2 k = if k = P.toNatClampNeg then (lo + fa - 1) / fa else F k) (hH : ∀ k, H2 k = if k = P.toNatClampNeg then hi / sl else H k) (hA : ∀ k, A2 k = if k = (off + P).toNatClampNeg then lo else A k) (hB : ∀ k, B2 k = if k = (off + P).toNatClampNeg then hi else B k) (hC : ∀ k, C2 k = if k = (off + P).toNatClampNeg then sl else C k) (hD : ∀ k, D2 k = if k = (off + P).toNatClampNeg then fa else D k) : dgF F2 H2 A2 B2 C2 D2 off (P + 1) := by
  intro p h1 h2
  rw [hF, hH, hA, hB, hC, hD]
  by_cases e : p = P
  · subst e
    rw [if_pos rfl, if_pos rfl, if_pos rfl, if_pos rfl, if_pos rfl, if_pos rfl]
    exact ⟨⟨rfl, rfl⟩, px_few ⟨hl.1, by grind⟩ ⟨by grind, hr.2.2⟩, px_most ⟨by grind, hl.2.2⟩ ⟨hr.1, by grind⟩⟩
  · have hp : p < P := by grind
    have n1 : ¬ p.toNatClampNeg = P.toNatClampNeg := fun q => e (px_inj (by grind) (by grind) q)
    have n2 : ¬ (off + p).toNatClampNeg = (off + P).toNatClampNeg := fun q => by
      rcases ho with rfl | rfl
      · exact e (by have := px_inj (a := 0 + p) (b := 0 + P) (by grind) (by grind) q; grind)
      · exact e (by have := px_inj (a := 20 + p) (b := 20 + P) (by grind) (by grind) q; grind)
    rw [if_neg n1, if_neg n1, if_neg n2, if_neg n2, if_neg n2, if_neg n2]
    exact h p h1 (by grind)
theorem dg_old {F H A B C D A2 B2 C2 D2 : Nat → Int32} {off o2 c P lo hi sl fa : Int32} (h : dgF F H A B C D off c) (ho : (off = 0 ∧ o2 = 20) ∨ (off = 20 ∧ o2 = 0)) (hP : 1 ≤ P ∧ P < 20) (hc : 0 ≤ c ∧ c ≤ 20)
    (hA : ∀ k, A2 k = if k = (o2 + P).toNatClampNeg then lo else A k) (hB : ∀ k, B2 k = if k = (o2 + P).toNatClampNeg then hi else B k) (hC : ∀ k, C2 k = if k = (o2 + P).toNatClampNeg then sl else C k) (hD : ∀ k, D2 k = if k = (o2 + P).toNatClampNeg then fa else D k) : dgF F H A2 B2 C2 D2 off c := by
  intro p h1 h2
  rw [hA, hB, hC, hD]
  have n2 : ¬ (off + p).toNatClampNeg = (o2 + P).toNatClampNeg := fun q => by
    rcases ho with ⟨rfl, rfl⟩ | ⟨rfl, rfl⟩
    · have := px_inj (a := 0 + p) (b := 20 + P) (by grind) (by grind) q; grind
    · have := px_inj (a := 20 + p) (b := 0 + P) (by grind) (by grind) q; grind
  rw [if_neg n2, if_neg n2, if_neg n2, if_neg n2]
  exact h p h1 h2
theorem mq_new {F H F2 H2 Gl Pg Fr To : Nat → Int32} {g c P : Int32} {M : Nat} (h : mqF F H Gl Pg Fr To g M c) (hP : (c = 0 ∧ P = 1) ∨ (c ≠ 0 ∧ P = c)) (hc : 0 ≤ c ∧ c < 20) (hm : ∀ k, k < M → Gl k = g → Pg k < c)
    (hF : ∀ k, F2 k = if k = P.toNatClampNeg then 0 else if c = 0 ∧ k = 0 then 0 else F k) (hH : ∀ k, H2 k = if k = P.toNatClampNeg then 20000 else if c = 0 ∧ k = 0 then 20000 else H k) : mqF F2 H2 Gl Pg Fr To g M (P + 1) := by
  intro p h1 h2
  rw [hF, hH]
  have fresh : ¬ p < c → (∀ x : Int, (0 : Int32).toInt ≤ x ↔ (0 ≤ x ∧ ∀ k, k < M → Gl k = g → Pg k = p → (Fr k).toInt ≤ x)) ∧ (∀ x : Int, x ≤ (20000 : Int32).toInt ↔ (x ≤ 20000 ∧ ∀ k, k < M → Gl k = g → Pg k = p → x ≤ (To k).toInt)) ∧ (0 ≤ (0 : Int32).toInt ∧ (0 : Int32).toInt ≤ 20000) ∧ (0 ≤ (20000 : Int32).toInt ∧ (20000 : Int32).toInt ≤ 20000) := fun n => by
    rw [show (0 : Int32).toInt = 0 by decide, show (20000 : Int32).toInt = 20000 by decide]
    have no : ∀ k, k < M → Gl k = g → Pg k = p → False := fun k hk e1 e2 => n (by rw [← e2]; exact hm k hk e1)
    exact ⟨fun x => ⟨fun q => ⟨q, fun k hk e1 e2 => (no k hk e1 e2).elim⟩, fun q => q.1⟩, fun x => ⟨fun q => ⟨q, fun k hk e1 e2 => (no k hk e1 e2).elim⟩, fun q => q.1⟩, by omega, by omega⟩
  by_cases e : p.toNatClampNeg = P.toNatClampNeg
  · have e2 : p = P := px_inj h1 (by grind) e
    rw [if_pos e, if_pos e]
    exact fresh (by grind)
  · rw [if_neg e, if_neg e]
    by_cases z : c = 0 ∧ p.toNatClampNeg = 0
    · rw [if_pos z, if_pos z]
      exact fresh (by grind)
    · rw [if_neg z, if_neg z]
      refine h p h1 ?_
      by_cases c0 : c = 0
      · exfalso
        have : P = 1 := by grind
        subst this
        have : p = 0 := by
          have e1 : ¬ p = 1 := fun q => e (by rw [q])
          grind
        exact z ⟨c0, by rw [this]; decide⟩
      · have : P = c := by grind
        have e1 : ¬ p = P := fun q => e (by rw [q])
        grind
theorem mq_mark {F H F2 H2 Gl Pg Fr To Gl2 Pg2 Fr2 To2 : Nat → Int32} {g gm pm fm tm c : Int32} {M : Nat} (h : mqF F H Gl Pg Fr To g M c) (hpm : 0 ≤ pm) (hf : 0 ≤ fm.toInt ∧ fm.toInt ≤ 20000) (ht : 0 ≤ tm.toInt ∧ tm.toInt ≤ 20000)
    (hG : ∀ k, Gl2 k = if k = M then gm else Gl k) (hPg : ∀ k, Pg2 k = if k = M then pm else Pg k) (hFr : ∀ k, Fr2 k = if k = M then fm else Fr k) (hTo : ∀ k, To2 k = if k = M then tm else To k)
    (hF : ∀ k, F2 k = if g = gm ∧ k = pm.toNatClampNeg then cMx (F k) fm else F k) (hH : ∀ k, H2 k = if g = gm ∧ k = pm.toNatClampNeg then cMn (H k) tm else H k) : mqF F2 H2 Gl2 Pg2 Fr2 To2 g (M + 1) c := by
  intro p h1 h2
  obtain ⟨a1, a2, a3, a4⟩ := h p h1 h2
  rw [hF, hH]
  have all : ∀ (T : Nat → Prop), (∀ k, k < M + 1 → Gl2 k = g → Pg2 k = p → T k) ↔ ((∀ k, k < M → Gl k = g → Pg k = p → T k) ∧ (g = gm ∧ p = pm → T M)) := fun T => by
    constructor
    · intro q
      refine ⟨fun k hk e1 e2 => q k (by omega) (by rw [hG, if_neg (by omega)]; exact e1) (by rw [hPg, if_neg (by omega)]; exact e2), fun e => q M (by omega) (by rw [hG, if_pos rfl]; exact e.1.symm) (by rw [hPg, if_pos rfl]; exact e.2.symm)⟩
    · intro q k hk e1 e2
      by_cases c : k = M
      · subst c
        rw [hG, if_pos rfl] at e1
        rw [hPg, if_pos rfl] at e2
        exact q.2 ⟨e1.symm, e2.symm⟩
      · rw [hG, if_neg c] at e1
        rw [hPg, if_neg c] at e2
        exact q.1 k (by omega) e1 e2
  have eFr : ∀ k, k < M → Fr2 k = Fr k := fun k hk => by rw [hFr, if_neg (by omega)]
  have eTo : ∀ k, k < M → To2 k = To k := fun k hk => by rw [hTo, if_neg (by omega)]
  have mF : Fr2 M = fm := by rw [hFr, if_pos rfl]
  have mT : To2 M = tm := by rw [hTo, if_pos rfl]
  by_cases e : g = gm ∧ p.toNatClampNeg = pm.toNatClampNeg
  · have e2 : g = gm ∧ p = pm := ⟨e.1, px_inj h1 hpm e.2⟩
    rw [if_pos e, if_pos e, cMx_int, cMn_int]
    refine ⟨fun x => ?_, fun x => ?_, ?_, ?_⟩
    · have k := a1 x
      rw [all (fun k => (Fr2 k).toInt ≤ x)]
      simp only [mF]
      constructor
      · intro q
        have q1 : (F p.toNatClampNeg).toInt ≤ x := by rcases imx_c (F p.toNatClampNeg).toInt fm.toInt with ⟨z, _⟩ | ⟨z, _⟩ <;> omega
        have q2 : fm.toInt ≤ x := by rcases imx_c (F p.toNatClampNeg).toInt fm.toInt with ⟨z, _⟩ | ⟨z, _⟩ <;> omega
        exact ⟨(k.mp q1).1, fun j hj e1 e2 => by rw [eFr j hj]; exact (k.mp q1).2 j hj e1 e2, fun _ => q2⟩
      · intro q
        have q1 := k.mpr ⟨q.1, fun j hj e1 e2 => by have := q.2.1 j hj e1 e2; rw [eFr j hj] at this; exact this⟩
        have q2 := q.2.2 e2
        rcases imx_c (F p.toNatClampNeg).toInt fm.toInt with ⟨z, _⟩ | ⟨z, _⟩ <;> omega
    · have k := a2 x
      rw [all (fun k => x ≤ (To2 k).toInt)]
      simp only [mT]
      constructor
      · intro q
        have q1 : x ≤ (H p.toNatClampNeg).toInt := by rcases imn_c (H p.toNatClampNeg).toInt tm.toInt with ⟨z, _⟩ | ⟨z, _⟩ <;> omega
        have q2 : x ≤ tm.toInt := by rcases imn_c (H p.toNatClampNeg).toInt tm.toInt with ⟨z, _⟩ | ⟨z, _⟩ <;> omega
        exact ⟨(k.mp q1).1, fun j hj e1 e2 => by rw [eTo j hj]; exact (k.mp q1).2 j hj e1 e2, fun _ => q2⟩
      · intro q
        have q1 := k.mpr ⟨q.1, fun j hj e1 e2 => by have := q.2.1 j hj e1 e2; rw [eTo j hj] at this; exact this⟩
        have q2 := q.2.2 e2
        rcases imn_c (H p.toNatClampNeg).toInt tm.toInt with ⟨z, _⟩ | ⟨z, _⟩ <;> omega
    · rcases imx_c (F p.toNatClampNeg).toInt fm.toInt with ⟨z, _⟩ | ⟨z, _⟩ <;> omega
    · rcases imn_c (H p.toNatClampNeg).toInt tm.toInt with ⟨z, _⟩ | ⟨z, _⟩ <;> omega
  · have ne : ¬ (g = gm ∧ p = pm) := fun q => e ⟨q.1, by rw [q.2]⟩
    rw [if_neg e, if_neg e]
    refine ⟨fun x => ?_, fun x => ?_, a3, a4⟩
    · rw [a1 x, all (fun k => (Fr2 k).toInt ≤ x)]
      exact ⟨fun q => ⟨q.1, fun j hj e1 e2 => by rw [eFr j hj]; exact q.2 j hj e1 e2, fun z => absurd z ne⟩, fun q => ⟨q.1, fun j hj e1 e2 => by have := q.2.1 j hj e1 e2; rw [eFr j hj] at this; exact this⟩⟩
    · rw [a2 x, all (fun k => x ≤ (To2 k).toInt)]
      exact ⟨fun q => ⟨q.1, fun j hj e1 e2 => by rw [eTo j hj]; exact q.2 j hj e1 e2, fun z => absurd z ne⟩, fun q => ⟨q.1, fun j hj e1 e2 => by have := q.2.1 j hj e1 e2; rw [eTo j hj] at this; exact this⟩⟩
