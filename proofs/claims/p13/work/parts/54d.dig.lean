/-! days of digging: what the pegs' own passes say, and what a closed table says -/
def imx (a b : Int) : Int := if a < b then b else a
def imn (a b : Int) : Int := if b < a then b else a
theorem imx_c (a b : Int) : (imx a b = a ∧ b ≤ a) ∨ (imx a b = b ∧ a < b) := by unfold imx; split <;> omega
theorem imn_c (a b : Int) : (imn a b = a ∧ a ≤ b) ∨ (imn a b = b ∧ b < a) := by unfold imn; split <;> omega
def dE (mf few : Nat → Int) : Nat → Int
  | 0 => mf 0
  | p + 1 => imx (mf (p + 1)) (dE mf few p + few (p + 1))
def dL (mt most : Nat → Int) : Nat → Int
  | 0 => mt 0
  | p + 1 => imn (mt (p + 1)) (dL mt most p + most (p + 1))
def gE (e most : Nat → Int) (T : Nat) : Nat → Int
  | 0 => e T
  | m + 1 => imx (e (T - (m + 1))) (gE e most T m - most (T - m))
def gL (l few : Nat → Int) (T : Nat) : Nat → Int
  | 0 => l T
  | m + 1 => imn (l (T - (m + 1))) (gL l few T m - few (T - m))
def EB (e most : Nat → Int) (T p : Nat) : Int := gE e most T (T - p)
def LB (l few : Nat → Int) (T p : Nat) : Int := gL l few T (T - p)
theorem EB_top (e most : Nat → Int) (T : Nat) : EB e most T T = e T := by unfold EB; rw [Nat.sub_self]; rfl
theorem LB_top (l few : Nat → Int) (T : Nat) : LB l few T T = l T := by unfold LB; rw [Nat.sub_self]; rfl
theorem EB_at (e most : Nat → Int) {T p : Nat} (h : p < T) : EB e most T p = imx (e p) (EB e most T (p + 1) - most (p + 1)) := by
  unfold EB
  rw [show T - p = T - (p + 1) + 1 by omega]
  show imx (e (T - (T - (p + 1) + 1))) (gE e most T (T - (p + 1)) - most (T - (T - (p + 1)))) = _
  rw [show T - (T - (p + 1) + 1) = p by omega, show T - (T - (p + 1)) = p + 1 by omega]
theorem LB_at (l few : Nat → Int) {T p : Nat} (h : p < T) : LB l few T p = imn (l p) (LB l few T (p + 1) - few (p + 1)) := by
  unfold LB
  rw [show T - p = T - (p + 1) + 1 by omega]
  show imn (l (T - (T - (p + 1) + 1))) (gL l few T (T - (p + 1)) - few (T - (T - (p + 1)))) = _
  rw [show T - (T - (p + 1) + 1) = p by omega, show T - (T - (p + 1)) = p + 1 by omega]
def dOk (N : Nat) (few most mf mt : Nat → Int) : Prop := ∀ p, p < N → (0 < p → few p ≤ most p) ∧ dE mf few p ≤ dL mt most p
/-- what the passes leave: both rows keep to all, and lie in order -/
theorem dig_in {N : Nat} {few most mf mt : Nat → Int} (h : dOk N few most mf mt) {T : Nat} (hT : T + 1 = N) : ∀ m p, p + m = T →
    (mf p ≤ EB (dE mf few) most T p ∧ EB (dE mf few) most T p ≤ LB (dL mt most) few T p ∧ LB (dL mt most) few T p ≤ mt p ∧ dE mf few p ≤ EB (dE mf few) most T p ∧ LB (dL mt most) few T p ≤ dL mt most p ∧ EB (dE mf few) most T p ≤ dL mt most p ∧ dE mf few p ≤ LB (dL mt most) few T p) ∧
    (p < T → (few (p + 1) ≤ EB (dE mf few) most T (p + 1) - EB (dE mf few) most T p ∧ EB (dE mf few) most T (p + 1) - EB (dE mf few) most T p ≤ most (p + 1)) ∧ (few (p + 1) ≤ LB (dL mt most) few T (p + 1) - LB (dL mt most) few T p ∧ LB (dL mt most) few T (p + 1) - LB (dL mt most) few T p ≤ most (p + 1)) ∧ few (p + 1) ≤ most (p + 1)) := by
  have e1 : ∀ p, mf p ≤ dE mf few p := fun p => by
    cases p with
    | zero => exact Int.le_refl _
    | succ p => show mf (p + 1) ≤ imx _ _; rcases imx_c (mf (p + 1)) (dE mf few p + few (p + 1)) with ⟨c, -⟩ | ⟨c, _⟩ <;> omega
  have l1 : ∀ p, dL mt most p ≤ mt p := fun p => by
    cases p with
    | zero => exact Int.le_refl _
    | succ p => show imn _ _ ≤ mt (p + 1); rcases imn_c (mt (p + 1)) (dL mt most p + most (p + 1)) with ⟨c, -⟩ | ⟨c, _⟩ <;> omega
  have e2 : ∀ p, dE mf few p + few (p + 1) ≤ dE mf few (p + 1) := fun p => by
    show _ ≤ imx (mf (p + 1)) (dE mf few p + few (p + 1))
    rcases imx_c (mf (p + 1)) (dE mf few p + few (p + 1)) with ⟨c, _⟩ | ⟨c, _⟩ <;> omega
  have l2 : ∀ p, dL mt most (p + 1) ≤ dL mt most p + most (p + 1) := fun p => by
    show imn (mt (p + 1)) (dL mt most p + most (p + 1)) ≤ _
    rcases imn_c (mt (p + 1)) (dL mt most p + most (p + 1)) with ⟨c, _⟩ | ⟨c, _⟩ <;> omega
  intro m
  induction m with
  | zero =>
    intro p hp
    have : p = T := by omega
    subst this
    rw [EB_top, LB_top]
    have a1 := e1 p
    have a2 := l1 p
    have a3 := (h p (by omega)).2
    exact ⟨⟨a1, a3, a2, Int.le_refl _, Int.le_refl _, a3, a3⟩, fun q => absurd q (Nat.lt_irrefl _)⟩
  | succ m ih =>
    intro p hp
    obtain ⟨⟨i1, i2, i3, i4, i5, i6, i7⟩, -⟩ := ih (p + 1) (by omega)
    have fm := (h (p + 1) (by omega)).1 (by omega)
    have o := (h p (by omega)).2
    have a1 := e1 p
    have a2 := l1 p
    have a3 := e2 p
    have a4 := l2 p
    rw [EB_at _ _ (by omega), LB_at _ _ (by omega)]
    rcases imx_c (dE mf few p) (EB (dE mf few) most T (p + 1) - most (p + 1)) with ⟨c1, c2⟩ | ⟨c1, c2⟩ <;> rcases imn_c (dL mt most p) (LB (dL mt most) few T (p + 1) - few (p + 1)) with ⟨c3, c4⟩ | ⟨c3, c4⟩ <;> rw [c1, c3] <;> exact ⟨⟨by omega, by omega, by omega, by omega, by omega, by omega, by omega⟩, fun _ => ⟨⟨by omega, by omega⟩, ⟨by omega, by omega⟩, by omega⟩⟩
/-- days that keep to all that is told; the mouth's day is at place N -/
def dT (N : Nat) (few most mf mt u : Nat → Int) : Prop := (∀ p, p < N → mf p ≤ u p - u N ∧ u p - u N ≤ mt p) ∧ (∀ p, p + 1 < N → few (p + 1) ≤ u (p + 1) - u p ∧ u (p + 1) - u p ≤ most (p + 1))
def wS (w : Nat → Int) (f : Nat) : Nat → Int
  | 0 => 0
  | m + 1 => wS w f m + w (f + m + 1)
/-- what is asked of a table -/
def dTab (N : Nat) (few most mf mt : Nat → Int) (G : Nat → Nat → Int) (good : Prop) : Prop :=
  (∀ u : Nat → Int, (∀ i, i ≤ N → -10000000000 ≤ u i ∧ u i ≤ 10000000000) → dT N few most mf mt u → good ∧ ∀ i j, i ≤ N → j ≤ N → u j - u i ≤ G i j) ∧
  (good → (∀ i, i ≤ N → G i i = 0) ∧ (∀ i j k, i ≤ N → j ≤ N → k ≤ N → G i k < 1000000000000 → G k j < 1000000000000 → G i j ≤ G i k + G k j) ∧ (∀ p, p < N → G N p ≤ mt p ∧ G p N ≤ -mf p) ∧ (∀ p, p + 1 < N → G p (p + 1) ≤ most (p + 1) ∧ G (p + 1) p ≤ -few (p + 1)))
def dSm (N : Nat) (few most mf mt : Nat → Int) : Prop := ∀ p, p < N → (0 ≤ few p ∧ few p ≤ 1000000) ∧ (0 ≤ most p ∧ most p ≤ 1000000) ∧ (0 ≤ mf p ∧ mf p ≤ 20000) ∧ (0 ≤ mt p ∧ mt p ≤ 20000)
theorem dig_ok {N : Nat} {few most mf mt : Nat → Int} {G : Nat → Nat → Int} {good : Prop} (hs : dSm N few most mf mt) (h : dTab N few most mf mt G good) (hN : 1 ≤ N) : good ↔ dOk N few most mf mt := by
  constructor
  · intro g
    obtain ⟨d0, cl, e1, e2⟩ := h.2 g
    have lo : ∀ p, p < N → dE mf few p ≤ -G p N ∧ G N p ≤ dL mt most p := by
      intro p
      induction p with
      | zero => intro hp; have := e1 0 hp; exact ⟨by show mf 0 ≤ _; omega, this.1⟩
      | succ p ih =>
        intro hp
        have ih := ih (by omega)
        have a := e1 (p + 1) hp
        have b := e1 p (by omega)
        have c := e2 p hp
        have s1 := hs p (by omega)
        have s2 := hs (p + 1) hp
        have c1 := cl (p + 1) N p (by omega) (by omega) (by omega) (by omega) (by omega)
        have c2 := cl N (p + 1) p (by omega) (by omega) (by omega) (by omega) (by omega)
        refine ⟨?_, ?_⟩
        · show imx (mf (p + 1)) (dE mf few p + few (p + 1)) ≤ _
          rcases imx_c (mf (p + 1)) (dE mf few p + few (p + 1)) with ⟨x, _⟩ | ⟨x, _⟩ <;> omega
        · show _ ≤ imn (mt (p + 1)) (dL mt most p + most (p + 1))
          rcases imn_c (mt (p + 1)) (dL mt most p + most (p + 1)) with ⟨x, _⟩ | ⟨x, _⟩ <;> omega
    intro p hp
    have a := lo p hp
    have b := e1 p hp
    have s1 := hs p hp
    have c := cl N N p (by omega) (by omega) (by omega) (by omega) (by omega)
    have d := d0 N (by omega)
    refine ⟨fun h0 => ?_, by omega⟩
    have e := e2 (p - 1) (by omega)
    rw [show p - 1 + 1 = p by omega] at e
    have c := cl p p (p - 1) (by omega) (by omega) (by omega) (by omega) (by omega)
    have d := d0 p (by omega)
    omega
  · intro o
    have q := dig_in o (T := N - 1) (by omega)
    refine (h.1 (fun p => if p < N then EB (dE mf few) most (N - 1) p else 0) (fun i hi => ?_) ⟨fun p hp => ?_, fun p hp => ?_⟩).1
    · by_cases c : i < N
      · have := (q (N - 1 - i) i (by omega)).1
        have := hs i c
        simp only [if_pos c]; omega
      · simp only [if_neg c]; omega
    · have := (q (N - 1 - p) p (by omega)).1
      simp only [if_pos hp, if_neg (Nat.lt_irrefl N)]
      omega
    · have := ((q (N - 1 - p) p (by omega)).2 (by omega)).1
      simp only [if_pos hp, if_pos (show p < N by omega)]
      omega
theorem dig_at {N : Nat} {few most mf mt : Nat → Int} {G : Nat → Nat → Int} {good : Prop} (hs : dSm N few most mf mt) (h : dTab N few most mf mt G good) (g : good) : ∀ p, p < N → G N p = LB (dL mt most) few (N - 1) p ∧ G p N = -EB (dE mf few) most (N - 1) p := by
  intro p hp
  have o := (dig_ok hs h (by omega)).mp g
  have q := dig_in o (T := N - 1) (by omega)
  obtain ⟨d0, cl, e1, e2⟩ := h.2 g
  have uL := (h.1 (fun p => if p < N then LB (dL mt most) few (N - 1) p else 0) (fun i hi => by
    by_cases c : i < N
    · have := (q (N - 1 - i) i (by omega)).1
      have := hs i c
      simp only [if_pos c]; omega
    · simp only [if_neg c]; omega) ⟨fun p hp => by
      have := (q (N - 1 - p) p (by omega)).1
      simp only [if_pos hp, if_neg (Nat.lt_irrefl N)]
      omega, fun p hp => by
      have := ((q (N - 1 - p) p (by omega)).2 (by omega)).2.1
      simp only [if_pos hp, if_pos (show p < N by omega)]
      omega⟩).2 N p (by omega) (by omega)
  have uE := (h.1 (fun p => if p < N then EB (dE mf few) most (N - 1) p else 0) (fun i hi => by
    by_cases c : i < N
    · have := (q (N - 1 - i) i (by omega)).1
      have := hs i c
      simp only [if_pos c]; omega
    · simp only [if_neg c]; omega) ⟨fun p hp => by
      have := (q (N - 1 - p) p (by omega)).1
      simp only [if_pos hp, if_neg (Nat.lt_irrefl N)]
      omega, fun p hp => by
      have := ((q (N - 1 - p) p (by omega)).2 (by omega)).1
      simp only [if_pos hp, if_pos (show p < N by omega)]
      omega⟩).2 p N (by omega) (by omega)
  simp only [if_pos hp, if_neg (Nat.lt_irrefl N)] at uL uE
  have fw : ∀ p, p < N → dE mf few p ≤ -G p N ∧ G N p ≤ dL mt most p := by
    intro p
    induction p with
    | zero => intro hp; have := e1 0 hp; exact ⟨by show mf 0 ≤ _; omega, this.1⟩
    | succ p ih =>
      intro hp
      have ih := ih (by omega)
      have a := e1 (p + 1) hp
      have b := e1 p (by omega)
      have c := e2 p hp
      have s1 := hs p (by omega)
      have s2 := hs (p + 1) hp
      have c1 := cl (p + 1) N p (by omega) (by omega) (by omega) (by omega) (by omega)
      have c2 := cl N (p + 1) p (by omega) (by omega) (by omega) (by omega) (by omega)
      refine ⟨?_, ?_⟩
      · show imx (mf (p + 1)) (dE mf few p + few (p + 1)) ≤ _
        rcases imx_c (mf (p + 1)) (dE mf few p + few (p + 1)) with ⟨x, _⟩ | ⟨x, _⟩ <;> omega
      · show _ ≤ imn (mt (p + 1)) (dL mt most p + most (p + 1))
        rcases imn_c (mt (p + 1)) (dL mt most p + most (p + 1)) with ⟨x, _⟩ | ⟨x, _⟩ <;> omega
  have bw : ∀ m p, p + m = N - 1 → G N p ≤ LB (dL mt most) few (N - 1) p ∧ EB (dE mf few) most (N - 1) p ≤ -G p N := by
    intro m
    induction m with
    | zero =>
      intro p hp
      have : p = N - 1 := by omega
      subst this
      rw [EB_top, LB_top]
      have := fw (N - 1) (by omega)
      omega
    | succ m ih =>
      intro p hp
      have ih := ih (p + 1) (by omega)
      have f := fw p (by omega)
      have a := e1 (p + 1) (by omega)
      have c := e2 p (by omega)
      have s1 := hs p (by omega)
      have s2 := hs (p + 1) (by omega)
      have c1 := cl N p (p + 1) (by omega) (by omega) (by omega) (by omega) (by omega)
      have c2 := cl p N (p + 1) (by omega) (by omega) (by omega) (by omega) (by omega)
      rw [EB_at _ _ (by omega), LB_at _ _ (by omega)]
      rcases imx_c (dE mf few p) (EB (dE mf few) most (N - 1) (p + 1) - most (p + 1)) with ⟨x1, _⟩ | ⟨x1, _⟩ <;> rcases imn_c (dL mt most p) (LB (dL mt most) few (N - 1) (p + 1) - few (p + 1)) with ⟨x3, _⟩ | ⟨x3, _⟩ <;> rw [x1, x3] <;> omega
  have b := bw (N - 1 - p) p (by omega)
  omega
theorem dig_btw {N : Nat} {few most mf mt : Nat → Int} {G : Nat → Nat → Int} {good : Prop} (hs : dSm N few most mf mt) (h : dTab N few most mf mt G good) (g : good) (hN : N ≤ 20) {f m : Nat} (hf : f + m < N) :
    G f (f + m) = imn (wS most f m) (LB (dL mt most) few (N - 1) (f + m) - EB (dE mf few) most (N - 1) f) ∧ G (f + m) f = -imx (wS few f m) (EB (dE mf few) most (N - 1) (f + m) - LB (dL mt most) few (N - 1) f) := by
  have o := (dig_ok hs h (by omega)).mp g
  have q := fun p (hp : p < N) => dig_in o (T := N - 1) (by omega) (N - 1 - p) p (by omega)
  obtain ⟨d0, cl, e1, e2⟩ := h.2 g
  have at_ := dig_at hs h g
  generalize hE : EB (dE mf few) most (N - 1) = E at *
  generalize hL : LB (dL mt most) few (N - 1) = L at *
  have sm : ∀ j, f + j < N → (0 ≤ wS most f j ∧ wS most f j ≤ 1000000 * (j : Int)) ∧ (0 ≤ wS few f j ∧ wS few f j ≤ 1000000 * (j : Int)) ∧ G f (f + j) ≤ wS most f j ∧ G (f + j) f ≤ -wS few f j ∧ E (f + j) ≤ E f + wS most f j ∧ L f + wS few f j ≤ L (f + j) := by
    intro j
    induction j with
    | zero => intro hj; have := d0 f (by omega); show (0 ≤ (0 : Int) ∧ (0 : Int) ≤ 1000000 * ((0 : Nat) : Int)) ∧ (0 ≤ (0 : Int) ∧ (0 : Int) ≤ 1000000 * ((0 : Nat) : Int)) ∧ G f f ≤ 0 ∧ G f f ≤ -0 ∧ E f ≤ E f + 0 ∧ L f + 0 ≤ L f; omega
    | succ j ih =>
      intro hj
      have ih := ih (by omega)
      have a := e2 (f + j) (by omega)
      have s2 := hs (f + j + 1) (by omega)
      have qq := (q (f + j) (by omega)).2 (by omega)
      have c1 := cl f (f + j + 1) (f + j) (by omega) (by omega) (by omega) (by omega) (by omega)
      have c2 := cl (f + j + 1) f (f + j) (by omega) (by omega) (by omega) (by omega) (by omega)
      show (0 ≤ wS most f j + most (f + j + 1) ∧ wS most f j + most (f + j + 1) ≤ 1000000 * ((j + 1 : Nat) : Int)) ∧ (0 ≤ wS few f j + few (f + j + 1) ∧ wS few f j + few (f + j + 1) ≤ 1000000 * ((j + 1 : Nat) : Int)) ∧ G f (f + j + 1) ≤ wS most f j + most (f + j + 1) ∧ G (f + j + 1) f ≤ -(wS few f j + few (f + j + 1)) ∧ E (f + j + 1) ≤ E f + (wS most f j + most (f + j + 1)) ∧ L f + (wS few f j + few (f + j + 1)) ≤ L (f + j + 1)
      omega
  have sx := sm m hf
  have af := at_ f (by omega)
  have as := at_ (f + m) hf
  have qf := (q f (by omega)).1
  have qs := (q (f + m) hf).1
  have hf1 := hs f (by omega)
  have hs1 := hs (f + m) hf
  have k1 := cl f (f + m) N (by omega) (by omega) (by omega) (by omega) (by omega)
  have k2 := cl (f + m) f N (by omega) (by omega) (by omega) (by omega) (by omega)
  -- one that starts as early and comes as late as may be
  have t1 := (h.1 (fun i => if i < N then (if i ≤ f then E i else imn (E f + wS most f (i - f)) (L i)) else 0) (fun i hi => by
    by_cases c : i < N
    · have a := (q i c).1
      have b := hs i c
      simp only [if_pos c]
      by_cases d : i ≤ f
      · simp only [if_pos d]; omega
      · simp only [if_neg d]
        have s := sm (i - f) (by omega)
        rcases imn_c (E f + wS most f (i - f)) (L i) with ⟨x, _⟩ | ⟨x, _⟩ <;> rw [x] <;> omega
    · simp only [if_neg c]; omega) ⟨fun p hp => by
      have a := (q p hp).1
      simp only [if_pos hp, if_neg (Nat.lt_irrefl N)]
      by_cases d : p ≤ f
      · simp only [if_pos d]; omega
      · simp only [if_neg d]
        have s := sm (p - f) (by omega)
        rw [show f + (p - f) = p by omega] at s
        rcases imn_c (E f + wS most f (p - f)) (L p) with ⟨x, _⟩ | ⟨x, _⟩ <;> rw [x] <;> omega, fun p hp => by
      have a := (q p (by omega)).2 (by omega)
      have a1 := (q p (by omega)).1
      simp only [if_pos hp, if_pos (show p < N by omega)]
      by_cases d : p + 1 ≤ f
      · simp only [if_pos d, if_pos (show p ≤ f by omega)]; omega
      · simp only [if_neg d]
        by_cases d2 : p ≤ f
        · have : p = f := by omega
          subst this
          simp only [if_pos (Nat.le_refl p), show p + 1 - p = 1 by omega]
          show few (p + 1) ≤ imn (E p + (0 + most (p + 0 + 1))) (L (p + 1)) - E p ∧ imn (E p + (0 + most (p + 0 + 1))) (L (p + 1)) - E p ≤ most (p + 1)
          rcases imn_c (E p + (0 + most (p + 0 + 1))) (L (p + 1)) with ⟨x, _⟩ | ⟨x, _⟩ <;> rw [x] <;> simp only [Nat.add_zero] at * <;> omega
        · simp only [if_neg d2]
          rw [show p + 1 - f = p - f + 1 by omega]
          show few (p + 1) ≤ imn (E f + (wS most f (p - f) + most (f + (p - f) + 1))) (L (p + 1)) - imn (E f + wS most f (p - f)) (L p) ∧ imn (E f + (wS most f (p - f) + most (f + (p - f) + 1))) (L (p + 1)) - imn (E f + wS most f (p - f)) (L p) ≤ most (p + 1)
          rw [show f + (p - f) + 1 = p + 1 by omega]
          rcases imn_c (E f + wS most f (p - f)) (L p) with ⟨x, _⟩ | ⟨x, _⟩ <;> rcases imn_c (E f + (wS most f (p - f) + most (p + 1))) (L (p + 1)) with ⟨y, _⟩ | ⟨y, _⟩ <;> rw [x, y] <;> omega⟩).2 f (f + m) (by omega) (by omega)
  -- one that starts as late and comes as early as may be
  have t2 := (h.1 (fun i => if i < N then (if i ≤ f then L i else imx (L f + wS few f (i - f)) (E i)) else 0) (fun i hi => by
    by_cases c : i < N
    · have a := (q i c).1
      have b := hs i c
      simp only [if_pos c]
      by_cases d : i ≤ f
      · simp only [if_pos d]; omega
      · simp only [if_neg d]
        have s := sm (i - f) (by omega)
        rcases imx_c (L f + wS few f (i - f)) (E i) with ⟨x, _⟩ | ⟨x, _⟩ <;> rw [x] <;> omega
    · simp only [if_neg c]; omega) ⟨fun p hp => by
      have a := (q p hp).1
      simp only [if_pos hp, if_neg (Nat.lt_irrefl N)]
      by_cases d : p ≤ f
      · simp only [if_pos d]; omega
      · simp only [if_neg d]
        have s := sm (p - f) (by omega)
        rw [show f + (p - f) = p by omega] at s
        rcases imx_c (L f + wS few f (p - f)) (E p) with ⟨x, _⟩ | ⟨x, _⟩ <;> rw [x] <;> omega, fun p hp => by
      have a := (q p (by omega)).2 (by omega)
      have a1 := (q p (by omega)).1
      simp only [if_pos hp, if_pos (show p < N by omega)]
      by_cases d : p + 1 ≤ f
      · simp only [if_pos d, if_pos (show p ≤ f by omega)]; omega
      · simp only [if_neg d]
        by_cases d2 : p ≤ f
        · have : p = f := by omega
          subst this
          simp only [if_pos (Nat.le_refl p), show p + 1 - p = 1 by omega]
          show few (p + 1) ≤ imx (L p + (0 + few (p + 0 + 1))) (E (p + 1)) - L p ∧ imx (L p + (0 + few (p + 0 + 1))) (E (p + 1)) - L p ≤ most (p + 1)
          rcases imx_c (L p + (0 + few (p + 0 + 1))) (E (p + 1)) with ⟨x, _⟩ | ⟨x, _⟩ <;> rw [x] <;> simp only [Nat.add_zero] at * <;> omega
        · simp only [if_neg d2]
          rw [show p + 1 - f = p - f + 1 by omega]
          show few (p + 1) ≤ imx (L f + (wS few f (p - f) + few (f + (p - f) + 1))) (E (p + 1)) - imx (L f + wS few f (p - f)) (E p) ∧ imx (L f + (wS few f (p - f) + few (f + (p - f) + 1))) (E (p + 1)) - imx (L f + wS few f (p - f)) (E p) ≤ most (p + 1)
          rw [show f + (p - f) + 1 = p + 1 by omega]
          rcases imx_c (L f + wS few f (p - f)) (E p) with ⟨x, _⟩ | ⟨x, _⟩ <;> rcases imx_c (L f + (wS few f (p - f) + few (p + 1))) (E (p + 1)) with ⟨y, _⟩ | ⟨y, _⟩ <;> rw [x, y] <;> omega⟩).2 (f + m) f (by omega) (by omega)
  simp only [if_pos hf, if_pos (show f < N by omega), if_pos (Nat.le_refl f)] at t1 t2
  rw [show f + m - f = m by omega] at t1 t2
  by_cases z : m = 0
  · subst z
    have z0 := d0 f (by omega)
    simp only [Nat.add_zero] at *
    show G f f = imn 0 (L f - E f) ∧ G f f = -imx 0 (E f - L f)
    rcases imn_c 0 (L f - E f) with ⟨x, _⟩ | ⟨x, _⟩ <;> rcases imx_c 0 (E f - L f) with ⟨y, _⟩ | ⟨y, _⟩ <;> rw [x, y] <;> omega
  · simp only [if_neg (show ¬ f + m ≤ f by omega)] at t1 t2
    rcases imn_c (E f + wS most f m) (L (f + m)) with ⟨x, _⟩ | ⟨x, _⟩ <;> rcases imx_c (L f + wS few f m) (E (f + m)) with ⟨y, _⟩ | ⟨y, _⟩ <;> rcases imn_c (wS most f m) (L (f + m) - E f) with ⟨v, _⟩ | ⟨v, _⟩ <;> rcases imx_c (wS few f m) (E (f + m) - L f) with ⟨w, _⟩ | ⟨w, _⟩ <;> rw [x] at t1 <;> rw [y] at t2 <;> rw [v, w] <;> omega
