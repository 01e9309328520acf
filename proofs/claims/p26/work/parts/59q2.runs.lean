/-! a row of steps, one behind the other; what stretches of orders come to -/
def rBb (V : Nat → Int64) : Nat → Bool
  | 0 => decide (5000 < V 8)
  | k + 1 => rBb V k || (decide (100000000 < V k) || decide (V k < -100000000))
theorem rBb_iff {V : Nat → Int64} : ∀ k, rBb V k = true ↔ rByN V k
  | 0 => by unfold rBb rByN; exact decide_eq_true_iff
  | k + 1 => by
    unfold rBb rByN rBy1
    rw [Bool.or_eq_true, Bool.or_eq_true, rBb_iff k, decide_eq_true_iff, decide_eq_true_iff]
def fD (T : Nat → Int32) : List (Int32 × Int32) → (Nat → Int64) → Option (Nat → Int64)
  | [], V => some V
  | x :: xs, V => if rBb (rSt T x.1 x.2 V) 7 = true then none else fD T xs (rSt T x.1 x.2 V)
theorem fD_app {T : Nat → Int32} : ∀ (xs ys : List (Int32 × Int32)) (V : Nat → Int64), fD T (xs ++ ys) V = (fD T xs V).bind (fD T ys)
  | [], _, _ => rfl
  | x :: xs, ys, V => by
    show (if rBb (rSt T x.1 x.2 V) 7 = true then none else fD T (xs ++ ys) (rSt T x.1 x.2 V)) = (if rBb (rSt T x.1 x.2 V) 7 = true then none else fD T xs (rSt T x.1 x.2 V)).bind (fD T ys)
    by_cases c : rBb (rSt T x.1 x.2 V) 7 = true
    · rw [if_pos c, if_pos c]; rfl
    · rw [if_neg c, if_neg c]; exact fD_app xs ys _
theorem fD_one {T : Nat → Int32} {o v : Int32} {V : Nat → Int64} : fD T [(o, v)] V = if rBb (rSt T o v V) 7 = true then none else some (rSt T o v V) := rfl
theorem fD_ok {T : Nat → Int32} : ∀ (xs : List (Int32 × Int32)) (V W : Nat → Int64), ¬ rBy V → fD T xs V = some W → ¬ rBy W
  | [], V, W, h, e => by
    have := Option.some.inj e
    rw [← this]; exact h
  | x :: xs, V, W, h, e => by
    have e2 : (if rBb (rSt T x.1 x.2 V) 7 = true then none else fD T xs (rSt T x.1 x.2 V)) = some W := e
    by_cases c : rBb (rSt T x.1 x.2 V) 7 = true
    · rw [if_pos c] at e2; exact absurd e2 (fun q => by cases q)
    · rw [if_neg c] at e2
      exact fD_ok xs _ W (fun q => c ((rBb_iff 7).mpr q)) e2
def rp : Nat → List (Int32 × Int32) → List (Int32 × Int32)
  | 0, _ => []
  | m + 1, ys => ys ++ rp m ys
/-- stretches of orders with the steps that they come to -/
def mRx (X : Int32 → Prop) (o v : Int32 → Int32) (s i j : Int32) (zs : List (Int32 × Int32)) : Prop := ∀ P : Int32 → Int32 → Int32 → List (Int32 × Int32) → Prop,
  (∀ s i, 0 ≤ s → P s i i []) → (∀ s i j xs, P s i j xs → X j → 1 ≤ o j → o j ≤ 6 → P s i (j + 1) (xs ++ [(o j, v j)])) → (∀ s i j xs, P s i j xs → X j → o j = 23 → P s i (v j) xs) →
  (∀ s i j t e xs ys, P s i j xs → X j → o j = 7 → 0 ≤ t → t < s → P t (v j) e ys → X e → o e = 21 → P s i (j + 1) (xs ++ ys)) →
  (∀ s i j t e xs ys, P s i j xs → X j → o j = 8 → 0 ≤ t → t < s → P t (j + 1) e ys → X e → o e = 20 → v e = j + 1 → (1 ≤ v j ∧ v j ≤ 99) → P s i (e + 1) (xs ++ rp (v j).toNatClampNeg ys)) → P s i j zs

set_option maxRecDepth 100000 in
theorem sx_skip {n : Nat} {R : px_R} (hg : px_G n R) {Q : px_Q} (w h k : Int32) {I : px_I} {L : px_L} (hk : 0 ≤ k ∧ k < 1320) (ho : I 130 k.toNatClampNeg = 23)  (hb : ¬ rBy (L 132)) (kk : px M_X12_runs 0 0 43 [(0, .ref 103), (1, .int w), (2, .int h), (3, .int (220 * w + I 131 k.toNatClampNeg))] [] n I L R Q) : px M_X12_runs 0 0 43 [(0, .ref 103), (1, .int w), (2, .int h), (3, .int (k))] [] n I L R Q := by
  skip
  refine px_ieq rfl q_X12_runs_43 hg rfl ⟨trivial, (by first | with_reducible assumption | decide | (refine ⟨?_, ?_⟩ <;> grind))⟩ (fun c51 => ?_) (fun c51 => ?_)
  · rw [ho] at c51; exact absurd c51 (by decide)
  · refine px_ine rfl q_X12_runs_54 hg rfl ⟨⟨trivial, (by first | with_reducible assumption | decide | (refine ⟨?_, ?_⟩ <;> grind))⟩, (by first | with_reducible assumption | decide | (refine ⟨?_, ?_⟩ <;> grind))⟩ (fun c74 => ?_) (fun c74 => ?_)
    · rw [ho] at c74; exact absurd c74 (by decide)
    · refine px_b rfl q_X12_runs_77 hg rfl trivial ?_
      exact px_go kk ⟨rfl, rfl, rfl, rfl, trivial⟩

set_option maxRecDepth 100000 in
theorem sx_do {n : Nat} {R : px_R} (hg : px_G n R) {Q : px_Q} (w h k : Int32) {I : px_I} {L : px_L} (hk : 0 ≤ k ∧ k < 1320) (ho : I 130 k.toNatClampNeg = 7) (d : Int32) (hd : I 103 53 = d) (hd0 : 0 ≤ d ∧ d < 90) (hb : ¬ rBy (L 132)) (kk : px M_X12_runs 0 0 43 [(0, .ref 103), (1, .int w), (2, .int h), (3, .int (220 * w + I 131 k.toNatClampNeg))] [] n (px_u (px_u I 133 d.toNatClampNeg (k + 1)) 103 53 (d + 1)) L R Q) : px M_X12_runs 0 0 43 [(0, .ref 103), (1, .int w), (2, .int h), (3, .int (k))] [] n I L R Q := by
  skip
  subst hd
  refine px_ieq rfl q_X12_runs_43 hg rfl ⟨trivial, (by first | with_reducible assumption | decide | (refine ⟨?_, ?_⟩ <;> grind))⟩ (fun c51 => ?_) (fun c51 => ?_)
  · rw [ho] at c51; exact absurd c51 (by decide)
  · refine px_ine rfl q_X12_runs_54 hg rfl ⟨⟨trivial, (by first | with_reducible assumption | decide | (refine ⟨?_, ?_⟩ <;> grind))⟩, (by first | with_reducible assumption | decide | (refine ⟨?_, ?_⟩ <;> grind))⟩ (fun c74 => ?_) (fun c74 => ?_)
    · refine px_ine rfl q_X12_runs_89 hg rfl trivial (fun c93 => ?_) (fun c93 => ?_)
      · rw [ho] at c93; exact absurd c93 (by decide)
      · refine px_cVP (ci := 12) rfl q_X12_runs_96 hg rfl ⟨trivial, (by first | with_reducible assumption | decide | (refine ⟨?_, ?_⟩ <;> grind))⟩ lk_12_403 nm_X12_isBeyond (ks_isBeyond hg) rfl rfl (px_lit hg rfl) rfl rfl rfl ⟨rfl, rfl⟩ ?_
        intro x281 h281
        have y9 := h281
        obtain ⟨y8, y9⟩ := y9
        refine px_eq rfl q_X12_runs_284 hg rfl trivial (fun c284 => ?_) (fun c284 => ?_)
        · refine px_b rfl q_X12_runs_289 hg rfl trivial ?_
          exact px_go kk ⟨rfl, rfl, rfl, rfl, trivial⟩
        · refine px_rz rfl q_X12_runs_287 rfl rfl rfl hg rfl trivial (by first | exact Or.inl rfl | exact Or.inr rfl | grind) ?_
          exact absurd (y9.mp (y8.resolve_left (by assumption))) hb
    · rw [ho] at c74; exact absurd c74 (by decide)

set_option maxRecDepth 100000 in
theorem sx_ret {n : Nat} {R : px_R} (hg : px_G n R) {Q : px_Q} (w h k : Int32) {I : px_I} {L : px_L} (hk : 0 ≤ k ∧ k < 1320) (ho : I 130 k.toNatClampNeg = 21) (d : Int32) (hd : I 103 53 = d) (hd0 : 1 ≤ d ∧ d ≤ 90) (hb : ¬ rBy (L 132)) (kk : px M_X12_runs 0 0 43 [(0, .ref 103), (1, .int w), (2, .int h), (3, .int (I 133 (d - 1).toNatClampNeg))] [] n (px_u I 103 53 (d - 1)) L R Q) : px M_X12_runs 0 0 43 [(0, .ref 103), (1, .int w), (2, .int h), (3, .int (k))] [] n I L R Q := by
  skip
  subst hd
  refine px_ieq rfl q_X12_runs_43 hg rfl ⟨trivial, (by first | with_reducible assumption | decide | (refine ⟨?_, ?_⟩ <;> grind))⟩ (fun c51 => ?_) (fun c51 => ?_)
  · rw [ho] at c51; exact absurd c51 (by decide)
  · refine px_ine rfl q_X12_runs_54 hg rfl ⟨⟨trivial, (by first | with_reducible assumption | decide | (refine ⟨?_, ?_⟩ <;> grind))⟩, (by first | with_reducible assumption | decide | (refine ⟨?_, ?_⟩ <;> grind))⟩ (fun c74 => ?_) (fun c74 => ?_)
    · refine px_ine rfl q_X12_runs_89 hg rfl trivial (fun c93 => ?_) (fun c93 => ?_)
      · refine px_ine rfl q_X12_runs_130 hg rfl trivial (fun c134 => ?_) (fun c134 => ?_)
        · rw [ho] at c134; exact absurd c134 (by decide)
        · refine px_cVP (ci := 12) rfl q_X12_runs_137 hg rfl ⟨trivial, (by first | with_reducible assumption | decide | (refine ⟨?_, ?_⟩ <;> grind))⟩ lk_12_403 nm_X12_isBeyond (ks_isBeyond hg) rfl rfl (px_lit hg rfl) rfl rfl rfl ⟨rfl, rfl⟩ ?_
          intro x281 h281
          have y9 := h281
          obtain ⟨y8, y9⟩ := y9
          refine px_eq rfl q_X12_runs_284 hg rfl trivial (fun c284 => ?_) (fun c284 => ?_)
          · refine px_b rfl q_X12_runs_289 hg rfl trivial ?_
            exact px_go kk ⟨rfl, rfl, rfl, rfl, trivial⟩
          · refine px_rz rfl q_X12_runs_287 rfl rfl rfl hg rfl trivial (by first | exact Or.inl rfl | exact Or.inr rfl | grind) ?_
            exact absurd (y9.mp (y8.resolve_left (by assumption))) hb
      · rw [ho] at c93; exact absurd c93 (by decide)
    · rw [ho] at c74; exact absurd c74 (by decide)

set_option maxRecDepth 100000 in
theorem sx_rep {n : Nat} {R : px_R} (hg : px_G n R) {Q : px_Q} (w h k : Int32) {I : px_I} {L : px_L} (hk : 0 ≤ k ∧ k < 1320) (ho : I 130 k.toNatClampNeg = 8) (d : Int32) (hd : I 103 53 = d) (hd0 : 0 ≤ d ∧ d < 90) (hb : ¬ rBy (L 132)) (kk : px M_X12_runs 0 0 43 [(0, .ref 103), (1, .int w), (2, .int h), (3, .int (k + 1))] [] n (px_u (px_u I 134 d.toNatClampNeg (I 131 k.toNatClampNeg)) 103 53 (d + 1)) L R Q) : px M_X12_runs 0 0 43 [(0, .ref 103), (1, .int w), (2, .int h), (3, .int (k))] [] n I L R Q := by
  skip
  subst hd
  refine px_ieq rfl q_X12_runs_43 hg rfl ⟨trivial, (by first | with_reducible assumption | decide | (refine ⟨?_, ?_⟩ <;> grind))⟩ (fun c51 => ?_) (fun c51 => ?_)
  · rw [ho] at c51; exact absurd c51 (by decide)
  · refine px_ine rfl q_X12_runs_54 hg rfl ⟨⟨trivial, (by first | with_reducible assumption | decide | (refine ⟨?_, ?_⟩ <;> grind))⟩, (by first | with_reducible assumption | decide | (refine ⟨?_, ?_⟩ <;> grind))⟩ (fun c74 => ?_) (fun c74 => ?_)
    · refine px_ine rfl q_X12_runs_89 hg rfl trivial (fun c93 => ?_) (fun c93 => ?_)
      · refine px_ine rfl q_X12_runs_130 hg rfl trivial (fun c134 => ?_) (fun c134 => ?_)
        · refine px_ine rfl q_X12_runs_160 hg rfl trivial (fun c164 => ?_) (fun c164 => ?_)
          · rw [ho] at c164; exact absurd c164 (by decide)
          · refine px_cVP (ci := 12) rfl q_X12_runs_167 hg rfl ⟨trivial, (by first | with_reducible assumption | decide | (refine ⟨?_, ?_⟩ <;> grind))⟩ lk_12_403 nm_X12_isBeyond (ks_isBeyond hg) rfl rfl (px_lit hg rfl) rfl rfl rfl ⟨rfl, rfl⟩ ?_
            intro x281 h281
            have y9 := h281
            obtain ⟨y8, y9⟩ := y9
            refine px_eq rfl q_X12_runs_284 hg rfl trivial (fun c284 => ?_) (fun c284 => ?_)
            · refine px_b rfl q_X12_runs_289 hg rfl trivial ?_
              exact px_go kk ⟨rfl, rfl, rfl, rfl, trivial⟩
            · refine px_rz rfl q_X12_runs_287 rfl rfl rfl hg rfl trivial (by first | exact Or.inl rfl | exact Or.inr rfl | grind) ?_
              exact absurd (y9.mp (y8.resolve_left (by assumption))) hb
        · rw [ho] at c134; exact absurd c134 (by decide)
      · rw [ho] at c93; exact absurd c93 (by decide)
    · rw [ho] at c74; exact absurd c74 (by decide)

set_option maxRecDepth 100000 in
theorem sx_round {n : Nat} {R : px_R} (hg : px_G n R) {Q : px_Q} (w h k : Int32) {I : px_I} {L : px_L} (hk : 0 ≤ k ∧ k < 1320) (ho : I 130 k.toNatClampNeg = 20) (d : Int32) (hd : I 103 53 = d) (hd0 : 1 ≤ d ∧ d ≤ 90) (hb : ¬ rBy (L 132)) (k1 : 0 < I 134 (d - 1).toNatClampNeg - 1 → px M_X12_runs 0 0 43 [(0, .ref 103), (1, .int w), (2, .int h), (3, .int (220 * w + I 131 k.toNatClampNeg))] [] n (px_u I 134 (d - 1).toNatClampNeg (I 134 (d - 1).toNatClampNeg - 1)) L R Q) (k2 : ¬ 0 < I 134 (d - 1).toNatClampNeg - 1 → px M_X12_runs 0 0 43 [(0, .ref 103), (1, .int w), (2, .int h), (3, .int (k + 1))] [] n (px_u (px_u I 134 (d - 1).toNatClampNeg (I 134 (d - 1).toNatClampNeg - 1)) 103 53 (d - 1)) L R Q) : px M_X12_runs 0 0 43 [(0, .ref 103), (1, .int w), (2, .int h), (3, .int (k))] [] n I L R Q := by
  skip
  subst hd
  refine px_ieq rfl q_X12_runs_43 hg rfl ⟨trivial, (by first | with_reducible assumption | decide | (refine ⟨?_, ?_⟩ <;> grind))⟩ (fun c51 => ?_) (fun c51 => ?_)
  · rw [ho] at c51; exact absurd c51 (by decide)
  · refine px_ine rfl q_X12_runs_54 hg rfl ⟨⟨trivial, (by first | with_reducible assumption | decide | (refine ⟨?_, ?_⟩ <;> grind))⟩, (by first | with_reducible assumption | decide | (refine ⟨?_, ?_⟩ <;> grind))⟩ (fun c74 => ?_) (fun c74 => ?_)
    · refine px_ine rfl q_X12_runs_89 hg rfl trivial (fun c93 => ?_) (fun c93 => ?_)
      · refine px_ine rfl q_X12_runs_130 hg rfl trivial (fun c134 => ?_) (fun c134 => ?_)
        · refine px_ine rfl q_X12_runs_160 hg rfl trivial (fun c164 => ?_) (fun c164 => ?_)
          · refine px_ine rfl q_X12_runs_194 hg rfl trivial (fun c198 => ?_) (fun c198 => ?_)
            · rw [ho] at c198; exact absurd c198 (by decide)
            · refine px_le rfl q_X12_runs_201 hg rfl ⟨⟨⟨trivial, (by first | with_reducible assumption | decide | (refine ⟨?_, ?_⟩ <;> grind))⟩, (by first | with_reducible assumption | decide | (refine ⟨?_, ?_⟩ <;> grind))⟩, (by first | with_reducible assumption | decide | (refine ⟨?_, ?_⟩ <;> grind))⟩ (fun c227 => ?_) (fun c227 => ?_)
              · refine px_cVP (ci := 12) rfl q_X12_runs_242 hg rfl trivial lk_12_403 nm_X12_isBeyond (ks_isBeyond hg) rfl rfl (px_lit hg rfl) rfl rfl rfl ⟨rfl, rfl⟩ ?_
                intro x281 h281
                have y9 := h281
                obtain ⟨y8, y9⟩ := y9
                refine px_eq rfl q_X12_runs_284 hg rfl trivial (fun c284 => ?_) (fun c284 => ?_)
                · refine px_b rfl q_X12_runs_289 hg rfl trivial ?_
                  first | exact px_go (k1 (by simpa [px_ur] using c227)) ⟨rfl, rfl, rfl, rfl, trivial⟩ | exact px_go (k2 (by simpa [px_ur] using c227)) ⟨rfl, rfl, rfl, rfl, trivial⟩
                · refine px_rz rfl q_X12_runs_287 rfl rfl rfl hg rfl trivial (by first | exact Or.inl rfl | exact Or.inr rfl | grind) ?_
                  exact absurd (y9.mp (y8.resolve_left (by assumption))) hb
              · refine px_cVP (ci := 12) rfl q_X12_runs_230 hg rfl trivial lk_12_403 nm_X12_isBeyond (ks_isBeyond hg) rfl rfl (px_lit hg rfl) rfl rfl rfl ⟨rfl, rfl⟩ ?_
                intro x281 h281
                have y9 := h281
                obtain ⟨y8, y9⟩ := y9
                refine px_eq rfl q_X12_runs_284 hg rfl trivial (fun c284 => ?_) (fun c284 => ?_)
                · refine px_b rfl q_X12_runs_289 hg rfl trivial ?_
                  first | exact px_go (k1 (by simpa [px_ur] using c227)) ⟨rfl, rfl, rfl, rfl, trivial⟩ | exact px_go (k2 (by simpa [px_ur] using c227)) ⟨rfl, rfl, rfl, rfl, trivial⟩
                · refine px_rz rfl q_X12_runs_287 rfl rfl rfl hg rfl trivial (by first | exact Or.inl rfl | exact Or.inr rfl | grind) ?_
                  exact absurd (y9.mp (y8.resolve_left (by assumption))) hb
          · rw [ho] at c164; exact absurd c164 (by decide)
        · rw [ho] at c134; exact absurd c134 (by decide)
      · rw [ho] at c93; exact absurd c93 (by decide)
    · rw [ho] at c74; exact absurd c74 (by decide)

set_option maxRecDepth 100000 in
theorem sx_step {n : Nat} {R : px_R} (hg : px_G n R) {Q : px_Q} (w h k : Int32) {I : px_I} {L : px_L} (hk : 0 ≤ k ∧ k < 1320) (ho : 1 ≤ I 130 k.toNatClampNeg ∧ I 130 k.toNatClampNeg ≤ 6) (hq : rBy (rSt (tR I) (I 130 k.toNatClampNeg) (I 131 k.toNatClampNeg) (L 132)) → ∀ L2, mRL L L2 → Q (some (.int 0)) n I L2 R) (kk : ¬ rBy (rSt (tR I) (I 130 k.toNatClampNeg) (I 131 k.toNatClampNeg) (L 132)) → ∀ L2, mRL L L2 → L2 132 = rSt (tR I) (I 130 k.toNatClampNeg) (I 131 k.toNatClampNeg) (L 132) → px M_X12_runs 0 0 43 [(0, .ref 103), (1, .int w), (2, .int h), (3, .int (k + 1))] [] n I L2 R Q) : px M_X12_runs 0 0 43 [(0, .ref 103), (1, .int w), (2, .int h), (3, .int (k))] [] n I L R Q := by
  skip
  refine px_ieq rfl q_X12_runs_43 hg rfl ⟨trivial, (by first | with_reducible assumption | decide | (refine ⟨?_, ?_⟩ <;> grind))⟩ (fun c51 => ?_) (fun c51 => ?_)
  · rw [c51] at ho; exact absurd ho (by decide)
  · refine px_ine rfl q_X12_runs_54 hg rfl ⟨⟨trivial, (by first | with_reducible assumption | decide | (refine ⟨?_, ?_⟩ <;> grind))⟩, (by first | with_reducible assumption | decide | (refine ⟨?_, ?_⟩ <;> grind))⟩ (fun c74 => ?_) (fun c74 => ?_)
    · refine px_ine rfl q_X12_runs_89 hg rfl trivial (fun c93 => ?_) (fun c93 => ?_)
      · refine px_ine rfl q_X12_runs_130 hg rfl trivial (fun c134 => ?_) (fun c134 => ?_)
        · refine px_ine rfl q_X12_runs_160 hg rfl trivial (fun c164 => ?_) (fun c164 => ?_)
          · refine px_ine rfl q_X12_runs_194 hg rfl trivial (fun c198 => ?_) (fun c198 => ?_)
            · refine px_cVW (ci := 12) rfl q_X12_runs_258 hg rfl ⟨⟨trivial, (by first | with_reducible assumption | decide | (refine ⟨?_, ?_⟩ <;> grind))⟩, (by first | with_reducible assumption | decide | (refine ⟨?_, ?_⟩ <;> grind))⟩ lk_12_399 nm_X12_does (ks_does hg _ _) rfl rfl (px_lit hg rfl) rfl rfl rfl ⟨rfl, rfl⟩ ?_
              intro I274 L274 h274
              obtain ⟨rfl, h274, g274⟩ := h274
              replace h274 := (mRL.u (fun _ _ => rfl) _ _).trans h274
              replace g274 : L274 132 = rSt (tR I274) (I274 130 k.toNatClampNeg) (I274 131 k.toNatClampNeg) (L 132) := by
                rw [g274]
                unfold rSt
                refine congrArg _ (funext fun q => ?_)
                first | rfl | (simp only [px_ur, if_pos]; rfl) | (simp only [show Int32.toNatClampNeg 8 = 8 by decide, px_ur, if_pos])
              refine px_cVP (ci := 12) rfl q_X12_runs_277 hg rfl trivial lk_12_403 nm_X12_isBeyond (ks_isBeyond hg) rfl rfl (px_lit hg rfl) rfl rfl rfl ⟨rfl, rfl⟩ ?_
              intro x281 h281
              have y9 := h281
              obtain ⟨y8, y9⟩ := y9
              refine px_eq rfl q_X12_runs_284 hg rfl trivial (fun c284 => ?_) (fun c284 => ?_)
              · refine px_b rfl q_X12_runs_289 hg rfl trivial ?_
                exact px_go (kk (fun z => by rw [← g274] at z; have z2 := y9.mpr z; grind) _ h274 g274) ⟨rfl, rfl, rfl, rfl, trivial⟩
              · refine px_rz rfl q_X12_runs_287 rfl rfl rfl hg rfl trivial (by first | exact Or.inl rfl | exact Or.inr rfl | grind) ?_
                exact hq (by rw [← g274]; exact y9.mp (y8.resolve_left (by assumption))) _ h274
            · rw [c198] at ho; exact absurd ho (by decide)
          · rw [c164] at ho; exact absurd ho (by decide)
        · rw [c134] at ho; exact absurd ho (by decide)
      · rw [c93] at ho; exact absurd ho (by decide)
    · rw [c74] at ho; exact absurd ho (by decide)

set_option maxRecDepth 100000 in
theorem sx_end {n : Nat} {R : px_R} (hg : px_G n R) {Q : px_Q} (w h k : Int32) {I : px_I} {L : px_L} (hk : 0 ≤ k ∧ k < 1320) (ho : I 130 k.toNatClampNeg = 22) (hq : Q (some (.int 1)) n I L R) : px M_X12_runs 0 0 43 [(0, .ref 103), (1, .int w), (2, .int h), (3, .int (k))] [] n I L R Q := by
  skip
  refine px_ieq rfl q_X12_runs_43 hg rfl ⟨trivial, (by first | with_reducible assumption | decide | (refine ⟨?_, ?_⟩ <;> grind))⟩ (fun c51 => ?_) (fun c51 => ?_)
  · refine px_rz rfl q_X12_runs_292 rfl rfl rfl hg rfl trivial (by first | exact Or.inl rfl | exact Or.inr rfl | grind) ?_
    exact hq
  · exact absurd ho c51

/-- the tools stand -/
def mT5 (I0 I : px_I) : Prop := ∀ k, k < 5 → tR I k = tR I0 k
theorem mRI.t5 {I0 I : px_I} (h : mRI I0 I) : mT5 I0 I := fun k hk => h 103 (47 + k) (by decide) (by decide) (fun q => by omega)
theorem rDo_t {T T2 : Nat → Int32} (h : ∀ k, k < 5 → T2 k = T k) (o v : Int32) (V : Nat → Int64) : rDo T2 o v V = rDo T o v V := by
  unfold rDo gO
  rw [h 0 (by decide), h 1 (by decide), h 2 (by decide), h 3 (by decide), h 4 (by decide)]
theorem rSt_t {I0 I : px_I} (h : mT5 I0 I) (o v : Int32) (V : Nat → Int64) : rSt (tR I) o v V = rSt (tR I0) o v V := rDo_t h o v _
def mSx (I0 : px_I) (w s i j : Int32) (zs : List (Int32 × Int32)) : Prop := s ≤ 90 → ∀ {n : Nat} {R : px_R} (_ : px_G n R) {Q : px_Q} (h : Int32) (L0 : px_L),
  ∀ (d : Int32) (I : px_I) (L : px_L), mRI I0 I → mRL L0 L → I 103 53 = d → 0 ≤ d → d ≤ 90 → d + s ≤ 90 → ¬ rBy (L 132) →
  (fD (tR I0) zs (L 132) = none → ∀ I2 L2, mRI I0 I2 → mRL L0 L2 → Q (some (.int 0)) n I2 L2 R) →
  (∀ V, fD (tR I0) zs (L 132) = some V → ∀ I2 L2, mRI I0 I2 → mRL L0 L2 → L2 132 = V → I2 103 53 = d → (∀ q : Int32, 0 ≤ q → q < d → I2 133 q.toNatClampNeg = I 133 q.toNatClampNeg ∧ I2 134 q.toNatClampNeg = I 134 q.toNatClampNeg) → px M_X12_runs 0 0 43 [(0, .ref 103), (1, .int w), (2, .int h), (3, .int (220 * w + j))] [] n I2 L2 R Q) →
  px M_X12_runs 0 0 43 [(0, .ref 103), (1, .int w), (2, .int h), (3, .int (220 * w + i))] [] n I L R Q
theorem fD_b1 {T : Nat → Int32} {xs ys : List (Int32 × Int32)} {V : Nat → Int64} (h : fD T xs V = none) : fD T (xs ++ ys) V = none := by rw [fD_app, h]; rfl
theorem fD_b2 {T : Nat → Int32} {xs ys : List (Int32 × Int32)} {V W : Nat → Int64} (h : fD T xs V = some W) : fD T (xs ++ ys) V = fD T ys W := by rw [fD_app, h]; rfl
theorem mSx_round {I0 : px_I} {w t i e : Int32} {ys : List (Int32 × Int32)} (hX : 0 ≤ 220 * w + e ∧ 220 * w + e < 1320) (ho : I0 130 (220 * w + e).toNatClampNeg = 20) (hv : I0 131 (220 * w + e).toNatClampNeg = i) (ht : 0 ≤ t ∧ t < 90) (hb : mSx I0 w t i e ys)
    {n : Nat} {R : px_R} (hg : px_G n R) {Q : px_Q} (h : Int32) (L0 : px_L) (d : Int32) (hd0 : 0 ≤ d) (hd : d < 90) (hdt : d + 1 + t ≤ 90) (I1 : px_I) :
    ∀ (m : Nat) (I : px_I) (L : px_L), 1 ≤ m → m ≤ 99 → mRI I0 I → mRL L0 L → I 103 53 = d + 1 → I 134 d.toNatClampNeg = Int32.ofNat m → (∀ q : Int32, 0 ≤ q → q < d → I 133 q.toNatClampNeg = I1 133 q.toNatClampNeg ∧ I 134 q.toNatClampNeg = I1 134 q.toNatClampNeg) → ¬ rBy (L 132) →
    (fD (tR I0) (rp m ys) (L 132) = none → ∀ I2 L2, mRI I0 I2 → mRL L0 L2 → Q (some (.int 0)) n I2 L2 R) →
    (∀ V, fD (tR I0) (rp m ys) (L 132) = some V → ∀ I2 L2, mRI I0 I2 → mRL L0 L2 → L2 132 = V → I2 103 53 = d → (∀ q : Int32, 0 ≤ q → q < d → I2 133 q.toNatClampNeg = I1 133 q.toNatClampNeg ∧ I2 134 q.toNatClampNeg = I1 134 q.toNatClampNeg) → px M_X12_runs 0 0 43 [(0, .ref 103), (1, .int w), (2, .int h), (3, .int (220 * w + (e + 1)))] [] n I2 L2 R Q) →
    px M_X12_runs 0 0 43 [(0, .ref 103), (1, .int w), (2, .int h), (3, .int (220 * w + i))] [] n I L R Q := by
  have hdd : d + 1 - 1 = d := by grind
  intro m
  induction m with
  | zero => intro I L h1; omega
  | succ m ih =>
    intro I L _ hm hI hL hI1 hu hp hB hq kk
    refine hb (by grind) hg h L0 (d + 1) I L hI hL hI1 (by grind) (by grind) hdt hB (fun hn => hq (fD_b1 hn)) (fun V hV I2 L2 hI2 hL2 hV2 hI3 hp2 => ?_)
    have hI4 : I2 134 d.toNatClampNeg = I 134 d.toNatClampNeg := (hp2 d hd0 (by grind)).2
    have hB2 : ¬ rBy (L2 132) := by rw [hV2]; exact fD_ok ys _ V hB hV
    have mI : (Int32.ofNat (m + 1)).toInt = m + 1 := by rw [Int32.toInt_ofNat_of_lt (by omega)]; rfl
    have mJ : (Int32.ofNat m).toInt = m := Int32.toInt_ofNat_of_lt (by omega)
    have m1 : Int32.ofNat (m + 1) - 1 = Int32.ofNat m := by
      rw [← Int32.toInt_inj, Int32.toInt_sub, mI, mJ, show (1 : Int32).toInt = 1 by decide, Int.bmod_eq_of_le (by omega) (by omega)]
      omega
    refine sx_round hg w h (220 * w + e) hX ((hI2.at0 _).trans ho) (d + 1) hI3 ⟨by grind, by grind⟩ hB2 (fun h6 => ?_) (fun h6 => ?_)
    · rw [hdd, hI4, hu, m1] at h6
      have h7 := Int32.lt_iff_toInt_lt.mp h6
      rw [mJ, show (0 : Int32).toInt = 0 by decide] at h7
      rw [hI2.at1, hv, hdd, hI4, hu, m1]
      have e1 : fD (tR I0) (rp (m + 1) ys) (L 132) = fD (tR I0) (rp m ys) (L2 132) := by rw [hV2]; exact fD_b2 hV
      refine ih _ L2 (by omega) (by omega) (hI2.u4 _ _) hL2 ?_ ?_ (fun q h7 h8 => ?_) hB2 (fun hn => hq (by rw [e1]; exact hn)) (fun V2 hV3 => kk V2 (by rw [e1]; exact hV3))
      · rw [px_u_ne (by decide)]; exact hI3
      · rw [px_u_at]
      · have h9 : q.toNatClampNeg ≠ d.toNatClampNeg := mNat_inj h7 hd0 (by grind)
        rw [px_u_ne (by decide), px_u_at_ne h9]
        have h10 := hp2 q h7 (by grind)
        have h11 := hp q h7 h8
        exact ⟨h10.1.trans h11.1, h10.2.trans h11.2⟩
    · rw [hdd, hI4, hu, m1] at h6
      have m0 : m = 0 := by
        rcases Nat.eq_zero_or_pos m with z | z
        · exact z
        · exact absurd (Int32.lt_iff_toInt_lt.mpr (by rw [mJ, show (0 : Int32).toInt = 0 by decide]; omega)) h6
      subst m0
      rw [hdd]
      have e1 : 220 * w + e + 1 = 220 * w + (e + 1) := by grind
      rw [e1]
      refine kk V (by rw [← hV]; exact congrArg (fun z => fD (tR I0) z (L 132)) (List.append_nil ys)) _ L2 ((hI2.u4 _ _).ur _) hL2 hV2 (by rw [px_u_at]) (fun q h7 h8 => ?_)
      have h9 : q.toNatClampNeg ≠ d.toNatClampNeg := mNat_inj h7 hd0 (by grind)
      rw [px_u_ne (by decide), px_u_ne (by decide), px_u_ne (by decide), px_u_at_ne h9]
      have h10 := hp2 q h7 (by grind)
      have h11 := hp q h7 h8
      exact ⟨h10.1.trans h11.1, h10.2.trans h11.2⟩
theorem mRx_sem {X : Int32 → Prop} {I0 : px_I} {w s i j : Int32} {zs : List (Int32 × Int32)} (hw : 0 ≤ w ∧ w ≤ 5) (hX : ∀ j, X j → 0 ≤ j ∧ j < 220) (h : mRx X (fun j => I0 130 (220 * w + j).toNatClampNeg) (fun j => I0 131 (220 * w + j).toNatClampNeg) s i j zs) : 0 ≤ s ∧ mSx I0 w s i j zs := by
  have hk : ∀ j, X j → 0 ≤ 220 * w + j ∧ 220 * w + j < 1320 := fun j hj => by have := hX j hj; grind
  have ha : ∀ j : Int32, 220 * w + j + 1 = 220 * w + (j + 1) := fun j => by grind
  refine h (fun s i j zs => 0 ≤ s ∧ mSx I0 w s i j zs) ?_ ?_ ?_ ?_ ?_
  · intro s i hs
    exact ⟨hs, fun _ n R hg Q h L0 d I L hI hL hd h0 h1 h2 hB hq kk => kk (L 132) rfl I L hI hL rfl hd (fun _ _ _ => ⟨rfl, rfl⟩)⟩
  · intro s i j xs hP hj h1 h2
    refine ⟨hP.1, fun hs n R hg Q h L0 d I L hI hL hd h0 h90 h3 hB hq kk => hP.2 hs hg h L0 d I L hI hL hd h0 h90 h3 hB (fun hn => hq (fD_b1 hn)) (fun V hV I2 L2 hI2 hL2 hV2 hd2 hp => ?_)⟩
    have e1 := hI2.at0 (220 * w + j).toNatClampNeg
    have e2 := hI2.at1 (220 * w + j).toNatClampNeg
    have e3 : rSt (tR I2) (I2 130 (220 * w + j).toNatClampNeg) (I2 131 (220 * w + j).toNatClampNeg) (L2 132) = rSt (tR I0) (I0 130 (220 * w + j).toNatClampNeg) (I0 131 (220 * w + j).toNatClampNeg) V := by rw [rSt_t hI2.t5, e1, e2, hV2]
    refine sx_step hg w h _ (hk j hj) ⟨by rw [e1]; exact h1, by rw [e1]; exact h2⟩ (fun z L3 h3 => hq ?_ I2 L3 hI2 (hL2.trans h3)) (fun z L3 h3 h4 => ?_)
    · rw [e3] at z
      rw [fD_b2 hV, fD_one, if_pos ((rBb_iff 7).mpr z)]
    · rw [e3] at z h4
      rw [ha]
      exact kk _ (by rw [fD_b2 hV, fD_one, if_neg (fun q => z ((rBb_iff 7).mp q))]) I2 L3 hI2 (hL2.trans h3) h4 hd2 hp
  · intro s i j xs hP hj h1
    refine ⟨hP.1, fun hs n R hg Q h L0 d I L hI hL hd h0 h90 h3 hB hq kk => hP.2 hs hg h L0 d I L hI hL hd h0 h90 h3 hB hq (fun V hV I2 L2 hI2 hL2 hV2 hd2 hp => ?_)⟩
    refine sx_skip hg w h _ (hk j hj) (by rw [hI2.at0]; exact h1) (by rw [hV2]; exact fD_ok xs _ V hB hV) ?_
    rw [hI2.at1]
    exact kk V hV I2 L2 hI2 hL2 hV2 hd2 hp
  · intro s i j t e xs ys hP hj h1 ht hts hY he h2
    refine ⟨hP.1, fun hs n R hg Q h L0 d I L hI hL hd h0 h90 h3 hB hq kk => hP.2 hs hg h L0 d I L hI hL hd h0 h90 h3 hB (fun hn => hq (fD_b1 hn)) (fun V hV I2 L2 hI2 hL2 hV2 hd2 hp => ?_)⟩
    have hs0 := hP.1
    have hd9 : d < 90 := by grind
    have hB2 : ¬ rBy (L2 132) := by rw [hV2]; exact fD_ok xs _ V hB hV
    refine sx_do hg w h _ (hk j hj) (by rw [hI2.at0]; exact h1) d hd2 ⟨h0, hd9⟩ hB2 ?_
    rw [hI2.at1]
    have e5 : fD (tR I0) (xs ++ ys) (L 132) = fD (tR I0) ys (L2 132) := by rw [hV2]; exact fD_b2 hV
    refine hY.2 (by grind) hg h L0 (d + 1) _ L2 ((hI2.u3 _ _).ur _) hL2 (by rw [px_u_at]) (by grind) (by grind) (by grind) hB2 (fun hn => hq (by rw [e5]; exact hn)) (fun V2 hV4 I3 L3 hI3 hL3 hV3 hd3 hp3 => ?_)
    have hdd : d + 1 - 1 = d := by grind
    have e1 : I3 133 d.toNatClampNeg = 220 * w + j + 1 := by
      rw [(hp3 d h0 (by grind)).1, px_u_ne (by decide), px_u_at]
    refine sx_ret hg w h _ (hk e he) (by rw [hI3.at0]; exact h2) (d + 1) hd3 ⟨by grind, by grind⟩ (by rw [hV3]; exact fD_ok ys _ V2 hB2 hV4) ?_
    rw [hdd, e1, ha]
    refine kk V2 (by rw [e5]; exact hV4) _ L3 (hI3.ur _) hL3 hV3 (by rw [px_u_at]) (fun q h7 h8 => ?_)
    have h9 : q.toNatClampNeg ≠ d.toNatClampNeg := mNat_inj h7 h0 (by grind)
    rw [px_u_ne (by decide), px_u_ne (by decide)]
    have h10 := hp3 q h7 (by grind)
    rw [px_u_ne (show (133 : Nat) ≠ 103 by decide), px_u_ne (show (134 : Nat) ≠ 103 by decide), px_u_at_ne h9, px_u_ne (show (134 : Nat) ≠ 133 by decide)] at h10
    have h11 := hp q h7 h8
    exact ⟨h10.1.trans h11.1, h10.2.trans h11.2⟩
  · intro s i j t e xs ys hP hj h1 ht hts hY he h2 hv hr
    refine ⟨hP.1, fun hs n R hg Q h L0 d I L hI hL hd h0 h90 h3 hB hq kk => hP.2 hs hg h L0 d I L hI hL hd h0 h90 h3 hB (fun hn => hq (fD_b1 hn)) (fun V hV I2 L2 hI2 hL2 hV2 hd2 hp => ?_)⟩
    replace hr : 1 ≤ I0 131 (220 * w + j).toNatClampNeg ∧ I0 131 (220 * w + j).toNatClampNeg ≤ 99 := hr
    have hs0 := hP.1
    have hd9 : d < 90 := by grind
    have hB2 : ¬ rBy (L2 132) := by rw [hV2]; exact fD_ok xs _ V hB hV
    refine sx_rep hg w h _ (hk j hj) (by rw [hI2.at0]; exact h1) d hd2 ⟨h0, hd9⟩ hB2 ?_
    rw [ha]
    have e5 : fD (tR I0) (xs ++ rp (I0 131 (220 * w + j).toNatClampNeg).toNatClampNeg ys) (L 132) = fD (tR I0) (rp (I0 131 (220 * w + j).toNatClampNeg).toNatClampNeg ys) (L2 132) := by rw [hV2]; exact fD_b2 hV
    have r0 := xnat (show 0 ≤ I0 131 (220 * w + j).toNatClampNeg by have := hr.1; grind)
    have r1 := Int32.le_iff_toInt_le.mp hr.1
    have r2 := Int32.le_iff_toInt_le.mp hr.2
    rw [show (1 : Int32).toInt = 1 by decide] at r1
    rw [show (99 : Int32).toInt = 99 by decide] at r2
    refine mSx_round (hk e he) h2 hv ⟨ht, by grind⟩ hY.2 hg h L0 d h0 hd9 (by grind) I (I0 131 (220 * w + j).toNatClampNeg).toNatClampNeg _ L2 (by omega) (by omega) ((hI2.u4 _ _).ur _) hL2 (by rw [px_u_at]) ?_ (fun q h7 h8 => ?_) hB2 (fun hn => hq (by rw [e5]; exact hn)) (fun V2 hV4 => kk V2 (by rw [e5]; exact hV4))
    · rw [px_u_ne (by decide), px_u_at, hI2.at1, ← Int32.toInt_inj, Int32.toInt_ofNat_of_lt (by omega)]
      exact r0.symm
    · have h9 : q.toNatClampNeg ≠ d.toNatClampNeg := mNat_inj h7 h0 (by grind)
      rw [px_u_ne (by decide), px_u_ne (by decide), px_u_ne (by decide), px_u_at_ne h9]
      exact hp q h7 h8
/-- the orders of a way, with the steps that they come to -/
def mOx (I : px_I) (w : Int32) (zs : List (Int32 × Int32)) : Prop := ∃ (X : Int32 → Prop) (s e : Int32), (∀ j, X j → 0 ≤ j ∧ j < 220) ∧ mRx X (fun j => I 130 (220 * w + j).toNatClampNeg) (fun j => I 131 (220 * w + j).toNatClampNeg) s 0 e zs ∧ s ≤ 90 ∧ X e ∧ I 130 (220 * w + e).toNatClampNeg = 22
def V0 (h : Int32) : Nat → Int64 := fun k => if k = 7 then h.toInt64 else 0
