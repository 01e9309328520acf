/-! a text as tokens: from a place on, where the next one stands, where it ends, what it is -/
theorem xz0 : (0 : Int32).toNatClampNeg = 0 := by decide
theorem xnat {x : Int32} (h : 0 ≤ x) : (x.toNatClampNeg : Int) = x.toInt := by
  have h2 := Int32.le_iff_toInt_le.mp h
  rw [show (0 : Int32).toInt = 0 by decide] at h2
  show ((x.toInt.toNat : Nat) : Int) = _
  omega
theorem xle {i N : Int32} (h0 : 0 ≤ i) (h : i ≤ N) : i.toNatClampNeg ≤ N.toNatClampNeg := by
  have a1 := xnat h0
  have a2 := xnat (Int32.le_trans h0 h)
  have a3 := Int32.le_iff_toInt_le.mp h
  omega
theorem xlt {i N : Int32} (h0 : 0 ≤ i) (h : i < N) : i.toNatClampNeg < N.toNatClampNeg := by
  have a1 := xnat h0
  have a2 := xnat (Int32.le_trans h0 (Int32.le_of_lt h))
  have a3 := Int32.lt_iff_toInt_lt.mp h
  omega
def nb (x : Int32) : Int32 := if 0 ≤ x ∧ x < 128 then x else 200
def bL (x : Int32) : Bool := decide ((97 ≤ x ∧ x ≤ 122) ∨ (65 ≤ x ∧ x ≤ 90))
def bD (x : Int32) : Bool := decide (48 ≤ x ∧ x ≤ 57)
def bB (x : Int32) : Bool := decide (x = 32 ∨ x = 10)
theorem nb_in {x : Int32} (h : 0 ≤ x ∧ x < 128) : nb x = x := if_pos h
theorem nb_L {x : Int32} : bL (nb x) = true ↔ ((97 ≤ x ∧ x ≤ 122) ∨ (65 ≤ x ∧ x ≤ 90)) := by
  unfold nb bL
  rw [decide_eq_true_iff]
  by_cases h : 0 ≤ x ∧ x < 128
  · rw [if_pos h]
  · rw [if_neg h]
    exact ⟨fun q => absurd q (by decide), fun q => absurd (by constructor <;> grind) h⟩
theorem nb_D {x : Int32} : bD (nb x) = true ↔ (48 ≤ x ∧ x ≤ 57) := by
  unfold nb bD
  rw [decide_eq_true_iff]
  by_cases h : 0 ≤ x ∧ x < 128
  · rw [if_pos h]
  · rw [if_neg h]
    exact ⟨fun q => absurd q (by decide), fun q => absurd (by constructor <;> grind) h⟩
theorem nb_B {x : Int32} : bB (nb x) = true ↔ (x = 32 ∨ x = 10) := by
  unfold nb bB
  rw [decide_eq_true_iff]
  by_cases h : 0 ≤ x ∧ x < 128
  · rw [if_pos h]
  · rw [if_neg h]
    exact ⟨fun q => absurd q (by decide), fun q => absurd (by rcases q with rfl | rfl <;> decide) h⟩
theorem nb_e {x c : Int32} (hc : 0 ≤ c ∧ c < 128) : nb x = c ↔ x = c := by
  unfold nb
  by_cases h : 0 ≤ x ∧ x < 128
  · rw [if_pos h]
  · rw [if_neg h]
    exact ⟨fun q => absurd hc (by rw [← q]; decide), fun q => absurd (by rw [q]; exact hc) h⟩
def rnF (c : Int32 → Bool) (B : Nat → Int32) : Nat → Nat → Nat
  | 0, p => p
  | f + 1, p => if c (B p) = true then rnF c B f (p + 1) else p
/-- how far the signs of that kind go -/
def rn (c : Int32 → Bool) (B : Nat → Int32) (n p : Nat) : Nat := rnF c B (n - p) p
theorem rn_in {c : Int32 → Bool} {B : Nat → Int32} {n p : Nat} (h : p < n) (hc : c (B p) = true) : rn c B n p = rn c B n (p + 1) := by
  unfold rn
  rw [show n - p = (n - (p + 1)) + 1 by omega]
  show (if c (B p) = true then rnF c B (n - (p + 1)) (p + 1) else p) = _
  rw [if_pos hc]
theorem rn_no {c : Int32 → Bool} {B : Nat → Int32} {n p : Nat} (hc : ¬ c (B p) = true) : rn c B n p = p := by
  unfold rn
  cases n - p with
  | zero => rfl
  | succ f => exact if_neg hc
theorem rn_end {c : Int32 → Bool} {B : Nat → Int32} {n p : Nat} (h : n ≤ p) : rn c B n p = p := by
  unfold rn
  rw [show n - p = 0 by omega]; rfl
theorem rn_le {c : Int32 → Bool} {B : Nat → Int32} {n : Nat} : ∀ d p, n - p = d → p ≤ n → p ≤ rn c B n p ∧ rn c B n p ≤ n := by
  intro d
  induction d with
  | zero => intro p h1 h2; rw [rn_end (by omega)]; omega
  | succ d ih =>
    intro p h1 h2
    by_cases hc : c (B p) = true
    · rw [rn_in (by omega) hc]
      have := ih (p + 1) (by omega) (by omega)
      omega
    · rw [rn_no hc]; omega
theorem rn_b {c : Int32 → Bool} {B : Nat → Int32} {n p : Nat} (h : p ≤ n) : p ≤ rn c B n p ∧ rn c B n p ≤ n := rn_le _ p rfl h
theorem rn_all {c : Int32 → Bool} {B : Nat → Int32} {n : Nat} : ∀ d p, n - p = d → ∀ j, p ≤ j → j < rn c B n p → c (B j) = true := by
  intro d
  induction d with
  | zero => intro p h1 j j1 j2; rw [rn_end (by omega)] at j2; omega
  | succ d ih =>
    intro p h1 j j1 j2
    by_cases hc : c (B p) = true
    · rw [rn_in (by omega) hc] at j2
      by_cases e : j = p
      · rw [e]; exact hc
      · exact ih (p + 1) (by omega) j (by omega) j2
    · rw [rn_no hc] at j2; omega
theorem rn_stop {c : Int32 → Bool} {B : Nat → Int32} {n : Nat} : ∀ d p, n - p = d → p ≤ n → rn c B n p < n → ¬ c (B (rn c B n p)) = true := by
  intro d
  induction d with
  | zero => intro p h1 h2 h3; rw [rn_end (by omega)] at h3; omega
  | succ d ih =>
    intro p h1 h2 h3
    by_cases hc : c (B p) = true
    · rw [rn_in (by omega) hc] at h3 ⊢
      exact ih (p + 1) (by omega) (by omega) h3
    · rw [rn_no hc]; exact hc
/-- found by what is so: all that kind up to there, and no further -/
theorem rn_is {c : Int32 → Bool} {B : Nat → Int32} {n e : Nat} : ∀ d p, e - p = d → p ≤ e → e ≤ n → (∀ j, p ≤ j → j < e → c (B j) = true) → (e = n ∨ ¬ c (B e) = true) → rn c B n p = e := by
  intro d
  induction d with
  | zero =>
    intro p h1 h2 h3 h4 h5
    have : p = e := by omega
    subst this
    rcases h5 with h5 | h5
    · exact rn_end (by omega)
    · exact rn_no h5
  | succ d ih =>
    intro p h1 h2 h3 h4 h5
    rw [rn_in (by omega) (h4 p (Nat.le_refl _) (by omega))]
    exact ih (p + 1) (by omega) (by omega) h3 (fun j j1 j2 => h4 j (by omega) j2) h5
def nS (v x : Int32) : Int32 := cMn 1000000 (10 * v + x - 48)
def nvF (B : Nat → Int32) : Nat → Nat → Int32 → Int32
  | 0, _, v => v
  | f + 1, p, v => if bD (B p) = true then nvF B f (p + 1) (nS v (B p)) else v
/-- what the digits from there on say, going on from v -/
def nv (B : Nat → Int32) (n p : Nat) (v : Int32) : Int32 := nvF B (n - p) p v
theorem nv_in {B : Nat → Int32} {n p : Nat} {v : Int32} (h : p < n) (hc : bD (B p) = true) : nv B n p v = nv B n (p + 1) (nS v (B p)) := by
  unfold nv
  rw [show n - p = (n - (p + 1)) + 1 by omega]
  show (if bD (B p) = true then nvF B (n - (p + 1)) (p + 1) (nS v (B p)) else v) = _
  rw [if_pos hc]
theorem nv_no {B : Nat → Int32} {n p : Nat} {v : Int32} (hc : ¬ bD (B p) = true) : nv B n p v = v := by
  unfold nv
  cases n - p with
  | zero => rfl
  | succ f => exact if_neg hc
theorem nv_end {B : Nat → Int32} {n p : Nat} {v : Int32} (h : n ≤ p) : nv B n p v = v := by
  unfold nv
  rw [show n - p = 0 by omega]; rfl
/-- the nine words -/
def wI (B : Nat → Int32) (s m i : Nat) : Bool := decide (m = px_len.getD i 0 ∧ ∀ j, j < px_len.getD i 0 → B (s + j) = (px_byt.getD i []).getD j 0)
def wId (B : Nat → Int32) (s m : Nat) : Int32 := if wI B s m 0 = true then 1 else if wI B s m 1 = true then 2 else if wI B s m 2 = true then 3 else if wI B s m 3 = true then 4 else if wI B s m 4 = true then 5 else if wI B s m 5 = true then 6 else if wI B s m 6 = true then 7 else if wI B s m 7 = true then 8 else if wI B s m 8 = true then 0 else -1
def tS (B : Nat → Int32) (n p : Nat) : Nat := rn bB B n p
def tE (B : Nat → Int32) (n p : Nat) : Nat := if n ≤ tS B n p then tS B n p else if bL (B (tS B n p)) = true then rn bL B n (tS B n p) else if bD (B (tS B n p)) = true then rn bD B n (tS B n p) else tS B n p + 1
def tK (B : Nat → Int32) (n p : Nat) : Int32 := if n ≤ tS B n p then 0 else if bL (B (tS B n p)) = true then (if rn bL B n (tS B n p) = tS B n p + 1 ∧ 97 ≤ B (tS B n p) ∧ B (tS B n p) ≤ 104 then 2 else if wId B (tS B n p) (rn bL B n (tS B n p) - tS B n p) < 0 then 5 else 1) else if bD (B (tS B n p)) = true then 3 else if B (tS B n p) = 59 ∨ B (tS B n p) = 123 ∨ B (tS B n p) = 125 then 4 else 5
def tV (B : Nat → Int32) (n p : Nat) : Int32 := if bL (B (tS B n p)) = true then (if rn bL B n (tS B n p) = tS B n p + 1 ∧ 97 ≤ B (tS B n p) ∧ B (tS B n p) ≤ 104 then B (tS B n p) - 97 else wId B (tS B n p) (rn bL B n (tS B n p) - tS B n p)) else if bD (B (tS B n p)) = true then nv B n (tS B n p) 0 else B (tS B n p)
theorem t_le {B : Nat → Int32} {n p : Nat} (h : p ≤ n) : p ≤ tS B n p ∧ tS B n p ≤ tE B n p ∧ tE B n p ≤ n ∧ (tK B n p ≠ 0 → tS B n p < tE B n p) ∧ (tK B n p = 0 → tS B n p = n) := by
  have a := rn_b (c := bB) (B := B) h
  have e : tS B n p = rn bB B n p := rfl
  unfold tE tK
  by_cases c : n ≤ tS B n p
  · rw [if_pos c, if_pos c]
    exact ⟨by omega, by omega, by omega, fun q => absurd rfl q, fun _ => by omega⟩
  · rw [if_neg c, if_neg c]
    by_cases cl : bL (B (tS B n p)) = true
    · rw [if_pos cl, if_pos cl]
      have b := rn_b (c := bL) (B := B) (n := n) (p := tS B n p + 1) (by omega)
      rw [← rn_in (by omega) cl] at b
      refine ⟨by omega, by omega, by omega, fun _ => by omega, fun q => absurd q ?_⟩
      split
      · decide
      · split <;> decide
    · rw [if_neg cl, if_neg cl]
      by_cases cd : bD (B (tS B n p)) = true
      · rw [if_pos cd, if_pos cd]
        have b := rn_b (c := bD) (B := B) (n := n) (p := tS B n p + 1) (by omega)
        rw [← rn_in (by omega) cd] at b
        exact ⟨by omega, by omega, by omega, fun _ => by omega, fun q => absurd q (by decide)⟩
      · rw [if_neg cd, if_neg cd]
        refine ⟨by omega, by omega, by omega, fun _ => by omega, fun q => absurd q ?_⟩
        split <;> decide
/-! the words by their letters' numbers -/
def wH (B : Nat → Int32) (s : Nat) : Nat → Int
  | 0 => 0
  | m + 1 => 64 * wH B s m + ((B (s + m)).toInt - 64)
theorem wH_0 {B : Nat → Int32} {s : Nat} : ∀ m, (∀ j, j < m → bL (B (s + j)) = true) → 0 ≤ wH B s m ∧ (1 ≤ m → 1 ≤ wH B s m)
  | 0, _ => ⟨Int.le_refl _, fun q => absurd q (by decide)⟩
  | m + 1, h => by
    have a := wH_0 (B := B) (s := s) m (fun j hj => h j (by omega))
    have b := h m (by omega)
    unfold bL at b
    rw [decide_eq_true_iff] at b
    show 0 ≤ 64 * wH B s m + ((B (s + m)).toInt - 64) ∧ (1 ≤ m + 1 → 1 ≤ 64 * wH B s m + ((B (s + m)).toInt - 64))
    have c : 65 ≤ (B (s + m)).toInt := by
      rcases b with b | b
      · have := Int32.le_iff_toInt_le.mp b.1; rw [show (97 : Int32).toInt = 97 by decide] at this; omega
      · have := Int32.le_iff_toInt_le.mp b.1; rw [show (65 : Int32).toInt = 65 by decide] at this; omega
    omega
/-- the number of a row of letters -/
def lH (l : List Int32) : Int := l.foldl (fun a x => 64 * a + (x.toInt - 64)) 0
theorem wH_eq {B : Nat → Int32} {s : Nat} : ∀ (l : List Int32) (m : Nat), (∀ j, j < m → bL (B (s + j)) = true) → (∀ x ∈ l, bL x = true) → (wH B s m = lH l.reverse.reverse ↔ (m = l.length ∧ ∀ j, j < l.length → B (s + j) = l.getD j 0)) := by
  intro l
  rw [List.reverse_reverse]
  have lB : ∀ {x : Int32}, bL x = true → 65 ≤ x.toInt ∧ x.toInt ≤ 122 := fun {x} b => by
    unfold bL at b
    rw [decide_eq_true_iff] at b
    rcases b with b | b
    · have p := Int32.le_iff_toInt_le.mp b.1; have q := Int32.le_iff_toInt_le.mp b.2
      rw [show (97 : Int32).toInt = 97 by decide] at p; rw [show (122 : Int32).toInt = 122 by decide] at q; omega
    · have p := Int32.le_iff_toInt_le.mp b.1; have q := Int32.le_iff_toInt_le.mp b.2
      rw [show (65 : Int32).toInt = 65 by decide] at p; rw [show (90 : Int32).toInt = 90 by decide] at q; omega
  -- by the last letter
  have key : ∀ (k : Nat) (l : List Int32), l.length = k → ∀ m, (∀ j, j < m → bL (B (s + j)) = true) → (∀ x ∈ l, bL x = true) → (wH B s m = lH l ↔ (m = l.length ∧ ∀ j, j < l.length → B (s + j) = l.getD j 0)) := by
    intro k
    induction k with
    | zero =>
      intro l hl m h1 _
      have e : l = [] := List.length_eq_zero_iff.mp hl
      subst e
      have a := wH_0 m h1
      constructor
      · intro q
        have q : wH B s m = 0 := q
        refine ⟨?_, fun j hj => absurd hj (Nat.not_lt_zero _)⟩
        cases m with
        | zero => rfl
        | succ m => have := a.2 (by omega); omega
      · intro q
        rw [q.1]; rfl
    | succ k ih =>
      intro l hl m h1 h2
      obtain ⟨l0, x, rfl⟩ : ∃ l0 x, l = l0 ++ [x] := by
        refine ⟨l.dropLast, l.getLast (by intro e; rw [e] at hl; exact absurd hl (by simp)), ?_⟩
        exact (List.dropLast_concat_getLast _).symm
      have hl0 : l0.length = k := by simpa using hl
      have hx := lB (h2 x (by simp))
      have eH : lH (l0 ++ [x]) = 64 * lH l0 + (x.toInt - 64) := by unfold lH; rw [List.foldl_append]; rfl
      rw [eH]
      have len : (l0 ++ [x]).length = k + 1 := by simp [hl0]
      rw [len]
      have pos0 : 0 ≤ lH l0 := by
        have h0 : ∀ (l : List Int32) (a : Int), 0 ≤ a → (∀ x ∈ l, bL x = true) → 0 ≤ l.foldl (fun a x => 64 * a + (x.toInt - 64)) a := by
          intro l
          induction l with
          | nil => exact fun a ha _ => ha
          | cons y ys ihl => intro a ha hy; exact ihl _ (by have := lB (hy y (by simp)); show 0 ≤ 64 * a + (y.toInt - 64); omega) (fun z hz => hy z (by simp [hz]))
        exact h0 l0 0 (Int.le_refl _) (fun z hz => h2 z (by simp [hz]))
      cases m with
      | zero =>
        constructor
        · intro q; have q : (0 : Int) = 64 * lH l0 + (x.toInt - 64) := q; omega
        · intro q; exact absurd q.1 (by omega)
      | succ m =>
        have hb := lB (h1 m (by omega))
        have i := ih l0 hl0 m (fun j hj => h1 j (by omega)) (fun z hz => h2 z (by simp [hz]))
        rw [hl0] at i
        have e : wH B s (m + 1) = 64 * wH B s m + ((B (s + m)).toInt - 64) := rfl
        rw [e]
        constructor
        · intro q
          have q1 : wH B s m = lH l0 := by omega
          have q2 : (B (s + m)).toInt = x.toInt := by omega
          obtain ⟨r1, r2⟩ := i.mp q1
          subst r1
          refine ⟨rfl, fun j hj => ?_⟩
          by_cases z : j = m
          · subst z
            have : (l0 ++ [x]).getD j 0 = x := by rw [← hl0]; simp
            rw [this]
            exact Int32.toInt_inj.mp q2
          · have : (l0 ++ [x]).getD j 0 = l0.getD j 0 := by
              simp only [List.getD_eq_getElem?_getD]
              rw [List.getElem?_append_left (by omega)]
            rw [this]
            exact r2 j (by omega)
        · intro q
          have r1 : m = k := by omega
          have q1 : wH B s m = lH l0 := i.mpr ⟨r1, fun j hj => by
            have z := q.2 j (by omega)
            have : (l0 ++ [x]).getD j 0 = l0.getD j 0 := by
              simp only [List.getD_eq_getElem?_getD]
              rw [List.getElem?_append_left (by omega)]
            rw [this] at z; exact z⟩
          have q2 : B (s + m) = x := by
            have z := q.2 m (by omega)
            have : (l0 ++ [x]).getD m 0 = x := by rw [r1, ← hl0]; simp
            rw [this] at z; exact z
          rw [q1, q2]
  exact key l.length l rfl
theorem px_bytL : ∀ i, i < 9 → (px_byt.getD i []).length = px_len.getD i 0 ∧ ∀ x ∈ px_byt.getD i [], bL x = true := by decide
theorem wI_iff {B : Nat → Int32} {s m i : Nat} (hi : i < 9) (h : ∀ j, j < m → bL (B (s + j)) = true) : wI B s m i = true ↔ wH B s m = lH (px_byt.getD i []) := by
  have p := px_bytL i hi
  have q := wH_eq (B := B) (s := s) (px_byt.getD i []) m h p.2
  rw [List.reverse_reverse, p.1] at q
  unfold wI
  rw [decide_eq_true_iff]
  exact q.symm
