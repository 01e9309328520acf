/-! seeking by sound: rows of counts -/
def sm (F : Nat → Nat) : Nat → Nat
  | 0 => 0
  | n + 1 => sm F n + F n
theorem sm_cg {F G : Nat → Nat} : ∀ n, (∀ j, j < n → F j = G j) → sm F n = sm G n
  | 0, _ => rfl
  | n + 1, h => by
    show sm F n + F n = sm G n + G n
    rw [sm_cg n (fun j hj => h j (by omega)), h n (by omega)]
theorem sm_0 {F : Nat → Nat} : ∀ n, (∀ j, j < n → F j = 0) → sm F n = 0
  | 0, _ => rfl
  | n + 1, h => by
    show sm F n + F n = 0
    rw [sm_0 n (fun j hj => h j (by omega)), h n (by omega)]
theorem sm_le {F : Nat → Nat} : ∀ n j, j < n → F j ≤ sm F n
  | 0, j, h => absurd h (Nat.not_lt_zero _)
  | n + 1, j, h => by
    show F j ≤ sm F n + F n
    by_cases e : j = n
    · rw [e]; omega
    · have := sm_le (F := F) n j (by omega); omega
theorem sm_add {F : Nat → Nat} {t v : Nat} : ∀ n, sm (fun j => if j = t then F j + v else F j) n = sm F n + (if t < n then v else 0)
  | 0 => rfl
  | n + 1 => by
    have ih := sm_add (F := F) (t := t) (v := v) n
    show sm (fun j => if j = t then F j + v else F j) n + (if n = t then F n + v else F n) = sm F n + F n + _
    rw [ih]
    by_cases e : n = t
    · rw [if_pos e, if_neg (by omega), if_pos (by omega)]; omega
    · rw [if_neg e]
      by_cases q : t < n
      · rw [if_pos q, if_pos (by omega)]; omega
      · rw [if_neg q, if_neg (by omega)]; omega
theorem sm_sh {F : Nat → Nat} {a : Nat} : ∀ m, sm F (a + m) = sm F a + sm (fun j => F (a + j)) m
  | 0 => rfl
  | m + 1 => by
    show sm F (a + m) + F (a + m) = sm F a + (sm (fun j => F (a + j)) m + F (a + m))
    rw [sm_sh m]; omega
theorem sm_mono {F G : Nat → Nat} : ∀ n, (∀ j, j < n → F j ≤ G j) → sm F n ≤ sm G n
  | 0, _ => Nat.le_refl _
  | n + 1, h => Nat.add_le_add (sm_mono n (fun j hj => h j (by omega))) (h n (by omega))
theorem sm_mul {F : Nat → Nat} {v : Nat} : ∀ n, sm (fun j => F j * v) n = sm F n * v
  | 0 => (Nat.zero_mul v).symm
  | n + 1 => by
    show sm (fun j => F j * v) n + F n * v = (sm F n + F n) * v
    rw [sm_mul n, Nat.add_mul]
/-- a place gives on what it has, to three others, as often as each weighs -/
def yD (c hear pull left : Int32) (w : Nat → Nat) (k : Int32) (s : Nat) (T : Nat → Nat) : Nat → Nat → Nat
  | 0 => T
  | d + 1 => fun j => if j = (pOff hear pull (k + Int32.ofNat d - 1 - c) left + c).toNatClampNeg then yD c hear pull left w k s T d j + s * w d else yD c hear pull left w k s T d j
def yK (c hear pull left : Int32) (w : Nat → Nat) (now T : Nat → Nat) : Nat → Nat → Nat
  | 0 => T
  | m + 1 => yD c hear pull left w (Int32.ofNat (m + 1)) (now (m + 1)) (yK c hear pull left w now T m) 3
def yR (c M : Nat) (hear pull : Int32) (w : Nat → Nat) (n : Nat) (start : Nat → Nat) : Nat → Nat → Nat
  | 0 => start
  | i + 1 => yK (Int32.ofNat c) hear pull (Int32.ofNat (n - 1 - i)) w (yR c M hear pull w n start i) (fun _ => 0) M
theorem yD_z {c hear pull left k : Int32} {w : Nat → Nat} {T : Nat → Nat} : ∀ d, yD c hear pull left w k 0 T d = T
  | 0 => rfl
  | d + 1 => by
    funext j
    show (if j = _ then yD c hear pull left w k 0 T d j + 0 * w d else yD c hear pull left w k 0 T d j) = T j
    rw [yD_z d, Nat.zero_mul, Nat.add_zero]
    split <;> rfl
def yAg (A B : Nat → Nat) : Prop := ∀ j, j ≤ 122 → A j = B (j + 3)
def ySu (B : Nat → Nat) (r : Nat) : Prop := ∀ j, j ≤ 128 → (j + r < 64 ∨ 64 + r < j) → B j = 0
theorem yD_ag {hear pull left : Int32} {w : Nat → Nat} {m s : Nat} {A B : Nat → Nat} (hp : 0 ≤ pull ∧ pull ≤ 3) (hm : m ≤ 120) (hAB : yAg A B) : ∀ d, d ≤ 3 → yAg (yD 61 hear pull left w (Int32.ofNat (m + 1)) s A d) (yD 64 hear pull left w (Int32.ofNat (m + 4)) s B d) := by
  intro d
  induction d with
  | zero => exact fun _ => hAB
  | succ d ih =>
    intro hd
    have ih := ih (by omega)
    obtain ⟨t, -, t1, t2, t3, t4⟩ := xTo (hear := hear) (pull := pull) (left := left) (m := m) (d := d) hp hm (by omega)
    intro j hj
    show (if j = (pOff hear pull (Int32.ofNat (m + 1) + Int32.ofNat d - 1 - 61) left + 61).toNatClampNeg then yD 61 hear pull left w (Int32.ofNat (m + 1)) s A d j + s * w d else yD 61 hear pull left w (Int32.ofNat (m + 1)) s A d j) = (if j + 3 = (pOff hear pull (Int32.ofNat (m + 4) + Int32.ofNat d - 1 - 64) left + 64).toNatClampNeg then yD 64 hear pull left w (Int32.ofNat (m + 4)) s B d (j + 3) + s * w d else yD 64 hear pull left w (Int32.ofNat (m + 4)) s B d (j + 3))
    rw [t1, t2, t4, ← ih j hj]
    by_cases e : j = (t + 61).toNatClampNeg
    · rw [if_pos e, if_pos (by omega)]
    · rw [if_neg e, if_neg (by omega)]
theorem yK_ag {hear pull left : Int32} {w : Nat → Nat} {A B TA TB : Nat → Nat} (hp : 0 ≤ pull ∧ pull ≤ 3) (hAB : yAg A B) (hT : yAg TA TB) (h1 : B 1 = 0 ∧ B 2 = 0 ∧ B 3 = 0) : ∀ m, m ≤ 121 → yAg (yK 61 hear pull left w A TA m) (yK 64 hear pull left w B TB (m + 3)) := by
  intro m
  induction m with
  | zero =>
    intro _
    have z : yK 64 hear pull left w B TB 3 = TB := by
      show yD 64 hear pull left w (Int32.ofNat 3) (B 3) (yD 64 hear pull left w (Int32.ofNat 2) (B 2) (yD 64 hear pull left w (Int32.ofNat 1) (B 1) TB 3) 3) 3 = TB
      rw [h1.1, h1.2.1, h1.2.2, yD_z, yD_z, yD_z]
    show yAg TA (yK 64 hear pull left w B TB 3)
    rw [z]; exact hT
  | succ m ih =>
    intro hm
    have ih := ih (by omega)
    have e : A (m + 1) = B (m + 4) := hAB (m + 1) (by omega)
    show yAg (yD 61 hear pull left w (Int32.ofNat (m + 1)) (A (m + 1)) (yK 61 hear pull left w A TA m) 3) (yD 64 hear pull left w (Int32.ofNat (m + 4)) (B (m + 4)) (yK 64 hear pull left w B TB (m + 3)) 3)
    rw [e]
    exact yD_ag hp (by omega) ih 3 (by omega)
theorem yD_su {hear pull left : Int32} {w : Nat → Nat} {m r s : Nat} {B : Nat → Nat} (hp : 0 ≤ pull ∧ pull ≤ 3) (hr : r ≤ 60) (hm : m ≤ 200) (hk : s ≠ 0 → 64 ≤ m + r ∧ m ≤ 64 + r) (hB : ySu B (r + 1)) : ∀ d, d ≤ 3 → ySu (yD 64 hear pull left w (Int32.ofNat m) s B d) (r + 1) := by
  by_cases z : s = 0
  · intro d _
    rw [z, yD_z]; exact hB
  have hk := hk z
  intro d
  induction d with
  | zero => exact fun _ => hB
  | succ d ih =>
    intro hd
    have ih := ih (by omega)
    have a : (Int32.ofNat m + Int32.ofNat d).toInt = m + d := by rw [Int32.toInt_add, px_on2 (by omega), px_on2 (by omega), Int.bmod_eq_of_le (by omega) (by omega)]
    have b : (Int32.ofNat m + Int32.ofNat d - 1).toInt = m + d - 1 := by rw [Int32.toInt_sub, a, show (1 : Int32).toInt = 1 by decide, Int.bmod_eq_of_le (by omega) (by omega)]
    have v1 : (Int32.ofNat m + Int32.ofNat d - 1 - 64).toInt = m + d - 65 := by
      rw [Int32.toInt_sub, b, show (64 : Int32).toInt = 64 by decide, Int.bmod_eq_of_le (by omega) (by omega)]
      omega
    have bd := pOff_r (hear := hear) (left := left) (v := Int32.ofNat m + Int32.ofNat d - 1 - 64) (r := (r : Int) + 1) hp (by omega) (by rw [v1]; omega)
    intro j hj ho
    show (if j = (pOff hear pull (Int32.ofNat m + Int32.ofNat d - 1 - 64) left + 64).toNatClampNeg then yD 64 hear pull left w (Int32.ofNat m) s B d j + s * w d else yD 64 hear pull left w (Int32.ofNat m) s B d j) = 0
    generalize hT : pOff hear pull (Int32.ofNat m + Int32.ofNat d - 1 - 64) left = T at bd
    have t2 : (T + 64).toInt = T.toInt + 64 := by rw [Int32.toInt_add, show (64 : Int32).toInt = 64 by decide, Int.bmod_eq_of_le (by omega) (by omega)]
    have ne : ¬ j = (T + 64).toNatClampNeg := by
      show ¬ j = (T + 64).toInt.toNat
      omega
    rw [if_neg ne]; exact ih j hj ho
theorem yK_su {hear pull left : Int32} {w : Nat → Nat} {r : Nat} {B T : Nat → Nat} (hp : 0 ≤ pull ∧ pull ≤ 3) (hr : r ≤ 60) (hB : ySu B r) (hT : ∀ j, j ≤ 128 → T j = 0) : ∀ m, m ≤ 128 → ySu (yK 64 hear pull left w B T m) (r + 1) := by
  intro m
  induction m with
  | zero => exact fun _ j hj _ => hT j hj
  | succ m ih =>
    intro hm
    have ih := ih (by omega)
    show ySu (yD 64 hear pull left w (Int32.ofNat (m + 1)) (B (m + 1)) (yK 64 hear pull left w B T m) 3) (r + 1)
    refine yD_su hp hr (by omega) (fun c => ?_) ih 3 (by omega)
    constructor
    · apply Classical.byContradiction; intro q; exact c (hB (m + 1) hm (by omega))
    · apply Classical.byContradiction; intro q; exact c (hB (m + 1) hm (by omega))
theorem yK_top {c hear pull left : Int32} {w : Nat → Nat} {B T : Nat → Nat} {a : Nat} (z1 : B (a + 1) = 0) (z2 : B (a + 2) = 0) (z3 : B (a + 3) = 0) : yK c hear pull left w B T (a + 3) = yK c hear pull left w B T a := by
  show yD c hear pull left w (Int32.ofNat (a + 3)) (B (a + 3)) (yD c hear pull left w (Int32.ofNat (a + 2)) (B (a + 2)) (yD c hear pull left w (Int32.ofNat (a + 1)) (B (a + 1)) (yK c hear pull left w B T a) 3) 3) 3 = _
  rw [z1, z2, z3, yD_z, yD_z, yD_z]
theorem yR_ag {hear pull : Int32} {w : Nat → Nat} {n a : Nat} {A B : Nat → Nat} (ha : a = 121) (hp : 0 ≤ pull ∧ pull ≤ 3) (hAB : yAg A B) (hB : ySu B 20) : ∀ i, i ≤ 40 → yAg (yR 61 a hear pull w n A i) (yR 64 (a + 3 + 3) hear pull w n B i) ∧ ySu (yR 64 (a + 3 + 3) hear pull w n B i) (20 + i) := by
  intro i
  induction i with
  | zero => exact fun _ => ⟨hAB, hB⟩
  | succ i ih =>
    intro hi
    obtain ⟨i1, i2⟩ := ih (by omega)
    have c61 : Int32.ofNat 61 = 61 := rfl
    have c64 : Int32.ofNat 64 = 64 := rfl
    have z : ∀ k, (k ≤ 3 ∨ 125 ≤ k) → k ≤ 127 → yR 64 (a + 3 + 3) hear pull w n B i k = 0 := fun k k1 k2 => i2 k (by omega) (by omega)
    refine ⟨?_, ?_⟩
    · show yAg (yK (Int32.ofNat 61) hear pull (Int32.ofNat (n - 1 - i)) w (yR 61 a hear pull w n A i) (fun _ => 0) a) (yK (Int32.ofNat 64) hear pull (Int32.ofNat (n - 1 - i)) w (yR 64 (a + 3 + 3) hear pull w n B i) (fun _ => 0) (a + 3 + 3))
      rw [c61, c64, yK_top (z _ (by omega) (by omega)) (z _ (by omega) (by omega)) (z _ (by omega) (by omega))]
      exact yK_ag (TA := fun _ => 0) (TB := fun _ => 0) hp i1 (fun _ _ => rfl) ⟨z 1 (by omega) (by omega), z 2 (by omega) (by omega), z 3 (by omega) (by omega)⟩ a (by omega)
    · show ySu (yK (Int32.ofNat 64) hear pull (Int32.ofNat (n - 1 - i)) w (yR 64 (a + 3 + 3) hear pull w n B i) (fun _ => 0) (a + 3 + 3)) (20 + i + 1)
      rw [c64]
      exact yK_su hp (by omega) i2 (fun _ _ => rfl) (a + 3 + 3) (by omega)
/-- the sum stays the weights' power -/
theorem yD_sm {hear pull left : Int32} {w : Nat → Nat} {m s : Nat} {B : Nat → Nat} (hp : 0 ≤ pull ∧ pull ≤ 3) (h1 : 1 ≤ m) (hm : m ≤ 127) : sm (yD 64 hear pull left w (Int32.ofNat m) s B 3) 129 = sm B 129 + s * (w 0 + w 1 + w 2) := by
  have st : ∀ d, d < 3 → sm (yD 64 hear pull left w (Int32.ofNat m) s B (d + 1)) 129 = sm (yD 64 hear pull left w (Int32.ofNat m) s B d) 129 + s * w d := fun d hd => by
    have v := xVb (hear := hear) (left := left) (m := m) (d := d) hp h1 hm hd
    have t : (pOff hear pull (Int32.ofNat m + Int32.ofNat d - 1 - 64) left + 64).toNatClampNeg < 129 := by
      have e : (pOff hear pull (Int32.ofNat m + Int32.ofNat d - 1 - 64) left + 64).toInt = (pOff hear pull (Int32.ofNat m + Int32.ofNat d - 1 - 64) left).toInt + 64 := by rw [Int32.toInt_add, show (64 : Int32).toInt = 64 by decide, Int.bmod_eq_of_le (by omega) (by omega)]
      show (pOff hear pull (Int32.ofNat m + Int32.ofNat d - 1 - 64) left + 64).toInt.toNat < 129
      omega
    have q := sm_add (F := yD 64 hear pull left w (Int32.ofNat m) s B d) (t := (pOff hear pull (Int32.ofNat m + Int32.ofNat d - 1 - 64) left + 64).toNatClampNeg) (v := s * w d) 129
    rw [if_pos t] at q
    exact q
  rw [st 2 (by omega), st 1 (by omega), st 0 (by omega), Nat.mul_add, Nat.mul_add]
  show sm B 129 + s * w 0 + s * w 1 + s * w 2 = _
  omega
theorem yK_sm {hear pull left : Int32} {w : Nat → Nat} {A T : Nat → Nat} (hp : 0 ≤ pull ∧ pull ≤ 3) : ∀ m, m ≤ 127 → sm (yK 64 hear pull left w A T m) 129 = sm T 129 + sm (fun j => A (1 + j)) m * (w 0 + w 1 + w 2) := by
  intro m
  induction m with
  | zero => intro _; show sm T 129 = sm T 129 + 0 * _; omega
  | succ m ih =>
    intro hm
    show sm (yD 64 hear pull left w (Int32.ofNat (m + 1)) (A (m + 1)) (yK 64 hear pull left w A T m) 3) 129 = sm T 129 + (sm (fun j => A (1 + j)) m + A (1 + m)) * (w 0 + w 1 + w 2)
    rw [yD_sm hp (by omega) hm, ih (by omega), Nat.add_mul, Nat.add_comm 1 m]
    omega
theorem yR_sm {hear pull : Int32} {w : Nat → Nat} {n : Nat} {B : Nat → Nat} (hp : 0 ≤ pull ∧ pull ≤ 3) (hB : ySu B 20) (h1 : sm B 129 = 1) : ∀ i, i ≤ 40 → sm (yR 64 127 hear pull w n B i) 129 = (w 0 + w 1 + w 2) ^ i := by
  intro i
  induction i with
  | zero => intro _; exact h1
  | succ i ih =>
    intro hi
    have ih := ih (by omega)
    have su := (yR_ag (hear := hear) (w := w) (n := n) (a := 121) (A := fun j => B (j + 3)) rfl hp (fun _ _ => rfl) hB i (by omega)).2
    have su' : ySu (yR 64 127 hear pull w n B i) (20 + i) := su
    have c64 : Int32.ofNat 64 = 64 := rfl
    show sm (yK (Int32.ofNat 64) hear pull (Int32.ofNat (n - 1 - i)) w (yR 64 127 hear pull w n B i) (fun _ => 0) 127) 129 = _
    rw [c64, yK_sm hp 127 (by omega), sm_0 129 (fun _ _ => rfl), Nat.zero_add, Nat.pow_succ]
    have key : sm (fun j => yR 64 127 hear pull w n B i (1 + j)) 127 = (w 0 + w 1 + w 2) ^ i := by
      rw [← ih]
      have e := sm_sh (F := yR 64 127 hear pull w n B i) (a := 1) 128
      have e0 : sm (yR 64 127 hear pull w n B i) 1 = 0 := by
        show 0 + yR 64 127 hear pull w n B i 0 = 0
        rw [su' 0 (by omega) (by omega)]
      have e1 : sm (fun j => yR 64 127 hear pull w n B i (1 + j)) 128 = sm (fun j => yR 64 127 hear pull w n B i (1 + j)) 127 + yR 64 127 hear pull w n B i 128 := rfl
      rw [su' 128 (by omega) (by omega)] at e1
      rw [show (1 + 128 : Nat) = 129 by rfl] at e
      omega
    rw [key]
theorem yD_cg {c hear pull left k : Int32} {w : Nat → Nat} {s N : Nat} {T T' : Nat → Nat} (hT : ∀ j, j ≤ N → T j = T' j) : ∀ d j, j ≤ N → yD c hear pull left w k s T d j = yD c hear pull left w k s T' d j := by
  intro d
  induction d with
  | zero => exact hT
  | succ d ih =>
    intro j hj
    show (if j = _ then yD c hear pull left w k s T d j + s * w d else yD c hear pull left w k s T d j) = (if j = _ then yD c hear pull left w k s T' d j + s * w d else yD c hear pull left w k s T' d j)
    rw [ih j hj]
theorem yK_cg {c hear pull left : Int32} {w : Nat → Nat} {N : Nat} {A A' T T' : Nat → Nat} (hA : ∀ j, j ≤ N → A j = A' j) (hT : ∀ j, j ≤ N → T j = T' j) : ∀ m, m ≤ N → ∀ j, j ≤ N → yK c hear pull left w A T m j = yK c hear pull left w A' T' m j := by
  intro m
  induction m with
  | zero => exact fun _ => hT
  | succ m ih =>
    intro hm j hj
    show yD c hear pull left w (Int32.ofNat (m + 1)) (A (m + 1)) (yK c hear pull left w A T m) 3 j = yD c hear pull left w (Int32.ofNat (m + 1)) (A' (m + 1)) (yK c hear pull left w A' T' m) 3 j
    rw [hA (m + 1) hm]
    exact yD_cg (ih (by omega)) 3 j hj
theorem yD_w {c hear pull left k : Int32} {w w' : Nat → Nat} {s : Nat} {T : Nat → Nat} (hw : ∀ d, d < 3 → w d = w' d) : ∀ d, d ≤ 3 → yD c hear pull left w k s T d = yD c hear pull left w' k s T d := by
  intro d
  induction d with
  | zero => exact fun _ => rfl
  | succ d ih =>
    intro hd
    funext j
    show (if j = _ then yD c hear pull left w k s T d j + s * w d else yD c hear pull left w k s T d j) = (if j = _ then yD c hear pull left w' k s T d j + s * w' d else yD c hear pull left w' k s T d j)
    rw [hw d (by omega), ih (by omega)]
theorem yK_w {c hear pull left : Int32} {w w' : Nat → Nat} {A T : Nat → Nat} (hw : ∀ d, d < 3 → w d = w' d) : ∀ m, yK c hear pull left w A T m = yK c hear pull left w' A T m := by
  intro m
  induction m with
  | zero => rfl
  | succ m ih =>
    show yD c hear pull left w (Int32.ofNat (m + 1)) (A (m + 1)) (yK c hear pull left w A T m) 3 = yD c hear pull left w' (Int32.ofNat (m + 1)) (A (m + 1)) (yK c hear pull left w' A T m) 3
    rw [ih, yD_w hw 3 (by omega)]
theorem yR_w {c M : Nat} {hear pull : Int32} {w w' : Nat → Nat} {n : Nat} {B : Nat → Nat} (hw : ∀ d, d < 3 → w d = w' d) : ∀ i, yR c M hear pull w n B i = yR c M hear pull w' n B i := by
  intro i
  induction i with
  | zero => rfl
  | succ i ih =>
    show yK (Int32.ofNat c) hear pull (Int32.ofNat (n - 1 - i)) w (yR c M hear pull w n B i) (fun _ => 0) M = yK (Int32.ofNat c) hear pull (Int32.ofNat (n - 1 - i)) w' (yR c M hear pull w' n B i) (fun _ => 0) M
    rw [ih, yK_w hw]
/-- the common divisor by divisions -/
def cG : Nat → Nat → Nat → Nat
  | 0, a, _ => a
  | f + 1, a, b => if b = 0 then a else cG f b (a % b)
theorem cG_gcd : ∀ k f a b, b < 2 ^ k → 2 * k ≤ f → cG f a b = Nat.gcd a b := by
  have st : ∀ f a b, b ≠ 0 → cG (f + 1) a b = cG f b (a % b) := fun f a b h => if_neg h
  have ze : ∀ f a, cG f a 0 = a := fun f a => by cases f with
    | zero => rfl
    | succ f => exact if_pos rfl
  have ng : ∀ a b : Nat, Nat.gcd b (a % b) = Nat.gcd a b := fun a b => by rw [Nat.gcd_comm, ← Nat.gcd_rec, Nat.gcd_comm]
  intro k
  induction k with
  | zero =>
    intro f a b hb _
    have : b = 0 := by simpa using hb
    rw [this, ze, Nat.gcd_zero_right]
  | succ k ih =>
    intro f a b hb hf
    by_cases z : b = 0
    · rw [z, ze, Nat.gcd_zero_right]
    · obtain ⟨g, rfl⟩ : ∃ g, f = g + 1 + 1 := ⟨f - 2, by omega⟩
      rw [st _ _ _ z]
      by_cases y : a % b = 0
      · rw [y, ze, ← ng, y, Nat.gcd_zero_right]
      · rw [st _ _ _ y, ih _ _ _ ?_ (by omega), ng, ng]
        have l1 : a % b < b := Nat.mod_lt _ (by omega)
        have l2 : b % (a % b) < a % b := Nat.mod_lt _ (by omega)
        have l3 : b % (a % b) + a % b ≤ b := by
          have d := Nat.div_add_mod b (a % b)
          have q : 1 ≤ b / (a % b) := (Nat.le_div_iff_mul_le (by omega)).mpr (by omega)
          have m := Nat.mul_le_mul_left (a % b) q
          omega
        rw [Nat.pow_succ] at hb
        omega
/-! counts as longs -/
theorem x64_n {a : Nat} (h : a < 2 ^ 63) : (Int64.ofNat a).toInt = a := Int64.toInt_ofNat_of_lt h
theorem x64_add (a b : Nat) : Int64.ofNat a + Int64.ofNat b = Int64.ofNat (a + b) := by
  apply Int64.toInt_inj.mp
  rw [Int64.toInt_add, Int64.toInt_ofNat', Int64.toInt_ofNat', Int64.toInt_ofNat']
  simp
theorem x64_mul (a b : Nat) : Int64.ofNat a * Int64.ofNat b = Int64.ofNat (a * b) := by
  apply Int64.toInt_inj.mp
  rw [Int64.toInt_mul, Int64.toInt_ofNat', Int64.toInt_ofNat', Int64.toInt_ofNat']
  simp
theorem x64_w {x : Int32} (h : 0 ≤ x) : x.toInt64 = Int64.ofNat x.toNatClampNeg := by
  have a := xnat h
  have b := Int32.toInt_lt x
  apply Int64.toInt_inj.mp
  rw [Int32.toInt_toInt64, x64_n (by omega)]
  omega
theorem x64_0 {a : Nat} (h : a < 2 ^ 63) : Int64.ofNat a ≤ 0 ↔ a = 0 := by
  rw [Int64.le_iff_toInt_le, x64_n h, show (0 : Int64).toInt = 0 by decide]
  omega
theorem x64_e {a : Nat} (h : a < 2 ^ 63) : Int64.ofNat a = 0 ↔ a = 0 := by
  rw [← Int64.toInt_inj, x64_n h, show (0 : Int64).toInt = 0 by decide]
  omega
theorem x64_mod {p q : Nat} {x y : Int64} (hp : p < 2 ^ 63) (hq : q < 2 ^ 63) (h : ¬ x = 0) (hx : x = Int64.ofNat p) (hy : y = Int64.ofNat q) : y - y / x * x = Int64.ofNat (q % p) := by
  have l : q % p < 2 ^ 63 := Nat.lt_of_le_of_lt (Nat.mod_le _ _) hq
  apply Int64.toInt_inj.mp
  rw [px_lr h, hx, hy, x64_n hp, x64_n hq, x64_n l]
  rw [Int.tmod_eq_emod_of_nonneg (by omega)]; omega
theorem xsi {P : Nat → Prop} (h : ∀ p, (∀ q, q < p → P q) → P p) : ∀ p, P p := fun p => Nat.strongRecOn p h
theorem xng (q p : Nat) : Nat.gcd p (q % p) = Nat.gcd q p := by rw [Nat.gcd_comm, ← Nat.gcd_rec, Nat.gcd_comm]
def sAns (A M : Nat) (lo : Int32) : Int64 := if lo = 0 then Int64.ofNat M / Int64.ofNat (Nat.gcd A M) else Int64.ofNat A / Int64.ofNat (Nat.gcd A M)
/-- the first row -/
def y0 (c o : Int32) (j : Nat) : Nat := if j = (o + c).toNatClampNeg then 1 else 0
theorem y0_x {c o : Int32} {j : Nat} : x0 c o 0 1 j = Int64.ofNat (y0 c o j) := by
  unfold x0 y0
  split <;> rfl
theorem y0_ag {o : Int32} (ho : -20 ≤ o ∧ o ≤ 20) : yAg (y0 61 o) (y0 64 o) ∧ ySu (y0 64 o) 20 ∧ sm (y0 64 o) 129 = 1 := by
  have a := Int32.le_iff_toInt_le.mp ho.1
  have b := Int32.le_iff_toInt_le.mp ho.2
  rw [show (-20 : Int32).toInt = -20 by decide] at a
  rw [show (20 : Int32).toInt = 20 by decide] at b
  have e1 : (o + 61).toInt = o.toInt + 61 := by rw [Int32.toInt_add, show (61 : Int32).toInt = 61 by decide, Int.bmod_eq_of_le (by omega) (by omega)]
  have e2 : (o + 64).toInt = o.toInt + 64 := by rw [Int32.toInt_add, show (64 : Int32).toInt = 64 by decide, Int.bmod_eq_of_le (by omega) (by omega)]
  have f1 : ((o + 61).toNatClampNeg : Int) = o.toInt + 61 := by rw [← e1]; show (((o + 61).toInt.toNat : Nat) : Int) = _; omega
  have f2 : ((o + 64).toNatClampNeg : Int) = o.toInt + 64 := by rw [← e2]; show (((o + 64).toInt.toNat : Nat) : Int) = _; omega
  refine ⟨fun j _ => ?_, fun j _ hj => ?_, ?_⟩
  · unfold y0
    by_cases q : j = (o + 61).toNatClampNeg
    · rw [if_pos q, if_pos (by omega)]
    · rw [if_neg q, if_neg (by omega)]
  · unfold y0
    rw [if_neg (by omega)]
  · have q := sm_add (F := fun _ => 0) (t := (o + 64).toNatClampNeg) (v := 1) 129
    rw [sm_0 129 (fun _ _ => rfl), if_pos (by omega)] at q
    rw [← show 0 + 1 = 1 by rfl, ← q]
    refine sm_cg _ (fun j _ => ?_)
    unfold y0
    split <;> rfl
theorem y_pow {S i : Nat} (h1 : 1 ≤ S) (h2 : S ≤ 27) (hi : i ≤ 12) : 1 ≤ S ^ i ∧ S ^ i < 2 ^ 63 := by
  refine ⟨Nat.one_le_pow _ _ h1, ?_⟩
  have a : S ^ i ≤ 27 ^ i := Nat.pow_le_pow_left h2 i
  have b : 27 ^ i ≤ 27 ^ 12 := Nat.pow_le_pow_right (by decide) hi
  have c : (27 : Nat) ^ 12 < 2 ^ 63 := by decide
  omega
/-- all that is wanted of both rows -/
theorem yR_all {hear pull o : Int32} {w : Nat → Nat} {n : Nat} (hp : 0 ≤ pull ∧ pull ≤ 3) (ho : -20 ≤ o ∧ o ≤ 20) (h1 : 1 ≤ w 0 + w 1 + w 2) (h2 : w 0 + w 1 + w 2 ≤ 27) : ∀ i, i ≤ 12 → (∀ j, j ≤ 128 → yR 64 127 hear pull w n (y0 64 o) i j < 2 ^ 63) ∧ sm (yR 64 127 hear pull w n (y0 64 o) i) 129 = (w 0 + w 1 + w 2) ^ i ∧ (∀ j, j ≤ 122 → yR 61 121 hear pull w n (y0 61 o) i j = yR 64 127 hear pull w n (y0 64 o) i (j + 3)) ∧ (∀ j, j ≤ 128 → (j < 32 ∨ 96 < j) → yR 64 127 hear pull w n (y0 64 o) i j = 0) := by
  intro i hi
  obtain ⟨x1, x2, x3⟩ := y0_ag ho
  have s := yR_sm (hear := hear) (w := w) (n := n) hp x2 x3 i (by omega)
  have q := y_pow (i := i) h1 h2 hi
  have g := yR_ag (hear := hear) (w := w) (n := n) (a := 121) rfl hp x1 x2 i (by omega)
  refine ⟨fun j hj => ?_, s, g.1, fun j hj ho => g.2 j hj (by omega)⟩
  have := sm_le (F := yR 64 127 hear pull w n (y0 64 o) i) 129 j (by omega)
  omega
theorem sm_three {F G : Nat → Nat} (h : ∀ j, j ≤ 122 → F j = G (j + 3)) (z : ∀ j, j ≤ 128 → (j < 32 ∨ 96 < j) → G j = 0) : sm F 123 = sm G 129 := by
  have e := sm_sh (F := G) (a := 3) 123
  have z1 : sm G 3 = 0 := sm_0 3 (fun j hj => z j (by omega) (by omega))
  have z2 : sm (fun j => G (3 + j)) 123 = sm F 123 := sm_cg 123 (fun j hj => by rw [h j (by omega), Nat.add_comm])
  have z3 := sm_sh (F := G) (a := 126) 3
  have z4 : sm (fun j => G (126 + j)) 3 = 0 := sm_0 3 (fun j hj => z (126 + j) (by omega) (by omega))
  rw [show (3 + 123 : Nat) = 126 by rfl, z1, z2] at e
  rw [show (126 + 3 : Nat) = 129 by rfl, z4, e] at z3
  omega
def oF (c W : Nat) (F : Nat → Nat) (j : Nat) : Nat := if j + W < c ∨ c + W < j then F j else 0
theorem oF_le {c W : Nat} {F : Nat → Nat} (n : Nat) : sm (oF c W F) n ≤ sm F n := sm_mono n (fun j _ => by unfold oF; split <;> omega)
theorem oF_three {F G : Nat → Nat} {W : Nat} (h : ∀ j, j ≤ 122 → F j = G (j + 3)) (z : ∀ j, j ≤ 128 → (j < 32 ∨ 96 < j) → G j = 0) : sm (oF 61 W F) 123 = sm (oF 64 W G) 129 := by
  refine sm_three (fun j hj => ?_) (fun j hj ho => ?_)
  · unfold oF
    rw [h j hj]
    by_cases c : j + W < 61 ∨ 61 + W < j
    · rw [if_pos c, if_pos (by omega)]
    · rw [if_neg c, if_neg (by omega)]
  · unfold oF
    rw [z j hj ho]
    split <;> rfl
theorem yD_put {c hear pull left k : Int32} {w : Nat → Nat} {s N b : Nat} {T : Nat → Nat} {d x t : Int32} {v : Int64} {L1 : px_L} (h0 : 0 ≤ d) (hd : d < 3) (hF : ∀ j, j ≤ N → L1 b j = Int64.ofNat (yD c hear pull left w k s T d.toNatClampNeg j)) (hx : x = pOff hear pull (k + d - 1 - c) left) (ht : t = x + c) (hN : t.toNatClampNeg ≤ N) (hv : v = L1 b t.toNatClampNeg + Int64.ofNat (s * w d.toNatClampNeg)) : ∀ j, j ≤ N → px_u L1 b t.toNatClampNeg v b j = Int64.ofNat (yD c hear pull left w k s T (d + 1).toNatClampNeg j) := by
  have ed := px_tnS (i := d) h0 (by grind)
  intro j hj
  rw [px_ur, if_pos rfl, ed.1]
  show _ = Int64.ofNat (if j = (pOff hear pull (k + Int32.ofNat d.toNatClampNeg - 1 - c) left + c).toNatClampNeg then yD c hear pull left w k s T d.toNatClampNeg j + s * w d.toNatClampNeg else yD c hear pull left w k s T d.toNatClampNeg j)
  rw [ed.2, ← hx, ← ht]
  by_cases e : j = t.toNatClampNeg
  · rw [if_pos e, if_pos e, hv, e, hF _ hN, x64_add]
  · rw [if_neg e, if_neg e, hF j hj]
theorem yK_S {c hear pull left : Int32} {w : Nat → Nat} {k : Int32} {A T : Nat → Nat} (h1 : 1 ≤ k) (hk : ¬ 1000 ≤ k) : yD c hear pull left w k (A k.toNatClampNeg) (yK c hear pull left w A T (k.toNatClampNeg - 1)) 3 = yK c hear pull left w A T ((k + 1).toNatClampNeg - 1) := by
  have e := px_tnS (Int32.le_trans (by decide : (0 : Int32) ≤ 1) h1) hk
  have a := xnat (Int32.le_trans (by decide : (0 : Int32) ≤ 1) h1)
  have b := Int32.le_iff_toInt_le.mp h1
  rw [show (1 : Int32).toInt = 1 by decide] at b
  obtain ⟨m, hm⟩ : ∃ m, k.toNatClampNeg = m + 1 := ⟨k.toNatClampNeg - 1, by omega⟩
  have ek : Int32.ofNat (m + 1) = k := by rw [← hm]; exact e.2
  rw [e.1, hm, show m + 1 + 1 - 1 = m + 1 by omega, show m + 1 - 1 = m by omega]
  show _ = yD c hear pull left w (Int32.ofNat (m + 1)) (A (m + 1)) (yK c hear pull left w A T m) 3
  rw [ek]
theorem yR_S {c hear pull left : Int32} {C M N : Nat} {w : Nat → Nat} {n : Nat} {B0 F : Nat → Nat} (hc : Int32.ofNat C = c) (hM : M ≤ N) (h0 : 0 ≤ left) (hl : left.toNatClampNeg < n) (h1 : ¬ 1000 ≤ left) (hF : ∀ j, j ≤ N → F j = yR C M hear pull w n B0 (n - (left + 1).toNatClampNeg) j) : ∀ j, j ≤ N → yK c hear pull left w F (fun _ => 0) M j = yR C M hear pull w n B0 (n - (left + -1 + 1).toNatClampNeg) j := by
  have e := px_tnS h0 h1
  rw [e.1] at hF
  rw [show left + -1 + 1 = left by grind, show n - left.toNatClampNeg = (n - (left.toNatClampNeg + 1)) + 1 by omega]
  intro j hj
  show _ = yK (Int32.ofNat C) hear pull (Int32.ofNat (n - 1 - (n - (left.toNatClampNeg + 1)))) w (yR C M hear pull w n B0 (n - (left.toNatClampNeg + 1))) (fun _ => 0) M j
  rw [show n - 1 - (n - (left.toNatClampNeg + 1)) = left.toNatClampNeg by omega, e.2, hc]
  exact yK_cg (N := N) hF (fun _ _ => rfl) M hM j hj
theorem x12 {a : Int32} (h : 1 ≤ a ∧ a ≤ 12) : 1 ≤ a.toNatClampNeg ∧ a.toNatClampNeg ≤ 12 ∧ (a - 1 + 1).toNatClampNeg = a.toNatClampNeg := by
  have a1 := xnat (x := a) (by grind)
  have a2 := Int32.le_iff_toInt_le.mp h.1
  have a3 := Int32.le_iff_toInt_le.mp h.2
  rw [show (1 : Int32).toInt = 1 by decide] at a2
  rw [show (12 : Int32).toInt = 12 by decide] at a3
  exact ⟨by omega, by omega, by rw [show a - 1 + 1 = a by grind]⟩
theorem sm_up {F : Nat → Nat} {k : Int32} (h0 : 0 ≤ k) (hk : ¬ 1000 ≤ k) : sm F (k + 1).toNatClampNeg = sm F k.toNatClampNeg + F k.toNatClampNeg := by
  rw [(px_tnS h0 hk).1]; rfl
