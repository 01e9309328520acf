/-! seeking by sound: both rows of places say the same (clean up to xK_su; xK_top and xR_ag written anew, not yet tried) -/
def pOff (hear pull v left : Int32) : Int32 := if left ≤ hear then (if 0 < v then (if pull < v then v - pull else 0) else (if v < 0 - pull then v + pull else 0)) else v
def aV (v : Int32) : Int32 := if v < 0 then 0 - v else v
theorem pOff_r {hear pull v left : Int32} {r : Int} (hp : 0 ≤ pull ∧ pull ≤ 3) (hr : 0 ≤ r ∧ r ≤ 100) (hv : -r ≤ v.toInt ∧ v.toInt ≤ r) : -r ≤ (pOff hear pull v left).toInt ∧ (pOff hear pull v left).toInt ≤ r := by
  have p1 := Int32.le_iff_toInt_le.mp hp.1
  have p2 := Int32.le_iff_toInt_le.mp hp.2
  rw [show (0 : Int32).toInt = 0 by decide] at p1
  rw [show (3 : Int32).toInt = 3 by decide] at p2
  have n1 : (0 - pull).toInt = -pull.toInt := by rw [Int32.toInt_sub, show (0 : Int32).toInt = 0 by decide, Int.bmod_eq_of_le (by omega) (by omega)]; omega
  have s1 : (v - pull).toInt = v.toInt - pull.toInt := by rw [Int32.toInt_sub, Int.bmod_eq_of_le (by omega) (by omega)]
  have s2 : (v + pull).toInt = v.toInt + pull.toInt := by rw [Int32.toInt_add, Int.bmod_eq_of_le (by omega) (by omega)]
  have z : (0 : Int32).toInt = 0 := by decide
  unfold pOff
  split
  · split
    · split
      · rename_i c; have c := Int32.lt_iff_toInt_lt.mp c; rw [s1]; omega
      · rw [z]; omega
    · split
      · rename_i c; have c := Int32.lt_iff_toInt_lt.mp c; rw [n1] at c; rw [s2]; omega
      · rw [z]; omega
  · exact hv
theorem pOff_in {hear pull v left : Int32} (hp : 0 ≤ pull ∧ pull ≤ 3) (hv : -61 ≤ v.toInt ∧ v.toInt ≤ 61) : -61 ≤ (pOff hear pull v left).toInt ∧ (pOff hear pull v left).toInt ≤ 61 := pOff_r (r := 61) hp (by omega) hv
/-- a place gives on what it has, to three others -/
def xD (c hear pull left h : Int32) (w : Nat → Int32) (k : Int32) (s : Int64) (T : Nat → Int64) : Nat → Nat → Int64
  | 0 => T
  | d + 1 => if 0 < w d then (fun j => if j = (pOff hear pull (k + Int32.ofNat d - 1 - c) left + c).toNatClampNeg then cBet (xD c hear pull left h w k s T d j) (s + (aV (pOff hear pull (k + Int32.ofNat d - 1 - c) left)).toInt64) h else xD c hear pull left h w k s T d j) else xD c hear pull left h w k s T d
/-- places 1 .. m, one after the other -/
def xK (c hear pull left h : Int32) (w : Nat → Int32) (now T : Nat → Int64) : Nat → Nat → Int64
  | 0 => T
  | m + 1 => if now (m + 1) = -1 then xK c hear pull left h w now T m else xD c hear pull left h w (Int32.ofNat (m + 1)) (now (m + 1)) (xK c hear pull left h w now T m) 3
def xAg (A B : Nat → Int64) : Prop := ∀ j, j ≤ 122 → A j = B (j + 3)
def xSu (B : Nat → Int64) (r : Nat) : Prop := ∀ j, j ≤ 128 → (j + r < 64 ∨ 64 + r < j) → B j = -1
theorem px_on2 {m : Nat} (h : m ≤ 1000) : (Int32.ofNat m).toInt = m := Int32.toInt_ofNat_of_lt (by omega)
theorem xTo {hear pull left : Int32} {m d : Nat} (hp : 0 ≤ pull ∧ pull ≤ 3) (hm : m ≤ 120) (hd : d < 3) : ∃ t : Int32, (-61 ≤ t.toInt ∧ t.toInt ≤ 61) ∧ pOff hear pull (Int32.ofNat (m + 1) + Int32.ofNat d - 1 - 61) left = t ∧ pOff hear pull (Int32.ofNat (m + 4) + Int32.ofNat d - 1 - 64) left = t ∧ (t + 61).toNatClampNeg ≤ 122 ∧ (t + 64).toNatClampNeg = (t + 61).toNatClampNeg + 3 := by
  have e0 : Int32.ofNat (m + 4) = Int32.ofNat (m + 1) + 3 := by
    apply Int32.toInt_inj.mp
    rw [Int32.toInt_add, px_on2 (by omega), px_on2 (by omega), show (3 : Int32).toInt = 3 by decide, Int.bmod_eq_of_le (by omega) (by omega)]
    omega
  have e1 : Int32.ofNat (m + 4) + Int32.ofNat d - 1 - 64 = Int32.ofNat (m + 1) + Int32.ofNat d - 1 - 61 := by rw [e0]; grind
  have a : (Int32.ofNat (m + 1) + Int32.ofNat d).toInt = m + 1 + d := by rw [Int32.toInt_add, px_on2 (by omega), px_on2 (by omega), Int.bmod_eq_of_le (by omega) (by omega)]; omega
  have b : (Int32.ofNat (m + 1) + Int32.ofNat d - 1).toInt = m + d := by rw [Int32.toInt_sub, a, show (1 : Int32).toInt = 1 by decide, Int.bmod_eq_of_le (by omega) (by omega)]; omega
  have v1 : (Int32.ofNat (m + 1) + Int32.ofNat d - 1 - 61).toInt = m + d - 61 := by
    rw [Int32.toInt_sub, b, show (61 : Int32).toInt = 61 by decide, Int.bmod_eq_of_le (by omega) (by omega)]
  have bd := pOff_in (hear := hear) (left := left) (v := Int32.ofNat (m + 1) + Int32.ofNat d - 1 - 61) hp (by rw [v1]; omega)
  generalize hT : pOff hear pull (Int32.ofNat (m + 1) + Int32.ofNat d - 1 - 61) left = T at bd
  have t1 : (T + 61).toInt = T.toInt + 61 := by rw [Int32.toInt_add, show (61 : Int32).toInt = 61 by decide, Int.bmod_eq_of_le (by omega) (by omega)]
  have t2 : (T + 64).toInt = T.toInt + 64 := by rw [Int32.toInt_add, show (64 : Int32).toInt = 64 by decide, Int.bmod_eq_of_le (by omega) (by omega)]
  refine ⟨T, bd, rfl, by rw [e1, hT], ?_, ?_⟩
  · show (T + 61).toInt.toNat ≤ 122; omega
  · show (T + 64).toInt.toNat = (T + 61).toInt.toNat + 3; omega
theorem xD_ag {hear pull left h : Int32} {w : Nat → Int32} {m : Nat} {s : Int64} {A B : Nat → Int64} (hp : 0 ≤ pull ∧ pull ≤ 3) (hm : m ≤ 120) (hAB : xAg A B) : ∀ d, d ≤ 3 → xAg (xD 61 hear pull left h w (Int32.ofNat (m + 1)) s A d) (xD 64 hear pull left h w (Int32.ofNat (m + 4)) s B d) := by
  intro d
  induction d with
  | zero => exact fun _ => hAB
  | succ d ih =>
    intro hd
    have ih := ih (by omega)
    obtain ⟨t, -, t1, t2, t3, t4⟩ := xTo (hear := hear) (pull := pull) (left := left) (m := m) (d := d) hp hm (by omega)
    intro j hj
    show (if 0 < w d then (fun j => if j = (pOff hear pull (Int32.ofNat (m + 1) + Int32.ofNat d - 1 - 61) left + 61).toNatClampNeg then cBet (xD 61 hear pull left h w (Int32.ofNat (m + 1)) s A d j) (s + (aV (pOff hear pull (Int32.ofNat (m + 1) + Int32.ofNat d - 1 - 61) left)).toInt64) h else xD 61 hear pull left h w (Int32.ofNat (m + 1)) s A d j) else xD 61 hear pull left h w (Int32.ofNat (m + 1)) s A d : Nat → Int64) j = (if 0 < w d then (fun j => if j = (pOff hear pull (Int32.ofNat (m + 4) + Int32.ofNat d - 1 - 64) left + 64).toNatClampNeg then cBet (xD 64 hear pull left h w (Int32.ofNat (m + 4)) s B d j) (s + (aV (pOff hear pull (Int32.ofNat (m + 4) + Int32.ofNat d - 1 - 64) left)).toInt64) h else xD 64 hear pull left h w (Int32.ofNat (m + 4)) s B d j) else xD 64 hear pull left h w (Int32.ofNat (m + 4)) s B d : Nat → Int64) (j + 3)
    rw [t1, t2]
    by_cases c : 0 < w d
    · rw [if_pos c, if_pos c]
      show (if j = (t + 61).toNatClampNeg then _ else _) = (if j + 3 = (t + 64).toNatClampNeg then _ else _)
      rw [t4, ← ih j hj]
      by_cases e : j = (t + 61).toNatClampNeg
      · rw [if_pos e, if_pos (by omega)]
      · rw [if_neg e, if_neg (by omega)]
    · rw [if_neg c, if_neg c]
      exact ih j hj
theorem xK_ag {hear pull left h : Int32} {w : Nat → Int32} {A B TA TB : Nat → Int64} (hp : 0 ≤ pull ∧ pull ≤ 3) (hAB : xAg A B) (hT : xAg TA TB) (h1 : B 1 = -1 ∧ B 2 = -1 ∧ B 3 = -1) : ∀ m, m ≤ 121 → xAg (xK 61 hear pull left h w A TA m) (xK 64 hear pull left h w B TB (m + 3)) := by
  intro m
  induction m with
  | zero =>
    intro _
    have z : xK 64 hear pull left h w B TB 3 = TB := by
      show (if B 3 = -1 then (if B 2 = -1 then (if B 1 = -1 then TB else _) else _) else _) = TB
      rw [if_pos h1.2.2, if_pos h1.2.1, if_pos h1.1]
    show xAg TA (xK 64 hear pull left h w B TB 3)
    rw [z]; exact hT
  | succ m ih =>
    intro hm
    have ih := ih (by omega)
    have e : A (m + 1) = B (m + 4) := hAB (m + 1) (by omega)
    show xAg (if A (m + 1) = -1 then xK 61 hear pull left h w A TA m else xD 61 hear pull left h w (Int32.ofNat (m + 1)) (A (m + 1)) (xK 61 hear pull left h w A TA m) 3) (if B (m + 4) = -1 then xK 64 hear pull left h w B TB (m + 3) else xD 64 hear pull left h w (Int32.ofNat (m + 4)) (B (m + 4)) (xK 64 hear pull left h w B TB (m + 3)) 3)
    rw [e]
    by_cases c : B (m + 4) = -1
    · rw [if_pos c, if_pos c]; exact ih
    · rw [if_neg c, if_neg c]
      exact xD_ag hp (by omega) ih 3 (by omega)
theorem xD_su {hear pull left h : Int32} {w : Nat → Int32} {m r : Nat} {s : Int64} {B : Nat → Int64} (hp : 0 ≤ pull ∧ pull ≤ 3) (hr : r ≤ 60) (hm : m ≤ 200) (hk : 64 ≤ m + r ∧ m ≤ 64 + r) (hB : xSu B (r + 1)) : ∀ d, d ≤ 3 → xSu (xD 64 hear pull left h w (Int32.ofNat m) s B d) (r + 1) := by
  intro d
  induction d with
  | zero => exact fun _ => hB
  | succ d ih =>
    intro hd
    have ih := ih (by omega)
    have a : (Int32.ofNat m + Int32.ofNat d).toInt = m + d := by rw [Int32.toInt_add, px_on2 (by omega), px_on2 (by omega), Int.bmod_eq_of_le (by omega) (by omega)]
    have b : (Int32.ofNat m + Int32.ofNat d - 1).toInt = m + d - 1 := by rw [Int32.toInt_sub, a, show (1 : Int32).toInt = 1 by decide, Int.bmod_eq_of_le (by omega) (by omega)]
    have v1 : (Int32.ofNat m + Int32.ofNat d - 1 - 64).toInt = m + d - 65 := by
      rw [Int32.toInt_sub, b, show (64 : Int32).toInt = 64 by decide, Int.bmod_eq_of_le (by omega) (by omega)]
      omega
    have bd := pOff_r (hear := hear) (left := left) (v := Int32.ofNat m + Int32.ofNat d - 1 - 64) (r := (r : Int) + 1) hp (by omega) (by rw [v1]; omega)
    intro j hj ho
    show (if 0 < w d then (fun j => if j = (pOff hear pull (Int32.ofNat m + Int32.ofNat d - 1 - 64) left + 64).toNatClampNeg then cBet (xD 64 hear pull left h w (Int32.ofNat m) s B d j) (s + (aV (pOff hear pull (Int32.ofNat m + Int32.ofNat d - 1 - 64) left)).toInt64) h else xD 64 hear pull left h w (Int32.ofNat m) s B d j) else xD 64 hear pull left h w (Int32.ofNat m) s B d : Nat → Int64) j = -1
    generalize hT : pOff hear pull (Int32.ofNat m + Int32.ofNat d - 1 - 64) left = T at bd
    have t2 : (T + 64).toInt = T.toInt + 64 := by rw [Int32.toInt_add, show (64 : Int32).toInt = 64 by decide, Int.bmod_eq_of_le (by omega) (by omega)]
    have ne : ¬ j = (T + 64).toNatClampNeg := by
      show ¬ j = (T + 64).toInt.toNat
      omega
    split
    · show (if j = (T + 64).toNatClampNeg then _ else _) = _
      rw [if_neg ne]; exact ih j hj ho
    · exact ih j hj ho
theorem xK_su {hear pull left h : Int32} {w : Nat → Int32} {r : Nat} {B T : Nat → Int64} (hp : 0 ≤ pull ∧ pull ≤ 3) (hr : r ≤ 60) (hB : xSu B r) (hT : ∀ j, j ≤ 128 → T j = -1) : ∀ m, m ≤ 128 → xSu (xK 64 hear pull left h w B T m) (r + 1) := by
  intro m
  induction m with
  | zero => exact fun _ j hj _ => hT j hj
  | succ m ih =>
    intro hm
    have ih := ih (by omega)
    show xSu (if B (m + 1) = -1 then xK 64 hear pull left h w B T m else xD 64 hear pull left h w (Int32.ofNat (m + 1)) (B (m + 1)) (xK 64 hear pull left h w B T m) 3) (r + 1)
    split
    · exact ih
    · rename_i c
      have k1 : 64 ≤ m + 1 + r ∧ m + 1 ≤ 64 + r := by
        constructor
        · apply Classical.byContradiction; intro q; exact c (hB (m + 1) hm (by omega))
        · apply Classical.byContradiction; intro q; exact c (hB (m + 1) hm (by omega))
      exact xD_su hp hr (by omega) k1 ih 3 (by omega)
/-- all rows, from n - 1 left down -/
def xR (c M : Nat) (hear pull h : Int32) (w : Nat → Int32) (n : Nat) (start : Nat → Int64) : Nat → Nat → Int64
  | 0 => start
  | i + 1 => xK (Int32.ofNat c) hear pull (Int32.ofNat (n - 1 - i)) h w (xR c M hear pull h w n start i) (fun _ => -1) M
theorem xK_top {c hear pull left h : Int32} {w : Nat → Int32} {B T : Nat → Int64} {a : Nat} (z1 : B (a + 1) = -1) (z2 : B (a + 2) = -1) (z3 : B (a + 3) = -1) : xK c hear pull left h w B T (a + 3) = xK c hear pull left h w B T a := by
  show (if B (a + 3) = -1 then (if B (a + 2) = -1 then (if B (a + 1) = -1 then xK c hear pull left h w B T a else _) else _) else _) = _
  rw [if_pos z3, if_pos z2, if_pos z1]
/- a is 121; as a variable, so that nothing is computed -/
theorem xR_ag {hear pull h : Int32} {w : Nat → Int32} {n a : Nat} {A B : Nat → Int64} (ha : a = 121) (hp : 0 ≤ pull ∧ pull ≤ 3) (hAB : xAg A B) (hB : xSu B 20) : ∀ i, i ≤ 40 → xAg (xR 61 a hear pull h w n A i) (xR 64 (a + 3 + 3) hear pull h w n B i) ∧ xSu (xR 64 (a + 3 + 3) hear pull h w n B i) (20 + i) := by
  intro i
  induction i with
  | zero => exact fun _ => ⟨hAB, hB⟩
  | succ i ih =>
    intro hi
    obtain ⟨i1, i2⟩ := ih (by omega)
    have c61 : Int32.ofNat 61 = 61 := rfl
    have c64 : Int32.ofNat 64 = 64 := rfl
    have z : ∀ k, (k ≤ 3 ∨ 125 ≤ k) → k ≤ 127 → xR 64 (a + 3 + 3) hear pull h w n B i k = -1 := fun k k1 k2 => i2 k (by omega) (by omega)
    refine ⟨?_, ?_⟩
    · show xAg (xK (Int32.ofNat 61) hear pull (Int32.ofNat (n - 1 - i)) h w (xR 61 a hear pull h w n A i) (fun _ => -1) a) (xK (Int32.ofNat 64) hear pull (Int32.ofNat (n - 1 - i)) h w (xR 64 (a + 3 + 3) hear pull h w n B i) (fun _ => -1) (a + 3 + 3))
      rw [c61, c64, xK_top (z _ (by omega) (by omega)) (z _ (by omega) (by omega)) (z _ (by omega) (by omega))]
      exact xK_ag (TA := fun _ => -1) (TB := fun _ => -1) hp i1 (fun _ _ => rfl) ⟨z 1 (by omega) (by omega), z 2 (by omega) (by omega), z 3 (by omega) (by omega)⟩ a (by omega)
    · show xSu (xK (Int32.ofNat 64) hear pull (Int32.ofNat (n - 1 - i)) h w (xR 64 (a + 3 + 3) hear pull h w n B i) (fun _ => -1) (a + 3 + 3)) (20 + i + 1)
      rw [c64]
      exact xK_su hp (by omega) i2 (fun _ _ => rfl) (a + 3 + 3) (by omega)
/-! more of both rows of places: bounds, likeness, the nearest -/
theorem xz0 : (0 : Int32).toNatClampNeg = 0 := by decide
theorem xnat {x : Int32} (h : 0 ≤ x) : (x.toNatClampNeg : Int) = x.toInt := by
  have h2 := Int32.le_iff_toInt_le.mp h
  rw [show (0 : Int32).toInt = 0 by decide] at h2
  show ((x.toInt.toNat : Nat) : Int) = _
  omega
theorem xn129 {k : Int32} (h : 129 ≤ k) {j : Nat} (hj : j ≤ 128) : j < k.toNatClampNeg := by
  have a := Int32.le_iff_toInt_le.mp h
  rw [show (129 : Int32).toInt = 129 by decide] at a
  show j < k.toInt.toNat
  omega
theorem xn123 {k : Int32} (h : 123 ≤ k) {j : Nat} (hj : j ≤ 122) : j < k.toNatClampNeg := by
  have a := Int32.le_iff_toInt_le.mp h
  rw [show (123 : Int32).toInt = 123 by decide] at a
  show j < k.toInt.toNat
  omega
theorem xle {i N : Int32} (h0 : 0 ≤ i) (h : i ≤ N) : i.toNatClampNeg ≤ N.toNatClampNeg := by
  have a1 := xnat h0
  have a2 := xnat (Int32.le_trans h0 h)
  have a3 := Int32.le_iff_toInt_le.mp h
  omega
theorem xlt {i N : Int32} (h0 : 0 ≤ i) (h : i < N) : i.toNatClampNeg < N.toNatClampNeg := by
  have a1 := xnat h0
  have a2 := xnat (Int32.le_trans h0 (Int32.le_of_lt h))
  have a3 := Int32.lt_iff_toInt_lt.mp h
  omega
theorem xnext {b : Nat} {F : Nat → Int64} {L1 : px_L} {k : Int32} {v : Int64} (h0 : 0 ≤ k) (hk : ¬ 1000 ≤ k) (h : ∀ j, j < k.toNatClampNeg → L1 b j = F j) (hv : v = F k.toNatClampNeg) : ∀ j, j < (k + 1).toNatClampNeg → px_u L1 b k.toNatClampNeg v b j = F j := fun j hj => by
  rw [(px_tnS h0 hk).1] at hj
  rw [px_ur, if_pos rfl]
  by_cases e : j = k.toNatClampNeg
  · rw [if_pos e, e, hv]
  · rw [if_neg e]; exact h j (by omega)
theorem xnone {b : Nat} {F : Nat → Int64} {L1 : px_L} : ∀ j, j < (0 : Int32).toNatClampNeg → L1 b j = F j := fun j hj => absurd hj (by rw [xz0]; exact Nat.not_lt_zero _)
theorem xi1 {x : Int64} : x = -1 ↔ x.toInt = -1 := ⟨fun q => by rw [q]; decide, fun q => Int64.toInt_inj.mp (by rw [q]; decide)⟩
theorem cBet_i (a b : Int64) (h : Int32) : (cBet a b h).toInt = if a.toInt = -1 ∨ b.toInt = -1 then (if a.toInt < b.toInt then b.toInt else a.toInt) else if ¬ h = 0 then (if a.toInt < b.toInt then b.toInt else a.toInt) else (if b.toInt < a.toInt then b.toInt else a.toInt) := by
  unfold cBet
  by_cases c : a.toInt = -1 ∨ b.toInt = -1
  · have c' : a = -1 ∨ b = -1 := c.imp xi1.mpr xi1.mpr
    rw [if_pos c, if_pos c']
    by_cases d : a < b
    · rw [if_pos d, if_pos (Int64.lt_iff_toInt_lt.mp d)]
    · rw [if_neg d, if_neg (fun q => d (Int64.lt_iff_toInt_lt.mpr q))]
  · have c' : ¬ (a = -1 ∨ b = -1) := fun q => c (q.imp xi1.mp xi1.mp)
    rw [if_neg c, if_neg c']
    by_cases e : h = 0
    · rw [if_neg (show ¬ ¬ h = 0 from fun q => q e)]
      rw [if_neg (show ¬ ¬ h = 0 from fun q => q e)]
      by_cases d : b < a
      · rw [if_pos d, if_pos (Int64.lt_iff_toInt_lt.mp d)]
      · rw [if_neg d, if_neg (fun q => d (Int64.lt_iff_toInt_lt.mpr q))]
    · rw [if_pos (show ¬ h = 0 from e)]
      rw [if_pos (show ¬ h = 0 from e)]
      by_cases d : a < b
      · rw [if_pos d, if_pos (Int64.lt_iff_toInt_lt.mp d)]
      · rw [if_neg d, if_neg (fun q => d (Int64.lt_iff_toInt_lt.mpr q))]
theorem cBet_bd {a b : Int64} {h : Int32} {c : Int} (ha : -1 ≤ a.toInt ∧ a.toInt ≤ c) (hb : -1 ≤ b.toInt ∧ b.toInt ≤ c) : -1 ≤ (cBet a b h).toInt ∧ (cBet a b h).toInt ≤ c := by
  rw [cBet_i]
  by_cases c1 : a.toInt = -1 ∨ b.toInt = -1
  · rw [if_pos c1]; split <;> omega
  · rw [if_neg c1]
    by_cases e : h = 0
    · rw [if_neg (show ¬ ¬ h = 0 from fun q => q e)]; split <;> omega
    · rw [if_pos (show ¬ h = 0 from e)]; split <;> omega
/-- as the reference asks which is better -/
def xBt (a b : Int64) (h : Int32) : Prop := a < 0 ∨ (¬ h = 0 ∧ a < b) ∨ (h = 0 ∧ b < a)
theorem cBet_y {a b : Int64} {h : Int32} (ha : -1 ≤ a.toInt) (hb : 0 ≤ b.toInt) (c : xBt a b h) : cBet a b h = b := by
  apply Int64.toInt_inj.mp
  rw [cBet_i]
  unfold xBt at c
  rw [Int64.lt_iff_toInt_lt, Int64.lt_iff_toInt_lt, Int64.lt_iff_toInt_lt, show (0 : Int64).toInt = 0 by decide] at c
  by_cases c1 : a.toInt = -1 ∨ b.toInt = -1
  · rw [if_pos c1]; split <;> omega
  · rw [if_neg c1]
    by_cases e : h = 0
    · rw [if_neg (show ¬ ¬ h = 0 from fun q => q e)]
      have c2 : a.toInt < 0 ∨ b.toInt < a.toInt := c.imp_right (fun q => q.elim (fun q => absurd e q.1) (fun q => q.2))
      split <;> omega
    · rw [if_pos (show ¬ h = 0 from e)]
      have c2 : a.toInt < 0 ∨ a.toInt < b.toInt := c.imp_right (fun q => q.elim (fun q => q.2) (fun q => absurd q.1 e))
      split <;> omega
theorem cBet_n {a b : Int64} {h : Int32} (ha : -1 ≤ a.toInt) (hb : 0 ≤ b.toInt) (c : ¬ xBt a b h) : cBet a b h = a := by
  apply Int64.toInt_inj.mp
  rw [cBet_i]
  unfold xBt at c
  rw [Int64.lt_iff_toInt_lt, Int64.lt_iff_toInt_lt, Int64.lt_iff_toInt_lt, show (0 : Int64).toInt = 0 by decide] at c
  have n1 : ¬ a.toInt < 0 := fun q => c (Or.inl q)
  by_cases c1 : a.toInt = -1 ∨ b.toInt = -1
  · rw [if_pos c1]; split <;> omega
  · rw [if_neg c1]
    by_cases e : h = 0
    · rw [if_neg (show ¬ ¬ h = 0 from fun q => q e)]
      have n2 : ¬ b.toInt < a.toInt := fun q => c (Or.inr (Or.inr ⟨e, q⟩))
      rw [if_neg n2]
    · rw [if_pos (show ¬ h = 0 from e)]
      have n2 : ¬ a.toInt < b.toInt := fun q => c (Or.inr (Or.inl ⟨e, q⟩))
      rw [if_neg n2]
theorem cBet_m {a b : Int64} {h : Int32} (ha : -1 ≤ a.toInt) (hb : b.toInt = -1) : cBet a b h = a := by
  apply Int64.toInt_inj.mp
  rw [cBet_i, if_pos (Or.inr hb)]
  split <;> omega
def xBd (F : Nat → Int64) (c : Int) : Prop := ∀ j, j ≤ 128 → -1 ≤ (F j).toInt ∧ (F j).toInt ≤ c
theorem xVb {hear pull left : Int32} {m d : Nat} (hp : 0 ≤ pull ∧ pull ≤ 3) (h1 : 1 ≤ m) (hm : m ≤ 127) (hd : d < 3) : -64 ≤ (pOff hear pull (Int32.ofNat m + Int32.ofNat d - 1 - 64) left).toInt ∧ (pOff hear pull (Int32.ofNat m + Int32.ofNat d - 1 - 64) left).toInt ≤ 64 := by
  have a : (Int32.ofNat m + Int32.ofNat d).toInt = m + d := by rw [Int32.toInt_add, px_on2 (by omega), px_on2 (by omega), Int.bmod_eq_of_le (by omega) (by omega)]
  have b : (Int32.ofNat m + Int32.ofNat d - 1).toInt = m + d - 1 := by rw [Int32.toInt_sub, a, show (1 : Int32).toInt = 1 by decide, Int.bmod_eq_of_le (by omega) (by omega)]
  have v1 : (Int32.ofNat m + Int32.ofNat d - 1 - 64).toInt = m + d - 65 := by
    rw [Int32.toInt_sub, b, show (64 : Int32).toInt = 64 by decide, Int.bmod_eq_of_le (by omega) (by omega)]
    omega
  exact pOff_r (r := 64) hp (by omega) (by rw [v1]; omega)
theorem xAV {v : Int32} (h : -64 ≤ v.toInt ∧ v.toInt ≤ 64) : 0 ≤ (aV v).toInt64.toInt ∧ (aV v).toInt64.toInt ≤ 64 := by
  rw [Int32.toInt_toInt64]
  unfold aV
  split
  · rename_i c
    have c := Int32.lt_iff_toInt_lt.mp c
    rw [show (0 : Int32).toInt = 0 by decide] at c
    have : (0 - v).toInt = - v.toInt := by rw [Int32.toInt_sub, show (0 : Int32).toInt = 0 by decide, Int.bmod_eq_of_le (by omega) (by omega)]; omega
    omega
  · rename_i c
    have c := Int32.le_iff_toInt_le.mp (Int32.not_lt.mp c)
    rw [show (0 : Int32).toInt = 0 by decide] at c
    omega
theorem xSum {s : Int64} {v : Int32} {c : Int} (hc : c ≤ 100000) (hs : 0 ≤ s.toInt ∧ s.toInt ≤ c) (h : -64 ≤ v.toInt ∧ v.toInt ≤ 64) : 0 ≤ (s + (aV v).toInt64).toInt ∧ (s + (aV v).toInt64).toInt ≤ c + 64 := by
  have q := xAV h
  rw [Int64.toInt_add, Int.bmod_eq_of_le (by omega) (by omega)]; omega
theorem xD_bd {hear pull left h : Int32} {w : Nat → Int32} {m : Nat} {s : Int64} {T : Nat → Int64} {c : Int} (hc : c ≤ 100000) (hp : 0 ≤ pull ∧ pull ≤ 3) (h1 : 1 ≤ m) (hm : m ≤ 127) (hs : 0 ≤ s.toInt ∧ s.toInt ≤ c) (hT : xBd T (c + 64)) : ∀ d, d ≤ 3 → xBd (xD 64 hear pull left h w (Int32.ofNat m) s T d) (c + 64) := by
  intro d
  induction d with
  | zero => exact fun _ => hT
  | succ d ih =>
    intro hd
    have ih := ih (by omega)
    have v := xVb (hear := hear) (left := left) (m := m) (d := d) hp h1 hm (by omega)
    have sm := xSum (s := s) hc hs v
    intro j hj
    show -1 ≤ ((if 0 < w d then (fun j => if j = (pOff hear pull (Int32.ofNat m + Int32.ofNat d - 1 - 64) left + 64).toNatClampNeg then cBet (xD 64 hear pull left h w (Int32.ofNat m) s T d j) (s + (aV (pOff hear pull (Int32.ofNat m + Int32.ofNat d - 1 - 64) left)).toInt64) h else xD 64 hear pull left h w (Int32.ofNat m) s T d j) else xD 64 hear pull left h w (Int32.ofNat m) s T d : Nat → Int64) j).toInt ∧ ((if 0 < w d then (fun j => if j = (pOff hear pull (Int32.ofNat m + Int32.ofNat d - 1 - 64) left + 64).toNatClampNeg then cBet (xD 64 hear pull left h w (Int32.ofNat m) s T d j) (s + (aV (pOff hear pull (Int32.ofNat m + Int32.ofNat d - 1 - 64) left)).toInt64) h else xD 64 hear pull left h w (Int32.ofNat m) s T d j) else xD 64 hear pull left h w (Int32.ofNat m) s T d : Nat → Int64) j).toInt ≤ c + 64
    by_cases cw : 0 < w d
    · rw [if_pos cw]
      show -1 ≤ (if j = _ then _ else _ : Int64).toInt ∧ (if j = _ then _ else _ : Int64).toInt ≤ c + 64
      by_cases e : j = (pOff hear pull (Int32.ofNat m + Int32.ofNat d - 1 - 64) left + 64).toNatClampNeg
      · rw [if_pos e]; exact cBet_bd (ih j hj) ⟨by omega, sm.2⟩
      · rw [if_neg e]; exact ih j hj
    · rw [if_neg cw]; exact ih j hj
theorem xK_bd {hear pull left h : Int32} {w : Nat → Int32} {A T : Nat → Int64} {c : Int} (hc : c ≤ 100000) (hp : 0 ≤ pull ∧ pull ≤ 3) (hA : xBd A c) (hT : xBd T (c + 64)) : ∀ m, m ≤ 127 → xBd (xK 64 hear pull left h w A T m) (c + 64) := by
  intro m
  induction m with
  | zero => exact fun _ => hT
  | succ m ih =>
    intro hm
    have ih := ih (by omega)
    show xBd (if A (m + 1) = -1 then xK 64 hear pull left h w A T m else xD 64 hear pull left h w (Int32.ofNat (m + 1)) (A (m + 1)) (xK 64 hear pull left h w A T m) 3) (c + 64)
    by_cases e : A (m + 1) = -1
    · rw [if_pos e]; exact ih
    · rw [if_neg e]
      have a := hA (m + 1) (by omega)
      have ne : ¬ (A (m + 1)).toInt = -1 := fun q => e (xi1.mpr q)
      exact xD_bd hc hp (by omega) hm ⟨by omega, a.2⟩ ih 3 (by omega)
theorem xR_bd {hear pull h : Int32} {w : Nat → Int32} {n : Nat} {B : Nat → Int64} (hp : 0 ≤ pull ∧ pull ≤ 3) (hB : xBd B 0) : ∀ i, i ≤ 40 → xBd (xR 64 127 hear pull h w n B i) (64 * i) := by
  intro i
  induction i with
  | zero => exact fun _ => hB
  | succ i ih =>
    intro hi
    have ih := ih (by omega)
    have k := xK_bd (hear := hear) (left := Int32.ofNat (n - 1 - i)) (h := h) (w := w) (c := 64 * (i : Int)) (by omega) hp ih (T := fun _ => -1) (fun j _ => by show -1 ≤ (-1 : Int64).toInt ∧ (-1 : Int64).toInt ≤ _; rw [show (-1 : Int64).toInt = -1 by decide]; omega) 127 (by omega)
    intro j hj
    have q := k j hj
    have e : (64 : Int) * ((i + 1 : Nat) : Int) = 64 * (i : Int) + 64 := by omega
    rw [e]
    exact q
theorem xD_cg {c hear pull left h k : Int32} {w : Nat → Int32} {s : Int64} {N : Nat} {T T' : Nat → Int64} (hT : ∀ j, j ≤ N → T j = T' j) : ∀ d j, j ≤ N → xD c hear pull left h w k s T d j = xD c hear pull left h w k s T' d j := by
  intro d
  induction d with
  | zero => exact hT
  | succ d ih =>
    intro j hj
    show (if 0 < w d then (fun j => if j = (pOff hear pull (k + Int32.ofNat d - 1 - c) left + c).toNatClampNeg then cBet (xD c hear pull left h w k s T d j) (s + (aV (pOff hear pull (k + Int32.ofNat d - 1 - c) left)).toInt64) h else xD c hear pull left h w k s T d j) else xD c hear pull left h w k s T d : Nat → Int64) j = (if 0 < w d then (fun j => if j = (pOff hear pull (k + Int32.ofNat d - 1 - c) left + c).toNatClampNeg then cBet (xD c hear pull left h w k s T' d j) (s + (aV (pOff hear pull (k + Int32.ofNat d - 1 - c) left)).toInt64) h else xD c hear pull left h w k s T' d j) else xD c hear pull left h w k s T' d : Nat → Int64) j
    by_cases cw : 0 < w d
    · rw [if_pos cw, if_pos cw]
      show (if j = _ then _ else _ : Int64) = (if j = _ then _ else _)
      rw [ih j hj]
    · rw [if_neg cw, if_neg cw]; exact ih j hj
theorem xK_cg {c hear pull left h : Int32} {w : Nat → Int32} {N : Nat} {A A' T T' : Nat → Int64} (hA : ∀ j, j ≤ N → A j = A' j) (hT : ∀ j, j ≤ N → T j = T' j) : ∀ m, m ≤ N → ∀ j, j ≤ N → xK c hear pull left h w A T m j = xK c hear pull left h w A' T' m j := by
  intro m
  induction m with
  | zero => exact fun _ => hT
  | succ m ih =>
    intro hm j hj
    have ih := ih (by omega)
    show (if A (m + 1) = -1 then xK c hear pull left h w A T m else xD c hear pull left h w (Int32.ofNat (m + 1)) (A (m + 1)) (xK c hear pull left h w A T m) 3) j = (if A' (m + 1) = -1 then xK c hear pull left h w A' T' m else xD c hear pull left h w (Int32.ofNat (m + 1)) (A' (m + 1)) (xK c hear pull left h w A' T' m) 3) j
    rw [hA (m + 1) hm]
    by_cases e : A' (m + 1) = -1
    · rw [if_pos e, if_pos e]; exact ih j hj
    · rw [if_neg e, if_neg e]; exact xD_cg ih 3 j hj
theorem xD_w {c hear pull left h k : Int32} {w w' : Nat → Int32} {s : Int64} {T : Nat → Int64} (hw : ∀ d, d < 3 → w d = w' d) : ∀ d, d ≤ 3 → xD c hear pull left h w k s T d = xD c hear pull left h w' k s T d := by
  intro d
  induction d with
  | zero => exact fun _ => rfl
  | succ d ih =>
    intro hd
    have ih := ih (by omega)
    show (if 0 < w d then (fun j => if j = (pOff hear pull (k + Int32.ofNat d - 1 - c) left + c).toNatClampNeg then cBet (xD c hear pull left h w k s T d j) (s + (aV (pOff hear pull (k + Int32.ofNat d - 1 - c) left)).toInt64) h else xD c hear pull left h w k s T d j) else xD c hear pull left h w k s T d : Nat → Int64) = (if 0 < w' d then (fun j => if j = (pOff hear pull (k + Int32.ofNat d - 1 - c) left + c).toNatClampNeg then cBet (xD c hear pull left h w' k s T d j) (s + (aV (pOff hear pull (k + Int32.ofNat d - 1 - c) left)).toInt64) h else xD c hear pull left h w' k s T d j) else xD c hear pull left h w' k s T d : Nat → Int64)
    rw [hw d (by omega), ih]
theorem xK_w {c hear pull left h : Int32} {w w' : Nat → Int32} {A T : Nat → Int64} (hw : ∀ d, d < 3 → w d = w' d) : ∀ m, xK c hear pull left h w A T m = xK c hear pull left h w' A T m := by
  intro m
  induction m with
  | zero => rfl
  | succ m ih =>
    show (if A (m + 1) = -1 then xK c hear pull left h w A T m else xD c hear pull left h w (Int32.ofNat (m + 1)) (A (m + 1)) (xK c hear pull left h w A T m) 3) = (if A (m + 1) = -1 then xK c hear pull left h w' A T m else xD c hear pull left h w' (Int32.ofNat (m + 1)) (A (m + 1)) (xK c hear pull left h w' A T m) 3)
    rw [ih, xD_w hw 3 (by omega)]
theorem xR_w {c M : Nat} {hear pull h : Int32} {w w' : Nat → Int32} {n : Nat} {B : Nat → Int64} (hw : ∀ d, d < 3 → w d = w' d) : ∀ i, xR c M hear pull h w n B i = xR c M hear pull h w' n B i := by
  intro i
  induction i with
  | zero => rfl
  | succ i ih =>
    show xK (Int32.ofNat c) hear pull (Int32.ofNat (n - 1 - i)) h w (xR c M hear pull h w n B i) (fun _ => -1) M = xK (Int32.ofNat c) hear pull (Int32.ofNat (n - 1 - i)) h w' (xR c M hear pull h w' n B i) (fun _ => -1) M
    rw [ih, xK_w hw]
/-- the first row: all at one place -/
def x0 (c o : Int32) (e h : Int64) (j : Nat) : Int64 := if j = (o + c).toNatClampNeg then h else e
theorem x0_at {c o i : Int32} {e h : Int64} (h0 : 0 ≤ i) (hc : 0 ≤ o + c) : x0 c o e h i.toNatClampNeg = if i = o + c then h else e := by
  unfold x0
  have a := xnat h0
  have b := xnat hc
  by_cases q : i = o + c
  · rw [if_pos q, if_pos (by rw [q])]
  · rw [if_neg q, if_neg (fun z => q (Int32.toInt_inj.mp (by omega)))]
/-- a place's three, as far as it has any -/
def xS (c hear pull left h : Int32) (w : Nat → Int32) (k : Int32) (A T : Nat → Int64) (d : Nat) : Nat → Int64 := if A k.toNatClampNeg = -1 then T else xD c hear pull left h w k (A k.toNatClampNeg) T d
theorem xS_0 {c hear pull left h : Int32} {w : Nat → Int32} {k : Int32} {A T : Nat → Int64} : xS c hear pull left h w k A T 0 = T := by
  unfold xS
  by_cases e : A k.toNatClampNeg = -1
  · rw [if_pos e]
  · rw [if_neg e]; rfl
theorem xS_m {c hear pull left h : Int32} {w : Nat → Int32} {k : Int32} {A T : Nat → Int64} {d : Nat} (e : A k.toNatClampNeg = -1) : xS c hear pull left h w k A T d = T := if_pos e
theorem xS_K {c hear pull left h : Int32} {w : Nat → Int32} {k : Int32} {A T : Nat → Int64} (h1 : 1 ≤ k) (hk : ¬ 1000 ≤ k) : xS c hear pull left h w k A (xK c hear pull left h w A T (k.toNatClampNeg - 1)) 3 = xK c hear pull left h w A T ((k + 1).toNatClampNeg - 1) := by
  have e := px_tnS (Int32.le_trans (by decide : (0 : Int32) ≤ 1) h1) hk
  have a := xnat (Int32.le_trans (by decide : (0 : Int32) ≤ 1) h1)
  have b := Int32.le_iff_toInt_le.mp h1
  rw [show (1 : Int32).toInt = 1 by decide] at b
  obtain ⟨m, hm⟩ : ∃ m, k.toNatClampNeg = m + 1 := ⟨k.toNatClampNeg - 1, by omega⟩
  have ek : Int32.ofNat (m + 1) = k := by rw [← hm]; exact e.2
  rw [e.1, hm, show m + 1 + 1 - 1 = m + 1 by omega, show m + 1 - 1 = m by omega]
  unfold xS
  rw [hm]
  show _ = if A (m + 1) = -1 then xK c hear pull left h w A T m else xD c hear pull left h w (Int32.ofNat (m + 1)) (A (m + 1)) (xK c hear pull left h w A T m) 3
  rw [ek]
theorem xD_up {c hear pull left h k : Int32} {w : Nat → Int32} {s : Int64} {T : Nat → Int64} {d : Nat} {b : Nat} {L1 : px_L} {x : Int32} {v : Int64} (hF : L1 b = xD c hear pull left h w k s T d) (hx : x = pOff hear pull (k + Int32.ofNat d - 1 - c) left) (hw : 0 < w d) (hv : v = cBet (L1 b (x + c).toNatClampNeg) (s + (aV x).toInt64) h) : px_u L1 b (x + c).toNatClampNeg v b = xD c hear pull left h w k s T (d + 1) := by
  funext j
  rw [px_ur, if_pos rfl]
  show _ = (if 0 < w d then (fun j => if j = (pOff hear pull (k + Int32.ofNat d - 1 - c) left + c).toNatClampNeg then cBet (xD c hear pull left h w k s T d j) (s + (aV (pOff hear pull (k + Int32.ofNat d - 1 - c) left)).toInt64) h else xD c hear pull left h w k s T d j) else xD c hear pull left h w k s T d : Nat → Int64) j
  rw [if_pos hw, ← hx, ← hF]
  by_cases e : j = (x + c).toNatClampNeg
  · rw [if_pos e]
    show v = if j = (x + c).toNatClampNeg then _ else _
    rw [if_pos e, hv, e]
  · rw [if_neg e]
    show _ = if j = (x + c).toNatClampNeg then _ else _
    rw [if_neg e]
theorem xD_st {c hear pull left h k : Int32} {w : Nat → Int32} {s : Int64} {T : Nat → Int64} {d : Nat} (hw : ¬ 0 < w d) : xD c hear pull left h w k s T (d + 1) = xD c hear pull left h w k s T d := by
  show (if 0 < w d then _ else _) = _
  rw [if_neg hw]
/-- the best of the places w0 .. -/
def xB (h : Int32) (F : Nat → Int64) (w0 : Nat) : Nat → Int64
  | 0 => -1
  | i + 1 => cBet (xB h F w0 i) (F (w0 + i)) h
theorem xB_bd {h : Int32} {F : Nat → Int64} {w0 : Nat} {c : Int} (hc : -1 ≤ c) : ∀ i, (∀ j, j < i → -1 ≤ (F (w0 + j)).toInt ∧ (F (w0 + j)).toInt ≤ c) → -1 ≤ (xB h F w0 i).toInt ∧ (xB h F w0 i).toInt ≤ c
  | 0, _ => by show -1 ≤ (-1 : Int64).toInt ∧ (-1 : Int64).toInt ≤ c; rw [show (-1 : Int64).toInt = -1 by decide]; omega
  | i + 1, hF => cBet_bd (xB_bd hc i (fun j hj => hF j (by omega))) (hF i (by omega))
theorem xB_cg {h : Int32} {F G : Nat → Int64} {w0 w1 : Nat} : ∀ i, (∀ j, j < i → F (w0 + j) = G (w1 + j)) → xB h F w0 i = xB h G w1 i
  | 0, _ => rfl
  | i + 1, hF => by
    show cBet (xB h F w0 i) (F (w0 + i)) h = cBet (xB h G w1 i) (G (w1 + i)) h
    rw [xB_cg i (fun j hj => hF j (by omega)), hF i (by omega)]
