/-! the words of the class, one by one -/
theorem wI_0 {B : Nat → Int32} {s m : Nat} (h : wId B s m = 1) : (∀ j, j < 0 → ¬ wI B s m j = true) ∧ wI B s m 0 = true := by
  unfold wId at h
  by_cases w0 : wI B s m 0 = true
  · exact ⟨fun j hj => absurd hj (Nat.not_lt_zero _), w0⟩
  rw [if_neg w0] at h
  by_cases w1 : wI B s m 1 = true
  · rw [if_pos w1] at h; exact absurd h (by decide)
  rw [if_neg w1] at h
  by_cases w2 : wI B s m 2 = true
  · rw [if_pos w2] at h; exact absurd h (by decide)
  rw [if_neg w2] at h
  by_cases w3 : wI B s m 3 = true
  · rw [if_pos w3] at h; exact absurd h (by decide)
  rw [if_neg w3] at h
  by_cases w4 : wI B s m 4 = true
  · rw [if_pos w4] at h; exact absurd h (by decide)
  rw [if_neg w4] at h
  by_cases w5 : wI B s m 5 = true
  · rw [if_pos w5] at h; exact absurd h (by decide)
  rw [if_neg w5] at h
  by_cases w6 : wI B s m 6 = true
  · rw [if_pos w6] at h; exact absurd h (by decide)
  rw [if_neg w6] at h
  by_cases w7 : wI B s m 7 = true
  · rw [if_pos w7] at h; exact absurd h (by decide)
  rw [if_neg w7] at h
  by_cases w8 : wI B s m 8 = true
  · rw [if_pos w8] at h; exact absurd h (by decide)
  rw [if_neg w8] at h
  exact absurd h (by decide)
theorem xRP2_0 {w s m : Nat} {J : px_I} {B : Nat → Int32} (hW : ∀ i, i < 9 → (xWd J (J 76 9) i = true ↔ wI B s m i = true)) (h : wId B s m = 1) : xRP2 w J = xRS w J 0 1 9999 ∧ m = 4 := by
  obtain ⟨n, y⟩ := wI_0 h
  refine ⟨?_, ?_⟩
  · unfold xRP2
    rw [if_pos ((hW 0 (by decide)).mpr y)]
  · unfold wI at y
    rw [decide_eq_true_iff] at y
    exact y.1
theorem wI_1 {B : Nat → Int32} {s m : Nat} (h : wId B s m = 2) : (∀ j, j < 1 → ¬ wI B s m j = true) ∧ wI B s m 1 = true := by
  unfold wId at h
  by_cases w0 : wI B s m 0 = true
  · rw [if_pos w0] at h; exact absurd h (by decide)
  rw [if_neg w0] at h
  by_cases w1 : wI B s m 1 = true
  · refine ⟨fun j hj => ?_, w1⟩
    rcases (by omega : j = 0) with rfl
    all_goals assumption
  rw [if_neg w1] at h
  by_cases w2 : wI B s m 2 = true
  · rw [if_pos w2] at h; exact absurd h (by decide)
  rw [if_neg w2] at h
  by_cases w3 : wI B s m 3 = true
  · rw [if_pos w3] at h; exact absurd h (by decide)
  rw [if_neg w3] at h
  by_cases w4 : wI B s m 4 = true
  · rw [if_pos w4] at h; exact absurd h (by decide)
  rw [if_neg w4] at h
  by_cases w5 : wI B s m 5 = true
  · rw [if_pos w5] at h; exact absurd h (by decide)
  rw [if_neg w5] at h
  by_cases w6 : wI B s m 6 = true
  · rw [if_pos w6] at h; exact absurd h (by decide)
  rw [if_neg w6] at h
  by_cases w7 : wI B s m 7 = true
  · rw [if_pos w7] at h; exact absurd h (by decide)
  rw [if_neg w7] at h
  by_cases w8 : wI B s m 8 = true
  · rw [if_pos w8] at h; exact absurd h (by decide)
  rw [if_neg w8] at h
  exact absurd h (by decide)
theorem xRP2_1 {w s m : Nat} {J : px_I} {B : Nat → Int32} (hW : ∀ i, i < 9 → (xWd J (J 76 9) i = true ↔ wI B s m i = true)) (h : wId B s m = 2) : xRP2 w J = xRS w J 1 1 15 ∧ m = 4 := by
  obtain ⟨n, y⟩ := wI_1 h
  refine ⟨?_, ?_⟩
  · unfold xRP2
    rw [if_neg (fun z => n 0 (by decide) ((hW 0 (by decide)).mp z)), if_pos ((hW 1 (by decide)).mpr y)]
  · unfold wI at y
    rw [decide_eq_true_iff] at y
    exact y.1
theorem wI_2 {B : Nat → Int32} {s m : Nat} (h : wId B s m = 3) : (∀ j, j < 2 → ¬ wI B s m j = true) ∧ wI B s m 2 = true := by
  unfold wId at h
  by_cases w0 : wI B s m 0 = true
  · rw [if_pos w0] at h; exact absurd h (by decide)
  rw [if_neg w0] at h
  by_cases w1 : wI B s m 1 = true
  · rw [if_pos w1] at h; exact absurd h (by decide)
  rw [if_neg w1] at h
  by_cases w2 : wI B s m 2 = true
  · refine ⟨fun j hj => ?_, w2⟩
    rcases (by omega : j = 0 ∨ j = 1) with rfl | rfl
    all_goals assumption
  rw [if_neg w2] at h
  by_cases w3 : wI B s m 3 = true
  · rw [if_pos w3] at h; exact absurd h (by decide)
  rw [if_neg w3] at h
  by_cases w4 : wI B s m 4 = true
  · rw [if_pos w4] at h; exact absurd h (by decide)
  rw [if_neg w4] at h
  by_cases w5 : wI B s m 5 = true
  · rw [if_pos w5] at h; exact absurd h (by decide)
  rw [if_neg w5] at h
  by_cases w6 : wI B s m 6 = true
  · rw [if_pos w6] at h; exact absurd h (by decide)
  rw [if_neg w6] at h
  by_cases w7 : wI B s m 7 = true
  · rw [if_pos w7] at h; exact absurd h (by decide)
  rw [if_neg w7] at h
  by_cases w8 : wI B s m 8 = true
  · rw [if_pos w8] at h; exact absurd h (by decide)
  rw [if_neg w8] at h
  exact absurd h (by decide)
theorem xRP2_2 {w s m : Nat} {J : px_I} {B : Nat → Int32} (hW : ∀ i, i < 9 → (xWd J (J 76 9) i = true ↔ wI B s m i = true)) (h : wId B s m = 3) : xRP2 w J = xRS w J 2 0 100000 ∧ m = 4 := by
  obtain ⟨n, y⟩ := wI_2 h
  refine ⟨?_, ?_⟩
  · unfold xRP2
    rw [if_neg (fun z => n 0 (by decide) ((hW 0 (by decide)).mp z)), if_neg (fun z => n 1 (by decide) ((hW 1 (by decide)).mp z)), if_pos ((hW 2 (by decide)).mpr y)]
  · unfold wI at y
    rw [decide_eq_true_iff] at y
    exact y.1
theorem wI_3 {B : Nat → Int32} {s m : Nat} (h : wId B s m = 4) : (∀ j, j < 3 → ¬ wI B s m j = true) ∧ wI B s m 3 = true := by
  unfold wId at h
  by_cases w0 : wI B s m 0 = true
  · rw [if_pos w0] at h; exact absurd h (by decide)
  rw [if_neg w0] at h
  by_cases w1 : wI B s m 1 = true
  · rw [if_pos w1] at h; exact absurd h (by decide)
  rw [if_neg w1] at h
  by_cases w2 : wI B s m 2 = true
  · rw [if_pos w2] at h; exact absurd h (by decide)
  rw [if_neg w2] at h
  by_cases w3 : wI B s m 3 = true
  · refine ⟨fun j hj => ?_, w3⟩
    rcases (by omega : j = 0 ∨ j = 1 ∨ j = 2) with rfl | rfl | rfl
    all_goals assumption
  rw [if_neg w3] at h
  by_cases w4 : wI B s m 4 = true
  · rw [if_pos w4] at h; exact absurd h (by decide)
  rw [if_neg w4] at h
  by_cases w5 : wI B s m 5 = true
  · rw [if_pos w5] at h; exact absurd h (by decide)
  rw [if_neg w5] at h
  by_cases w6 : wI B s m 6 = true
  · rw [if_pos w6] at h; exact absurd h (by decide)
  rw [if_neg w6] at h
  by_cases w7 : wI B s m 7 = true
  · rw [if_pos w7] at h; exact absurd h (by decide)
  rw [if_neg w7] at h
  by_cases w8 : wI B s m 8 = true
  · rw [if_pos w8] at h; exact absurd h (by decide)
  rw [if_neg w8] at h
  exact absurd h (by decide)
theorem xRP2_3 {w s m : Nat} {J : px_I} {B : Nat → Int32} (hW : ∀ i, i < 9 → (xWd J (J 76 9) i = true ↔ wI B s m i = true)) (h : wId B s m = 4) : xRP2 w J = xRS w J 3 0 100000 ∧ m = 4 := by
  obtain ⟨n, y⟩ := wI_3 h
  refine ⟨?_, ?_⟩
  · unfold xRP2
    rw [if_neg (fun z => n 0 (by decide) ((hW 0 (by decide)).mp z)), if_neg (fun z => n 1 (by decide) ((hW 1 (by decide)).mp z)), if_neg (fun z => n 2 (by decide) ((hW 2 (by decide)).mp z)), if_pos ((hW 3 (by decide)).mpr y)]
  · unfold wI at y
    rw [decide_eq_true_iff] at y
    exact y.1
theorem wI_4 {B : Nat → Int32} {s m : Nat} (h : wId B s m = 5) : (∀ j, j < 4 → ¬ wI B s m j = true) ∧ wI B s m 4 = true := by
  unfold wId at h
  by_cases w0 : wI B s m 0 = true
  · rw [if_pos w0] at h; exact absurd h (by decide)
  rw [if_neg w0] at h
  by_cases w1 : wI B s m 1 = true
  · rw [if_pos w1] at h; exact absurd h (by decide)
  rw [if_neg w1] at h
  by_cases w2 : wI B s m 2 = true
  · rw [if_pos w2] at h; exact absurd h (by decide)
  rw [if_neg w2] at h
  by_cases w3 : wI B s m 3 = true
  · rw [if_pos w3] at h; exact absurd h (by decide)
  rw [if_neg w3] at h
  by_cases w4 : wI B s m 4 = true
  · refine ⟨fun j hj => ?_, w4⟩
    rcases (by omega : j = 0 ∨ j = 1 ∨ j = 2 ∨ j = 3) with rfl | rfl | rfl | rfl
    all_goals assumption
  rw [if_neg w4] at h
  by_cases w5 : wI B s m 5 = true
  · rw [if_pos w5] at h; exact absurd h (by decide)
  rw [if_neg w5] at h
  by_cases w6 : wI B s m 6 = true
  · rw [if_pos w6] at h; exact absurd h (by decide)
  rw [if_neg w6] at h
  by_cases w7 : wI B s m 7 = true
  · rw [if_pos w7] at h; exact absurd h (by decide)
  rw [if_neg w7] at h
  by_cases w8 : wI B s m 8 = true
  · rw [if_pos w8] at h; exact absurd h (by decide)
  rw [if_neg w8] at h
  exact absurd h (by decide)
theorem xRP2_4 {w s m : Nat} {J : px_I} {B : Nat → Int32} (hW : ∀ i, i < 9 → (xWd J (J 76 9) i = true ↔ wI B s m i = true)) (h : wId B s m = 5) : xRP2 w J = xRB w J 4 ∧ m = 5 := by
  obtain ⟨n, y⟩ := wI_4 h
  refine ⟨?_, ?_⟩
  · unfold xRP2
    rw [if_neg (fun z => n 0 (by decide) ((hW 0 (by decide)).mp z)), if_neg (fun z => n 1 (by decide) ((hW 1 (by decide)).mp z)), if_neg (fun z => n 2 (by decide) ((hW 2 (by decide)).mp z)), if_neg (fun z => n 3 (by decide) ((hW 3 (by decide)).mp z)), if_pos ((hW 4 (by decide)).mpr y)]
  · unfold wI at y
    rw [decide_eq_true_iff] at y
    exact y.1
theorem wI_5 {B : Nat → Int32} {s m : Nat} (h : wId B s m = 6) : (∀ j, j < 5 → ¬ wI B s m j = true) ∧ wI B s m 5 = true := by
  unfold wId at h
  by_cases w0 : wI B s m 0 = true
  · rw [if_pos w0] at h; exact absurd h (by decide)
  rw [if_neg w0] at h
  by_cases w1 : wI B s m 1 = true
  · rw [if_pos w1] at h; exact absurd h (by decide)
  rw [if_neg w1] at h
  by_cases w2 : wI B s m 2 = true
  · rw [if_pos w2] at h; exact absurd h (by decide)
  rw [if_neg w2] at h
  by_cases w3 : wI B s m 3 = true
  · rw [if_pos w3] at h; exact absurd h (by decide)
  rw [if_neg w3] at h
  by_cases w4 : wI B s m 4 = true
  · rw [if_pos w4] at h; exact absurd h (by decide)
  rw [if_neg w4] at h
  by_cases w5 : wI B s m 5 = true
  · refine ⟨fun j hj => ?_, w5⟩
    rcases (by omega : j = 0 ∨ j = 1 ∨ j = 2 ∨ j = 3 ∨ j = 4) with rfl | rfl | rfl | rfl | rfl
    all_goals assumption
  rw [if_neg w5] at h
  by_cases w6 : wI B s m 6 = true
  · rw [if_pos w6] at h; exact absurd h (by decide)
  rw [if_neg w6] at h
  by_cases w7 : wI B s m 7 = true
  · rw [if_pos w7] at h; exact absurd h (by decide)
  rw [if_neg w7] at h
  by_cases w8 : wI B s m 8 = true
  · rw [if_pos w8] at h; exact absurd h (by decide)
  rw [if_neg w8] at h
  exact absurd h (by decide)
theorem xRP2_5 {w s m : Nat} {J : px_I} {B : Nat → Int32} (hW : ∀ i, i < 9 → (xWd J (J 76 9) i = true ↔ wI B s m i = true)) (h : wId B s m = 6) : xRP2 w J = xRB w J 5 ∧ m = 5 := by
  obtain ⟨n, y⟩ := wI_5 h
  refine ⟨?_, ?_⟩
  · unfold xRP2
    rw [if_neg (fun z => n 0 (by decide) ((hW 0 (by decide)).mp z)), if_neg (fun z => n 1 (by decide) ((hW 1 (by decide)).mp z)), if_neg (fun z => n 2 (by decide) ((hW 2 (by decide)).mp z)), if_neg (fun z => n 3 (by decide) ((hW 3 (by decide)).mp z)), if_neg (fun z => n 4 (by decide) ((hW 4 (by decide)).mp z)), if_pos ((hW 5 (by decide)).mpr y)]
  · unfold wI at y
    rw [decide_eq_true_iff] at y
    exact y.1
theorem wI_6 {B : Nat → Int32} {s m : Nat} (h : wId B s m = 7) : (∀ j, j < 6 → ¬ wI B s m j = true) ∧ wI B s m 6 = true := by
  unfold wId at h
  by_cases w0 : wI B s m 0 = true
  · rw [if_pos w0] at h; exact absurd h (by decide)
  rw [if_neg w0] at h
  by_cases w1 : wI B s m 1 = true
  · rw [if_pos w1] at h; exact absurd h (by decide)
  rw [if_neg w1] at h
  by_cases w2 : wI B s m 2 = true
  · rw [if_pos w2] at h; exact absurd h (by decide)
  rw [if_neg w2] at h
  by_cases w3 : wI B s m 3 = true
  · rw [if_pos w3] at h; exact absurd h (by decide)
  rw [if_neg w3] at h
  by_cases w4 : wI B s m 4 = true
  · rw [if_pos w4] at h; exact absurd h (by decide)
  rw [if_neg w4] at h
  by_cases w5 : wI B s m 5 = true
  · rw [if_pos w5] at h; exact absurd h (by decide)
  rw [if_neg w5] at h
  by_cases w6 : wI B s m 6 = true
  · refine ⟨fun j hj => ?_, w6⟩
    rcases (by omega : j = 0 ∨ j = 1 ∨ j = 2 ∨ j = 3 ∨ j = 4 ∨ j = 5) with rfl | rfl | rfl | rfl | rfl | rfl
    all_goals assumption
  rw [if_neg w6] at h
  by_cases w7 : wI B s m 7 = true
  · rw [if_pos w7] at h; exact absurd h (by decide)
  rw [if_neg w7] at h
  by_cases w8 : wI B s m 8 = true
  · rw [if_pos w8] at h; exact absurd h (by decide)
  rw [if_neg w8] at h
  exact absurd h (by decide)
theorem xRP2_6 {w s m : Nat} {J : px_I} {B : Nat → Int32} (hW : ∀ i, i < 9 → (xWd J (J 76 9) i = true ↔ wI B s m i = true)) (h : wId B s m = 7) : xRP2 w J = xRD w J ∧ m = 2 := by
  obtain ⟨n, y⟩ := wI_6 h
  refine ⟨?_, ?_⟩
  · unfold xRP2
    rw [if_neg (fun z => n 0 (by decide) ((hW 0 (by decide)).mp z)), if_neg (fun z => n 1 (by decide) ((hW 1 (by decide)).mp z)), if_neg (fun z => n 2 (by decide) ((hW 2 (by decide)).mp z)), if_neg (fun z => n 3 (by decide) ((hW 3 (by decide)).mp z)), if_neg (fun z => n 4 (by decide) ((hW 4 (by decide)).mp z)), if_neg (fun z => n 5 (by decide) ((hW 5 (by decide)).mp z)), if_pos ((hW 6 (by decide)).mpr y)]
  · unfold wI at y
    rw [decide_eq_true_iff] at y
    exact y.1
theorem wI_7 {B : Nat → Int32} {s m : Nat} (h : wId B s m = 8) : (∀ j, j < 7 → ¬ wI B s m j = true) ∧ wI B s m 7 = true := by
  unfold wId at h
  by_cases w0 : wI B s m 0 = true
  · rw [if_pos w0] at h; exact absurd h (by decide)
  rw [if_neg w0] at h
  by_cases w1 : wI B s m 1 = true
  · rw [if_pos w1] at h; exact absurd h (by decide)
  rw [if_neg w1] at h
  by_cases w2 : wI B s m 2 = true
  · rw [if_pos w2] at h; exact absurd h (by decide)
  rw [if_neg w2] at h
  by_cases w3 : wI B s m 3 = true
  · rw [if_pos w3] at h; exact absurd h (by decide)
  rw [if_neg w3] at h
  by_cases w4 : wI B s m 4 = true
  · rw [if_pos w4] at h; exact absurd h (by decide)
  rw [if_neg w4] at h
  by_cases w5 : wI B s m 5 = true
  · rw [if_pos w5] at h; exact absurd h (by decide)
  rw [if_neg w5] at h
  by_cases w6 : wI B s m 6 = true
  · rw [if_pos w6] at h; exact absurd h (by decide)
  rw [if_neg w6] at h
  by_cases w7 : wI B s m 7 = true
  · refine ⟨fun j hj => ?_, w7⟩
    rcases (by omega : j = 0 ∨ j = 1 ∨ j = 2 ∨ j = 3 ∨ j = 4 ∨ j = 5 ∨ j = 6) with rfl | rfl | rfl | rfl | rfl | rfl | rfl
    all_goals assumption
  rw [if_neg w7] at h
  by_cases w8 : wI B s m 8 = true
  · rw [if_pos w8] at h; exact absurd h (by decide)
  rw [if_neg w8] at h
  exact absurd h (by decide)
theorem xRP2_7 {w s m : Nat} {J : px_I} {B : Nat → Int32} (hW : ∀ i, i < 9 → (xWd J (J 76 9) i = true ↔ wI B s m i = true)) (h : wId B s m = 8) : xRP2 w J = xRR w J ∧ m = 6 := by
  obtain ⟨n, y⟩ := wI_7 h
  refine ⟨?_, ?_⟩
  · unfold xRP2
    rw [if_neg (fun z => n 0 (by decide) ((hW 0 (by decide)).mp z)), if_neg (fun z => n 1 (by decide) ((hW 1 (by decide)).mp z)), if_neg (fun z => n 2 (by decide) ((hW 2 (by decide)).mp z)), if_neg (fun z => n 3 (by decide) ((hW 3 (by decide)).mp z)), if_neg (fun z => n 4 (by decide) ((hW 4 (by decide)).mp z)), if_neg (fun z => n 5 (by decide) ((hW 5 (by decide)).mp z)), if_neg (fun z => n 6 (by decide) ((hW 6 (by decide)).mp z)), if_pos ((hW 7 (by decide)).mpr y)]
  · unfold wI at y
    rw [decide_eq_true_iff] at y
    exact y.1
theorem wI_8 {B : Nat → Int32} {s m : Nat} (h : wId B s m = 0) : (∀ j, j < 8 → ¬ wI B s m j = true) ∧ wI B s m 8 = true := by
  unfold wId at h
  by_cases w0 : wI B s m 0 = true
  · rw [if_pos w0] at h; exact absurd h (by decide)
  rw [if_neg w0] at h
  by_cases w1 : wI B s m 1 = true
  · rw [if_pos w1] at h; exact absurd h (by decide)
  rw [if_neg w1] at h
  by_cases w2 : wI B s m 2 = true
  · rw [if_pos w2] at h; exact absurd h (by decide)
  rw [if_neg w2] at h
  by_cases w3 : wI B s m 3 = true
  · rw [if_pos w3] at h; exact absurd h (by decide)
  rw [if_neg w3] at h
  by_cases w4 : wI B s m 4 = true
  · rw [if_pos w4] at h; exact absurd h (by decide)
  rw [if_neg w4] at h
  by_cases w5 : wI B s m 5 = true
  · rw [if_pos w5] at h; exact absurd h (by decide)
  rw [if_neg w5] at h
  by_cases w6 : wI B s m 6 = true
  · rw [if_pos w6] at h; exact absurd h (by decide)
  rw [if_neg w6] at h
  by_cases w7 : wI B s m 7 = true
  · rw [if_pos w7] at h; exact absurd h (by decide)
  rw [if_neg w7] at h
  by_cases w8 : wI B s m 8 = true
  · refine ⟨fun j hj => ?_, w8⟩
    rcases (by omega : j = 0 ∨ j = 1 ∨ j = 2 ∨ j = 3 ∨ j = 4 ∨ j = 5 ∨ j = 6 ∨ j = 7) with rfl | rfl | rfl | rfl | rfl | rfl | rfl | rfl
    all_goals assumption
  rw [if_neg w8] at h
  exact absurd h (by decide)
theorem xRP2_8 {w s m : Nat} {J : px_I} {B : Nat → Int32} (hW : ∀ i, i < 9 → (xWd J (J 76 9) i = true ↔ wI B s m i = true)) (h : wId B s m = 0) (hd : J 76 7 = 0) : xRP2 w J = xDf w J ∧ m = 3 := by
  obtain ⟨n, y⟩ := wI_8 h
  refine ⟨?_, ?_⟩
  · unfold xRP2
    rw [if_neg (fun z => n 0 (by decide) ((hW 0 (by decide)).mp z)), if_neg (fun z => n 1 (by decide) ((hW 1 (by decide)).mp z)), if_neg (fun z => n 2 (by decide) ((hW 2 (by decide)).mp z)), if_neg (fun z => n 3 (by decide) ((hW 3 (by decide)).mp z)), if_neg (fun z => n 4 (by decide) ((hW 4 (by decide)).mp z)), if_neg (fun z => n 5 (by decide) ((hW 5 (by decide)).mp z)), if_neg (fun z => n 6 (by decide) ((hW 6 (by decide)).mp z)), if_neg (fun z => n 7 (by decide) ((hW 7 (by decide)).mp z)), if_pos ⟨(hW 8 (by decide)).mpr y, hd⟩]
  · unfold wI at y
    rw [decide_eq_true_iff] at y
    exact y.1
theorem kSt.zero {k v bS bT sS yS yT : Int32 → Int32} {b : Int32 → zL} {t : Int32 → Int32} {g : Int32 → zL} (hs : sS 0 = 0) (hy : ∀ l, 0 ≤ l → l ≤ 7 → yT l = -1) (hg : g 0 = []) : kSt k v bS bT sS yS yT 0 (-1) 0 0 g b t := by
  have y := fun l l1 l2 => hy l l1 l2
  refine ⟨⟨by decide, by decide⟩, ⟨by decide, by decide⟩, ⟨⟨by decide, by decide⟩, fun _ => rfl, fun z => absurd rfl z⟩, ?_, fun q q1 q2 => absurd (Int32.le_trans q1 q2) (by decide), fun q q1 q2 => ?_, fun q q1 q2 => ?_, fun l l1 l2 l3 => absurd (hy l l1 l2) l3⟩
  · unfold mNd
    rw [hy 0 (by decide) (by decide), hy 1 (by decide) (by decide), hy 2 (by decide) (by decide), hy 3 (by decide) (by decide), hy 4 (by decide) (by decide), hy 5 (by decide) (by decide), hy 6 (by decide) (by decide), hy 7 (by decide) (by decide)]
    decide
  · have q0 : q = 0 := by grind
    subst q0
    rw [kE_op]
    refine ⟨by unfold kB; rw [if_pos rfl]; exact Int32.le_refl _, Int32.le_refl _, fun p p1 p2 => ?_⟩
    have p0 : p = 0 := by grind
    rw [p0, kE_op]
    exact Int32.le_refl _
  · have q0 : q = 0 := by grind
    subst q0
    rw [kE_op, hg]
    refine ⟨hs, 0, 0, fun z => absurd rfl z, Nat.le_refl _, ?_⟩
    have e : kB (-1) bS bT 0 = 0 := if_pos rfl
    rw [e]
    exact cQx.nil
theorem xPp_K {w : Nat} {I : px_I} {N : Nat} {G : zG} {p : Nat} (hw : w = 77 ∨ 147 ≤ w) (h : kP w I N G p) : kP w (xPp I) N G p := by
  have r1 : ∀ b, b ≠ 76 → xPp I b = I b := fun b hb => funext fun j => xPp_o (fun q => hb q.1)
  exact ⟨h.1.same hw r1 (xPp_o (by omega)) (xPp_o (by omega)), by rw [r1 w (by omega), xPp_o (by omega)]; exact h.2⟩
theorem xRP.N {B : Nat → Int32} {n p w : Nat} {I : px_I} {d o m : Int32} {T : Nat → Bool} {N : Nat} {G : zG} (hw : w = 77 ∨ 147 ≤ w) (hp : p ≤ n) (h : xC B n I p) (h0 : ¬ tC B n p = 0) (h5 : ¬ tC B n p = 5) (hs : xP I d o (m + (if 0 < d then 1 else 0)) T) (hk : kP w I N G p) (hz : (zit B n p d o m T).1 = -1) : kP w (xRP w I) N (zg B n p d o G) (zit B n p d o m T).2.2.1 ∧ (zit B n p d o m T).2.2.1 ≤ n := by
  have ck := tCK B n p
  have r1 : ∀ b, b ≠ 76 → xPp I b = I b := fun b hb => funext fun j => xPp_o (fun q => hb q.1)
  have hC : xC B n (xPp I) p := by
    obtain ⟨c1, c2, c3, c4⟩ := h
    refine ⟨by rw [xPp_o (by omega)]; exact c1, by rw [xPp_o (by omega)]; exact c2, by rw [xPp_o (by omega)]; exact c3, fun z => ?_⟩
    obtain ⟨d1, d2, d3, d4, d5⟩ := c4 z
    refine ⟨d1.cg (fun b q1 q2 => r1 b (by omega)) (xPp_o (by omega)), ?_, ?_, ?_, ?_⟩
    · rw [xPp_o (by omega), r1 70 (by decide)]; exact d2
    · rw [xPp_o (by omega)]
      exact d3.cg (fun j _ => ⟨by rw [r1 72 (by decide)], by rw [r1 73 (by decide)], by rw [r1 74 (by decide)], by rw [r1 75 (by decide)]⟩)
    · rw [xPp_o (by omega)]
      have : ∀ k, tpos (xPp I) k = tpos I k := fun k => tpos_cg k (fun j _ => ⟨by rw [r1 73 (by decide)], by rw [r1 74 (by decide)]⟩)
      rw [this]; exact d4
    · rw [xPp_o (by omega), xPp_o (j := 9) (by omega), r1 73 (by decide)]; exact d5
  have hP : xP (xPp I) d o (m + 1) T := by
    obtain ⟨s1, s2, s3, s4, s5, s6, s7, s8, s9⟩ := hs
    refine ⟨by rw [xPp_o (by omega)]; exact s1, by rw [xPp_o (by omega)]; exact s2, by rw [xPp_o (by omega)]; exact s3, ?_, s5, s6, s7, by rw [r1 84 (by decide)]; exact s8, ?_⟩
    · unfold xPp
      rw [s2]
      by_cases e : d = 0
      · rw [if_pos e, px_u_at, s4, if_neg (by rw [e]; decide)]; grind
      · rw [if_neg e, s4, if_pos (by grind)]
    · unfold xB at *
      rw [r1 82 (by decide), r1 81 (by decide), r1 84 (by decide), xPp_o (by omega)]
      exact s9
  have hT := (hC.2.2.2 h0).1
  have z0 : ¬ (tK B n p = 0 ∧ d = 0) := fun z => h0 (ck.1.mpr z.1)
  have z5 : ¬ (0 < d ∧ tK B n p = 4 ∧ tV B n p = 125) := fun z => h5 (ck.2.2.2.2.1.mpr z.2)
  unfold zit at hz ⊢
  rw [if_neg z0, if_neg z5] at hz ⊢
  by_cases k1 : tK B n p = 1 ∧ ¬ (tV B n p = 0 ∧ 0 < d)
  · rw [if_pos k1] at hz ⊢
    have t1 := ck.2.2.2.2.2.1 k1.1
    have kw := (tKw t1).2 k1.1
    have W : ∀ i, i < 9 → (xWd (xPp I) (xPp I 76 9) i = true ↔ wI B (tS B n p) (tE B n p - tS B n p) i = true) := fun i hi => by rw [xWd_iff hi hC h0]; exact ⟨fun z => z.2, fun z => ⟨t1, z⟩⟩
    have hK := xPp_K hw hk
    have tl := t_le (B := B) hp
    have eg : zg B n p d o G = zgW B n p d G := if_neg (by rw [k1.1]; decide)
    rw [eg]
    unfold xRP
    have hv := yVr k1.1
    have hv9 : tV B n p = 0 ∨ tV B n p = 1 ∨ tV B n p = 2 ∨ tV B n p = 3 ∨ tV B n p = 4 ∨ tV B n p = 5 ∨ tV B n p = 6 ∨ tV B n p = 7 ∨ tV B n p = 8 := by grind
    rcases hv9 with v | v | v | v | v | v | v | v | v
    · have d0 : d = 0 := by
        by_cases e : d = 0
        · exact e
        · exact absurd ⟨v, by have := hP.2.2.2.2.1; grind⟩ k1.2
      have eW : zWd B n p d o m T = zDf B n (tE B n p) d m T := by unfold zWd; rw [v, if_pos rfl]
      have eG : zgW B n p d G = (gN G.1 (d + 1), G.2.1, gT G.2.2 (d + 1) 1) := by unfold zgW; rw [v, if_pos rfl]
      obtain ⟨e1, e2⟩ := xRP2_8 (w := w) W (kw.symm.trans v) (hP.2.1.trans d0)
      rw [eW] at hz ⊢
      rw [eG, e1]
      exact xDf.N hw d0 (by omega) tl.2.2.1 hT hP hK hz
    · have eW : zWd B n p d o m T = zNm B n 1 (tE B n p) d o m T := by unfold zWd; rw [v, if_neg (by decide), if_neg (by decide), if_neg (by decide)]
      have eG : zgW B n p d G = (gAd G.1 d [(1, tV B n (tE B n p))], G.2) := by unfold zgW; rw [v, if_neg (by decide), if_neg (by decide), if_neg (by decide), if_neg (by decide)]
      obtain ⟨e1, e2⟩ := xRP2_0 (w := w) W (kw.symm.trans v)
      rw [eW] at hz ⊢
      rw [eG, e1]
      exact xRS.N hw (w9 := 1) (by decide) (by decide) (by decide) (by decide) (by omega) tl.2.2.1 hT hP hK hz
    · have eW : zWd B n p d o m T = zNm B n 2 (tE B n p) d o m T := by unfold zWd; rw [v, if_neg (by decide), if_neg (by decide), if_neg (by decide)]
      have eG : zgW B n p d G = (gAd G.1 d [(2, tV B n (tE B n p))], G.2) := by unfold zgW; rw [v, if_neg (by decide), if_neg (by decide), if_neg (by decide), if_neg (by decide)]
      obtain ⟨e1, e2⟩ := xRP2_1 (w := w) W (kw.symm.trans v)
      rw [eW] at hz ⊢
      rw [eG, e1]
      exact xRS.N hw (w9 := 2) (by decide) (by decide) (by decide) (by decide) (by omega) tl.2.2.1 hT hP hK hz
    · have eW : zWd B n p d o m T = zNm B n 3 (tE B n p) d o m T := by unfold zWd; rw [v, if_neg (by decide), if_neg (by decide), if_neg (by decide)]
      have eG : zgW B n p d G = (gAd G.1 d [(3, tV B n (tE B n p))], G.2) := by unfold zgW; rw [v, if_neg (by decide), if_neg (by decide), if_neg (by decide), if_neg (by decide)]
      obtain ⟨e1, e2⟩ := xRP2_2 (w := w) W (kw.symm.trans v)
      rw [eW] at hz ⊢
      rw [eG, e1]
      exact xRS.N hw (w9 := 3) (by decide) (by decide) (by decide) (by decide) (by omega) tl.2.2.1 hT hP hK hz
    · have eW : zWd B n p d o m T = zNm B n 4 (tE B n p) d o m T := by unfold zWd; rw [v, if_neg (by decide), if_neg (by decide), if_neg (by decide)]
      have eG : zgW B n p d G = (gAd G.1 d [(4, tV B n (tE B n p))], G.2) := by unfold zgW; rw [v, if_neg (by decide), if_neg (by decide), if_neg (by decide), if_neg (by decide)]
      obtain ⟨e1, e2⟩ := xRP2_3 (w := w) W (kw.symm.trans v)
      rw [eW] at hz ⊢
      rw [eG, e1]
      exact xRS.N hw (w9 := 4) (by decide) (by decide) (by decide) (by decide) (by omega) tl.2.2.1 hT hP hK hz
    · have eW : zWd B n p d o m T = zSO B n (tE B n p) d o m T := by unfold zWd; rw [v, if_neg (by decide), if_neg (by decide), if_pos (by decide)]
      have eG : zgW B n p d G = (gAd G.1 d [(5, 0)], G.2) := by unfold zgW; rw [v, if_neg (by decide), if_neg (by decide), if_pos (by decide)]
      obtain ⟨e1, e2⟩ := xRP2_4 (w := w) W (kw.symm.trans v)
      rw [eW] at hz ⊢
      rw [eG, e1]
      exact xRB.N hw (w9 := 5) (by decide) (by decide) (by omega) tl.2.2.1 hT hP hK hz
    · have eW : zWd B n p d o m T = zSO B n (tE B n p) d o m T := by unfold zWd; rw [v, if_neg (by decide), if_neg (by decide), if_pos (by decide)]
      have eG : zgW B n p d G = (gAd G.1 d [(6, 0)], G.2) := by unfold zgW; rw [v, if_neg (by decide), if_neg (by decide), if_pos (by decide)]
      obtain ⟨e1, e2⟩ := xRP2_5 (w := w) W (kw.symm.trans v)
      rw [eW] at hz ⊢
      rw [eG, e1]
      exact xRB.N hw (w9 := 6) (by decide) (by decide) (by omega) tl.2.2.1 hT hP hK hz
    · have eW : zWd B n p d o m T = zDo B n (tE B n p) d o m T := by unfold zWd; rw [v, if_neg (by decide), if_pos rfl]
      have eG : zgW B n p d G = (gAd G.1 d (G.2.1 (tV B n (tE B n p))), G.2) := by unfold zgW; rw [v, if_neg (by decide), if_pos rfl]
      obtain ⟨e1, e2⟩ := xRP2_6 (w := w) W (kw.symm.trans v)
      rw [eW] at hz ⊢
      rw [eG, e1]
      exact xRD.N hw (by omega) tl.2.2.1 hT hP hK hz
    · have eW : zWd B n p d o m T = zNm B n 8 (tE B n p) d o m T := by unfold zWd; rw [v, if_neg (by decide), if_neg (by decide), if_neg (by decide)]
      have eG : zgW B n p d G = (gN G.1 (d + 1), G.2.1, gT G.2.2 (d + 1) (tV B n (tE B n p))) := by unfold zgW; rw [v, if_neg (by decide), if_neg (by decide), if_neg (by decide), if_pos rfl]
      obtain ⟨e1, e2⟩ := xRP2_7 (w := w) W (kw.symm.trans v)
      rw [eW] at hz ⊢
      rw [eG, e1]
      exact xRR.N hw (by omega) tl.2.2.1 hT hP hK hz
  · rw [if_neg k1] at hz; exact absurd hz (zbad_ne (by decide))
theorem xLp.N {B : Nat → Int32} {n w : Nat} (hw : w = 77 ∨ 147 ≤ w) : ∀ (f : Nat) (I : px_I) (p : Nat) (d o m : Int32) (T : Nat → Bool) (N : Nat) (G : zG), Fu B n f p → p ≤ n → xT B n I p → xP I d o (m + (if 0 < d then 1 else 0)) T → kP w I N G p → ∃ r H, ZG B n (p, d, o, m, T) G r H ∧ xM (xEn1 (xLp w f I)) r ∧ (r.1 = 0 → ∃ N2, kSI w (xEn1 (xLp w f I)) N2 H ∧ xEn1 (xLp w f I) 76 7 = 0) := by
  intro f
  induction f with
  | zero => intro I p d o m T N G hF; exact hF.elim
  | succ f ih =>
    intro I p d o m T N G hF hp hT hP hK
    have hC := xNx.C hT
    have hN := hP.nx
    have hK2 := hK.nx hw
    have ck := tCK B n p
    have eZ : zIt B n (p, d, o, m, T) = zit B n p d o m T := rfl
    unfold xLp
    rw [if_pos hP.1, hC.1]
    have dr := hP.2.2.2.2.1
    by_cases c0 : tC B n p = 0
    · rw [if_pos c0]
      have k0 := ck.1.mp c0
      by_cases e : d = 0
      · have ez : zit B n p d o m T = zfin m := by unfold zit; exact if_pos ⟨k0, e⟩
        have e1 : xEn1 (xNx I) = xNx I := by unfold xEn1; rw [if_neg (fun z => by rw [hN.2.1, e] at z; exact absurd z.2 (by decide))]
        rw [e1]
        refine ⟨zfin m, G, ?_, Or.inl ⟨rfl, hN.1, hN.2.2.2.2.2.2.2.2.2.2.2, ?_⟩, fun _ => ⟨N, hK2.1, hN.2.1.trans e⟩⟩
        · rw [← ez, ← eZ]
          exact ZG.one (by rw [eZ, ez]; show ¬ (0 : Int32) = -1; decide)
        · have := hN.2.2.2.1
          rw [if_neg (by rw [e]; decide)] at this
          rw [this]; show m + 0 = m; grind
      · have ez : zit B n p d o m T = zbad 1 (tS B n p) := by unfold zit; rw [if_neg (fun z => e z.2), if_neg (fun z => by rw [k0] at z; exact absurd z.2.1 (by decide)), if_neg (fun z => by rw [k0] at z; exact absurd z.1 (by decide))]
        have e1 : xEn1 (xNx I) = xFl (xNx I) 1 := by unfold xEn1; rw [if_pos ⟨hN.1, by rw [hN.2.1]; grind⟩]
        rw [e1]
        refine ⟨zbad 1 (tS B n p), G, ?_, Or.inr ⟨by show (1 : Int32) ≤ 1; decide, xFl.E hC hN.1⟩, fun z => absurd (show (1 : Int32) = 0 from z) (by decide)⟩
        rw [← ez, ← eZ]
        exact ZG.one (by rw [eZ, ez]; show ¬ (1 : Int32) = -1; decide)
    · rw [if_neg c0]
      have fin : ∀ I2, xO B n I2 (zit B n p d o m T) → ((zit B n p d o m T).1 = -1 → ∃ N2, kP w I2 N2 (zg B n p d o G) (zit B n p d o m T).2.2.1 ∧ (zit B n p d o m T).2.2.1 ≤ n) → ∃ r H, ZG B n (p, d, o, m, T) G r H ∧ xM (xEn1 (xLp w f I2)) r ∧ (r.1 = 0 → ∃ N2, kSI w (xEn1 (xLp w f I2)) N2 H ∧ xEn1 (xLp w f I2) 76 7 = 0) := fun I2 ho hk9 => by
        rcases ho with ⟨o1, o2, o3⟩ | ⟨o1, o2⟩
        · obtain ⟨N2, q1, q2⟩ := hk9 o1
          obtain ⟨r, H, r1, r2⟩ := ih I2 _ _ _ _ _ _ _ (zitFu hF o1) q2 o2 o3 q1
          exact ⟨r, H, ZG.step (by rw [eZ]; exact o1) r1, r2⟩
        · have ne : ¬ I2 76 14 = 0 := by rw [o2.1]; grind
          rw [xLp.stop ne]
          have e1 : xEn1 I2 = I2 := by unfold xEn1; rw [if_neg (fun z => ne z.1)]
          rw [e1]
          exact ⟨zit B n p d o m T, G, ZG.one (by rw [eZ]; intro z; rw [z] at o1; exact absurd o1 (by decide)), Or.inr ⟨o1, o2⟩, fun z => by rw [z] at o1; exact absurd o1 (by decide)⟩
      by_cases c5 : tC B n p = 5
      · rw [if_pos c5]
        have k5 := ck.2.2.2.2.1.mp c5
        by_cases e : 0 < d
        · have ez : zit B n p d o m T = zCl B n p d o m T := by unfold zit; rw [if_neg (fun z => c0 (ck.1.mpr z.1)), if_pos ⟨e, k5⟩]
          have hN2 := hN
          rw [if_pos e] at hN2
          refine fin _ (by rw [ez]; exact xCB.A hw e (hC.2.2.2 c0).1 hN2) (fun _ => ?_)
          have tp := t_pos (B := B) hp (by rw [k5.1]; decide)
          have n4 := hT.2.2.2.1
          obtain ⟨N2, y⟩ := xCB.N (d := d) (o := o) hw e hN.2.1 hN.2.2.1 (by omega) hK2
          have eg : zg B n p d o G = zgC d o G := if_pos k5.1
          have e3 : (zit B n p d o m T).2.2.1 = tE B n p := by
            rw [ez]; unfold zCl
            split <;> rfl
          rw [eg, e3]
          exact ⟨N2, ⟨y.1, Int.le_trans y.2 (by omega)⟩, tp.2⟩
        · have ez : zit B n p d o m T = zbad 1 (tS B n p) := by unfold zit; rw [if_neg (fun z => c0 (ck.1.mpr z.1)), if_neg (fun z => e z.1), if_neg (fun z => by rw [k5.1] at z; exact absurd z.1 (by decide))]
          have ec : xCB w (xNx I) = xFl (xNx I) 1 := by unfold xCB; rw [if_neg (fun z => by rw [hN.2.1] at z; grind)]
          rw [ec]
          refine fin _ (by rw [ez]; exact xO.bad (xFl.E hC hN.1) (by decide)) (fun z => by rw [ez] at z; exact absurd z (zbad_ne (by decide)))
      · rw [if_neg c5]
        exact fin _ (xRP.A hw hC c0 c5 hN) (fun z => ⟨N, xRP.N hw hp hC c0 c5 hN hK2 z⟩)
/-- a way that was read -/
theorem kSI.way {w : Nat} {J : px_I} {N : Nat} {H : zG} (hw : w = 77 ∨ 147 ≤ w) (h : kSI w J N H) (h0 : J 76 7 = 0) : cOx (px_u J w 3 (J 82 0)) w (H.1 0) := by
  obtain ⟨h1, h2, ⟨h3, h4, h5⟩, h6, h7, h8, h9, h10⟩ := h
  obtain ⟨a1, c, qq, a2, a3, a4⟩ := h9 0 (by decide) h1.1
  rw [h0] at a4
  have l1 := h4 h0
  rw [l1, kE_op] at a4
  have e0 : kB (-1) (fun j => J 80 j.toNatClampNeg) (fun j => J 81 j.toNatClampNeg) 0 = 0 := if_pos rfl
  rw [e0] at a4
  have nb := mNd_in (fun j => J 84 j.toNatClampNeg)
  have n8 := Int32.le_iff_toInt_le.mp nb.2
  rw [show (8 : Int32).toInt = 8 by decide, ← h6] at n8
  have w2 : px_u J w 3 (J 82 0) w 2 = J w 2 := px_u_at_ne (by decide)
  have w1 : px_u J w 3 (J 82 0) (w + 1) = J (w + 1) := px_u_ne (by omega)
  have w3 : px_u J w 3 (J 82 0) (w + 2) = J (w + 2) := px_u_ne (by omega)
  refine ⟨?_, 9 - (0 : Int32).toNatClampNeg + 8 * N, c, qq, ?_, by omega, by omega⟩
  · rw [px_u_at]
    exact a1
  · rw [w2, w1, w3]
    exact cQx.R (a4.cg (fun j hj => ⟨hj.1, rfl, rfl⟩))
theorem xRead.N {w : Nat} {I I2 : px_I} (hw : w = 77 ∨ 147 ≤ w) (hl : 0 ≤ I 70 5 ∧ I 70 5 ≤ 400) (h : xRead w I I2) : ∃ r H, ZG (byC I) (nC I) (0, 0, -1, 0, fun _ => false) zg0 r H ∧ xM I2 r ∧ (r.1 = 0 → cOx I2 w (H.1 0)) := by
  obtain ⟨Ia, Ib, hF, hA, h6, ⟨hb, hb84⟩, rfl⟩ := h
  have fr : ∀ b, 70 ≤ b → b ≤ 75 → Ib b = Ia b := fun b q1 q2 => funext fun j => by
    rw [hb b j (by omega)]
    unfold xBf
    repeat rw [px_u_ne (by omega)]
  have f76 : ∀ j, Ib 76 j = xBf w Ia 76 j := fun j => hb 76 j (by decide)
  have eb : byC Ia = byC I ∧ nC Ia = nC I := by
    have e5 : Ia 70 5 = I 70 5 := hF 70 5 (by decide) (by decide)
    have e71 : Ia 71 = I 71 := funext fun j => hF 71 j (by decide) (fun q => absurd q.1 (by decide))
    unfold byC nC
    rw [e5, e71]
    exact ⟨rfl, rfl⟩
  have tp : ∀ k, tpos Ib k = tpos Ia k := fun k => tpos_cg k (fun j _ => ⟨by rw [fr 73 (by decide) (by decide)], by rw [fr 74 (by decide) (by decide)]⟩)
  have i9 : Ib 76 9 = -1 := by rw [f76]; unfold xBf; simp [px_ur]
  have hT : xT (byC I) (nC I) Ib 0 := by
    have hA2 : cTA (byC I) (nC I) Ib := by
      obtain ⟨N, n1, n2, n3, n4, n5, n6⟩ := hA
      refine ⟨N, by rw [fr 70 (by decide) (by decide)]; exact n1, fun k hk => (n2 k hk).cg (fun j _ => ⟨by rw [fr 72 (by decide) (by decide)], by rw [fr 73 (by decide) (by decide)], by rw [fr 74 (by decide) (by decide)], by rw [fr 75 (by decide) (by decide)]⟩), by rw [tp]; exact n3, by rw [fr 72 (by decide) (by decide)]; exact n4, ?_, by rw [fr 73 (by decide) (by decide)]; exact n6⟩
      unfold pl at *
      rw [fr 73 (by decide) (by decide)]; exact n5
    refine ⟨hA2, ?_, ?_, ?_, by rw [fr 70 (by decide) (by decide)]; exact h6, by rw [i9]; decide, ?_, ?_⟩
    · rw [← eb.1]; unfold byC; rw [fr 70 (by decide) (by decide), fr 71 (by decide) (by decide)]
    · rw [← eb.2]; unfold nC; rw [fr 70 (by decide) (by decide)]
    · have := xle hl.1 hl.2
      rw [show (400 : Int32).toNatClampNeg = 400 by decide] at this
      exact this
    · rw [i9, show (-1 : Int32) + 1 = 0 by decide, xz0]
      obtain ⟨N, n1, -⟩ := hA2
      omega
    · rw [i9, show (-1 : Int32) + 1 = 0 by decide, xz0]; rfl
  have i7 : Ib 76 7 = 0 := by rw [f76]; unfold xBf; simp [px_ur]
  have i8 : Ib 76 8 = -1 := by rw [f76]; unfold xBf; simp [px_ur]
  have iw : Ib w 2 = 0 := by
    rw [hb w 2 (by omega)]
    unfold xBf
    simp [px_ur, show w ≠ 76 by omega, show w ≠ 82 by omega]
  have hP : xP Ib 0 (-1) (0 + (if (0 : Int32) < 0 then 1 else 0)) (fun _ => false) := by
    refine ⟨?_, i7, i8, ?_, by decide, fun _ => rfl, by decide, fun l hl9 => ?_, fun q hq => ?_, fun q q1 q2 => ?_, fun l hl9 => ?_, ?_⟩
    · rw [f76]; unfold xBf; simp [px_ur]
    · rw [f76]; unfold xBf; simp [px_ur]
    · rw [hb84 l hl9]; simp
    · rw [xz0] at hq
      have : q = 0 := by omega
      subst this
      rw [hb 82 0 (by decide)]
      unfold xBf
      rw [px_u_at]; decide
    · rw [xz0] at q2; omega
    · rw [hb84 l hl9]; decide
    · rw [f76]; unfold xBf; simp [px_ur]
  have hK : kP w Ib 0 zg0 0 := by
    refine ⟨?_, by rw [iw, i7]; decide⟩
    unfold kSI
    rw [i7, i8, iw]
    refine kSt.zero ?_ (fun l l1 l2 => ?_) rfl
    · show Ib 82 (0 : Int32).toNatClampNeg = 0
      rw [xz0, hb 82 0 (by decide)]
      unfold xBf
      rw [px_u_at]
    · show Ib 84 l.toNatClampNeg = -1
      have x1 := xnat l1
      have x2 := Int32.le_iff_toInt_le.mp l2
      rw [show (7 : Int32).toInt = 7 by decide] at x2
      exact hb84 _ (by omega)
  obtain ⟨r, H, r1, r2, r3⟩ := xLp.N hw (Ib 70 6).toNatClampNeg Ib 0 0 (-1) 0 (fun _ => false) 0 zg0 hT.1.fuel (Nat.zero_le _) hT hP hK
  refine ⟨r, H, r1, ?_, fun z => ?_⟩
  · unfold xM xE at *
    unfold xEn
    rw [px_u_ne (by omega)]
    exact r2
  · obtain ⟨N2, q1, q2⟩ := r3 z
    exact q1.way hw q2
