/-! rules: a straight stretch and what ends it -/
def px_G (n : Nat) (R : px_R) : Prop := px_nb ≤ n ∧ px_st n R
section PXR
variable {on n cu su pc pb : Nat} {R : px_R} {M : px_M} {Q : px_Q} {xs : List px_o} {ls ls' : px_Ls} {st st' : List Value} {I I' : px_I} {L L' : px_L} {P' : Prop}
theorem px_b (hon : M.1.cls = px_Rn on) (q : px_bk on M.2.2.1 M.2.1 pc xs = some pb) (hg : px_G n R) (he : px_ex px_nb n R xs ls st I L True = some (P', ls', st', I', L')) (hP : P') (k : px M cu su pb ls' st' n I' L' R Q) : px M cu su pc ls st n I L R Q :=
  (px_ex_ok hg.1 hon xs (fun _ => hg.2) q he).2 hP k
/-- while things are being made: what stands for good isn't asked -/
theorem px_bc (hon : M.1.cls = px_Rn on) (q : px_bk on M.2.2.1 M.2.1 pc xs = some pb ∧ xs.all (fun x => !px_us x) = true) (he : px_ex n n R xs ls st I L True = some (P', ls', st', I', L')) (hP : P') (k : px M cu su pb ls' st' n I' L' R Q) : px M cu su pc ls st n I L R Q :=
  (px_ex_ok (Nat.le_refl n) hon xs (fun ⟨x, hx, h⟩ => by have := List.all_eq_true.mp q.2 x hx; rw [h] at this; cases this) q.1 he).2 hP k
/-- other known values of the locals, or fewer -/
def px_sub : px_Ls → px_Ls → Prop
  | [], _ => True
  | q :: r, ls => px_gl ls q.1 = some q.2 ∧ px_sub r ls
theorem px_sub_ok {l' ls : px_Ls} (h : px_sub l' ls) : ∀ q ∈ l', q ∈ ls := by
  induction l' with
  | nil => intro q hq; cases hq
  | cons a r ih =>
    intro q hq
    rcases List.mem_cons.mp hq with rfl | hq
    · exact px_gl_mem h.1
    · exact ih h.2 q hq
theorem px_at (h : px_sub ls' ls) (k : px M cu su pc ls' st n I L R Q) : px M cu su pc ls st n I L R Q := by
  intro p l e s m args below meth c base cst D cid Z H locs lr X hW hS hl
  refine k p l e s m args below meth c base cst D cid Z H locs lr X hW hS ⟨hl.1, hl.2.1, fun q hq => ?_⟩
  obtain ⟨q0, h0, rfl⟩ := List.mem_map.mp hq
  exact hl.2.2 _ (List.mem_map.mpr ⟨q0, px_sub_ok h q0 h0, rfl⟩)
theorem px_go (k : px M cu su pc ls' st n I L R Q) (h : px_sub ls' ls) : px M cu su pc ls st n I L R Q := px_at h k
theorem px_wid {cu2 su2 : Nat} (h1 : cu ≤ cu2) (h2 : su ≤ su2) (k : px M cu2 su2 pc ls st n I L R Q) : px M cu su pc ls st n I L R Q := fun p l e s m args below meth c base cst D cid Z H locs lr X hW hS hl => W.widen h1 h2 (k p l e s m args below meth c base cst D cid Z H locs lr X hW hS hl)
theorem px.mono {Q2 : px_Q} (k : px M cu su pc ls st n I L R Q) (h : ∀ r n I L R, Q r n I L R → Q2 r n I L R) : px M cu su pc ls st n I L R Q2 := fun p l e s m args below meth c base cst D cid Z H locs lr X hW hS hl =>
  k p l e s m args below meth c base cst D cid Z H locs lr ⟨X.1, X.2.1, X.2.2.1, X.2.2.2.1, X.2.2.2.2.1, X.2.2.2.2.2.1, X.2.2.2.2.2.2.1, X.2.2.2.2.2.2.2.1, X.2.2.2.2.2.2.2.2.1, X.2.2.2.2.2.2.2.2.2.1, fun r n I L R H locs cu su pc ls hQ => X.2.2.2.2.2.2.2.2.2.2 r n I L R H locs cu su pc ls (h r n I L R hQ)⟩ hW hS hl
/-- a branch stands there -/
def px_t1 (cc : ByteArray) (pb : Nat) (cd : ClassFile.Cond) (tgt : Nat) : Bool := match decode cc pb with
  | .ok (.ifCond cd1 off, 3) => decide (cd1 = cd) && decide ((pb : Int) + off = tgt)
  | _ => false
def px_t2 (cc : ByteArray) (pb : Nat) (cd : ClassFile.Cond) (tgt : Nat) : Bool := match decode cc pb with
  | .ok (.if_icmp cd1 off, 3) => decide (cd1 = cd) && decide ((pb : Int) + off = tgt)
  | _ => false
def px_t3 (cc : ByteArray) (pb : Nat) (tgt : Nat) : Bool := match decode cc pb with
  | .ok (.ifnull off, 3) => decide ((pb : Int) + off = tgt)
  | _ => false
def px_t4 (cc : ByteArray) (pb : Nat) (tgt : Nat) : Bool := match decode cc pb with
  | .ok (.ifnonnull off, 3) => decide ((pb : Int) + off = tgt)
  | _ => false
theorem px_t1_ok {cc : ByteArray} {pb tgt : Nat} {cd : ClassFile.Cond} (h : px_t1 cc pb cd tgt = true) : ∃ off, decode cc pb = .ok (.ifCond cd off, 3) ∧ (pb : Int) + off = tgt := by
  unfold px_t1 at h
  split at h
  · rename_i cd1 off hd
    simp only [Bool.and_eq_true, decide_eq_true_eq] at h
    obtain ⟨rfl, h2⟩ := h
    exact ⟨off, hd, h2⟩
  · cases h
theorem px_t2_ok {cc : ByteArray} {pb tgt : Nat} {cd : ClassFile.Cond} (h : px_t2 cc pb cd tgt = true) : ∃ off, decode cc pb = .ok (.if_icmp cd off, 3) ∧ (pb : Int) + off = tgt := by
  unfold px_t2 at h
  split at h
  · rename_i cd1 off hd
    simp only [Bool.and_eq_true, decide_eq_true_eq] at h
    obtain ⟨rfl, h2⟩ := h
    exact ⟨off, hd, h2⟩
  · cases h
theorem px_t3_ok {cc : ByteArray} {pb tgt : Nat} (h : px_t3 cc pb tgt = true) : ∃ off, decode cc pb = .ok (.ifnull off, 3) ∧ (pb : Int) + off = tgt := by
  unfold px_t3 at h
  split at h
  · rename_i off hd; exact ⟨off, hd, of_decide_eq_true h⟩
  · cases h
theorem px_t4_ok {cc : ByteArray} {pb tgt : Nat} (h : px_t4 cc pb tgt = true) : ∃ off, decode cc pb = .ok (.ifnonnull off, 3) ∧ (pb : Int) + off = tgt := by
  unfold px_t4 at h
  split at h
  · rename_i off hd; exact ⟨off, hd, of_decide_eq_true h⟩
  · cases h

theorem px_eq {tgt : Nat} {x : Int32} {rest : List Value} (hon : M.1.cls = px_Rn on) (q : px_bk on M.2.2.1 M.2.1 pc xs = some pb ∧ px_t1 M.2.1 pb .eq tgt = true) (hg : px_G n R) (he : px_ex px_nb n R xs ls st I L True = some (P', ls', .int x :: rest, I', L')) (hP : P')
    (kt : x = 0 → px M cu su tgt ls' rest n I' L' R Q) (kf : ¬ x = 0 → px M cu su (pb + 3) ls' rest n I' L' R Q) : px M cu su pc ls st n I L R Q := by
  refine px_b hon q.1 hg he hP ?_
  intro p l e s m args below meth c base cst D cid Z H locs lr X hW hS hl
  obtain ⟨off, h1, h2⟩ := px_t1_ok q.2
  exact lv_if_eq X.1 X.2.1 h1 h2 (fun h => kt h p l e s m args below meth c base cst D cid Z H locs lr X hW hS hl) (fun h => kf h p l e s m args below meth c base cst D cid Z H locs lr X hW hS hl)
theorem px_ieq {tgt : Nat} {x y : Int32} {rest : List Value} (hon : M.1.cls = px_Rn on) (q : px_bk on M.2.2.1 M.2.1 pc xs = some pb ∧ px_t2 M.2.1 pb .eq tgt = true) (hg : px_G n R) (he : px_ex px_nb n R xs ls st I L True = some (P', ls', .int y :: .int x :: rest, I', L')) (hP : P')
    (kt : x = y → px M cu su tgt ls' rest n I' L' R Q) (kf : ¬ x = y → px M cu su (pb + 3) ls' rest n I' L' R Q) : px M cu su pc ls st n I L R Q := by
  refine px_b hon q.1 hg he hP ?_
  intro p l e s m args below meth c base cst D cid Z H locs lr X hW hS hl
  obtain ⟨off, h1, h2⟩ := px_t2_ok q.2
  exact lv_icmp_eq X.1 X.2.1 h1 h2 (fun h => kt h p l e s m args below meth c base cst D cid Z H locs lr X hW hS hl) (fun h => kf h p l e s m args below meth c base cst D cid Z H locs lr X hW hS hl)
theorem px_lc_eq (x y : Int64) : (lg_cmp x y = 0) ↔ (x = y) := by
  unfold lg_cmp
  simp only [gt_iff_lt, Int64.lt_iff_toInt_lt, Int64.le_iff_toInt_le, ← Int64.toInt_inj]
  repeat' split
  all_goals (constructor <;> intro hh <;> first | omega | decide | exact absurd hh (by decide))
theorem px_leq {tgt : Nat} {x y : Int64} {rest : List Value} (hon : M.1.cls = px_Rn on) (q : px_bk on M.2.2.1 M.2.1 pc xs = some pb ∧ px_t1 M.2.1 pb .eq tgt = true) (hg : px_G n R) (he : px_ex px_nb n R xs ls st I L True = some (P', ls', .int (lg_cmp x y) :: rest, I', L')) (hP : P')
    (kt : x = y → px M cu su tgt ls' rest n I' L' R Q) (kf : ¬ x = y → px M cu su (pb + 3) ls' rest n I' L' R Q) : px M cu su pc ls st n I L R Q :=
  px_eq hon q hg he hP (fun h => kt ((px_lc_eq x y).mp h)) (fun h => kf (by exact fun h2 => h ((px_lc_eq x y).mpr h2)))

theorem px_ne {tgt : Nat} {x : Int32} {rest : List Value} (hon : M.1.cls = px_Rn on) (q : px_bk on M.2.2.1 M.2.1 pc xs = some pb ∧ px_t1 M.2.1 pb .ne tgt = true) (hg : px_G n R) (he : px_ex px_nb n R xs ls st I L True = some (P', ls', .int x :: rest, I', L')) (hP : P')
    (kt : ¬ x = 0 → px M cu su tgt ls' rest n I' L' R Q) (kf : x = 0 → px M cu su (pb + 3) ls' rest n I' L' R Q) : px M cu su pc ls st n I L R Q := by
  refine px_b hon q.1 hg he hP ?_
  intro p l e s m args below meth c base cst D cid Z H locs lr X hW hS hl
  obtain ⟨off, h1, h2⟩ := px_t1_ok q.2
  exact lv_if_ne X.1 X.2.1 h1 h2 (fun h => kt h p l e s m args below meth c base cst D cid Z H locs lr X hW hS hl) (fun h => kf h p l e s m args below meth c base cst D cid Z H locs lr X hW hS hl)
theorem px_ine {tgt : Nat} {x y : Int32} {rest : List Value} (hon : M.1.cls = px_Rn on) (q : px_bk on M.2.2.1 M.2.1 pc xs = some pb ∧ px_t2 M.2.1 pb .ne tgt = true) (hg : px_G n R) (he : px_ex px_nb n R xs ls st I L True = some (P', ls', .int y :: .int x :: rest, I', L')) (hP : P')
    (kt : ¬ x = y → px M cu su tgt ls' rest n I' L' R Q) (kf : x = y → px M cu su (pb + 3) ls' rest n I' L' R Q) : px M cu su pc ls st n I L R Q := by
  refine px_b hon q.1 hg he hP ?_
  intro p l e s m args below meth c base cst D cid Z H locs lr X hW hS hl
  obtain ⟨off, h1, h2⟩ := px_t2_ok q.2
  exact lv_icmp_ne X.1 X.2.1 h1 h2 (fun h => kt h p l e s m args below meth c base cst D cid Z H locs lr X hW hS hl) (fun h => kf h p l e s m args below meth c base cst D cid Z H locs lr X hW hS hl)
theorem px_lc_ne (x y : Int64) : (¬ lg_cmp x y = 0) ↔ (¬ x = y) := by
  unfold lg_cmp
  simp only [gt_iff_lt, Int64.lt_iff_toInt_lt, Int64.le_iff_toInt_le, ← Int64.toInt_inj]
  repeat' split
  all_goals (constructor <;> intro hh <;> first | omega | decide | exact absurd hh (by decide))
theorem px_lne {tgt : Nat} {x y : Int64} {rest : List Value} (hon : M.1.cls = px_Rn on) (q : px_bk on M.2.2.1 M.2.1 pc xs = some pb ∧ px_t1 M.2.1 pb .ne tgt = true) (hg : px_G n R) (he : px_ex px_nb n R xs ls st I L True = some (P', ls', .int (lg_cmp x y) :: rest, I', L')) (hP : P')
    (kt : ¬ x = y → px M cu su tgt ls' rest n I' L' R Q) (kf : x = y → px M cu su (pb + 3) ls' rest n I' L' R Q) : px M cu su pc ls st n I L R Q :=
  px_ne hon q hg he hP (fun h => kt ((px_lc_ne x y).mp h)) (fun h => kf (by exact Classical.not_not.mp fun h2 => absurd h ((px_lc_ne x y).mpr h2)))

theorem px_lt {tgt : Nat} {x : Int32} {rest : List Value} (hon : M.1.cls = px_Rn on) (q : px_bk on M.2.2.1 M.2.1 pc xs = some pb ∧ px_t1 M.2.1 pb .lt tgt = true) (hg : px_G n R) (he : px_ex px_nb n R xs ls st I L True = some (P', ls', .int x :: rest, I', L')) (hP : P')
    (kt : x < 0 → px M cu su tgt ls' rest n I' L' R Q) (kf : ¬ x < 0 → px M cu su (pb + 3) ls' rest n I' L' R Q) : px M cu su pc ls st n I L R Q := by
  refine px_b hon q.1 hg he hP ?_
  intro p l e s m args below meth c base cst D cid Z H locs lr X hW hS hl
  obtain ⟨off, h1, h2⟩ := px_t1_ok q.2
  exact lv_if_lt X.1 X.2.1 h1 h2 (fun h => kt h p l e s m args below meth c base cst D cid Z H locs lr X hW hS hl) (fun h => kf h p l e s m args below meth c base cst D cid Z H locs lr X hW hS hl)
theorem px_ilt {tgt : Nat} {x y : Int32} {rest : List Value} (hon : M.1.cls = px_Rn on) (q : px_bk on M.2.2.1 M.2.1 pc xs = some pb ∧ px_t2 M.2.1 pb .lt tgt = true) (hg : px_G n R) (he : px_ex px_nb n R xs ls st I L True = some (P', ls', .int y :: .int x :: rest, I', L')) (hP : P')
    (kt : x < y → px M cu su tgt ls' rest n I' L' R Q) (kf : ¬ x < y → px M cu su (pb + 3) ls' rest n I' L' R Q) : px M cu su pc ls st n I L R Q := by
  refine px_b hon q.1 hg he hP ?_
  intro p l e s m args below meth c base cst D cid Z H locs lr X hW hS hl
  obtain ⟨off, h1, h2⟩ := px_t2_ok q.2
  exact lv_icmp_lt X.1 X.2.1 h1 h2 (fun h => kt h p l e s m args below meth c base cst D cid Z H locs lr X hW hS hl) (fun h => kf h p l e s m args below meth c base cst D cid Z H locs lr X hW hS hl)
theorem px_lc_lt (x y : Int64) : (lg_cmp x y < 0) ↔ (x < y) := by
  unfold lg_cmp
  simp only [gt_iff_lt, Int64.lt_iff_toInt_lt, Int64.le_iff_toInt_le, ← Int64.toInt_inj]
  repeat' split
  all_goals (constructor <;> intro hh <;> first | omega | decide | exact absurd hh (by decide))
theorem px_llt {tgt : Nat} {x y : Int64} {rest : List Value} (hon : M.1.cls = px_Rn on) (q : px_bk on M.2.2.1 M.2.1 pc xs = some pb ∧ px_t1 M.2.1 pb .lt tgt = true) (hg : px_G n R) (he : px_ex px_nb n R xs ls st I L True = some (P', ls', .int (lg_cmp x y) :: rest, I', L')) (hP : P')
    (kt : x < y → px M cu su tgt ls' rest n I' L' R Q) (kf : ¬ x < y → px M cu su (pb + 3) ls' rest n I' L' R Q) : px M cu su pc ls st n I L R Q :=
  px_lt hon q hg he hP (fun h => kt ((px_lc_lt x y).mp h)) (fun h => kf (by exact fun h2 => h ((px_lc_lt x y).mpr h2)))

theorem px_ge {tgt : Nat} {x : Int32} {rest : List Value} (hon : M.1.cls = px_Rn on) (q : px_bk on M.2.2.1 M.2.1 pc xs = some pb ∧ px_t1 M.2.1 pb .ge tgt = true) (hg : px_G n R) (he : px_ex px_nb n R xs ls st I L True = some (P', ls', .int x :: rest, I', L')) (hP : P')
    (kt : 0 ≤ x → px M cu su tgt ls' rest n I' L' R Q) (kf : ¬ 0 ≤ x → px M cu su (pb + 3) ls' rest n I' L' R Q) : px M cu su pc ls st n I L R Q := by
  refine px_b hon q.1 hg he hP ?_
  intro p l e s m args below meth c base cst D cid Z H locs lr X hW hS hl
  obtain ⟨off, h1, h2⟩ := px_t1_ok q.2
  exact lv_if_ge X.1 X.2.1 h1 h2 (fun h => kt h p l e s m args below meth c base cst D cid Z H locs lr X hW hS hl) (fun h => kf h p l e s m args below meth c base cst D cid Z H locs lr X hW hS hl)
theorem px_ige {tgt : Nat} {x y : Int32} {rest : List Value} (hon : M.1.cls = px_Rn on) (q : px_bk on M.2.2.1 M.2.1 pc xs = some pb ∧ px_t2 M.2.1 pb .ge tgt = true) (hg : px_G n R) (he : px_ex px_nb n R xs ls st I L True = some (P', ls', .int y :: .int x :: rest, I', L')) (hP : P')
    (kt : y ≤ x → px M cu su tgt ls' rest n I' L' R Q) (kf : ¬ y ≤ x → px M cu su (pb + 3) ls' rest n I' L' R Q) : px M cu su pc ls st n I L R Q := by
  refine px_b hon q.1 hg he hP ?_
  intro p l e s m args below meth c base cst D cid Z H locs lr X hW hS hl
  obtain ⟨off, h1, h2⟩ := px_t2_ok q.2
  exact lv_icmp_ge X.1 X.2.1 h1 h2 (fun h => kt h p l e s m args below meth c base cst D cid Z H locs lr X hW hS hl) (fun h => kf h p l e s m args below meth c base cst D cid Z H locs lr X hW hS hl)
theorem px_lc_ge (x y : Int64) : (0 ≤ lg_cmp x y) ↔ (y ≤ x) := by
  unfold lg_cmp
  simp only [gt_iff_lt, Int64.lt_iff_toInt_lt, Int64.le_iff_toInt_le, ← Int64.toInt_inj]
  repeat' split
  all_goals (constructor <;> intro hh <;> first | omega | decide | exact absurd hh (by decide))
theorem px_lge {tgt : Nat} {x y : Int64} {rest : List Value} (hon : M.1.cls = px_Rn on) (q : px_bk on M.2.2.1 M.2.1 pc xs = some pb ∧ px_t1 M.2.1 pb .ge tgt = true) (hg : px_G n R) (he : px_ex px_nb n R xs ls st I L True = some (P', ls', .int (lg_cmp x y) :: rest, I', L')) (hP : P')
    (kt : y ≤ x → px M cu su tgt ls' rest n I' L' R Q) (kf : ¬ y ≤ x → px M cu su (pb + 3) ls' rest n I' L' R Q) : px M cu su pc ls st n I L R Q :=
  px_ge hon q hg he hP (fun h => kt ((px_lc_ge x y).mp h)) (fun h => kf (by exact fun h2 => h ((px_lc_ge x y).mpr h2)))

theorem px_gt {tgt : Nat} {x : Int32} {rest : List Value} (hon : M.1.cls = px_Rn on) (q : px_bk on M.2.2.1 M.2.1 pc xs = some pb ∧ px_t1 M.2.1 pb .gt tgt = true) (hg : px_G n R) (he : px_ex px_nb n R xs ls st I L True = some (P', ls', .int x :: rest, I', L')) (hP : P')
    (kt : 0 < x → px M cu su tgt ls' rest n I' L' R Q) (kf : ¬ 0 < x → px M cu su (pb + 3) ls' rest n I' L' R Q) : px M cu su pc ls st n I L R Q := by
  refine px_b hon q.1 hg he hP ?_
  intro p l e s m args below meth c base cst D cid Z H locs lr X hW hS hl
  obtain ⟨off, h1, h2⟩ := px_t1_ok q.2
  exact lv_if_gt X.1 X.2.1 h1 h2 (fun h => kt h p l e s m args below meth c base cst D cid Z H locs lr X hW hS hl) (fun h => kf h p l e s m args below meth c base cst D cid Z H locs lr X hW hS hl)
theorem px_igt {tgt : Nat} {x y : Int32} {rest : List Value} (hon : M.1.cls = px_Rn on) (q : px_bk on M.2.2.1 M.2.1 pc xs = some pb ∧ px_t2 M.2.1 pb .gt tgt = true) (hg : px_G n R) (he : px_ex px_nb n R xs ls st I L True = some (P', ls', .int y :: .int x :: rest, I', L')) (hP : P')
    (kt : y < x → px M cu su tgt ls' rest n I' L' R Q) (kf : ¬ y < x → px M cu su (pb + 3) ls' rest n I' L' R Q) : px M cu su pc ls st n I L R Q := by
  refine px_b hon q.1 hg he hP ?_
  intro p l e s m args below meth c base cst D cid Z H locs lr X hW hS hl
  obtain ⟨off, h1, h2⟩ := px_t2_ok q.2
  exact lv_icmp_gt X.1 X.2.1 h1 h2 (fun h => kt h p l e s m args below meth c base cst D cid Z H locs lr X hW hS hl) (fun h => kf h p l e s m args below meth c base cst D cid Z H locs lr X hW hS hl)
theorem px_lc_gt (x y : Int64) : (0 < lg_cmp x y) ↔ (y < x) := by
  unfold lg_cmp
  simp only [gt_iff_lt, Int64.lt_iff_toInt_lt, Int64.le_iff_toInt_le, ← Int64.toInt_inj]
  repeat' split
  all_goals (constructor <;> intro hh <;> first | omega | decide | exact absurd hh (by decide))
theorem px_lgt {tgt : Nat} {x y : Int64} {rest : List Value} (hon : M.1.cls = px_Rn on) (q : px_bk on M.2.2.1 M.2.1 pc xs = some pb ∧ px_t1 M.2.1 pb .gt tgt = true) (hg : px_G n R) (he : px_ex px_nb n R xs ls st I L True = some (P', ls', .int (lg_cmp x y) :: rest, I', L')) (hP : P')
    (kt : y < x → px M cu su tgt ls' rest n I' L' R Q) (kf : ¬ y < x → px M cu su (pb + 3) ls' rest n I' L' R Q) : px M cu su pc ls st n I L R Q :=
  px_gt hon q hg he hP (fun h => kt ((px_lc_gt x y).mp h)) (fun h => kf (by exact fun h2 => h ((px_lc_gt x y).mpr h2)))

theorem px_le {tgt : Nat} {x : Int32} {rest : List Value} (hon : M.1.cls = px_Rn on) (q : px_bk on M.2.2.1 M.2.1 pc xs = some pb ∧ px_t1 M.2.1 pb .le tgt = true) (hg : px_G n R) (he : px_ex px_nb n R xs ls st I L True = some (P', ls', .int x :: rest, I', L')) (hP : P')
    (kt : x ≤ 0 → px M cu su tgt ls' rest n I' L' R Q) (kf : ¬ x ≤ 0 → px M cu su (pb + 3) ls' rest n I' L' R Q) : px M cu su pc ls st n I L R Q := by
  refine px_b hon q.1 hg he hP ?_
  intro p l e s m args below meth c base cst D cid Z H locs lr X hW hS hl
  obtain ⟨off, h1, h2⟩ := px_t1_ok q.2
  exact lv_if_le X.1 X.2.1 h1 h2 (fun h => kt h p l e s m args below meth c base cst D cid Z H locs lr X hW hS hl) (fun h => kf h p l e s m args below meth c base cst D cid Z H locs lr X hW hS hl)
theorem px_ile {tgt : Nat} {x y : Int32} {rest : List Value} (hon : M.1.cls = px_Rn on) (q : px_bk on M.2.2.1 M.2.1 pc xs = some pb ∧ px_t2 M.2.1 pb .le tgt = true) (hg : px_G n R) (he : px_ex px_nb n R xs ls st I L True = some (P', ls', .int y :: .int x :: rest, I', L')) (hP : P')
    (kt : x ≤ y → px M cu su tgt ls' rest n I' L' R Q) (kf : ¬ x ≤ y → px M cu su (pb + 3) ls' rest n I' L' R Q) : px M cu su pc ls st n I L R Q := by
  refine px_b hon q.1 hg he hP ?_
  intro p l e s m args below meth c base cst D cid Z H locs lr X hW hS hl
  obtain ⟨off, h1, h2⟩ := px_t2_ok q.2
  exact lv_icmp_le X.1 X.2.1 h1 h2 (fun h => kt h p l e s m args below meth c base cst D cid Z H locs lr X hW hS hl) (fun h => kf h p l e s m args below meth c base cst D cid Z H locs lr X hW hS hl)
theorem px_lc_le (x y : Int64) : (lg_cmp x y ≤ 0) ↔ (x ≤ y) := by
  unfold lg_cmp
  simp only [gt_iff_lt, Int64.lt_iff_toInt_lt, Int64.le_iff_toInt_le, ← Int64.toInt_inj]
  repeat' split
  all_goals (constructor <;> intro hh <;> first | omega | decide | exact absurd hh (by decide))
theorem px_lle {tgt : Nat} {x y : Int64} {rest : List Value} (hon : M.1.cls = px_Rn on) (q : px_bk on M.2.2.1 M.2.1 pc xs = some pb ∧ px_t1 M.2.1 pb .le tgt = true) (hg : px_G n R) (he : px_ex px_nb n R xs ls st I L True = some (P', ls', .int (lg_cmp x y) :: rest, I', L')) (hP : P')
    (kt : x ≤ y → px M cu su tgt ls' rest n I' L' R Q) (kf : ¬ x ≤ y → px M cu su (pb + 3) ls' rest n I' L' R Q) : px M cu su pc ls st n I L R Q :=
  px_le hon q hg he hP (fun h => kt ((px_lc_le x y).mp h)) (fun h => kf (by exact fun h2 => h ((px_lc_le x y).mpr h2)))

theorem px_null {tgt : Nat} {r : Option Nat} {rest : List Value} (hon : M.1.cls = px_Rn on) (q : px_bk on M.2.2.1 M.2.1 pc xs = some pb ∧ px_t3 M.2.1 pb tgt = true) (hg : px_G n R) (he : px_ex px_nb n R xs ls st I L True = some (P', ls', va_rf r :: rest, I', L')) (hP : P')
    (kt : r = none → px M cu su tgt ls' rest n I' L' R Q) (kf : ∀ a, r = some a → px M cu su (pb + 3) ls' rest n I' L' R Q) : px M cu su pc ls st n I L R Q := by
  refine px_b hon q.1 hg he hP ?_
  intro p l e s m args below meth c base cst D cid Z H locs lr X hW hS hl
  obtain ⟨off, h1, h2⟩ := px_t3_ok q.2
  cases r with
  | none => exact lv_ifnullN X.1 X.2.1 h1 h2 (kt rfl p l e s m args below meth c base cst D cid Z H locs lr X hW hS hl)
  | some a => exact lv_ifnull X.1 X.2.1 h1 (kf a rfl p l e s m args below meth c base cst D cid Z H locs lr X hW hS hl)
theorem px_nonnull {tgt : Nat} {r : Option Nat} {rest : List Value} (hon : M.1.cls = px_Rn on) (q : px_bk on M.2.2.1 M.2.1 pc xs = some pb ∧ px_t4 M.2.1 pb tgt = true) (hg : px_G n R) (he : px_ex px_nb n R xs ls st I L True = some (P', ls', va_rf r :: rest, I', L')) (hP : P')
    (kt : ∀ a, r = some a → px M cu su tgt ls' rest n I' L' R Q) (kf : r = none → px M cu su (pb + 3) ls' rest n I' L' R Q) : px M cu su pc ls st n I L R Q := by
  refine px_b hon q.1 hg he hP ?_
  intro p l e s m args below meth c base cst D cid Z H locs lr X hW hS hl
  obtain ⟨off, h1, h2⟩ := px_t4_ok q.2
  cases r with
  | none => exact lv_ifnonnullN X.1 X.2.1 h1 (kf rfl p l e s m args below meth c base cst D cid Z H locs lr X hW hS hl)
  | some a => exact lv_ifnonnull X.1 X.2.1 h1 h2 (kt a rfl p l e s m args below meth c base cst D cid Z H locs lr X hW hS hl)
/-- a return -/
def px_tr (cc : ByteArray) (pb : Nat) (i : Instr) : Bool := match decode cc pb with
  | .ok (j, 1) => decide (j = i)
  | _ => false
theorem px_tr_ok {cc : ByteArray} {pb : Nat} {i : Instr} (h : px_tr cc pb i = true) : decode cc pb = .ok (i, 1) := by
  unfold px_tr at h
  split at h
  · rename_i j hd; rw [hd, of_decide_eq_true h]
  · cases h
theorem px_ret {r : Option Value} (h : px_isr M pb r) (hcu : Nat.ble cu (px_room M).cells = true) (hsu : Nat.ble su (px_room M).slots = true) (hq : Q r n I L R) : px M cu su pb ls r.toList n I L R Q := by
  intro p l e s m args below meth c base cst D cid Z H locs lr X hW hS hl
  exact X.2.2.2.2.2.2.2.2.2.2 r n I L R H locs cu su pb lr hq hW hS h (Nat.le_of_ble_eq_true hcu) (Nat.le_of_ble_eq_true hsu)
theorem px_ri {x : Int32} (hon : M.1.cls = px_Rn on) (q : px_bk on M.2.2.1 M.2.1 pc xs = some pb ∧ px_tr M.2.1 pb .ireturn = true) (hr : M.2.2.2.1 = some .int) (hcu : Nat.ble cu (px_room M).cells = true) (hsu : Nat.ble su (px_room M).slots = true) (hg : px_G n R) (he : px_ex px_nb n R xs ls st I L True = some (P', ls', [.int x], I', L')) (hP : P') (hq : Q (some (.int x)) n I' L' R) : px M cu su pc ls st n I L R Q :=
  px_b hon q.1 hg he hP (px_ret (r := some (.int x)) ⟨px_tr_ok q.2, _, hr, rfl⟩ hcu hsu hq)
theorem px_rz {x : Int32} (hon : M.1.cls = px_Rn on) (q : px_bk on M.2.2.1 M.2.1 pc xs = some pb ∧ px_tr M.2.1 pb .ireturn = true) (hr : M.2.2.2.1 = some .boolean) (hcu : Nat.ble cu (px_room M).cells = true) (hsu : Nat.ble su (px_room M).slots = true) (hg : px_G n R) (he : px_ex px_nb n R xs ls st I L True = some (P', ls', [.int x], I', L')) (hP : P') (hx : x = 0 ∨ x = 1) (hq : Q (some (.int x)) n I' L' R) : px M cu su pc ls st n I L R Q :=
  px_b hon q.1 hg he hP (px_ret (r := some (.int x)) ⟨px_tr_ok q.2, _, hr, by rcases hx with rfl | rfl <;> rfl⟩ hcu hsu hq)
theorem px_rn {x : Int32} {ty : FieldType} (hon : M.1.cls = px_Rn on) (q : px_bk on M.2.2.1 M.2.1 pc xs = some pb ∧ px_tr M.2.1 pb .ireturn = true) (hr : M.2.2.2.1 = some ty) (hcu : Nat.ble cu (px_room M).cells = true) (hsu : Nat.ble su (px_room M).slots = true) (hg : px_G n R) (he : px_ex px_nb n R xs ls st I L True = some (P', ls', [.int x], I', L')) (hP : P') (hx : narrow ty (.int x) = .int x) (hq : Q (some (.int x)) n I' L' R) : px M cu su pc ls st n I L R Q :=
  px_b hon q.1 hg he hP (px_ret (r := some (.int x)) ⟨px_tr_ok q.2, _, hr, hx⟩ hcu hsu hq)
theorem px_rl {x : Int64} (hon : M.1.cls = px_Rn on) (q : px_bk on M.2.2.1 M.2.1 pc xs = some pb ∧ px_tr M.2.1 pb .lreturn = true) (hr : M.2.2.2.1 = some .long) (hcu : Nat.ble cu (px_room M).cells = true) (hsu : Nat.ble su (px_room M).slots = true) (hg : px_G n R) (he : px_ex px_nb n R xs ls st I L True = some (P', ls', [.long x], I', L')) (hP : P') (hq : Q (some (.long x)) n I' L' R) : px M cu su pc ls st n I L R Q :=
  px_b hon q.1 hg he hP (px_ret (r := some (.long x)) ⟨px_tr_ok q.2, hr⟩ hcu hsu hq)
theorem px_rv (hon : M.1.cls = px_Rn on) (q : px_bk on M.2.2.1 M.2.1 pc xs = some pb ∧ px_tr M.2.1 pb .return_ = true) (hr : M.2.2.2.1 = none) (hcu : Nat.ble cu (px_room M).cells = true) (hsu : Nat.ble su (px_room M).slots = true) (hg : px_G n R) (he : px_ex px_nb n R xs ls st I L True = some (P', ls', [], I', L')) (hP : P') (hq : Q none n I' L' R) : px M cu su pc ls st n I L R Q :=
  px_b hon q.1 hg he hP (px_ret (r := none) ⟨hr, px_tr_ok q.2⟩ hcu hsu hq)
theorem px_rvc (hon : M.1.cls = px_Rn on) (q : (px_bk on M.2.2.1 M.2.1 pc xs = some pb ∧ xs.all (fun x => !px_us x) = true) ∧ px_tr M.2.1 pb .return_ = true) (hr : M.2.2.2.1 = none) (hcu : Nat.ble cu (px_room M).cells = true) (hsu : Nat.ble su (px_room M).slots = true) (he : px_ex n n R xs ls st I L True = some (P', ls', [], I', L')) (hP : P') (hq : Q none n I' L' R) : px M cu su pc ls st n I L R Q :=
  px_bc hon q.1 he hP (px_ret (r := none) ⟨hr, px_tr_ok q.2⟩ hcu hsu hq)
theorem px_ra {v : Option Nat} {nm : String} (hon : M.1.cls = px_Rn on) (q : px_bk on M.2.2.1 M.2.1 pc xs = some pb ∧ px_tr M.2.1 pb .areturn = true) (hr : M.2.2.2.1 = some (.object nm)) (hcu : Nat.ble cu (px_room M).cells = true) (hsu : Nat.ble su (px_room M).slots = true) (hg : px_G n R) (he : px_ex px_nb n R xs ls st I L True = some (P', ls', [va_rf v], I', L')) (hP : P') (hq : Q (some (va_rf v)) n I' L' R) : px M cu su pc ls st n I L R Q :=
  px_b hon q.1 hg he hP (px_ret (r := some (va_rf v)) (by cases v with
    | none => exact ⟨px_tr_ok q.2, ⟨_, hr, Or.inl ⟨_, rfl⟩⟩, Or.inl rfl⟩
    | some a => exact ⟨px_tr_ok q.2, ⟨_, hr, Or.inl ⟨_, rfl⟩⟩, Or.inr ⟨_, rfl⟩⟩) hcu hsu hq)
end PXR

/-- loops: upwards to N, downwards to N -/
theorem px_up {P : Int32 → Prop} (N : Int32) (h : ∀ k, (∀ j, k < j → j ≤ N → P j) → k ≤ N → P k) : ∀ k, k ≤ N → P k := by
  have key : ∀ (d : Nat) (k : Int32), (N.toInt - k.toInt).toNat < d → k ≤ N → P k := by
    intro d
    induction d with
    | zero => intro k h1; omega
    | succ d ih =>
      intro k h1 h2
      refine h k (fun j h3 h4 => ih j ?_ h4) h2
      have h3 := Int32.lt_iff_toInt_lt.mp h3
      have h4 := Int32.le_iff_toInt_le.mp h4
      omega
  exact fun k hk => key _ k (Nat.lt_succ_self _) hk
theorem px_dn {P : Int32 → Prop} (N : Int32) (h : ∀ k, (∀ j, j < k → N ≤ j → P j) → N ≤ k → P k) : ∀ k, N ≤ k → P k := by
  have key : ∀ (d : Nat) (k : Int32), (k.toInt - N.toInt).toNat < d → N ≤ k → P k := by
    intro d
    induction d with
    | zero => intro k h1; omega
    | succ d ih =>
      intro k h1 h2
      refine h k (fun j h3 h4 => ih j ?_ h4) h2
      have h3 := Int32.lt_iff_toInt_lt.mp h3
      have h4 := Int32.le_iff_toInt_le.mp h4
      omega
  exact fun k hk => key _ k (Nat.lt_succ_self _) hk
theorem px_inj {a b : Int32} (ha : 0 ≤ a) (hb : 0 ≤ b) (h : a.toNatClampNeg = b.toNatClampNeg) : a = b := by
  have h1 := Int32.le_iff_toInt_le.mp ha
  have h2 := Int32.le_iff_toInt_le.mp hb
  apply Int32.toInt_inj.mp
  unfold Int32.toNatClampNeg at h
  simp at h1 h2
  omega

/-! a switch -/
section PXS
variable {n cu su pb : Nat} {R : px_R} {M : px_M} {Q : px_Q} {ls : px_Ls} {rest : List Value} {I : px_I} {L : px_L}
theorem px_swI {dflt lo hi : Int} {offs : Array Int} {len tgt : Nat} {x v : Int32} {off : Int} (hd : decode M.2.1 pb = .ok (.tableswitch dflt lo hi offs, len)) (hx : x = v) (h1 : ¬ v.toInt < lo) (h2 : ¬ hi < v.toInt) (ho : offs[(v.toInt - lo).toNat]? = some off) (ht : (pb : Int) + off = tgt)
    (k : px M cu su tgt ls rest n I L R Q) : px M cu su pb ls (.int x :: rest) n I L R Q := by
  subst hx
  intro p l e s m args below meth c base cst D cid Z H locs lr X hW hS hl
  exact lv_tableIn X.1 X.2.1 hd h1 h2 ho ht (k p l e s m args below meth c base cst D cid Z H locs lr X hW hS hl)
theorem px_swO {dflt lo hi : Int} {offs : Array Int} {len tgt : Nat} {x : Int32} (hd : decode M.2.1 pb = .ok (.tableswitch dflt lo hi offs, len)) (h : x.toInt < lo ∨ hi < x.toInt) (ht : (pb : Int) + dflt = tgt)
    (k : px M cu su tgt ls rest n I L R Q) : px M cu su pb ls (.int x :: rest) n I L R Q := by
  intro p l e s m args below meth c base cst D cid Z H locs lr X hW hS hl
  exact lv_tableOut X.1 X.2.1 hd h ht (k p l e s m args below meth c base cst D cid Z H locs lr X hW hS hl)
theorem px_swL {dflt : Int} {ps : Array (Int × Int)} {len tgt : Nat} {x : Int32} {off : Int} (hd : decode M.2.1 pb = .ok (.lookupswitch dflt ps, len)) (hp : (ps.toList.zip (ps.toList.drop 1)).all (fun (a, next) => a.1 < next.1) = true) (ho : Op.lookupswitch.offset ps.toList dflt x.toInt = off) (ht : (pb : Int) + off = tgt)
    (k : px M cu su tgt ls rest n I L R Q) : px M cu su pb ls (.int x :: rest) n I L R Q := by
  intro p l e s m args below meth c base cst D cid Z H locs lr X hW hS hl
  exact lv_lookup X.1 X.2.1 hd hp ho ht (k p l e s m args below meth c base cst D cid Z H locs lr X hW hS hl)
end PXS
/-- beyond all cases -/
theorem px_out {x : Int32} (lo hi : Nat) (h9 : hi < 2000) (h : ∀ k : Nat, lo ≤ k → k ≤ hi → x ≠ Int32.ofNat k) : x.toInt < (lo : Int) ∨ (hi : Int) < x.toInt := by
  by_cases h1 : x.toInt < (lo : Int)
  · exact Or.inl h1
  · by_cases h2 : (hi : Int) < x.toInt
    · exact Or.inr h2
    · refine absurd ?_ (h x.toInt.toNat (by omega) (by omega))
      apply Int32.toInt_inj.mp
      rw [Int32.toInt_ofNat_of_lt (by omega)]
      omega
