/-! the law's own body: its script, its calls -/
abbrev M_law (N : Nat) (xs : Nat → Int32) : px_M := (yL_law, cL_law, 4, some .boolean, 11, 388, 600000, 7302250, fun cst base s => va_X (cst 20) N xs s s.heap ∧ cst 20 < base)
abbrev lwL (i : Int32) : px_Ls := [(0, .ref 20), (1, .ref 32), (2, .ref 103), (3, .int i)]
/-- where in the script -/
def lwI (N : Nat) (i : Int32) : Prop := N ≤ 4096 ∧ 0 ≤ i.toInt ∧ i.toInt + 8 ≤ N
abbrev ag (xs : Nat → Int32) (i k : Int32) : Int32 := xs (i + k).toNatClampNeg
abbrev bo (v : Int32) : Int32 := if v = 0 then 0 else 1
theorem lwI_at {N : Nat} {i k : Int32} (h : lwI N i) (hk : 0 ≤ k.toInt ∧ k.toInt < 8) : vp_in (i + k) N := by
  obtain ⟨h1, h2, h3⟩ := h
  have e : (i + k).toInt = i.toInt + k.toInt := by rw [Int32.toInt_add, Int.bmod_eq_of_le (by omega) (by omega)]
  rw [vp_in_iff, e]
  omega
def px_tia (cc : ByteArray) (pb : Nat) : Bool := match decode cc pb with
  | .ok (.iaload, 1) => true
  | _ => false
theorem px_tia_ok {cc : ByteArray} {pb : Nat} (h : px_tia cc pb = true) : decode cc pb = .ok (.iaload, 1) := by
  unfold px_tia at h
  split at h
  · assumption
  · cases h
section PXL
variable {N : Nat} {xs : Nat → Int32} {n cu su pc pb idx k : Nat} {R : px_R} {Q : px_Q} {ls : px_Ls} {st rest As : List Value} {I : px_I} {L : px_L} {M1 : px_M} {i : Int32}
theorem px_slen (hd : decode cL_law pc = .ok (.arraylength, 1)) (kk : px (M_law N xs) cu su (pc + 1) ls (.int (Int32.ofNat N) :: st) n I L R Q) : px (M_law N xs) cu su pc ls (.ref 20 :: st) n I L R Q := by
  intro p l e s m args below meth c base cst D cid Z H locs lr X hW hS hl
  have h := X.2.2.2.2.2.2.2.2.2.1
  have k2 := kk p l e s m args below meth c base cst D cid Z H locs lr X hW hS hl
  rw [List.map_cons, show px_v (px_ad base cst) (.ref 20) = .ref (cst 20) from congrArg Value.ref (px_adc (by decide))]
  exact va_slen X.1 X.2.1 h.1 (Nat.lt_of_lt_of_le h.2 X.2.2.2.2.2.2.1) (Nat.not_le.mpr h.2) hS hd k2
theorem px_sld {j : Int32} (hj : vp_in j N) (hd : decode cL_law pc = .ok (.iaload, 1)) (kk : px (M_law N xs) cu su (pc + 1) ls (.int (xs j.toNatClampNeg) :: st) n I L R Q) : px (M_law N xs) cu su pc ls (.int j :: .ref 20 :: st) n I L R Q := by
  intro p l e s m args below meth c base cst D cid Z H locs lr X hW hS hl
  have h := X.2.2.2.2.2.2.2.2.2.1
  have k2 := kk p l e s m args below meth c base cst D cid Z H locs lr X hW hS hl
  rw [List.map_cons, List.map_cons, show px_v (px_ad base cst) (.ref 20) = .ref (cst 20) from congrArg Value.ref (px_adc (by decide))]
  exact va_sld X.1 X.2.1 h.1 (Nat.lt_of_lt_of_le h.2 X.2.2.2.2.2.2.1) (Nat.not_le.mpr h.2) hS hj hd k2
theorem px_argC {z : Int} {k : Int32} (q : px_bk 13 4 cL_law pc [(.aload_n 0, (0, 0, 0, 0, 0), 0, 0), (.iload_n 3, (0, 0, 0, 0, 0), 0, 0), (.iconst z, (0, 0, 0, 0, 0), k, 0), (.iadd, (0, 0, 0, 0, 0), 0, 0)] = some pb ∧ px_tia cL_law pb = true) (hg : px_G n R) (hi : lwI N i) (hk : 0 ≤ k.toInt ∧ k.toInt < 8)
    (kk : px (M_law N xs) cu su (pb + 1) (lwL i) (.int (ag xs i k) :: st) n I L R Q) : px (M_law N xs) cu su pc (lwL i) st n I L R Q := by
  refine px_b (on := 13) rfl q.1 hg rfl trivial ?_
  exact px_sld (lwI_at hi hk) (px_tia_ok q.2) kk
theorem px_argB {z : Int} {k : Int32} (q : px_bk 13 4 cL_law pc [(.aload_n 0, (0, 0, 0, 0, 0), 0, 0), (.iload_n 3, (0, 0, 0, 0, 0), 0, 0), (.bipush z, (0, 0, 0, 0, 0), k, 0), (.iadd, (0, 0, 0, 0, 0), 0, 0)] = some pb ∧ px_tia cL_law pb = true) (hg : px_G n R) (hi : lwI N i) (hk : 0 ≤ k.toInt ∧ k.toInt < 8)
    (kk : px (M_law N xs) cu su (pb + 1) (lwL i) (.int (ag xs i k) :: st) n I L R Q) : px (M_law N xs) cu su pc (lwL i) st n I L R Q := by
  refine px_b (on := 13) rfl q.1 hg rfl trivial ?_
  exact px_sld (lwI_at hi hk) (px_tia_ok q.2) kk
/-- 1 or 0 by whether it is other than nought -/
theorem px_boo {v : Int32} {p1 p2 p3 : Nat} (q : (px_bk 13 4 cL_law pc [] = some pc ∧ px_t1 cL_law pc .eq p1 = true) ∧ px_bk 13 4 cL_law p1 [(.iconst 0, (0, 0, 0, 0, 0), 0, 0)] = some p3 ∧ px_bk 13 4 cL_law p2 [(.iconst 1, (0, 0, 0, 0, 0), 1, 0), (.goto 4, (0, 0, 0, 0, 0), 0, 0)] = some p3) (h2 : pc + 3 = p2) (hg : px_G n R)
    (kk : px (M_law N xs) cu su p3 (lwL i) (.int (bo v) :: st) n I L R Q) : px (M_law N xs) cu su pc (lwL i) (.int v :: st) n I L R Q := by
  subst h2
  refine px_eq (on := 13) rfl q.1 hg rfl trivial (fun c => ?_) (fun c => ?_)
  · refine px_b (on := 13) rfl q.2.1 hg rfl trivial ?_
    rw [show bo v = 0 from if_pos c] at kk
    exact kk
  · refine px_b (on := 13) rfl q.2.2 hg rfl trivial ?_
    rw [show bo v = 1 from if_neg c] at kk
    exact kk
theorem rkL (hf : Nat.ble ((px_room M1).frames + 1) 11 = true) (hl : Nat.ble (8 + (M1.2.2.1 + 11) + (px_room M1).locals) 388 = true) (hc : Nat.ble (px_room M1).cells 3 = true) (hs : Nat.ble (px_room M1).slots 404 = true) (hcu : cu ≤ 500000) (hsu : su ≤ 7000000) (hr : Nat.ble (rest.map fun v => v.category).sum 8 = true) : px_rk (M_law N xs) M1 cu su rest = true := by
  have h3 := Nat.le_of_ble_eq_true hc
  have h4 := Nat.le_of_ble_eq_true hs
  unfold px_rk
  simp only [Bool.and_eq_true]
  refine ⟨hf, hl, Nat.ble_eq_true_of_le ?_, Nat.ble_eq_true_of_le ?_, hr⟩
  · show cu + _ ≤ 600000; omega
  · show su + _ ≤ 7302250; omega
theorem px_kB {F : px_I → px_R → Prop} {post : Int32 → px_I → px_L → Prop} (q : px_tv cL_law pc idx = true) (lk : px_lV RL idx M1) (hnm : px_nm M1 k) (hk : px_K M1 (.ref 32 :: As) n I L R (jB n I L F post)) (hs : st = As.reverse ++ .ref 32 :: rest) (hn : Nat.beq As.length k = true) (hg : px_G n R) (hrc : M1.1.cls = px_Rn 11) (hrm : px_rk (M_law N xs) M1 cu su rest = true)
    (kk : ∀ x n2 I2 L2 R2, jJ n2 I2 R2 → frB I I2 L L2 → F I2 R2 → post x I2 L2 → px (M_law N xs) (cu + (px_room M1).cells) (su + (px_room M1).slots) (pc + 3) ls (.int x :: rest) n2 I2 L2 R2 Q) : px (M_law N xs) cu su pc ls st n I L R Q := by
  refine px_kV (ci := 11) q lk hnm hk hs hn (px_lit hg rfl) hrc rfl hrm (fun r n2 I2 L2 R2 h => ?_)
  obtain ⟨x, rfl, h1, h2, h3, h4, h5⟩ := h
  exact kk x n2 I2 L2 R2 h1 h3 h4 h5
theorem px_kK {post : Int32 → px_I → px_L → Prop} (q : px_tv cL_law pc idx = true) (lk : px_lV RL idx M1) (hnm : px_nm M1 k) (hk : px_K M1 (.ref 103 :: As) n I L R (jK n I L R post)) (hs : st = As.reverse ++ .ref 103 :: rest) (hn : Nat.beq As.length k = true) (hg : px_G n R) (hrc : M1.1.cls = px_Rn 12) (hrm : px_rk (M_law N xs) M1 cu su rest = true)
    (kk : ∀ x I2 L2, jJ n I2 R → frK I I2 L L2 → post x I2 L2 → px (M_law N xs) (cu + (px_room M1).cells) (su + (px_room M1).slots) (pc + 3) ls (.int x :: rest) n I2 L2 R Q) : px (M_law N xs) cu su pc ls st n I L R Q := by
  refine px_kV (ci := 12) q lk hnm hk hs hn (px_lit hg rfl) hrc rfl hrm (fun r n2 I2 L2 R2 h => ?_)
  obtain ⟨x, rfl, rfl, rfl, h1, h3, h4⟩ := h
  exact kk x I2 L2 h1 h3 h4
end PXL
