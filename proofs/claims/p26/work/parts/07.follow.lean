/-! the machine follows px_s1, px_ex -/
/-- what stands for good -/
def px_st (n : Nat) (R : px_R) : Prop := (∀ o k, px_tg o k ≠ 0 → R o k = some (px_tg o k)) ∧ ∀ w, px_is n w 10 → R w 0 = some (w + 1) ∧ R w 1 = some (w + 2)
def px_us (x : px_o) : Bool := match x.1 with
  | .getfield _ => Nat.beq x.2.1.2.2.1 3 || Nat.beq x.2.1.2.2.1 6
  | _ => false
theorem px_dec_ok {on nL : Nat} {cc : ByteArray} {pc pc1 : Nat} {x : px_o} (h : px_dec on nL cc pc x = some pc1) : decode cc pc = .ok (x.1, px_ln x.1) ∧ px_au on nL x = true ∧ ((∀ off, x.1 ≠ .goto off) → pc1 = pc + px_ln x.1) ∧ ∀ off, x.1 = .goto off → (pc : Int) + off = pc1 := by
  unfold px_dec at h
  split at h
  · rename_i i len hdec
    cases hb : (decide (i = x.1) && (Nat.beq len (px_ln x.1) && px_au on nL x)) with
    | false => rw [hb] at h; cases h
    | true =>
      rw [hb] at h
      simp only [Bool.and_eq_true, decide_eq_true_eq] at hb
      obtain ⟨h1, h2, h3⟩ := hb
      have h2 := Nat.eq_of_beq_eq_true h2
      subst h1; subst h2
      refine ⟨hdec, h3, fun hg => ?_, fun off ho => ?_⟩
      · rw [cond_true] at h
        split at h
        · rename_i off hx; exact absurd hx (hg off)
        · cases h; rfl
      · rw [cond_true, ho] at h
        dsimp only at h
        cases hb : decide (0 ≤ (pc : Int) + off) with
        | false => rw [hb] at h; cases h
        | true =>
          rw [hb] at h
          cases h
          exact (Int.toNat_of_nonneg (of_decide_eq_true hb)).symm
  · cases h
theorem px_fm1 (ls : px_Ls) (ad : Nat → Nat) (i : Nat) : (ls.map fun q => (q.1, px_v ad q.2)).filter (fun q => !(q.1 == i) && !(q.1 + 1 == i && q.2.category == 2)) = (ls.filter fun q => !(q.1 == i) && !(q.1 + 1 == i && q.2.category == 2)).map fun q => (q.1, px_v ad q.2) := by
  rw [List.filter_map]
  congr 1
  apply List.filter_congr
  intro q _
  simp only [Function.comp, px_v_cat]
theorem px_fm2 (ls : px_Ls) (ad : Nat → Nat) (i : Nat) : (ls.map fun q => (q.1, px_v ad q.2)).filter (fun q => !(q.1 == i) && (!(q.1 == i + 1) && !(q.1 + 1 == i && q.2.category == 2))) = (ls.filter fun q => !(q.1 == i) && (!(q.1 == i + 1) && !(q.1 + 1 == i && q.2.category == 2))).map fun q => (q.1, px_v ad q.2) := by
  rw [List.filter_map]
  congr 1
  apply List.filter_congr
  intro q _
  simp only [Function.comp, px_v_cat]
theorem px_v_rf (ad : Nat → Nat) (r : Option Nat) : px_v ad (va_rf r) = va_rf (r.map ad) := by cases r <;> rfl
theorem px_fv0 {ad : Nat → Nat} {c : Nat} {i : Int32} {l : Int64} {r : Option Nat} (h : c = 0 ∨ c = 3) : px_fv ad c i l r = .int i := by rcases h with h | h <;> subst h <;> rfl
theorem px_nb_ok {nb o kd kd' : Nat} (h : (Nat.ble 32 o && (Nat.blt o nb && Nat.beq kd kd')) = true) : 32 ≤ o ∧ o < nb ∧ kd = kd' := by
  simp only [Bool.and_eq_true] at h
  exact ⟨Nat.le_of_ble_eq_true h.1, Nat.le_of_ble_eq_true h.2.1, Nat.eq_of_beq_eq_true h.2.2⟩
theorem px_pair {α : Type} {a : Nat × Nat × Int32} {kd N : Nat} {NI : Int32} (h : a = (kd, N, NI)) : a.1 = kd ∧ a.2.2 = NI := by subst h; exact ⟨rfl, rfl⟩
set_option maxHeartbeats 4000000 in
theorem px_s1_ok {nb n : Nat} {R : px_R} {x : px_o} {ls : px_Ls} {st : List Value} {I : px_I} {G : px_lg Int32} {L : px_L} {F : px_lg Int64} {P : Prop} {K : px_Ls → List Value → px_I → px_lg Int32 → px_L → px_lg Int64 → Prop → Option px_z} {z : px_z} (h : px_s1 nb n R x ls st I G L F P K = some z)
    {M : px_M} {cu su pc pc1 on : Nat} {Q : px_Q} (hnb : nb ≤ n) (hst : px_us x = true → px_st n R) (hon : M.1.cls = px_Rn on) (hd : px_dec on M.2.2.1 M.2.1 pc x = some pc1) :
    ∃ ls1 st1 I1 G1 L1 F1 P1, K ls1 st1 I1 G1 L1 F1 P1 = some z ∧ (P1 → P) ∧ (P1 → px M cu su pc1 ls1 st1 n (px_app I1 G1) (px_app L1 F1) R Q → px M cu su pc ls st n (px_app I G) (px_app L F) R Q) := by
  obtain ⟨hdc, hau, hng, hgo⟩ := px_dec_ok hd
  obtain ⟨i, ⟨a, b, kd, d, d2⟩, cI, cL⟩ := x
  dsimp only at hdc hau hng hgo hst
  cases i with

  | iconst v =>
    obtain rfl := hng (fun _ q => by cases q)
    simp only [px_s1] at h
    refine ⟨_, _, _, _, _, _, _, h, id, fun hP k p l e s m args below meth c base cst D cid Z H locs lr X hW hS hl => ?_⟩
    exact lv_iconst X.1 X.2.1 hdc (of_decide_eq_true hau) (k p l e s m args below meth c base cst D cid Z H locs lr X hW hS hl)

  | bipush v =>
    obtain rfl := hng (fun _ q => by cases q)
    simp only [px_s1] at h
    refine ⟨_, _, _, _, _, _, _, h, id, fun hP k p l e s m args below meth c base cst D cid Z H locs lr X hW hS hl => ?_⟩
    exact lv_bipush X.1 X.2.1 hdc (of_decide_eq_true hau) (k p l e s m args below meth c base cst D cid Z H locs lr X hW hS hl)

  | sipush v =>
    obtain rfl := hng (fun _ q => by cases q)
    simp only [px_s1] at h
    refine ⟨_, _, _, _, _, _, _, h, id, fun hP k p l e s m args below meth c base cst D cid Z H locs lr X hW hS hl => ?_⟩
    exact lv_sipush X.1 X.2.1 hdc (of_decide_eq_true hau) (k p l e s m args below meth c base cst D cid Z H locs lr X hW hS hl)

  | lconst v =>
    obtain rfl := hng (fun _ q => by cases q)
    simp only [px_s1] at h
    refine ⟨_, _, _, _, _, _, _, h, id, fun hP k p l e s m args below meth c base cst D cid Z H locs lr X hW hS hl => ?_⟩
    exact lv_lconst X.1 X.2.1 hdc (of_decide_eq_true hau) (k p l e s m args below meth c base cst D cid Z H locs lr X hW hS hl)

  | ldc v =>
    obtain rfl := hng (fun _ q => by cases q)
    simp only [px_s1] at h
    refine ⟨_, _, _, _, _, _, _, h, id, fun hP k p l e s m args below meth c base cst D cid Z H locs lr X hW hS hl => ?_⟩
    exact lv_ldc X.1 X.2.1 X.2.2.2.1 (by rw [hon]; exact X.2.2.2.2.1 _ (px_tc_in _ (of_decide_eq_true hau))) hdc (k p l e s m args below meth c base cst D cid Z H locs lr X hW hS hl)

  | ldc_w v =>
    obtain rfl := hng (fun _ q => by cases q)
    simp only [px_s1] at h
    refine ⟨_, _, _, _, _, _, _, h, id, fun hP k p l e s m args below meth c base cst D cid Z H locs lr X hW hS hl => ?_⟩
    exact lv_ldcw X.1 X.2.1 X.2.2.2.1 (by rw [hon]; exact X.2.2.2.2.1 _ (px_tc_in _ (of_decide_eq_true hau))) hdc (k p l e s m args below meth c base cst D cid Z H locs lr X hW hS hl)

  | ldc2_w v =>
    obtain rfl := hng (fun _ q => by cases q)
    simp only [px_s1] at h
    refine ⟨_, _, _, _, _, _, _, h, id, fun hP k p l e s m args below meth c base cst D cid Z H locs lr X hW hS hl => ?_⟩
    exact lv_ldc2 X.1 X.2.1 X.2.2.2.1 (by rw [hon]; exact X.2.2.2.2.1 _ (px_tl_in _ (of_decide_eq_true hau))) hdc (k p l e s m args below meth c base cst D cid Z H locs lr X hW hS hl)

  | aconst_null =>
    obtain rfl := hng (fun _ q => by cases q)
    simp only [px_s1] at h
    refine ⟨_, _, _, _, _, _, _, h, id, fun hP k p l e s m args below meth c base cst D cid Z H locs lr X hW hS hl => ?_⟩
    exact lv_null X.1 X.2.1 hdc (k p l e s m args below meth c base cst D cid Z H locs lr X hW hS hl)

  | iload_n v =>
    obtain rfl := hng (fun _ q => by cases q)
    simp only [px_s1] at h
    split at h
    · refine ⟨_, _, _, _, _, _, _, h, id, fun hP k p l e s m args below meth c base cst D cid Z H locs lr X hW hS hl => ?_⟩
      exact lv_iload_n X.1 X.2.1 hdc rfl (px_has hl (by assumption)) (k p l e s m args below meth c base cst D cid Z H locs lr X hW hS hl)
    · cases h

  | lload_n v =>
    obtain rfl := hng (fun _ q => by cases q)
    simp only [px_s1] at h
    split at h
    · refine ⟨_, _, _, _, _, _, _, h, id, fun hP k p l e s m args below meth c base cst D cid Z H locs lr X hW hS hl => ?_⟩
      exact lv_lload_n X.1 X.2.1 hdc rfl (px_has hl (by assumption)) (k p l e s m args below meth c base cst D cid Z H locs lr X hW hS hl)
    · cases h

  | aload_n v =>
    obtain rfl := hng (fun _ q => by cases q)
    simp only [px_s1] at h
    split at h
    · refine ⟨_, _, _, _, _, _, _, h, id, fun hP k p l e s m args below meth c base cst D cid Z H locs lr X hW hS hl => ?_⟩
      exact lv_aload_n X.1 X.2.1 hdc rfl (px_has hl (by assumption)) (k p l e s m args below meth c base cst D cid Z H locs lr X hW hS hl)
    · refine ⟨_, _, _, _, _, _, _, h, id, fun hP k p l e s m args below meth c base cst D cid Z H locs lr X hW hS hl => ?_⟩
      exact lv_aload_nN X.1 X.2.1 hdc rfl (px_has hl (by assumption)) (k p l e s m args below meth c base cst D cid Z H locs lr X hW hS hl)
    · cases h

  | iload v =>
    obtain rfl := hng (fun _ q => by cases q)
    simp only [px_s1] at h
    split at h
    · refine ⟨_, _, _, _, _, _, _, h, id, fun hP k p l e s m args below meth c base cst D cid Z H locs lr X hW hS hl => ?_⟩
      exact lv_iload X.1 X.2.1 hdc (px_has hl (by assumption)) (k p l e s m args below meth c base cst D cid Z H locs lr X hW hS hl)
    · cases h

  | lload v =>
    obtain rfl := hng (fun _ q => by cases q)
    simp only [px_s1] at h
    split at h
    · refine ⟨_, _, _, _, _, _, _, h, id, fun hP k p l e s m args below meth c base cst D cid Z H locs lr X hW hS hl => ?_⟩
      exact lv_lload X.1 X.2.1 hdc (px_has hl (by assumption)) (k p l e s m args below meth c base cst D cid Z H locs lr X hW hS hl)
    · cases h

  | aload v =>
    obtain rfl := hng (fun _ q => by cases q)
    simp only [px_s1] at h
    split at h
    · refine ⟨_, _, _, _, _, _, _, h, id, fun hP k p l e s m args below meth c base cst D cid Z H locs lr X hW hS hl => ?_⟩
      exact lv_aload X.1 X.2.1 hdc (px_has hl (by assumption)) (k p l e s m args below meth c base cst D cid Z H locs lr X hW hS hl)
    · refine ⟨_, _, _, _, _, _, _, h, id, fun hP k p l e s m args below meth c base cst D cid Z H locs lr X hW hS hl => ?_⟩
      exact lv_aloadN X.1 X.2.1 hdc (px_has hl (by assumption)) (k p l e s m args below meth c base cst D cid Z H locs lr X hW hS hl)
    · cases h

  | istore_n v =>
    obtain rfl := hng (fun _ q => by cases q)
    simp only [px_s1] at h
    split at h
    · rw [px_rm_eq] at h
      refine ⟨_, _, _, _, _, _, _, h, id, fun hP k p l e s m args below meth c base cst D cid Z H locs lr X hW hS hl => ?_⟩
      exact lv_istore_n X.1 X.2.1 hdc rfl hl (Nat.le_of_ble_eq_true hau) (by rw [px_fm1]; rfl) (fun ls' hl' => k p l e s m args below meth c base cst D cid Z H locs ls' X hW hS hl')
    · cases h

  | astore_n v =>
    obtain rfl := hng (fun _ q => by cases q)
    simp only [px_s1] at h
    split at h
    · rw [px_rm_eq] at h
      refine ⟨_, _, _, _, _, _, _, h, id, fun hP k p l e s m args below meth c base cst D cid Z H locs lr X hW hS hl => ?_⟩
      exact lv_astore_n X.1 X.2.1 hdc rfl hl (Nat.le_of_ble_eq_true hau) (by rw [px_fm1]; rfl) (fun ls' hl' => k p l e s m args below meth c base cst D cid Z H locs ls' X hW hS hl')
    · rw [px_rm_eq] at h
      refine ⟨_, _, _, _, _, _, _, h, id, fun hP k p l e s m args below meth c base cst D cid Z H locs lr X hW hS hl => ?_⟩
      exact lv_astore_nN X.1 X.2.1 hdc rfl hl (Nat.le_of_ble_eq_true hau) (by rw [px_fm1]; rfl) (fun ls' hl' => k p l e s m args below meth c base cst D cid Z H locs ls' X hW hS hl')
    · cases h

  | lstore_n v =>
    obtain rfl := hng (fun _ q => by cases q)
    simp only [px_s1] at h
    split at h
    · rw [px_rm2_eq] at h
      refine ⟨_, _, _, _, _, _, _, h, id, fun hP k p l e s m args below meth c base cst D cid Z H locs lr X hW hS hl => ?_⟩
      exact lv_lstore_n X.1 X.2.1 hdc rfl hl (Nat.le_of_ble_eq_true hau) (by rw [px_fm2]; rfl) (fun ls' hl' => k p l e s m args below meth c base cst D cid Z H locs ls' X hW hS hl')
    · cases h

  | istore v =>
    obtain rfl := hng (fun _ q => by cases q)
    simp only [px_s1] at h
    split at h
    · rw [px_rm_eq] at h
      refine ⟨_, _, _, _, _, _, _, h, id, fun hP k p l e s m args below meth c base cst D cid Z H locs lr X hW hS hl => ?_⟩
      exact lv_istore X.1 X.2.1 hdc hl (Nat.le_of_ble_eq_true hau) (by rw [px_fm1]; rfl) (fun ls' hl' => k p l e s m args below meth c base cst D cid Z H locs ls' X hW hS hl')
    · cases h

  | astore v =>
    obtain rfl := hng (fun _ q => by cases q)
    simp only [px_s1] at h
    split at h
    · rw [px_rm_eq] at h
      refine ⟨_, _, _, _, _, _, _, h, id, fun hP k p l e s m args below meth c base cst D cid Z H locs lr X hW hS hl => ?_⟩
      exact lv_astore X.1 X.2.1 hdc hl (Nat.le_of_ble_eq_true hau) (by rw [px_fm1]; rfl) (fun ls' hl' => k p l e s m args below meth c base cst D cid Z H locs ls' X hW hS hl')
    · rw [px_rm_eq] at h
      refine ⟨_, _, _, _, _, _, _, h, id, fun hP k p l e s m args below meth c base cst D cid Z H locs lr X hW hS hl => ?_⟩
      exact lv_astoreN X.1 X.2.1 hdc hl (Nat.le_of_ble_eq_true hau) (by rw [px_fm1]; rfl) (fun ls' hl' => k p l e s m args below meth c base cst D cid Z H locs ls' X hW hS hl')
    · cases h

  | lstore v =>
    obtain rfl := hng (fun _ q => by cases q)
    simp only [px_s1] at h
    split at h
    · rw [px_rm2_eq] at h
      refine ⟨_, _, _, _, _, _, _, h, id, fun hP k p l e s m args below meth c base cst D cid Z H locs lr X hW hS hl => ?_⟩
      exact lv_lstore X.1 X.2.1 hdc hl (Nat.le_of_ble_eq_true hau) (by rw [px_fm2]; rfl) (fun ls' hl' => k p l e s m args below meth c base cst D cid Z H locs ls' X hW hS hl')
    · cases h

  | iinc j v =>
    obtain rfl := hng (fun _ q => by cases q)
    simp only [px_s1] at h
    split at h
    · rename_i v0 hv0
      rw [px_rm_eq] at h
      refine ⟨_, _, _, _, _, _, _, h, id, fun hP k p l e s m args below meth c base cst D cid Z H locs lr X hW hS hl => ?_⟩
      have hau2 := (Bool.and_eq_true_iff.mp hau)
      obtain ⟨j0, hj0⟩ := List.getElem?_of_mem (px_gl_mem hv0)
      exact lv_iinc (k := j0) (x := v0) X.1 X.2.1 hdc hl (by rw [List.getElem?_map, hj0]; rfl) (by rw [of_decide_eq_true hau2.2]) (Nat.le_of_ble_eq_true hau2.1) (by rw [px_fm1]; rfl) (fun ls' hl' => k p l e s m args below meth c base cst D cid Z H locs ls' X hW hS hl')
    · cases h
  | goto off =>
    simp only [px_s1] at h
    refine ⟨_, _, _, _, _, _, _, h, id, fun hP k p l e s m args below meth c base cst D cid Z H locs lr X hW hS hl => ?_⟩
    exact lv_goto X.1 X.2.1 hdc (hgo off rfl) (k p l e s m args below meth c base cst D cid Z H locs lr X hW hS hl)

  | iadd =>
    obtain rfl := hng (fun _ q => by cases q)
    simp only [px_s1] at h
    split at h
    · refine ⟨_, _, _, _, _, _, _, h, id, fun hP k p l e s m args below meth c base cst D cid Z H locs lr X hW hS hl => ?_⟩
      exact lv_iadd X.1 X.2.1 hdc (k p l e s m args below meth c base cst D cid Z H locs lr X hW hS hl)
    · cases h

  | isub =>
    obtain rfl := hng (fun _ q => by cases q)
    simp only [px_s1] at h
    split at h
    · refine ⟨_, _, _, _, _, _, _, h, id, fun hP k p l e s m args below meth c base cst D cid Z H locs lr X hW hS hl => ?_⟩
      exact lv_isub X.1 X.2.1 hdc (k p l e s m args below meth c base cst D cid Z H locs lr X hW hS hl)
    · cases h

  | imul =>
    obtain rfl := hng (fun _ q => by cases q)
    simp only [px_s1] at h
    split at h
    · refine ⟨_, _, _, _, _, _, _, h, id, fun hP k p l e s m args below meth c base cst D cid Z H locs lr X hW hS hl => ?_⟩
      exact lv_imul X.1 X.2.1 hdc (k p l e s m args below meth c base cst D cid Z H locs lr X hW hS hl)
    · cases h

  | iand =>
    obtain rfl := hng (fun _ q => by cases q)
    simp only [px_s1] at h
    split at h
    · refine ⟨_, _, _, _, _, _, _, h, id, fun hP k p l e s m args below meth c base cst D cid Z H locs lr X hW hS hl => ?_⟩
      exact lv_iand X.1 X.2.1 hdc (k p l e s m args below meth c base cst D cid Z H locs lr X hW hS hl)
    · cases h

  | ior =>
    obtain rfl := hng (fun _ q => by cases q)
    simp only [px_s1] at h
    split at h
    · refine ⟨_, _, _, _, _, _, _, h, id, fun hP k p l e s m args below meth c base cst D cid Z H locs lr X hW hS hl => ?_⟩
      exact lv_ior X.1 X.2.1 hdc (k p l e s m args below meth c base cst D cid Z H locs lr X hW hS hl)
    · cases h

  | ladd =>
    obtain rfl := hng (fun _ q => by cases q)
    simp only [px_s1] at h
    split at h
    · refine ⟨_, _, _, _, _, _, _, h, id, fun hP k p l e s m args below meth c base cst D cid Z H locs lr X hW hS hl => ?_⟩
      exact lv_ladd X.1 X.2.1 hdc (k p l e s m args below meth c base cst D cid Z H locs lr X hW hS hl)
    · cases h

  | lsub =>
    obtain rfl := hng (fun _ q => by cases q)
    simp only [px_s1] at h
    split at h
    · refine ⟨_, _, _, _, _, _, _, h, id, fun hP k p l e s m args below meth c base cst D cid Z H locs lr X hW hS hl => ?_⟩
      exact lv_lsub X.1 X.2.1 hdc (k p l e s m args below meth c base cst D cid Z H locs lr X hW hS hl)
    · cases h

  | lmul =>
    obtain rfl := hng (fun _ q => by cases q)
    simp only [px_s1] at h
    split at h
    · refine ⟨_, _, _, _, _, _, _, h, id, fun hP k p l e s m args below meth c base cst D cid Z H locs lr X hW hS hl => ?_⟩
      exact lv_lmul X.1 X.2.1 hdc (k p l e s m args below meth c base cst D cid Z H locs lr X hW hS hl)
    · cases h

  | lxor =>
    obtain rfl := hng (fun _ q => by cases q)
    simp only [px_s1] at h
    split at h
    · refine ⟨_, _, _, _, _, _, _, h, id, fun hP k p l e s m args below meth c base cst D cid Z H locs lr X hW hS hl => ?_⟩
      exact lv_lxor X.1 X.2.1 hdc (k p l e s m args below meth c base cst D cid Z H locs lr X hW hS hl)
    · cases h

  | lneg =>
    obtain rfl := hng (fun _ q => by cases q)
    simp only [px_s1] at h
    split at h
    · refine ⟨_, _, _, _, _, _, _, h, id, fun hP k p l e s m args below meth c base cst D cid Z H locs lr X hW hS hl => ?_⟩
      exact lv_lneg X.1 X.2.1 hdc (k p l e s m args below meth c base cst D cid Z H locs lr X hW hS hl)
    · cases h

  | ishl =>
    obtain rfl := hng (fun _ q => by cases q)
    simp only [px_s1] at h
    split at h
    · refine ⟨_, _, _, _, _, _, _, h, id, fun hP k p l e s m args below meth c base cst D cid Z H locs lr X hW hS hl => ?_⟩
      exact lv_ishl X.1 X.2.1 hdc (k p l e s m args below meth c base cst D cid Z H locs lr X hW hS hl)
    · cases h

  | ishr =>
    obtain rfl := hng (fun _ q => by cases q)
    simp only [px_s1] at h
    split at h
    · refine ⟨_, _, _, _, _, _, _, h, id, fun hP k p l e s m args below meth c base cst D cid Z H locs lr X hW hS hl => ?_⟩
      exact lv_ishr X.1 X.2.1 hdc (k p l e s m args below meth c base cst D cid Z H locs lr X hW hS hl)
    · cases h

  | ineg =>
    obtain rfl := hng (fun _ q => by cases q)
    simp only [px_s1] at h
    split at h
    · refine ⟨_, _, _, _, _, _, _, h, id, fun hP k p l e s m args below meth c base cst D cid Z H locs lr X hW hS hl => ?_⟩
      exact lv_ineg X.1 X.2.1 hdc (k p l e s m args below meth c base cst D cid Z H locs lr X hW hS hl)
    · cases h

  | iushr =>
    obtain rfl := hng (fun _ q => by cases q)
    simp only [px_s1] at h
    split at h
    · refine ⟨_, _, _, _, _, _, _, h, id, fun hP k p l e s m args below meth c base cst D cid Z H locs lr X hW hS hl => ?_⟩
      exact lv_iushr X.1 X.2.1 hdc rfl (k p l e s m args below meth c base cst D cid Z H locs lr X hW hS hl)
    · cases h

  | idiv =>
    obtain rfl := hng (fun _ q => by cases q)
    simp only [px_s1] at h
    split at h
    · refine ⟨_, _, _, _, _, _, _, h, And.left, fun hP k p l e s m args below meth c base cst D cid Z H locs lr X hW hS hl => ?_⟩
      exact lv_idiv X.1 X.2.1 hdc hP.2 (k p l e s m args below meth c base cst D cid Z H locs lr X hW hS hl)
    · cases h

  | irem =>
    obtain rfl := hng (fun _ q => by cases q)
    simp only [px_s1] at h
    split at h
    · refine ⟨_, _, _, _, _, _, _, h, And.left, fun hP k p l e s m args below meth c base cst D cid Z H locs lr X hW hS hl => ?_⟩
      exact lv_irem X.1 X.2.1 hdc hP.2 (k p l e s m args below meth c base cst D cid Z H locs lr X hW hS hl)
    · cases h

  | ldiv =>
    obtain rfl := hng (fun _ q => by cases q)
    simp only [px_s1] at h
    split at h
    · refine ⟨_, _, _, _, _, _, _, h, And.left, fun hP k p l e s m args below meth c base cst D cid Z H locs lr X hW hS hl => ?_⟩
      exact lv_ldiv X.1 X.2.1 hdc hP.2 (k p l e s m args below meth c base cst D cid Z H locs lr X hW hS hl)
    · cases h

  | lrem =>
    obtain rfl := hng (fun _ q => by cases q)
    simp only [px_s1] at h
    split at h
    · refine ⟨_, _, _, _, _, _, _, h, And.left, fun hP k p l e s m args below meth c base cst D cid Z H locs lr X hW hS hl => ?_⟩
      exact lv_lrem X.1 X.2.1 hdc hP.2 (k p l e s m args below meth c base cst D cid Z H locs lr X hW hS hl)
    · cases h

  | lcmp =>
    obtain rfl := hng (fun _ q => by cases q)
    simp only [px_s1] at h
    split at h
    · refine ⟨_, _, _, _, _, _, _, h, id, fun hP k p l e s m args below meth c base cst D cid Z H locs lr X hW hS hl => ?_⟩
      exact W.lcmp X.1 X.2.1 hdc (k p l e s m args below meth c base cst D cid Z H locs lr X hW hS hl)
    · cases h

  | i2l =>
    obtain rfl := hng (fun _ q => by cases q)
    simp only [px_s1] at h
    split at h
    · refine ⟨_, _, _, _, _, _, _, h, id, fun hP k p l e s m args below meth c base cst D cid Z H locs lr X hW hS hl => ?_⟩
      exact lv_i2l X.1 X.2.1 hdc rfl (k p l e s m args below meth c base cst D cid Z H locs lr X hW hS hl)
    · cases h

  | l2i =>
    obtain rfl := hng (fun _ q => by cases q)
    simp only [px_s1] at h
    split at h
    · refine ⟨_, _, _, _, _, _, _, h, id, fun hP k p l e s m args below meth c base cst D cid Z H locs lr X hW hS hl => ?_⟩
      exact lv_l2i X.1 X.2.1 hdc rfl (k p l e s m args below meth c base cst D cid Z H locs lr X hW hS hl)
    · cases h

  | i2b =>
    obtain rfl := hng (fun _ q => by cases q)
    simp only [px_s1] at h
    split at h
    · refine ⟨_, _, _, _, _, _, _, h, id, fun hP k p l e s m args below meth c base cst D cid Z H locs lr X hW hS hl => ?_⟩
      exact lv_i2b X.1 X.2.1 hdc rfl (k p l e s m args below meth c base cst D cid Z H locs lr X hW hS hl)
    · cases h

  | dup =>
    obtain rfl := hng (fun _ q => by cases q)
    simp only [px_s1] at h
    split at h
    · refine ⟨_, _, _, _, _, _, _, h, id, fun hP k p l e s m args below meth c base cst D cid Z H locs lr X hW hS hl => ?_⟩
      exact lv_dup X.1 X.2.1 hdc rfl (k p l e s m args below meth c base cst D cid Z H locs lr X hW hS hl)
    · refine ⟨_, _, _, _, _, _, _, h, id, fun hP k p l e s m args below meth c base cst D cid Z H locs lr X hW hS hl => ?_⟩
      exact lv_dup X.1 X.2.1 hdc rfl (k p l e s m args below meth c base cst D cid Z H locs lr X hW hS hl)
    · cases h
  | dup2 =>
    obtain rfl := hng (fun _ q => by cases q)
    simp only [px_s1] at h
    split at h
    · refine ⟨_, _, _, _, _, _, _, h, id, fun hP k p l e s m args below meth c base cst D cid Z H locs lr X hW hS hl => ?_⟩
      exact lv_dup2_11 X.1 X.2.1 hdc rfl rfl (k p l e s m args below meth c base cst D cid Z H locs lr X hW hS hl)
    · refine ⟨_, _, _, _, _, _, _, h, id, fun hP k p l e s m args below meth c base cst D cid Z H locs lr X hW hS hl => ?_⟩
      exact lv_dup2_2 X.1 X.2.1 hdc rfl (k p l e s m args below meth c base cst D cid Z H locs lr X hW hS hl)
    · cases h
  | pop =>
    obtain rfl := hng (fun _ q => by cases q)
    simp only [px_s1] at h
    split at h
    · refine ⟨_, _, _, _, _, _, _, h, id, fun hP k p l e s m args below meth c base cst D cid Z H locs lr X hW hS hl => ?_⟩
      exact lv_pop X.1 X.2.1 hdc rfl (k p l e s m args below meth c base cst D cid Z H locs lr X hW hS hl)
    · refine ⟨_, _, _, _, _, _, _, h, id, fun hP k p l e s m args below meth c base cst D cid Z H locs lr X hW hS hl => ?_⟩
      exact lv_pop X.1 X.2.1 hdc rfl (k p l e s m args below meth c base cst D cid Z H locs lr X hW hS hl)
    · cases h
  | pop2 =>
    obtain rfl := hng (fun _ q => by cases q)
    simp only [px_s1] at h
    split at h
    · refine ⟨_, _, _, _, _, _, _, h, id, fun hP k p l e s m args below meth c base cst D cid Z H locs lr X hW hS hl => ?_⟩
      exact lv_pop2_2 X.1 X.2.1 hdc rfl (k p l e s m args below meth c base cst D cid Z H locs lr X hW hS hl)
    · cases h

  | getfield idx =>
    obtain rfl := hng (fun _ q => by cases q)
    simp only [px_s1] at h
    have hf : (on, idx, a, b) ∈ px_tf := of_decide_eq_true (Bool.and_eq_true_iff.mp hau).1
    have hk := (Bool.and_eq_true_iff.mp hau).2
    dsimp only at hk
    split at h
    · rename_i o r9
      split at h
      · cases hc : px_ck nb o a with
        | false => rw [hc] at h; cases h
        | true =>
          rw [hc, cond_true, px_rdF_eq] at h
          obtain ⟨h1, h2, h3⟩ := px_ck_ok hc
          refine ⟨_, _, _, _, _, _, _, h, id, fun hP k p l e s m args below meth c base cst D cid Z H locs lr X hW hS hl => ?_⟩
          refine px_get X hW hon hf h1 (Nat.lt_of_lt_of_le h2 hnb) h3 hdc ?_
          have hft : px_ft a b = 0 ∨ px_ft a b = 3 := by
            rcases Bool.or_eq_true_iff.mp hk with q | q
            · exact Or.inl (Nat.eq_of_beq_eq_true q)
            · exact Or.inr (Nat.eq_of_beq_eq_true q)
          rw [px_fv0 hft]
          exact (k p l e s m args below meth c base cst D cid Z H locs lr X hW hS hl)
      · cases hc : px_ck nb o a with
        | false => rw [hc] at h; cases h
        | true =>
          rw [hc, cond_true, px_rdF_eq] at h
          obtain ⟨h1, h2, h3⟩ := px_ck_ok hc
          refine ⟨_, _, _, _, _, _, _, h, id, fun hP k p l e s m args below meth c base cst D cid Z H locs lr X hW hS hl => ?_⟩
          refine px_get X hW hon hf h1 (Nat.lt_of_lt_of_le h2 hnb) h3 hdc ?_
          rw [Nat.eq_of_beq_eq_true hk]
          exact (k p l e s m args below meth c base cst D cid Z H locs lr X hW hS hl)
      · cases hc : px_ck nb o a with
        | false => rw [hc] at h; cases h
        | true =>
          rw [hc] at h
          obtain ⟨h1, h2, h3⟩ := px_ck_ok hc
          obtain ⟨hs1, -⟩ := hst rfl
          have fin : ∀ t, (Nat.beq (px_tg o b) t && Nat.blt 0 t) = true → ∀ r, px M cu su (pc + 3) ls (.ref t :: r) n (px_app I G) (px_app L F) R Q → px M cu su pc ls (.ref o :: r) n (px_app I G) (px_app L F) R Q := by
            intro t ht r k p l e s m args below meth c base cst D cid Z H locs lr X hW hS hl
            have ht := Bool.and_eq_true_iff.mp ht
            have ht1 := Nat.eq_of_beq_eq_true ht.1
            have ht2 : 0 < t := Nat.le_of_ble_eq_true ht.2
            refine px_get X hW hon hf h1 (Nat.lt_of_lt_of_le h2 hnb) h3 hdc ?_
            rw [Nat.eq_of_beq_eq_true hk, hs1 o b (by omega), ht1]
            exact (k p l e s m args below meth c base cst D cid Z H locs lr X hW hS hl)
          rw [cond_true] at h
          cases hb1 : (Nat.beq (px_tg o b) d && Nat.blt 0 d) with
          | true =>
            rw [hb1] at h
            exact ⟨_, _, _, _, _, _, _, h, id, fun _ => fin d hb1 _⟩
          | false =>
            rw [hb1, cond_false] at h
            cases hb2 : (Nat.beq (px_tg o b) d2 && Nat.blt 0 d2) with
            | true =>
              rw [hb2] at h
              exact ⟨_, _, _, _, _, _, _, h, id, fun _ => fin d2 hb2 _⟩
            | false => rw [hb2] at h; cases h
      · cases hc : px_ck nb o a with
        | false => rw [hc] at h; cases h
        | true =>
          rw [hc] at h
          obtain ⟨h1, h2, h3⟩ := px_ck_ok hc
          refine ⟨_, _, _, _, _, _, _, h, id, fun hP k p l e s m args below meth c base cst D cid Z H locs lr X hW hS hl => ?_⟩
          refine px_get X hW hon hf h1 (Nat.lt_of_lt_of_le h2 hnb) h3 hdc ?_
          rw [Nat.eq_of_beq_eq_true hk]
          have k2 := (k p l e s m args below meth c base cst D cid Z H locs lr X hW hS hl)
          rw [List.map_cons, px_v_rf] at k2
          exact k2
      · refine ⟨_, _, _, _, _, _, _, h, And.left, fun hP k p l e s m args below meth c base cst D cid Z H locs lr X hW hS hl => ?_⟩
        refine px_get X hW hon hf hP.2.1 hP.2.2.1 hP.2.2.2 hdc ?_
        rw [Nat.eq_of_beq_eq_true hk]
        exact (k p l e s m args below meth c base cst D cid Z H locs lr X hW hS hl)
      · obtain ⟨-, hs2⟩ := hst rfl
        refine ⟨_, _, _, _, _, _, _, h, And.left, fun hP k p l e s m args below meth c base cst D cid Z H locs lr X hW hS hl => ?_⟩
        refine px_get X hW hon hf hP.2.1 hP.2.2.1 hP.2.2.2 hdc ?_
        have hk2 := Bool.and_eq_true_iff.mp hk
        have hk3 := Bool.and_eq_true_iff.mp hk2.2
        have ha := Nat.eq_of_beq_eq_true hk3.1
        subst ha
        rw [Nat.eq_of_beq_eq_true hk2.1]
        rcases Bool.or_eq_true_iff.mp hk3.2 with q | q
        · have q1 := Nat.eq_of_beq_eq_true (Bool.and_eq_true_iff.mp q).1
          have q2 := Nat.eq_of_beq_eq_true (Bool.and_eq_true_iff.mp q).2
          subst q1; subst q2
          rw [(hs2 _ hP.2).1]
          exact (k p l e s m args below meth c base cst D cid Z H locs lr X hW hS hl)
        · have q1 := Nat.eq_of_beq_eq_true (Bool.and_eq_true_iff.mp q).1
          have q2 := Nat.eq_of_beq_eq_true (Bool.and_eq_true_iff.mp q).2
          subst q1; subst q2
          rw [(hs2 _ hP.2).2]
          exact (k p l e s m args below meth c base cst D cid Z H locs lr X hW hS hl)
      · cases h
    · cases h
  | putfield idx =>
    obtain rfl := hng (fun _ q => by cases q)
    simp only [px_s1] at h
    have hf : (on, idx, a, b) ∈ px_tf := of_decide_eq_true (Bool.and_eq_true_iff.mp hau).1
    have hk0 := (Bool.and_eq_true_iff.mp hau).2
    have hfin : (px_Tf a b).2.2.2 = false := by simpa using (Bool.and_eq_true_iff.mp hk0).1
    have hk := (Bool.and_eq_true_iff.mp hk0).2
    dsimp only at hk
    split at h
    · split at h
      · cases hc : px_ck nb _ a with
        | false => rw [hc] at h; cases h
        | true =>
          rw [hc] at h
          obtain ⟨h1, h2, h3⟩ := px_ck_ok hc
          refine ⟨_, _, _, _, _, _, _, h, id, fun hP k p l e s m args below meth c base cst D cid Z H locs lr X hW hS hl => ?_⟩
          exact px_put X hW hS hon hf h1 (Nat.lt_of_lt_of_le h2 hnb) h3 hdc (Or.inl hfin) (fun b hb => px_u_ne hb) (fun _ _ => rfl) (fun _ _ => rfl) (fun j hj => px_u_at_ne hj) (fun _ _ => rfl) (fun _ _ => rfl) (by rw [px_u_at]; unfold px_ft; rw [of_decide_eq_true hk]; rfl) (by rw [of_decide_eq_true hk]; rfl) (by rw [of_decide_eq_true hk]; rfl) (fun H1 locs1 hW hS => k p l e s m args below meth c base cst D cid Z H1 locs1 lr X hW hS hl)
      · cases h
    · split at h
      · cases hc : px_ck nb _ a with
        | false => rw [hc] at h; cases h
        | true =>
          rw [hc] at h
          obtain ⟨h1, h2, h3⟩ := px_ck_ok hc
          refine ⟨_, _, _, _, _, _, _, h, id, fun hP k p l e s m args below meth c base cst D cid Z H locs lr X hW hS hl => ?_⟩
          exact px_put X hW hS hon hf h1 (Nat.lt_of_lt_of_le h2 hnb) h3 hdc (Or.inl hfin) (fun _ _ => rfl) (fun b hb => px_u_ne hb) (fun _ _ => rfl) (fun _ _ => rfl) (fun j hj => px_u_at_ne hj) (fun _ _ => rfl) (by rw [px_u_at]; unfold px_ft; rw [of_decide_eq_true hk]; rfl) (by rw [of_decide_eq_true hk]; rfl) (by rw [of_decide_eq_true hk]; rfl) (fun H1 locs1 hW hS => k p l e s m args below meth c base cst D cid Z H1 locs1 lr X hW hS hl)
      · cases h
    · split at h
      · cases hc : px_ck nb _ a with
        | false => rw [hc] at h; cases h
        | true =>
          rw [hc] at h
          obtain ⟨h1, h2, h3⟩ := px_ck_ok hc
          refine ⟨_, _, _, _, _, _, _, h, And.left, fun hP k p l e s m args below meth c base cst D cid Z H locs lr X hW hS hl => ?_⟩
          exact px_put X hW hS hon hf h1 (Nat.lt_of_lt_of_le h2 hnb) h3 hdc (Or.inl hfin) (fun b hb => px_u_ne hb) (fun _ _ => rfl) (fun _ _ => rfl) (fun j hj => px_u_at_ne hj) (fun _ _ => rfl) (fun _ _ => rfl) (by rw [px_u_at]; unfold px_ft; rw [of_decide_eq_true hk]; rfl) (by rw [of_decide_eq_true hk]; rcases hP.2 with q | q <;> subst q <;> rfl) (by rw [of_decide_eq_true hk]; rcases hP.2 with q | q <;> subst q <;> rfl) (fun H1 locs1 hW hS => k p l e s m args below meth c base cst D cid Z H1 locs1 lr X hW hS hl)
      · cases h
    · split at h
      · rw [px_apK_eq] at h
        refine ⟨_, _, _, _, _, _, _, h, And.left, fun hP k p l e s m args below meth c base cst D cid Z H locs lr X hW hS hl => ?_⟩
        exact px_put X hW hS hon hf hP.2.1 hP.2.2.1 hP.2.2.2 hdc (Or.inl hfin) (fun b hb => px_u_ne hb) (fun _ _ => rfl) (fun _ _ => rfl) (fun j hj => px_u_at_ne hj) (fun _ _ => rfl) (fun _ _ => rfl) (by rw [px_u_at]; unfold px_ft; rw [of_decide_eq_true hk]; rfl) (by rw [of_decide_eq_true hk]; rfl) (by rw [of_decide_eq_true hk]; rfl) (fun H1 locs1 hW hS => k p l e s m args below meth c base cst D cid Z H1 locs1 lr X hW hS hl)
      · cases h
    · cases h
  | iaload =>
    obtain rfl := hng (fun _ q => by cases q)
    simp only [px_s1] at h
    split at h
    · split at h
      · cases hc : (Nat.ble 32 _ && (Nat.blt _ nb && Nat.beq (px_sh _).1 20)) with
        | false => rw [hc] at h; cases h
        | true =>
          rw [hc, cond_true, px_rdA_eq'] at h
          obtain ⟨h1, h2, h3⟩ := px_nb_ok hc
          refine ⟨_, _, _, _, _, _, _, h, And.left, fun hP k p l e s m args below meth c base cst D cid Z H locs lr X hW hS hl => ?_⟩
          exact px_ild X hW h1 (Nat.lt_of_lt_of_le h2 hnb) h3 hP.2 hdc (k p l e s m args below meth c base cst D cid Z H locs lr X hW hS hl)
      · refine ⟨_, _, _, _, _, _, _, h, (fun q => q.1.1), fun hP k p l e s m args below meth c base cst D cid Z H locs lr X hW hS hl => ?_⟩
        exact px_ild X hW hP.1.2.1 hP.1.2.2.1 hP.1.2.2.2.1 (by rw [hP.1.2.2.2.2]; exact hP.2) hdc (k p l e s m args below meth c base cst D cid Z H locs lr X hW hS hl)
    · cases h
  | laload =>
    obtain rfl := hng (fun _ q => by cases q)
    simp only [px_s1] at h
    split at h
    · split at h
      · cases hc : (Nat.ble 32 _ && (Nat.blt _ nb && Nat.beq (px_sh _).1 21)) with
        | false => rw [hc] at h; cases h
        | true =>
          rw [hc, cond_true, px_rdA_eq'] at h
          obtain ⟨h1, h2, h3⟩ := px_nb_ok hc
          refine ⟨_, _, _, _, _, _, _, h, And.left, fun hP k p l e s m args below meth c base cst D cid Z H locs lr X hW hS hl => ?_⟩
          exact px_lld X hW h1 (Nat.lt_of_lt_of_le h2 hnb) h3 hP.2 hdc (k p l e s m args below meth c base cst D cid Z H locs lr X hW hS hl)
      · refine ⟨_, _, _, _, _, _, _, h, (fun q => q.1.1), fun hP k p l e s m args below meth c base cst D cid Z H locs lr X hW hS hl => ?_⟩
        exact px_lld X hW hP.1.2.1 hP.1.2.2.1 hP.1.2.2.2.1 (by rw [hP.1.2.2.2.2]; exact hP.2) hdc (k p l e s m args below meth c base cst D cid Z H locs lr X hW hS hl)
    · cases h
  | iastore =>
    obtain rfl := hng (fun _ q => by cases q)
    simp only [px_s1] at h
    split at h
    · split at h
      · cases hc : (Nat.ble 32 _ && (Nat.blt _ nb && Nat.beq (px_sh _).1 20)) with
        | false => rw [hc] at h; cases h
        | true =>
          rw [hc] at h
          obtain ⟨h1, h2, h3⟩ := px_nb_ok hc
          refine ⟨_, _, _, _, _, _, _, h, And.left, fun hP k p l e s m args below meth c base cst D cid Z H locs lr X hW hS hl => ?_⟩
          exact px_ist X hW hS h1 (Nat.lt_of_lt_of_le h2 hnb) h3 hP.2 hdc (fun H1 locs1 hW hS => k p l e s m args below meth c base cst D cid Z H1 locs1 lr X hW hS hl)
      · rw [px_apK_eq] at h
        refine ⟨_, _, _, _, _, _, _, h, (fun q => q.1.1), fun hP k p l e s m args below meth c base cst D cid Z H locs lr X hW hS hl => ?_⟩
        exact px_ist X hW hS hP.1.2.1 hP.1.2.2.1 hP.1.2.2.2.1 (by rw [hP.1.2.2.2.2]; exact hP.2) hdc (fun H1 locs1 hW hS => k p l e s m args below meth c base cst D cid Z H1 locs1 lr X hW hS hl)
    · cases h
  | lastore =>
    obtain rfl := hng (fun _ q => by cases q)
    simp only [px_s1] at h
    split at h
    · split at h
      · cases hc : (Nat.ble 32 _ && (Nat.blt _ nb && Nat.beq (px_sh _).1 21)) with
        | false => rw [hc] at h; cases h
        | true =>
          rw [hc] at h
          obtain ⟨h1, h2, h3⟩ := px_nb_ok hc
          refine ⟨_, _, _, _, _, _, _, h, And.left, fun hP k p l e s m args below meth c base cst D cid Z H locs lr X hW hS hl => ?_⟩
          exact px_lst X hW hS h1 (Nat.lt_of_lt_of_le h2 hnb) h3 hP.2 hdc (fun H1 locs1 hW hS => k p l e s m args below meth c base cst D cid Z H1 locs1 lr X hW hS hl)
      · rw [px_apK_eq] at h
        refine ⟨_, _, _, _, _, _, _, h, (fun q => q.1.1), fun hP k p l e s m args below meth c base cst D cid Z H locs lr X hW hS hl => ?_⟩
        exact px_lst X hW hS hP.1.2.1 hP.1.2.2.1 hP.1.2.2.2.1 (by rw [hP.1.2.2.2.2]; exact hP.2) hdc (fun H1 locs1 hW hS => k p l e s m args below meth c base cst D cid Z H1 locs1 lr X hW hS hl)
    · cases h
  | baload =>
    obtain rfl := hng (fun _ q => by cases q)
    simp only [px_s1] at h
    split at h
    · cases hc : (Nat.ble 32 _ && (Nat.blt _ nb && (Nat.beq (px_sh _).1 22 || Nat.beq (px_sh _).1 23))) with
      | false => rw [hc] at h; cases h
      | true =>
        rw [hc, cond_true, px_rdA_eq'] at h
        simp only [Bool.and_eq_true, Bool.or_eq_true] at hc
        refine ⟨_, _, _, _, _, _, _, h, And.left, fun hP k p l e s m args below meth c base cst D cid Z H locs lr X hW hS hl => ?_⟩
        exact px_bld X hW (Nat.le_of_ble_eq_true hc.1) (Nat.lt_of_lt_of_le (Nat.le_of_ble_eq_true hc.2.1) hnb) (hc.2.2.imp Nat.eq_of_beq_eq_true Nat.eq_of_beq_eq_true) hP.2 hdc (k p l e s m args below meth c base cst D cid Z H locs lr X hW hS hl)
    · cases h
  | bastore =>
    obtain rfl := hng (fun _ q => by cases q)
    simp only [px_s1] at h
    split at h
    · cases hc : (Nat.ble 32 _ && (Nat.blt _ nb && Nat.beq (px_sh _).1 22)) with
      | false =>
        rw [hc, cond_false] at h
        cases hc2 : (Nat.ble 32 _ && (Nat.blt _ nb && Nat.beq (px_sh _).1 23)) with
        | false => rw [hc2] at h; cases h
        | true =>
          rw [hc2] at h
          obtain ⟨h1, h2, h3⟩ := px_nb_ok hc2
          refine ⟨_, _, _, _, _, _, _, h, And.left, fun hP k p l e s m args below meth c base cst D cid Z H locs lr X hW hS hl => ?_⟩
          exact px_zst X hW hS h1 (Nat.lt_of_lt_of_le h2 hnb) h3 hP.2 hdc (fun H1 locs1 hW hS => k p l e s m args below meth c base cst D cid Z H1 locs1 lr X hW hS hl)
      | true =>
        rw [hc] at h
        obtain ⟨h1, h2, h3⟩ := px_nb_ok hc
        refine ⟨_, _, _, _, _, _, _, h, And.left, fun hP k p l e s m args below meth c base cst D cid Z H locs lr X hW hS hl => ?_⟩
        exact px_bst X hW hS h1 (Nat.lt_of_lt_of_le h2 hnb) h3 hP.2 hdc (fun H1 locs1 hW hS => k p l e s m args below meth c base cst D cid Z H1 locs1 lr X hW hS hl)
    · cases h
  | _ => exact absurd h (by simp [px_s1])
theorem px_exg_ok {nb n on : Nat} {R : px_R} {M : px_M} {cu su : Nat} {Q : px_Q} (hnb : nb ≤ n) (hon : M.1.cls = px_Rn on) : ∀ (xs : List px_o), ((∃ x ∈ xs, px_us x = true) → px_st n R) → ∀ {ls ls' : px_Ls} {st st' : List Value} {I I' : px_I} {G : px_lg Int32} {L L' : px_L} {F : px_lg Int64} {P P' : Prop} {pc pc' : Nat},
    px_bk on M.2.2.1 M.2.1 pc xs = some pc' → px_exg nb n R xs ls st I G L F P = some (P', ls', st', I', L') → (P' → P) ∧ (P' → px M cu su pc' ls' st' n I' L' R Q → px M cu su pc ls st n (px_app I G) (px_app L F) R Q) := by
  intro xs
  induction xs with
  | nil =>
    intro _ ls ls' st st' I I' G L L' F P P' pc pc' hb he
    simp only [px_exg, px_apK_eq] at he
    cases hb; cases he
    exact ⟨id, fun _ k => k⟩
  | cons x xs ih =>
    intro hst ls ls' st st' I I' G L L' F P P' pc pc' hb he
    simp only [px_bk] at hb
    split at hb
    · rename_i pc1 hd
      obtain ⟨ls1, st1, I1, G1, L1, F1, P1, h1, h2, h3⟩ := px_s1_ok (cu := cu) (su := su) (Q := Q) he hnb (fun h => hst ⟨x, List.mem_cons_self, h⟩) hon hd
      obtain ⟨h4, h5⟩ := ih (fun ⟨y, hy, hu⟩ => hst ⟨y, List.mem_cons_of_mem _ hy, hu⟩) hb h1
      exact ⟨fun q => h2 (h4 q), fun q k => h3 (h4 q) (h5 q k)⟩
    · cases hb
theorem px_ex_ok {nb n on : Nat} {R : px_R} {M : px_M} {cu su : Nat} {Q : px_Q} (hnb : nb ≤ n) (hon : M.1.cls = px_Rn on) (xs : List px_o) (hst : (∃ x ∈ xs, px_us x = true) → px_st n R) {ls ls' : px_Ls} {st st' : List Value} {I I' : px_I} {L L' : px_L} {P P' : Prop} {pc pc' : Nat}
    (hb : px_bk on M.2.2.1 M.2.1 pc xs = some pc') (he : px_ex nb n R xs ls st I L P = some (P', ls', st', I', L')) : (P' → P) ∧ (P' → px M cu su pc' ls' st' n I' L' R Q → px M cu su pc ls st n I L R Q) :=
  px_exg_ok hnb hon xs hst hb he
