/-! straight stretches of code: what they do is computed (px_ex), and the machine follows (px_b) -/
/-- an instruction; of a field: kind, place, how, what it holds for good (two); a constant's value -/
abbrev px_o : Type := Instr × (Nat × Nat × Nat × Nat × Nat) × Int32 × Int64
def px_is (n a ci : Nat) : Prop := 32 ≤ a ∧ a < n ∧ (px_sh a).1 = ci
def px_ia (n a kd : Nat) (N : Int32) : Prop := 32 ≤ a ∧ a < n ∧ (px_sh a).1 = kd ∧ (px_sh a).2.2 = N
def px_gl : px_Ls → Nat → Option Value
  | [], _ => none
  | q :: r, i => bif Nat.beq q.1 i then some q.2 else px_gl r i
def px_rm {β : Type} : px_Ls → Nat → (px_Ls → β) → β
  | [], _, k => k []
  | q :: r, i, k => bif Nat.beq q.1 i || (Nat.beq (q.1 + 1) i && Nat.beq q.2.category 2) then px_rm r i k else px_rm r i (fun r' => k (q :: r'))
def px_rm2 {β : Type} : px_Ls → Nat → (px_Ls → β) → β
  | [], _, k => k []
  | q :: r, i, k => bif Nat.beq q.1 i || (Nat.beq q.1 (i + 1) || (Nat.beq (q.1 + 1) i && Nat.beq q.2.category 2)) then px_rm2 r i k else px_rm2 r i (fun r' => k (q :: r'))
def px_ln : Instr → Nat
  | .aload _ | .astore _ | .bipush _ | .iload _ | .istore _ | .lload _ | .lstore _ | .ldc _ => 2
  | .getfield _ | .putfield _ | .goto _ | .sipush _ | .iinc _ _ | .ldc_w _ | .ldc2_w _ => 3
  | _ => 1
/-- the words and numbers that stand beside an instruction are right -/
def px_au (on nL : Nat) (x : px_o) : Bool := match x.1 with
  | .istore k => Nat.blt k nL
  | .istore_n k => Nat.blt k nL
  | .astore k => Nat.blt k nL
  | .astore_n k => Nat.blt k nL
  | .lstore k => Nat.blt (k + 1) nL
  | .lstore_n k => Nat.blt (k + 1) nL
  | .iconst v => decide (Int32.ofInt v = x.2.2.1)
  | .bipush v => decide ((Int8.ofInt v).toInt32 = x.2.2.1)
  | .sipush v => decide ((Int16.ofInt v).toInt32 = x.2.2.1)
  | .iinc k v => Nat.blt k nL && decide (Int32.ofInt v = x.2.2.1)
  | .lconst k => decide (Int64.ofNat (k : Nat) = x.2.2.2)
  | .ldc i => decide ((on, i, x.2.2.1) ∈ px_tc)
  | .ldc_w i => decide ((on, i, x.2.2.1) ∈ px_tc)
  | .ldc2_w i => decide ((on, i, x.2.2.2) ∈ px_tl)
  | .getfield i => decide ((on, i, x.2.1.1, x.2.1.2.1) ∈ px_tf) && (match x.2.1.2.2.1 with
    | 0 => Nat.beq (px_ft x.2.1.1 x.2.1.2.1) 0 || Nat.beq (px_ft x.2.1.1 x.2.1.2.1) 3
    | 5 => Nat.beq (px_ft x.2.1.1 x.2.1.2.1) 0
    | 1 => Nat.beq (px_ft x.2.1.1 x.2.1.2.1) 1
    | 3 => Nat.beq (px_ft x.2.1.1 x.2.1.2.1) 2
    | 4 => Nat.beq (px_ft x.2.1.1 x.2.1.2.1) 2
    | 6 => Nat.beq (px_ft x.2.1.1 x.2.1.2.1) 2 && (Nat.beq x.2.1.1 10 && (Nat.beq x.2.1.2.1 0 && Nat.beq x.2.1.2.2.2.1 1 || Nat.beq x.2.1.2.1 1 && Nat.beq x.2.1.2.2.2.1 2))
    | _ => false)
  | .putfield i => decide ((on, i, x.2.1.1, x.2.1.2.1) ∈ px_tf) && (!(px_Tf x.2.1.1 x.2.1.2.1).2.2.2 && (match x.2.1.2.2.1 with
    | 0 => decide (px_ty x.2.1.1 x.2.1.2.1 = .int)
    | 5 => decide (px_ty x.2.1.1 x.2.1.2.1 = .int)
    | 1 => decide (px_ty x.2.1.1 x.2.1.2.1 = .long)
    | 2 => decide (px_ty x.2.1.1 x.2.1.2.1 = .boolean)
    | _ => false))
  | _ => true
def px_dec (on nL : Nat) (cc : ByteArray) (pc : Nat) (x : px_o) : Option Nat := match decode cc pc with
  | .ok (i, len) => bif decide (i = x.1) && (Nat.beq len (px_ln x.1) && px_au on nL x) then (match x.1 with
    | .goto off => bif decide (0 ≤ (pc : Int) + off) then some ((pc : Int) + off).toNat else none
    | _ => some (pc + px_ln x.1)) else none
  | .error _ => none
def px_bk (on nL : Nat) (cc : ByteArray) : Nat → List px_o → Option Nat
  | pc, [] => some pc
  | pc, x :: xs => match px_dec on nL cc pc x with
    | some pc1 => px_bk on nL cc pc1 xs
    | none => none
/-- an object by its number, of that kind, there -/
def px_ck (nb o ci : Nat) : Bool := Nat.ble 32 o && (Nat.blt o nb && Nat.beq (px_sh o).1 ci)
/-- what has been written in this stretch, the newest first; it is read through -/
abbrev px_lg (α : Type) : Type := List (Nat × Nat × α)
def px_app {α : Type} (I : Nat → Nat → α) : px_lg α → Nat → Nat → α
  | [] => I
  | (x, y, v) :: r => px_u (px_app I r) x y v
def px_apK {α β : Type} (I : Nat → Nat → α) : px_lg α → ((Nat → Nat → α) → β) → β
  | [], k => k I
  | (x, y, v) :: r, k => px_apK I r (fun f => k (px_u f x y v))
def px_rdF {α β : Type} (I : Nat → Nat → α) : px_lg α → Nat → Nat → (α → β) → β
  | [], o, b, k => k (I o b)
  | (x, y, v) :: r, o, b, k => bif Nat.beq x o then (bif Nat.beq y b then k v else px_rdF I r o b k) else px_rdF I r o b k
def px_rdA {α β : Type} (I : Nat → Nat → α) (full : px_lg α) : px_lg α → Nat → Nat → (α → β) → β
  | [], o, b, k => k (I o b)
  | (x, _, _) :: r, o, b, k => bif Nat.beq x o then px_apK I full (fun f => k (f o b)) else px_rdA I full r o b k
abbrev px_z : Type := Prop × px_Ls × List Value × px_I × px_L
def px_s1 (nb n : Nat) (R : px_R) (x : px_o) (ls : px_Ls) (st : List Value) (I : px_I) (G : px_lg Int32) (L : px_L) (F : px_lg Int64) (P : Prop) (K : px_Ls → List Value → px_I → px_lg Int32 → px_L → px_lg Int64 → Prop → Option px_z) : Option px_z :=
  match x with
  | (i, (xa, xb, xk, xd, xe), xc, xl) => match i with
  | .iconst _ => K ls (.int xc :: st) I G L F P
  | .bipush _ => K ls (.int xc :: st) I G L F P
  | .sipush _ => K ls (.int xc :: st) I G L F P
  | .lconst _ => K ls (.long xl :: st) I G L F P
  | .ldc _ => K ls (.int xc :: st) I G L F P
  | .ldc_w _ => K ls (.int xc :: st) I G L F P
  | .ldc2_w _ => K ls (.long xl :: st) I G L F P
  | .aconst_null => K ls (.null :: st) I G L F P
  | .iload_n k => match px_gl ls k with
    | some (.int v) => K ls (.int v :: st) I G L F P
    | _ => none
  | .iload k => match px_gl ls k with
    | some (.int v) => K ls (.int v :: st) I G L F P
    | _ => none
  | .lload_n k => match px_gl ls k with
    | some (.long v) => K ls (.long v :: st) I G L F P
    | _ => none
  | .lload k => match px_gl ls k with
    | some (.long v) => K ls (.long v :: st) I G L F P
    | _ => none
  | .aload_n k => match px_gl ls k with
    | some (.ref v) => K ls (.ref v :: st) I G L F P
    | some .null => K ls (.null :: st) I G L F P
    | _ => none
  | .aload k => match px_gl ls k with
    | some (.ref v) => K ls (.ref v :: st) I G L F P
    | some .null => K ls (.null :: st) I G L F P
    | _ => none
  | .istore_n k => match st with
    | .int v :: r => px_rm ls k (fun l => K (((k : Nat), .int v) :: l) r I G L F P)
    | _ => none
  | .istore k => match st with
    | .int v :: r => px_rm ls k (fun l => K ((k, .int v) :: l) r I G L F P)
    | _ => none
  | .astore_n k => match st with
    | .ref v :: r => px_rm ls k (fun l => K (((k : Nat), .ref v) :: l) r I G L F P)
    | .null :: r => px_rm ls k (fun l => K (((k : Nat), .null) :: l) r I G L F P)
    | _ => none
  | .astore k => match st with
    | .ref v :: r => px_rm ls k (fun l => K ((k, .ref v) :: l) r I G L F P)
    | .null :: r => px_rm ls k (fun l => K ((k, .null) :: l) r I G L F P)
    | _ => none
  | .lstore_n k => match st with
    | .long v :: r => px_rm2 ls k (fun l => K (((k : Nat), .long v) :: l) r I G L F P)
    | _ => none
  | .lstore k => match st with
    | .long v :: r => px_rm2 ls k (fun l => K ((k, .long v) :: l) r I G L F P)
    | _ => none
  | .iinc k _ => match px_gl ls k with
    | some (.int v) => px_rm ls k (fun l => K ((k, .int (v + xc)) :: l) st I G L F P)
    | _ => none
  | .goto _ => K ls st I G L F P
  | .iadd => match st with
    | .int y :: .int v :: r => K ls (.int (v + y) :: r) I G L F P
    | _ => none
  | .isub => match st with
    | .int y :: .int v :: r => K ls (.int (v - y) :: r) I G L F P
    | _ => none
  | .imul => match st with
    | .int y :: .int v :: r => K ls (.int (v * y) :: r) I G L F P
    | _ => none
  | .idiv => match st with
    | .int y :: .int v :: r => K ls (.int (v / y) :: r) I G L F (P ∧ ¬ y = 0)
    | _ => none
  | .irem => match st with
    | .int y :: .int v :: r => K ls (.int (v - v / y * y) :: r) I G L F (P ∧ ¬ y = 0)
    | _ => none
  | .ineg => match st with
    | .int v :: r => K ls (.int (0 - v) :: r) I G L F P
    | _ => none
  | .iand => match st with
    | .int y :: .int v :: r => K ls (.int (v &&& y) :: r) I G L F P
    | _ => none
  | .ior => match st with
    | .int y :: .int v :: r => K ls (.int (v ||| y) :: r) I G L F P
    | _ => none
  | .ishl => match st with
    | .int y :: .int v :: r => K ls (.int (v <<< (y &&& 31)) :: r) I G L F P
    | _ => none
  | .ishr => match st with
    | .int y :: .int v :: r => K ls (.int (v >>> (y &&& 31)) :: r) I G L F P
    | _ => none
  | .iushr => match st with
    | .int y :: .int v :: r => K ls (.int (v.toUInt32 >>> (y.toUInt32 &&& Int32.toUInt32 31)).toInt32 :: r) I G L F P
    | _ => none
  | .ladd => match st with
    | .long y :: .long v :: r => K ls (.long (v + y) :: r) I G L F P
    | _ => none
  | .lsub => match st with
    | .long y :: .long v :: r => K ls (.long (v - y) :: r) I G L F P
    | _ => none
  | .lmul => match st with
    | .long y :: .long v :: r => K ls (.long (v * y) :: r) I G L F P
    | _ => none
  | .ldiv => match st with
    | .long y :: .long v :: r => K ls (.long (v / y) :: r) I G L F (P ∧ ¬ y = 0)
    | _ => none
  | .lrem => match st with
    | .long y :: .long v :: r => K ls (.long (v - v / y * y) :: r) I G L F (P ∧ ¬ y = 0)
    | _ => none
  | .lneg => match st with
    | .long v :: r => K ls (.long (-v) :: r) I G L F P
    | _ => none
  | .lxor => match st with
    | .long y :: .long v :: r => K ls (.long (v ^^^ y) :: r) I G L F P
    | _ => none
  | .lcmp => match st with
    | .long y :: .long v :: r => K ls (.int (lg_cmp v y) :: r) I G L F P
    | _ => none
  | .i2l => match st with
    | .int v :: r => K ls (.long v.toInt64 :: r) I G L F P
    | _ => none
  | .l2i => match st with
    | .long v :: r => K ls (.int v.toInt32 :: r) I G L F P
    | _ => none
  | .i2b => match st with
    | .int v :: r => K ls (.int v.toInt8.toInt32 :: r) I G L F P
    | _ => none
  | .dup => match st with
    | .int v :: r => K ls (.int v :: .int v :: r) I G L F P
    | .ref v :: r => K ls (.ref v :: .ref v :: r) I G L F P
    | _ => none
  | .dup2 => match st with
    | .int y :: .ref v :: r => K ls (.int y :: .ref v :: .int y :: .ref v :: r) I G L F P
    | .long y :: r => K ls (.long y :: .long y :: r) I G L F P
    | _ => none
  | .pop => match st with
    | .int _ :: r => K ls r I G L F P
    | .ref _ :: r => K ls r I G L F P
    | _ => none
  | .pop2 => match st with
    | .long _ :: r => K ls r I G L F P
    | _ => none
  | .getfield _ => match st with
    | .ref o :: r => match xk with
      | 0 => bif px_ck nb o xa then px_rdF I G o xb (fun v => K ls (.int v :: r) I G L F P) else none
      | 1 => bif px_ck nb o xa then px_rdF L F o xb (fun v => K ls (.long v :: r) I G L F P) else none
      | 3 => bif px_ck nb o xa then (bif Nat.beq (px_tg o xb) xd && Nat.blt 0 xd then K ls (.ref xd :: r) I G L F P else bif Nat.beq (px_tg o xb) xe && Nat.blt 0 xe then K ls (.ref xe :: r) I G L F P else none) else none
      | 4 => bif px_ck nb o xa then K ls (va_rf (R o xb) :: r) I G L F P else none
      | 5 => K ls (.int (px_app I G o xb) :: r) I G L F (P ∧ px_is n o xa)
      | 6 => K ls (.ref (o + xd) :: r) I G L F (P ∧ px_is n o xa)
      | _ => none
    | _ => none
  | .putfield _ => match xk with
    | 0 => match st with
      | .int v :: .ref o :: r => bif px_ck nb o xa then K ls r I ((o, xb, v) :: G) L F P else none
      | _ => none
    | 1 => match st with
      | .long v :: .ref o :: r => bif px_ck nb o xa then K ls r I G L ((o, xb, v) :: F) P else none
      | _ => none
    | 2 => match st with
      | .int v :: .ref o :: r => bif px_ck nb o xa then K ls r I ((o, xb, v) :: G) L F (P ∧ (v = 0 ∨ v = 1)) else none
      | _ => none
    | 5 => match st with
      | .int v :: .ref o :: r => px_apK I G (fun I => K ls r (px_u I o xb v) [] L F (P ∧ px_is n o xa))
      | _ => none
    | _ => none
  | .iaload => match st with
    | .int j :: .ref o :: r => match xa with
      | 0 => match px_sh o with
        | (kd, _, NI) => bif Nat.ble 32 o && (Nat.blt o nb && Nat.beq kd 20) then px_rdA I G G o j.toNatClampNeg (fun v => K ls (.int v :: r) I G L F (P ∧ (0 ≤ j ∧ j < NI))) else none
      | _ => K ls (.int (px_app I G o j.toNatClampNeg) :: r) I G L F ((P ∧ px_ia n o 20 xc) ∧ (0 ≤ j ∧ j < xc))
    | _ => none
  | .laload => match st with
    | .int j :: .ref o :: r => match xa with
      | 0 => match px_sh o with
        | (kd, _, NI) => bif Nat.ble 32 o && (Nat.blt o nb && Nat.beq kd 21) then px_rdA L F F o j.toNatClampNeg (fun v => K ls (.long v :: r) I G L F (P ∧ (0 ≤ j ∧ j < NI))) else none
      | _ => K ls (.long (px_app L F o j.toNatClampNeg) :: r) I G L F ((P ∧ px_ia n o 21 xc) ∧ (0 ≤ j ∧ j < xc))
    | _ => none
  | .baload => match st with
    | .int j :: .ref o :: r => match px_sh o with
      | (kd, _, NI) => bif Nat.ble 32 o && (Nat.blt o nb && (Nat.beq kd 22 || Nat.beq kd 23)) then px_rdA I G G o j.toNatClampNeg (fun v => K ls (.int v :: r) I G L F (P ∧ (0 ≤ j ∧ j < NI))) else none
    | _ => none
  | .iastore => match st with
    | .int v :: .int j :: .ref o :: r => match xa with
      | 0 => match px_sh o with
        | (kd, _, NI) => bif Nat.ble 32 o && (Nat.blt o nb && Nat.beq kd 20) then K ls r I ((o, j.toNatClampNeg, v) :: G) L F (P ∧ (0 ≤ j ∧ j < NI)) else none
      | _ => px_apK I G (fun I => K ls r (px_u I o j.toNatClampNeg v) [] L F ((P ∧ px_ia n o 20 xc) ∧ (0 ≤ j ∧ j < xc)))
    | _ => none
  | .lastore => match st with
    | .long v :: .int j :: .ref o :: r => match xa with
      | 0 => match px_sh o with
        | (kd, _, NI) => bif Nat.ble 32 o && (Nat.blt o nb && Nat.beq kd 21) then K ls r I G L ((o, j.toNatClampNeg, v) :: F) (P ∧ (0 ≤ j ∧ j < NI)) else none
      | _ => px_apK L F (fun L => K ls r I G (px_u L o j.toNatClampNeg v) [] ((P ∧ px_ia n o 21 xc) ∧ (0 ≤ j ∧ j < xc)))
    | _ => none
  | .bastore => match st with
    | .int v :: .int j :: .ref o :: r => match px_sh o with
      | (kd, _, NI) => bif Nat.ble 32 o && (Nat.blt o nb && Nat.beq kd 22) then K ls r I ((o, j.toNatClampNeg, v.toInt8.toInt32) :: G) L F (P ∧ (0 ≤ j ∧ j < NI)) else bif Nat.ble 32 o && (Nat.blt o nb && Nat.beq kd 23) then K ls r I ((o, j.toNatClampNeg, (v &&& 1)) :: G) L F (P ∧ (0 ≤ j ∧ j < NI)) else none
    | _ => none
  | _ => none
def px_exg (nb n : Nat) (R : px_R) : List px_o → px_Ls → List Value → px_I → px_lg Int32 → px_L → px_lg Int64 → Prop → Option px_z
  | [], ls, st, I, G, L, F, P => px_apK I G (fun I => px_apK L F (fun L => some (P, ls, st, I, L)))
  | x :: xs, ls, st, I, G, L, F, P => px_s1 nb n R x ls st I G L F P (fun ls st I G L F P => px_exg nb n R xs ls st I G L F P)
def px_ex (nb n : Nat) (R : px_R) (xs : List px_o) (ls : px_Ls) (st : List Value) (I : px_I) (L : px_L) (P : Prop) : Option px_z := px_exg nb n R xs ls st I [] L [] P
theorem px_apK_eq {α β : Type} (I : Nat → Nat → α) (G : px_lg α) : ∀ k : (Nat → Nat → α) → β, px_apK I G k = k (px_app I G) := by
  induction G with
  | nil => intro k; rfl
  | cons e r ih => obtain ⟨x, y, v⟩ := e; intro k; simp only [px_apK, px_app, ih]
theorem px_rdF_eq {α β : Type} (I : Nat → Nat → α) (G : px_lg α) (o b : Nat) (k : α → β) : px_rdF I G o b k = k (px_app I G o b) := by
  induction G with
  | nil => rfl
  | cons e r ih =>
    obtain ⟨x, y, v⟩ := e
    simp only [px_rdF, px_app]
    cases h1 : Nat.beq x o with
    | false =>
      have : o ≠ x := fun q => by rw [q, Nat.beq_refl] at h1; cases h1
      rw [px_u_ne this]; exact ih
    | true =>
      have := Nat.eq_of_beq_eq_true h1
      subst this
      cases h2 : Nat.beq y b with
      | true =>
        have := Nat.eq_of_beq_eq_true h2
        subst this
        rw [px_u_at]; rfl
      | false =>
        have : b ≠ y := fun q => by rw [q, Nat.beq_refl] at h2; cases h2
        rw [px_u_at_ne this]; exact ih
theorem px_rdA_out {α β : Type} (I : Nat → Nat → α) (full : px_lg α) (o b : Nat) (k : α → β) : ∀ G : px_lg α, (∀ e ∈ G, e.1 ≠ o) → px_rdA I full G o b k = k (I o b) := by
  intro G
  induction G with
  | nil => intro _; rfl
  | cons e r ih =>
    intro h
    obtain ⟨x, y, v⟩ := e
    have h3 : Nat.beq x o = false := by
      cases hb : Nat.beq x o with
      | true => exact absurd (Nat.eq_of_beq_eq_true hb) (h (x, y, v) List.mem_cons_self)
      | false => rfl
    simp only [px_rdA, h3, cond_false]
    exact ih (fun e he => h e (List.mem_cons_of_mem _ he))
theorem px_rdA_in {α β : Type} (I : Nat → Nat → α) (full : px_lg α) (o b : Nat) (k : α → β) : ∀ G : px_lg α, ¬ (∀ e ∈ G, e.1 ≠ o) → px_rdA I full G o b k = k (px_app I full o b) := by
  intro G
  induction G with
  | nil => intro h; exact absurd (fun _ h => by cases h) h
  | cons e r ih =>
    intro h
    obtain ⟨x, y, v⟩ := e
    simp only [px_rdA]
    cases hb : Nat.beq x o with
    | true => rw [cond_true, px_apK_eq]
    | false =>
      rw [cond_false]
      refine ih (fun h2 => h fun e he => ?_)
      rcases List.mem_cons.mp he with rfl | he
      · exact fun q => by rw [show x = o from q, Nat.beq_refl] at hb; cases hb
      · exact h2 e he
theorem px_app_out {α : Type} (I : Nat → Nat → α) (G : px_lg α) (o b : Nat) (h : ∀ e ∈ G, e.1 ≠ o) : px_app I G o b = I o b := by
  induction G with
  | nil => rfl
  | cons e r ih =>
    obtain ⟨x, y, v⟩ := e
    simp only [px_app]
    rw [px_u_ne (Ne.symm (h (x, y, v) List.mem_cons_self))]
    exact ih (fun x hx => h x (List.mem_cons_of_mem _ hx))
theorem px_rdA_eq' {α β : Type} (I : Nat → Nat → α) (G : px_lg α) (o b : Nat) (k : α → β) : px_rdA I G G o b k = k (px_app I G o b) := by
  by_cases h : ∀ e ∈ G, e.1 ≠ o
  · rw [px_rdA_out I G o b k G h, px_app_out I G o b h]
  · exact px_rdA_in I G o b k G h
theorem px_beq (a b : Nat) : Nat.beq a b = decide (a = b) := by
  by_cases h : a = b
  · subst h; simp
  · rw [decide_eq_false h]
    cases hb : Nat.beq a b with
    | true => exact absurd (Nat.eq_of_beq_eq_true hb) h
    | false => rfl
theorem px_rm_eq {β : Type} (ls : px_Ls) (i : Nat) : ∀ k : px_Ls → β, px_rm ls i k = k (ls.filter fun q => !(q.1 == i) && !(q.1 + 1 == i && q.2.category == 2)) := by
  induction ls with
  | nil => intro k; rfl
  | cons q r ih =>
    intro k
    simp only [px_rm, List.filter_cons]
    by_cases h1 : q.1 = i <;> by_cases h2 : q.1 + 1 = i <;> by_cases h3 : q.2.category = 2 <;> simp [h1, h2, h3, ih, px_beq]
theorem px_rm2_eq {β : Type} (ls : px_Ls) (i : Nat) : ∀ k : px_Ls → β, px_rm2 ls i k = k (ls.filter fun q => !(q.1 == i) && (!(q.1 == i + 1) && !(q.1 + 1 == i && q.2.category == 2))) := by
  induction ls with
  | nil => intro k; rfl
  | cons q r ih =>
    intro k
    simp only [px_rm2, List.filter_cons]
    by_cases h1 : q.1 = i <;> by_cases h2 : q.1 + 1 = i <;> by_cases h3 : q.2.category = 2 <;> by_cases h4 : q.1 = i + 1 <;> simp [h1, h2, h3, h4, ih, px_beq]
theorem px_gl_mem {ls : px_Ls} {i : Nat} {v : Value} (h : px_gl ls i = some v) : (i, v) ∈ ls := by
  induction ls with
  | nil => simp [px_gl] at h
  | cons q r ih =>
    simp only [px_gl] at h
    cases hb : Nat.beq q.1 i with
    | true =>
      rw [hb] at h
      have := Nat.eq_of_beq_eq_true hb
      simp at h
      subst this; subst h
      exact List.mem_cons_self
    | false => rw [hb] at h; exact List.mem_cons_of_mem _ (ih h)
theorem px_has {lr : Array Slot} {nL : Nat} {ls : px_Ls} {ad : Nat → Nat} {i : Nat} {v : Value} (h : lv_has lr nL (ls.map fun q => (q.1, px_v ad q.2))) (hg : px_gl ls i = some v) : lr[i]? = some (.val (px_v ad v)) :=
  h.2.2 (i, px_v ad v) (List.mem_map.mpr ⟨(i, v), px_gl_mem hg, rfl⟩)
theorem px_ck_ok {nb o ci : Nat} (h : px_ck nb o ci = true) : 32 ≤ o ∧ o < nb ∧ (px_sh o).1 = ci := by
  unfold px_ck at h
  simp only [Bool.and_eq_true] at h
  exact ⟨Nat.le_of_ble_eq_true h.1, Nat.le_of_ble_eq_true h.2.1, Nat.eq_of_beq_eq_true h.2.2⟩
