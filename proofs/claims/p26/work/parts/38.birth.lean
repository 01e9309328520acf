/-! what is made: rules -/
section PXB
variable {on n cu su pc pb idx k : Nat} {R : px_R} {M M1 : px_M} {Q : px_Q} {xs : List px_o} {ls ls' : px_Ls} {st st' : List Value} {I I' : px_I} {L L' : px_L} {P' : Prop} {As rest : List Value} {o ci : Nat}
theorem px_nA {at_ : ArrayType} {t0 N : Nat} {x : Int32} (hd : decode M.2.1 pc = .ok (.newarray at_, 2)) (hat : (at_ = .int ∧ t0 = 0 ∧ (px_sh n).1 = 20) ∨ (at_ = .long ∧ t0 = 1 ∧ (px_sh n).1 = 21) ∨ (at_ = .byte ∧ t0 = 2 ∧ (px_sh n).1 = 22) ∨ (at_ = .boolean ∧ t0 = 3 ∧ (px_sh n).1 = 23)) (hN : (px_sh n).2.1 = N) (hx : x = Int32.ofNat N) (hcu : Nat.ble (cu + 1) (px_room M).cells = true) (hsu : Nat.ble (su + N) (px_room M).slots = true)
    (kk : px M (cu + 1) (su + N) (pc + 2) ls (.ref n :: rest) (n + 1) (px_w I n (fun _ => 0)) (px_w L n (fun _ => 0)) (px_w R n (fun _ => none)) Q) : px M cu su pc ls (.int x :: rest) n I L R Q := by
  intro p l e s m args below meth c base cst D cid Z H locs lr X hW hS hl
  exact px_nwa X hW hS hat hN hx (Nat.le_of_ble_eq_true hcu) (Nat.le_of_ble_eq_true hsu) hd (fun H1 hW hS => kk p l e s m args below meth c base cst D cid Z H1 locs lr X hW hS hl)
theorem px_nR {N : Nat} {x : Int32} (hd : decode M.2.1 pc = .ok (.anewarray idx, 3)) (hf : (M.1.cls, idx, 10) ∈ px_tn) (hsh : (px_sh n).1 = 24) (hN : (px_sh n).2.1 = N) (hx : x = Int32.ofNat N) (hcu : Nat.ble (cu + 1) (px_room M).cells = true) (hsu : Nat.ble (su + N) (px_room M).slots = true)
    (kk : px M (cu + 1) (su + N) (pc + 3) ls (.ref n :: rest) (n + 1) (px_w I n (fun _ => 0)) (px_w L n (fun _ => 0)) (px_w R n (fun _ => none)) Q) : px M cu su pc ls (.int x :: rest) n I L R Q := by
  intro p l e s m args below meth c base cst D cid Z H locs lr X hW hS hl
  exact px_nwr X hW hS hf hsh hN hx (Nat.le_of_ble_eq_true hcu) (Nat.le_of_ble_eq_true hsu) hd (fun H1 hW hS => kk p l e s m args below meth c base cst D cid Z H1 locs lr X hW hS hl)
theorem px_nO {nf : Nat} (hd : decode M.2.1 pc = .ok (.new idx, 3)) (hf : (M.1.cls, idx, ci) ∈ px_tn) (hsh : (px_sh n).1 = ci) (hnf : px_Nf ci = nf) (hcu : Nat.ble (cu + 1) (px_room M).cells = true) (hsu : Nat.ble (su + nf) (px_room M).slots = true)
    (kk : px M (cu + 1) (su + nf) (pc + 3) ls (.ref n :: rest) (n + 1) (px_w I n (fun _ => 0)) (px_w L n (fun _ => 0)) (px_w R n (fun _ => none)) Q) : px M cu su pc ls rest n I L R Q := by
  intro p l e s m args below meth c base cst D cid Z H locs lr X hW hS hl
  subst hnf
  exact px_new X hW hS hf hsh (Nat.le_of_ble_eq_true hcu) (Nat.le_of_ble_eq_true hsu) hd (fun H1 hW hS => kk p l e s m args below meth c base cst D cid Z H1 locs lr X hW hS hl)
/-- a reference into a field, also a final one of what is being made -/
theorem px_pF {kf v : Nat} (hon : M.1.cls = px_Rn on) (hd : decode M.2.1 pc = .ok (.putfield idx, 3)) (hf : (on, idx, ci, kf) ∈ px_tf) (hck : px_is n o ci) (hft : px_ft ci kf = 2) (hty : (∃ c, px_ty ci kf = .object c) ∨ ∃ t, px_ty ci kf = .array t) (hfin : (px_Tf ci kf).2.2.2 = false ∨ ((px_Tf ci kf).2.2.2 = true ∧ M.1.name = "<init>" ∧ (px_Tf ci kf).1 = M.1.cls))
    (kk : px M cu su (pc + 3) ls rest n I L (px_u R o kf (some v)) Q) : px M cu su pc ls (.ref v :: .ref o :: rest) n I L R Q := by
  intro p l e s m args below meth c base cst D cid Z H locs lr X hW hS hl
  obtain ⟨h1, h2, h3⟩ := hck
  refine px_put (v := .ref (px_ad base cst v)) X hW hS hon hf h1 h2 h3 hd hfin (I' := I) (L' := L) (R' := px_u R o kf (some v)) (fun _ _ => rfl) (fun _ _ => rfl) (fun b hb => px_u_ne hb) (fun _ _ => rfl) (fun _ _ => rfl) (fun j hj => px_u_at_ne hj) (by rw [px_u_at, hft]; rfl) ?_ ?_ (fun H1 locs1 hW hS => kk p l e s m args below meth c base cst D cid Z H1 locs1 lr X hW hS hl)
  · rcases hty with ⟨c, h⟩ | ⟨t, h⟩ <;> rw [h] <;> rfl
  · rcases hty with ⟨c, h⟩ | ⟨t, h⟩ <;> rw [h] <;> rfl
theorem px_oI (hd : decode M.2.1 pc = .ok (.invokespecial idx, 3)) (h1 : Cond.methodLink M.1.cls idx Lib.objectInit ∈ px_T) (h2 : Cond.instanceMethod Lib.objectInit ∈ px_T) (h3 : Cond.code Lib.objectInit ⟨#[0xb1]⟩ 1 none ∈ px_T) (hfr : Nat.ble 1 (px_room M).frames = true) (hlo : Nat.ble ((rest.map fun v => v.category).sum + 12) (px_room M).locals = true)
    (kk : px M cu su (pc + 3) ls rest n I L R Q) : px M cu su pc ls (.ref o :: rest) n I L R Q := by
  intro p l e s m args below meth c base cst D cid Z H locs lr X hW hS hl
  have hsz : lr.size = c.maxLocals := by rw [X.2.2.1]; exact hl.1
  refine W.objInit X.1 X.2.1 X.2.2.2.1 (X.2.2.2.2.1 _ h1) (X.2.2.2.2.1 _ h2) (X.2.2.2.2.1 _ h3) (g := F0 m pc lr (.ref (px_ad base cst o) :: rest.map (px_v (px_ad base cst)))) rfl hsz rfl hd (Nat.le_of_ble_eq_true hfr) ?_ (kk p l e s m args below meth c base cst D cid Z H locs lr X hW hS hl)
  have := Nat.le_of_ble_eq_true hlo
  rw [px_cat]
  show 2 * 0 + _ + 12 ≤ _
  omega
theorem px_w_id {α : Type} {f : Nat → Nat → α} {a : Nat} {g : Nat → α} (h : f a = g) : px_w f a g = f := by
  funext b
  by_cases e : b = a
  · subst e; rw [px_w_at, h]
  · rw [px_w_ne e]
theorem px_nA2 {at_ : ArrayType} {t0 N : Nat} {x : Int32} (hd : decode M.2.1 pc = .ok (.newarray at_, 2)) (hat : (at_ = .int ∧ t0 = 0 ∧ (px_sh n).1 = 20) ∨ (at_ = .long ∧ t0 = 1 ∧ (px_sh n).1 = 21) ∨ (at_ = .byte ∧ t0 = 2 ∧ (px_sh n).1 = 22) ∨ (at_ = .boolean ∧ t0 = 3 ∧ (px_sh n).1 = 23)) (hN : (px_sh n).2.1 = N) (hx : x = Int32.ofNat N) (hcu : Nat.ble (cu + 1) (px_room M).cells = true) (hsu : Nat.ble (su + N) (px_room M).slots = true)
    (hI : I n = fun _ => 0) (hL : L n = fun _ => 0) (hR : R n = fun _ => none)
    (kk : px M (cu + 1) (su + N) (pc + 2) ls (.ref n :: rest) (n + 1) I L R Q) : px M cu su pc ls (.int x :: rest) n I L R Q := by
  refine px_nA hd hat hN hx hcu hsu ?_
  rw [px_w_id hI, px_w_id hL, px_w_id hR]
  exact kk
theorem px_nR2 {N : Nat} {x : Int32} (hd : decode M.2.1 pc = .ok (.anewarray idx, 3)) (hf : (M.1.cls, idx, 10) ∈ px_tn) (hsh : (px_sh n).1 = 24) (hN : (px_sh n).2.1 = N) (hx : x = Int32.ofNat N) (hcu : Nat.ble (cu + 1) (px_room M).cells = true) (hsu : Nat.ble (su + N) (px_room M).slots = true)
    (hI : I n = fun _ => 0) (hL : L n = fun _ => 0) (hR : R n = fun _ => none)
    (kk : px M (cu + 1) (su + N) (pc + 3) ls (.ref n :: rest) (n + 1) I L R Q) : px M cu su pc ls (.int x :: rest) n I L R Q := by
  refine px_nR hd hf hsh hN hx hcu hsu ?_
  rw [px_w_id hI, px_w_id hL, px_w_id hR]
  exact kk
end PXB

/-! what stands at the start -/
def px_I0 : px_I := fun b k => if b = 33 then (if k = 7 then 1 else 0) else if b = 69 then (if k = 2 then 2000000000 else 0) else if b = 76 then (if k = 8 then -1 else if k = 9 then -1 else if k = 14 then -1 else if k = 15 then -1 else 0) else if b = 86 then (if k = 3 then 5 else if k = 4 then 3 else if k = 5 then 10 else if k = 6 then 50 else if k = 7 then 4 else 0) else if b = 98 then (if k = 0 then 1 else if k = 1 then 1 else if k = 2 then 1 else 0) else if b = 101 then (if k = 3 then -1 else 0) else if b = 102 then (if k < 10 then 10 * Int32.ofNat k else 0) else if b = 103 then (if k = 1 then 1 else if k = 33 then -1 else if k = 34 then -1 else if k = 47 then 5 else if k = 48 then 3 else if k = 49 then 10 else if k = 50 then 50 else if k = 51 then 4 else 0) else if b = 116 then (if k < 40 then -1 else 0) else if b = 137 then (if k = 0 then 1 else if k = 1 then 1 else if k = 2 then 1 else 0) else if b = 138 then (if k < 10 then 10 * Int32.ofNat k else 0) else 0

def px_lk : List (Nat × Nat) → Nat → Option Nat
  | [], _ => none
  | e :: l, k => if k = e.1 then some e.2 else px_lk l k
theorem uLk {f : px_R} {o k v : Nat} {l : List (Nat × Nat)} (h : f o = px_lk l) : (px_u f o k (some v)) o = px_lk ((k, v) :: l) := by
  funext j
  rw [px_ur, if_pos rfl, h]; rfl
theorem px_u_id {α : Type} {f : Nat → Nat → α} {a k : Nat} {v : α} (h : f a k = v) : px_u f a k v = f := by
  funext b j
  rw [px_ur]
  by_cases e : b = a
  · by_cases e2 : j = k
    · rw [if_pos e, if_pos e2, e, e2, h]
    · rw [if_pos e, if_neg e2]
  · rw [if_neg e]
theorem wLk {f : px_R} {o : Nat} : (px_w f o (fun _ => none)) o = px_lk [] := by rw [px_w_at]; rfl
theorem wLk2 {f : px_R} {o a : Nat} {g : Nat → Option Nat} {l : List (Nat × Nat)} (h : f o = px_lk l) (hne : o ≠ a) : (px_w f a g) o = px_lk l := by rw [px_w_ne hne]; exact h
def px_l103 : List (Nat × Nat) := [(76, 146), (75, 145), (73, 144), (69, 143), (67, 142), (66, 141), (65, 140), (64, 139), (62, 138), (58, 137), (57, 136), (56, 135), (55, 134), (54, 133), (52, 132), (46, 131), (45, 130), (44, 129), (43, 128), (42, 127), (41, 126), (40, 125), (38, 124), (37, 123), (36, 122), (24, 121), (20, 120), (19, 119), (18, 118), (17, 117), (15, 116), (14, 115), (13, 114), (12, 113), (11, 112), (10, 111), (9, 110), (8, 109), (7, 108), (6, 107), (5, 106), (4, 105), (3, 104)]

def px_R0 : px_R := fun b k => if b ≤ 32 then (if k = 9 then some 101 else if k = 8 then some 97 else if k = 7 then some 92 else if k = 6 then some 85 else if k = 5 then some 76 else if k = 4 then some 70 else if k = 3 then some 69 else if k = 2 then some 55 else if k = 1 then some 41 else if k = 0 then some 33 else none) else if b = 33 then (if k = 6 then some 40 else if k = 5 then some 39 else if k = 4 then some 38 else if k = 3 then some 37 else if k = 2 then some 36 else if k = 1 then some 35 else if k = 0 then some 34 else none) else if b = 41 then (if k = 12 then some 54 else if k = 11 then some 53 else if k = 10 then some 52 else if k = 9 then some 51 else if k = 8 then some 50 else if k = 7 then some 49 else if k = 6 then some 48 else if k = 5 then some 47 else if k = 4 then some 46 else if k = 3 then some 45 else if k = 2 then some 44 else if k = 1 then some 43 else if k = 0 then some 42 else none) else if b = 55 then (if k = 12 then some 68 else if k = 11 then some 67 else if k = 10 then some 66 else if k = 9 then some 65 else if k = 8 then some 64 else if k = 7 then some 63 else if k = 6 then some 62 else if k = 5 then some 61 else if k = 4 then some 60 else if k = 3 then some 59 else if k = 2 then some 58 else if k = 1 then some 57 else if k = 0 then some 56 else none) else if b = 70 then (if k = 4 then some 75 else if k = 3 then some 74 else if k = 2 then some 73 else if k = 1 then some 72 else if k = 0 then some 71 else none) else if b = 76 then (if k = 6 then some 84 else if k = 5 then some 83 else if k = 4 then some 82 else if k = 3 then some 81 else if k = 2 then some 80 else if k = 1 then some 77 else if k = 0 then some 70 else none) else if b = 77 then (if k = 1 then some 79 else if k = 0 then some 78 else none) else if b = 85 then (if k = 3 then some 91 else if k = 2 then some 90 else if k = 1 then some 89 else if k = 0 then some 86 else none) else if b = 86 then (if k = 1 then some 88 else if k = 0 then some 87 else none) else if b = 92 then (if k = 5 then some 96 else if k = 4 then some 95 else if k = 3 then some 94 else if k = 2 then some 93 else if k = 1 then some 85 else if k = 0 then some 33 else none) else if b = 97 then (if k = 2 then some 100 else if k = 1 then some 99 else if k = 0 then some 98 else none) else if b = 101 then (if k = 1 then some 102 else if k = 0 then some 33 else none) else if b = 103 then (px_lk px_l103 k) else none

def px_L0 : px_L := fun _ _ => 0
/-- from here on all is as at the start -/
def bOk (o : Nat) (I : px_I) (L : px_L) (R : px_R) : Prop := ∀ b, o ≤ b → I b = px_I0 b ∧ L b = px_L0 b ∧ R b = px_R0 b
theorem bOk.le {o o2 : Nat} {I : px_I} {L : px_L} {R : px_R} (h : bOk o I L R) (h2 : o ≤ o2) : bOk o2 I L R := fun b hb => h b (Nat.le_trans h2 hb)
theorem bOk.uI {o a k : Nat} {v : Int32} {I : px_I} {L : px_L} {R : px_R} (h : bOk o I L R) (h2 : a < o) : bOk o (px_u I a k v) L R := fun b hb => ⟨by rw [px_u_ne (by omega)]; exact (h b hb).1, (h b hb).2⟩
theorem bOk.uR {o a k : Nat} {v : Option Nat} {I : px_I} {L : px_L} {R : px_R} (h : bOk o I L R) (h2 : a < o) : bOk o I L (px_u R a k v) := fun b hb => ⟨(h b hb).1, (h b hb).2.1, by rw [px_u_ne (by omega)]; exact (h b hb).2.2⟩
theorem bOk.wI {o a : Nat} {g : Nat → Int32} {I : px_I} {L : px_L} {R : px_R} (h : bOk o I L R) (h2 : a < o) : bOk o (px_w I a g) L R := fun b hb => ⟨by rw [px_w_ne (by omega)]; exact (h b hb).1, (h b hb).2⟩
theorem bOk.wL {o a : Nat} {g : Nat → Int64} {I : px_I} {L : px_L} {R : px_R} (h : bOk o I L R) (h2 : a < o) : bOk o I (px_w L a g) R := fun b hb => ⟨(h b hb).1, by rw [px_w_ne (by omega)]; exact (h b hb).2.1, (h b hb).2.2⟩
theorem bOk.wR {o a : Nat} {g : Nat → Option Nat} {I : px_I} {L : px_L} {R : px_R} (h : bOk o I L R) (h2 : a < o) : bOk o I L (px_w R a g) := fun b hb => ⟨(h b hb).1, (h b hb).2.1, by rw [px_w_ne (by omega)]; exact (h b hb).2.2⟩
theorem px_wr {α : Type} {f : Nat → Nat → α} {a b k : Nat} {g : Nat → α} : px_w f a g b k = if b = a then g k else f b k := by unfold px_w; split <;> rfl
theorem bz (b : Nat) (h : px_I0 b = fun _ => 0) {o : Nat} {I : px_I} {L : px_L} {R : px_R} (hb : bOk o I L R) (h1 : o ≤ b) : I b = fun _ => 0 := (hb b h1).1.trans h

theorem bOk.uL {o a k : Nat} {v : Int64} {I : px_I} {L : px_L} {R : px_R} (h : bOk o I L R) (h2 : a < o) : bOk o I (px_u L a k v) R := fun b hb => ⟨(h b hb).1, by rw [px_u_ne (by omega)]; exact (h b hb).2.1, (h b hb).2.2⟩

section PXB3
variable {on n cu su pc pb idx k : Nat} {R : px_R} {M M1 : px_M} {Q : px_Q} {ls : px_Ls} {I : px_I} {L : px_L} {rest : List Value}
theorem px_nA3 {at_ : ArrayType} {t0 N : Nat} {x : Int32} (hd : decode M.2.1 pc = .ok (.newarray at_, 2)) (hat : (at_ = .int ∧ t0 = 0 ∧ (px_sh n).1 = 20) ∨ (at_ = .long ∧ t0 = 1 ∧ (px_sh n).1 = 21) ∨ (at_ = .byte ∧ t0 = 2 ∧ (px_sh n).1 = 22) ∨ (at_ = .boolean ∧ t0 = 3 ∧ (px_sh n).1 = 23)) (hN : (px_sh n).2.1 = N) (hx : x = Int32.ofNat N) (hcu : Nat.ble (cu + 1) (px_room M).cells = true) (hsu : Nat.ble (su + N) (px_room M).slots = true)
    (hB : bOk n I L R) (hI : px_I0 n = fun _ => 0) (hR : px_R0 n = fun _ => none)
    (kk : px M (cu + 1) (su + N) (pc + 2) ls (.ref n :: rest) (n + 1) I L R Q) : px M cu su pc ls (.int x :: rest) n I L R Q :=
  px_nA2 hd hat hN hx hcu hsu ((hB n (Nat.le_refl n)).1.trans hI) (hB n (Nat.le_refl n)).2.1 ((hB n (Nat.le_refl n)).2.2.trans hR) kk
theorem px_nR3 {N : Nat} {x : Int32} (hd : decode M.2.1 pc = .ok (.anewarray idx, 3)) (hf : (M.1.cls, idx, 10) ∈ px_tn) (hsh : (px_sh n).1 = 24) (hN : (px_sh n).2.1 = N) (hx : x = Int32.ofNat N) (hcu : Nat.ble (cu + 1) (px_room M).cells = true) (hsu : Nat.ble (su + N) (px_room M).slots = true)
    (hB : bOk n I L R) (hI : px_I0 n = fun _ => 0) (hR : px_R0 n = fun _ => none)
    (kk : px M (cu + 1) (su + N) (pc + 3) ls (.ref n :: rest) (n + 1) I L R Q) : px M cu su pc ls (.int x :: rest) n I L R Q :=
  px_nR2 hd hf hsh hN hx hcu hsu ((hB n (Nat.le_refl n)).1.trans hI) (hB n (Nat.le_refl n)).2.1 ((hB n (Nat.le_refl n)).2.2.trans hR) kk
end PXB3
