section PXC
variable {on n cu su pc pb idx k tgt : Nat} {R : px_R} {M M1 : px_M} {Q : px_Q} {xs : List px_o} {ls ls' : px_Ls} {st : List Value} {I I' : px_I} {L L' : px_L} {P' : Prop} {rest : List Value}
theorem px_igeC {x y : Int32} (hon : M.1.cls = px_Rn on) (q : (px_bk on M.2.2.1 M.2.1 pc xs = some pb ∧ xs.all (fun x => !px_us x) = true) ∧ px_t2 M.2.1 pb .ge tgt = true) (he : px_ex n n R xs ls st I L True = some (P', ls', .int y :: .int x :: rest, I', L')) (hP : P')
    (kt : y ≤ x → px M cu su tgt ls' rest n I' L' R Q) (kf : ¬ y ≤ x → px M cu su (pb + 3) ls' rest n I' L' R Q) : px M cu su pc ls st n I L R Q := by
  refine px_bc hon q.1 he hP ?_
  intro p l e s m args below meth c base cst D cid Z H locs lr X hW hS hl
  obtain ⟨off, h1, h2⟩ := px_t2_ok q.2
  exact lv_icmp_ge X.1 X.2.1 h1 h2 (fun h => kt h p l e s m args below meth c base cst D cid Z H locs lr X hW hS hl) (fun h => kf h p l e s m args below meth c base cst D cid Z H locs lr X hW hS hl)
theorem px_eqR {R2 : px_R} (e : R = R2) (h : px M cu su pc ls st n I L R2 Q) : px M cu su pc ls st n I L R Q := by rw [e]; exact h
theorem px_eqI {I2 : px_I} (e : I = I2) (h : px M cu su pc ls st n I2 L R Q) : px M cu su pc ls st n I L R Q := by rw [e]; exact h
theorem px_eqL {L2 : px_L} (e : L = L2) (h : px M cu su pc ls st n I L2 R Q) : px M cu su pc ls st n I L R Q := by rw [e]; exact h
end PXC
theorem px_tnS {i : Int32} (h0 : 0 ≤ i) (h1 : ¬ 1000 ≤ i) : (i + 1).toNatClampNeg = i.toNatClampNeg + 1 ∧ Int32.ofNat i.toNatClampNeg = i := by
  have a := Int32.le_iff_toInt_le.mp h0
  have b := Int32.lt_iff_toInt_lt.mp (Int32.not_le.mp h1)
  rw [show (0 : Int32).toInt = 0 by decide] at a
  rw [show (1000 : Int32).toInt = 1000 by decide] at b
  constructor
  · unfold Int32.toNatClampNeg
    rw [Int32.toInt_add, show (1 : Int32).toInt = 1 by decide, Int.bmod_eq_of_le (by omega) (by omega)]
    omega
  · rw [← Int32.toInt_inj]
    unfold Int32.toNatClampNeg
    rw [Int32.toInt_ofNat_of_lt (by omega)]
    omega
/-- a row that is being filled -/
def rowF (o : Nat) (f : Nat → Int32) (J : px_I) (m : Nat) (I : px_I) : Prop := (∀ b, b ≠ o → I b = J b) ∧ ∀ k, I o k = if k < m then f k else J o k
theorem rowF.up {o m : Nat} {f : Nat → Int32} {J I : px_I} {v : Int32} (h : rowF o f J m I) (hv : v = f m) : rowF o f J (m + 1) (px_u I o m v) := by
  refine ⟨fun b hb => ?_, fun k => ?_⟩
  · rw [px_u_ne hb]; exact h.1 b hb
  · rw [px_ur, h.2 k]; grind
theorem rowF.z {o : Nat} {f : Nat → Int32} {J : px_I} : rowF o f J 0 J := ⟨fun _ _ => rfl, fun k => by rw [if_neg (Nat.not_lt_zero k)]⟩
theorem q_X0_init_29 : (px_bk 0 3 cX0_init 29 [(.iload_n 2, (0, 0, 0, 0, 0), 0, 0), (.bipush 10, (0, 0, 0, 0, 0), 10, 0)] = some 32 ∧ List.all [(.iload_n 2, (0, 0, 0, 0, 0), 0, 0), (.bipush 10, (0, 0, 0, 0, 0), 10, 0)] (fun x => !px_us x) = true) ∧ px_t2 cX0_init 32 .ge 51 = true := by decide +kernel
theorem q_X0_init_35 : (px_bk 0 3 cX0_init 35 [(.aload_n 0, (0, 0, 0, 0, 0), 0, 0), (.getfield 11, (0, 1, 4, 0, 0), 0, 0), (.iload_n 2, (0, 0, 0, 0, 0), 0, 0), (.bipush 10, (0, 0, 0, 0, 0), 10, 0), (.iload_n 2, (0, 0, 0, 0, 0), 0, 0), (.imul, (0, 0, 0, 0, 0), 0, 0), (.iastore, (0, 0, 0, 0, 0), 0, 0), (.iinc 2 1, (0, 0, 0, 0, 0), 1, 0), (.goto (-19), (0, 0, 0, 0, 0), 0, 0)] = some 29 ∧ List.all [(.aload_n 0, (0, 0, 0, 0, 0), 0, 0), (.getfield 11, (0, 1, 4, 0, 0), 0, 0), (.iload_n 2, (0, 0, 0, 0, 0), 0, 0), (.bipush 10, (0, 0, 0, 0, 0), 10, 0), (.iload_n 2, (0, 0, 0, 0, 0), 0, 0), (.imul, (0, 0, 0, 0, 0), 0, 0), (.iastore, (0, 0, 0, 0, 0), 0, 0), (.iinc 2 1, (0, 0, 0, 0, 0), 1, 0), (.goto (-19), (0, 0, 0, 0, 0), 0, 0)] (fun x => !px_us x) = true) := by decide +kernel
theorem q_X0_init_51 : (px_bk 0 3 cX0_init 51 [] = some 51 ∧ List.all [] (fun x => !px_us x) = true) ∧ px_tr cX0_init 51 .return_ = true := by decide +kernel
theorem q_X12_init_408 : (px_bk 12 2 cX12_init 408 [(.iload_n 1, (0, 0, 0, 0, 0), 0, 0), (.bipush 40, (0, 0, 0, 0, 0), 40, 0)] = some 411 ∧ List.all [(.iload_n 1, (0, 0, 0, 0, 0), 0, 0), (.bipush 40, (0, 0, 0, 0, 0), 40, 0)] (fun x => !px_us x) = true) ∧ px_t2 cX12_init 411 .ge 427 = true := by decide +kernel
theorem q_X12_init_414 : (px_bk 12 2 cX12_init 414 [(.aload_n 0, (0, 0, 0, 0, 0), 0, 0), (.getfield 50, (12, 15, 4, 0, 0), 0, 0), (.iload_n 1, (0, 0, 0, 0, 0), 0, 0), (.iconst (-1), (0, 0, 0, 0, 0), -1, 0), (.iastore, (0, 0, 0, 0, 0), 0, 0), (.iinc 1 1, (0, 0, 0, 0, 0), 1, 0), (.goto (-16), (0, 0, 0, 0, 0), 0, 0)] = some 408 ∧ List.all [(.aload_n 0, (0, 0, 0, 0, 0), 0, 0), (.getfield 50, (12, 15, 4, 0, 0), 0, 0), (.iload_n 1, (0, 0, 0, 0, 0), 0, 0), (.iconst (-1), (0, 0, 0, 0, 0), -1, 0), (.iastore, (0, 0, 0, 0, 0), 0, 0), (.iinc 1 1, (0, 0, 0, 0, 0), 1, 0), (.goto (-16), (0, 0, 0, 0, 0), 0, 0)] (fun x => !px_us x) = true) := by decide +kernel
theorem q_X12_init_427 : (px_bk 12 2 cX12_init 427 [(.iconst 0, (0, 0, 0, 0, 0), 0, 0), (.istore_n 1, (0, 0, 0, 0, 0), 0, 0)] = some 429 ∧ List.all [(.iconst 0, (0, 0, 0, 0, 0), 0, 0), (.istore_n 1, (0, 0, 0, 0, 0), 0, 0)] (fun x => !px_us x) = true) := by decide +kernel
theorem q_X12_init_429 : (px_bk 12 2 cX12_init 429 [(.iload_n 1, (0, 0, 0, 0, 0), 0, 0), (.bipush 10, (0, 0, 0, 0, 0), 10, 0)] = some 432 ∧ List.all [(.iload_n 1, (0, 0, 0, 0, 0), 0, 0), (.bipush 10, (0, 0, 0, 0, 0), 10, 0)] (fun x => !px_us x) = true) ∧ px_t2 cX12_init 432 .ge 451 = true := by decide +kernel
theorem q_X12_init_435 : (px_bk 12 2 cX12_init 435 [(.aload_n 0, (0, 0, 0, 0, 0), 0, 0), (.getfield 140, (12, 62, 4, 0, 0), 0, 0), (.iload_n 1, (0, 0, 0, 0, 0), 0, 0), (.bipush 10, (0, 0, 0, 0, 0), 10, 0), (.iload_n 1, (0, 0, 0, 0, 0), 0, 0), (.imul, (0, 0, 0, 0, 0), 0, 0), (.iastore, (0, 0, 0, 0, 0), 0, 0), (.iinc 1 1, (0, 0, 0, 0, 0), 1, 0), (.goto (-19), (0, 0, 0, 0, 0), 0, 0)] = some 429 ∧ List.all [(.aload_n 0, (0, 0, 0, 0, 0), 0, 0), (.getfield 140, (12, 62, 4, 0, 0), 0, 0), (.iload_n 1, (0, 0, 0, 0, 0), 0, 0), (.bipush 10, (0, 0, 0, 0, 0), 10, 0), (.iload_n 1, (0, 0, 0, 0, 0), 0, 0), (.imul, (0, 0, 0, 0, 0), 0, 0), (.iastore, (0, 0, 0, 0, 0), 0, 0), (.iinc 1 1, (0, 0, 0, 0, 0), 1, 0), (.goto (-19), (0, 0, 0, 0, 0), 0, 0)] (fun x => !px_us x) = true) := by decide +kernel
theorem q_X12_init_451 : (px_bk 12 2 cX12_init 451 [] = some 451 ∧ List.all [] (fun x => !px_us x) = true) ∧ px_tr cX12_init 451 .return_ = true := by decide +kernel

set_option maxRecDepth 100000 in
theorem l_X0i {J : px_I} {L : px_L} {R : px_R} {Q : px_Q} (hq : ∀ I2, rowF 102 (fun k => 10 * Int32.ofNat k) J 10 I2 → Q none 103 I2 L (px_u (px_u R 101 1 (some 102)) 101 0 (some 33))) : ∀ i : Int32, i ≤ 10 → 0 ≤ i → ∀ I, rowF 102 (fun k => 10 * Int32.ofNat k) J i.toNatClampNeg I → px M_X0_init 1 10 29 [(0, .ref 101), (2, .int i)] [] 103 I L (px_u (px_u R 101 1 (some 102)) 101 0 (some 33)) Q := by
  refine px_up 10 (fun i ih hi => ?_)
  intro h0 I h
  refine px_igeC rfl q_X0_init_29 rfl trivial (fun c => ?_) (fun c => ?_)
  · refine px_rvc rfl q_X0_init_51 rfl rfl rfl rfl trivial (hq I ?_)
    have e : i = 10 := by grind
    subst e; exact h
  · refine px_bc rfl q_X0_init_35 rfl ⟨trivial, ⟨h0, by grind⟩⟩ ?_
    have e := px_tnS h0 (by grind)
    refine px_go (ih (i + 1) (by grind) (by grind) (by grind) _ ?_) ⟨rfl, rfl, trivial⟩
    rw [e.1]
    exact h.up (by show _ = 10 * Int32.ofNat _; rw [e.2])
set_option maxRecDepth 100000 in
theorem l_X12b {J : px_I} {L : px_L} {R : px_R} {Q : px_Q} {cu su : Nat} (hcu : Nat.ble cu (px_room M_X12_init).cells = true) (hsu : Nat.ble su (px_room M_X12_init).slots = true) (hq : ∀ I2, rowF 138 (fun k => 10 * Int32.ofNat k) J 10 I2 → Q none 147 I2 L (px_u (px_u R 103 15 (some 116)) 103 62 (some 138))) : ∀ i : Int32, i ≤ 10 → 0 ≤ i → ∀ I, rowF 138 (fun k => 10 * Int32.ofNat k) J i.toNatClampNeg I → px M_X12_init cu su 429 [(0, .ref 103), (1, .int i)] [] 147 I L (px_u (px_u R 103 15 (some 116)) 103 62 (some 138)) Q := by
  refine px_up 10 (fun i ih hi => ?_)
  intro h0 I h
  refine px_igeC rfl q_X12_init_429 rfl trivial (fun c => ?_) (fun c => ?_)
  · refine px_rvc rfl q_X12_init_451 rfl hcu hsu rfl trivial (hq I ?_)
    have e : i = 10 := by grind
    subst e; exact h
  · refine px_bc rfl q_X12_init_435 rfl ⟨trivial, ⟨h0, by grind⟩⟩ ?_
    have e := px_tnS h0 (by grind)
    refine px_go (ih (i + 1) (by grind) (by grind) (by grind) _ ?_) ⟨rfl, rfl, trivial⟩
    rw [e.1]
    exact h.up (by show _ = 10 * Int32.ofNat _; rw [e.2])
set_option maxRecDepth 100000 in
theorem l_X12a {J : px_I} {L : px_L} {R : px_R} {Q : px_Q} {cu su : Nat} (hcu : Nat.ble cu (px_room M_X12_init).cells = true) (hsu : Nat.ble su (px_room M_X12_init).slots = true) (hq : ∀ I1 I2, rowF 116 (fun _ => -1) J 40 I1 → rowF 138 (fun k => 10 * Int32.ofNat k) I1 10 I2 → Q none 147 I2 L (px_u (px_u R 103 15 (some 116)) 103 62 (some 138))) : ∀ i : Int32, i ≤ 40 → 0 ≤ i → ∀ I, rowF 116 (fun _ => -1) J i.toNatClampNeg I → px M_X12_init cu su 408 [(0, .ref 103), (1, .int i)] [] 147 I L (px_u (px_u R 103 15 (some 116)) 103 62 (some 138)) Q := by
  refine px_up 40 (fun i ih hi => ?_)
  intro h0 I h
  refine px_igeC rfl q_X12_init_408 rfl trivial (fun c => ?_) (fun c => ?_)
  · have e : i = 40 := by grind
    subst e
    refine px_bc rfl q_X12_init_427 rfl trivial ?_
    exact px_go (l_X12b hcu hsu (fun I2 h2 => hq I I2 h h2) 0 (by decide) (by decide) I rowF.z) ⟨rfl, rfl, trivial⟩
  · refine px_bc rfl q_X12_init_414 rfl ⟨trivial, ⟨h0, by grind⟩⟩ ?_
    have e := px_tnS h0 (by grind)
    refine px_go (ih (i + 1) (by grind) (by grind) (by grind) _ ?_) ⟨rfl, rfl, trivial⟩
    rw [e.1]
    exact h.up rfl

theorem q_X0_init_0 : (px_bk 0 3 cX0_init 0 [(.aload_n 0, (0, 0, 0, 0, 0), 0, 0)] = some 1 ∧ List.all [(.aload_n 0, (0, 0, 0, 0, 0), 0, 0)] (fun x => !px_us x) = true) := by decide +kernel
theorem q_X0_init_4 : (px_bk 0 3 cX0_init 4 [(.aload_n 0, (0, 0, 0, 0, 0), 0, 0), (.bipush 10, (0, 0, 0, 0, 0), 10, 0)] = some 7 ∧ List.all [(.aload_n 0, (0, 0, 0, 0, 0), 0, 0), (.bipush 10, (0, 0, 0, 0, 0), 10, 0)] (fun x => !px_us x) = true) := by decide +kernel
theorem q_X0_init_12 : (px_bk 0 3 cX0_init 12 [(.aload_n 0, (0, 0, 0, 0, 0), 0, 0), (.iconst 0, (0, 0, 0, 0, 0), 0, 0), (.putfield 15, (0, 2, 0, 0, 0), 0, 0), (.aload_n 0, (0, 0, 0, 0, 0), 0, 0), (.iconst (-1), (0, 0, 0, 0, 0), -1, 0), (.putfield 19, (0, 3, 0, 0, 0), 0, 0), (.aload_n 0, (0, 0, 0, 0, 0), 0, 0), (.aload_n 1, (0, 0, 0, 0, 0), 0, 0)] = some 24 ∧ List.all [(.aload_n 0, (0, 0, 0, 0, 0), 0, 0), (.iconst 0, (0, 0, 0, 0, 0), 0, 0), (.putfield 15, (0, 2, 0, 0, 0), 0, 0), (.aload_n 0, (0, 0, 0, 0, 0), 0, 0), (.iconst (-1), (0, 0, 0, 0, 0), -1, 0), (.putfield 19, (0, 3, 0, 0, 0), 0, 0), (.aload_n 0, (0, 0, 0, 0, 0), 0, 0), (.aload_n 1, (0, 0, 0, 0, 0), 0, 0)] (fun x => !px_us x) = true) := by decide +kernel
theorem q_X0_init_27 : (px_bk 0 3 cX0_init 27 [(.iconst 0, (0, 0, 0, 0, 0), 0, 0), (.istore_n 2, (0, 0, 0, 0, 0), 0, 0)] = some 29 ∧ List.all [(.iconst 0, (0, 0, 0, 0, 0), 0, 0), (.istore_n 2, (0, 0, 0, 0, 0), 0, 0)] (fun x => !px_us x) = true) := by decide +kernel
set_option maxRecDepth 100000 in
theorem mk_X0 {I : px_I} {L : px_L} {R : px_R} (hb : bOk 101 I L R) : px_K M_X0_init [.ref 101, .ref 33] 102 (px_w I 101 (fun _ => 0)) (px_w L 101 (fun _ => 0)) (px_w R 101 (fun _ => none)) (fun r n2 I2 L2 R2 => r = none ∧ n2 = 103 ∧ I2 = I ∧ L2 = L ∧ R2 = R) := by
  have hb1 : bOk 102 I L R := hb.le (by decide)
  have hb103 : bOk 103 I L R := hb.le (by decide)
  refine px_of (plainFor_of_name np_RX0) (fun _ _ _ => trivial) rfl ?_
  refine px_bc rfl q_X0_init_0 rfl trivial ?_
  refine px_oI (by decide +kernel) (px_i2 176 rfl rfl) (px_i1 25 rfl rfl) (px_i1 26 rfl rfl) rfl rfl ?_
  refine px_bc rfl q_X0_init_4 rfl trivial ?_
  refine px_nA (t0 := 0) (N := 10) (by decide +kernel) (Or.inl ⟨rfl, rfl, rfl⟩) rfl rfl rfl rfl ?_
  refine px_pF (on := 0) (ci := 0) (kf := 1) (idx := 11) rfl (by decide +kernel) (by decide) ⟨by decide, by decide, rfl⟩ rfl (Or.inr ⟨_, rfl⟩) (by first | exact Or.inl rfl | exact Or.inr ⟨rfl, rfl, rfl⟩) ?_
  refine px_bc rfl q_X0_init_12 rfl trivial ?_
  refine px_pF (on := 0) (ci := 0) (kf := 0) (idx := 22) rfl (by decide +kernel) (by decide) ⟨by decide, by decide, rfl⟩ rfl (Or.inl ⟨_, rfl⟩) (by first | exact Or.inl rfl | exact Or.inr ⟨rfl, rfl, rfl⟩) ?_
  refine px_bc rfl q_X0_init_27 rfl trivial ?_
  refine px_go (l_X0i (R := px_w (px_w R 101 (fun _ => none)) 102 (fun _ => none)) (fun I2 h => ⟨rfl, rfl, ?_, ?_, ?_⟩) 0 (by decide) (by decide) _ rowF.z) ⟨rfl, rfl, trivial⟩
  · funext b k
    by_cases h1 : b = 101
    · subst h1; rw [h.1 101 (by decide), (hb 101 (by decide)).1]; simp only [px_ur, px_wr, px_I0]; grind
    by_cases h2 : b = 102
    · subst h2; rw [h.2 k, (hb 102 (by decide)).1]; simp only [px_ur, px_wr, px_I0]; grind
    rw [h.1 b h2]; simp only [px_ur, px_wr]; grind
  · funext b k
    by_cases h1 : b = 101
    · subst h1; rw [(hb 101 (by decide)).2.1]; simp only [px_ur, px_wr, px_L0]; grind
    by_cases h2 : b = 102
    · subst h2; rw [(hb 102 (by decide)).2.1]; simp only [px_ur, px_wr, px_L0]; grind
    simp only [px_ur, px_wr]; grind
  · funext b k
    by_cases h1 : b = 101
    · subst h1; rw [(hb 101 (by decide)).2.2]; simp only [px_ur, px_wr, px_R0]; grind
    by_cases h2 : b = 102
    · subst h2; rw [(hb 102 (by decide)).2.2]; simp only [px_ur, px_wr, px_R0]; grind
    simp only [px_ur, px_wr]; grind

theorem q_X11_init_0 : (px_bk 11 1 cX11_init 0 [(.aload_n 0, (0, 0, 0, 0, 0), 0, 0)] = some 1 ∧ List.all [(.aload_n 0, (0, 0, 0, 0, 0), 0, 0)] (fun x => !px_us x) = true) := by decide +kernel
theorem q_X11_init_4 : (px_bk 11 1 cX11_init 4 [(.aload_n 0, (0, 0, 0, 0, 0), 0, 0)] = some 5 ∧ List.all [(.aload_n 0, (0, 0, 0, 0, 0), 0, 0)] (fun x => !px_us x) = true) := by decide +kernel
theorem q_X11_init_8 : (px_bk 11 1 cX11_init 8 [(.dup, (0, 0, 0, 0, 0), 0, 0)] = some 9 ∧ List.all [(.dup, (0, 0, 0, 0, 0), 0, 0)] (fun x => !px_us x) = true) := by decide +kernel
theorem q_X11_init_9K : px_tI cX11_init 9 9 = true := by decide +kernel
theorem q_X11_init_15 : (px_bk 11 1 cX11_init 15 [(.aload_n 0, (0, 0, 0, 0, 0), 0, 0)] = some 16 ∧ List.all [(.aload_n 0, (0, 0, 0, 0, 0), 0, 0)] (fun x => !px_us x) = true) := by decide +kernel
theorem q_X11_init_19 : (px_bk 11 1 cX11_init 19 [(.dup, (0, 0, 0, 0, 0), 0, 0)] = some 20 ∧ List.all [(.dup, (0, 0, 0, 0, 0), 0, 0)] (fun x => !px_us x) = true) := by decide +kernel
theorem q_X11_init_20K : px_tI cX11_init 20 18 = true := by decide +kernel
theorem q_X11_init_26 : (px_bk 11 1 cX11_init 26 [(.aload_n 0, (0, 0, 0, 0, 0), 0, 0)] = some 27 ∧ List.all [(.aload_n 0, (0, 0, 0, 0, 0), 0, 0)] (fun x => !px_us x) = true) := by decide +kernel
theorem q_X11_init_30 : (px_bk 11 1 cX11_init 30 [(.dup, (0, 0, 0, 0, 0), 0, 0)] = some 31 ∧ List.all [(.dup, (0, 0, 0, 0, 0), 0, 0)] (fun x => !px_us x) = true) := by decide +kernel
theorem q_X11_init_31K : px_tI cX11_init 31 18 = true := by decide +kernel
theorem q_X11_init_37 : (px_bk 11 1 cX11_init 37 [(.aload_n 0, (0, 0, 0, 0, 0), 0, 0)] = some 38 ∧ List.all [(.aload_n 0, (0, 0, 0, 0, 0), 0, 0)] (fun x => !px_us x) = true) := by decide +kernel
theorem q_X11_init_41 : (px_bk 11 1 cX11_init 41 [(.dup, (0, 0, 0, 0, 0), 0, 0)] = some 42 ∧ List.all [(.dup, (0, 0, 0, 0, 0), 0, 0)] (fun x => !px_us x) = true) := by decide +kernel
theorem q_X11_init_42K : px_tI cX11_init 42 28 = true := by decide +kernel
theorem q_X11_init_48 : (px_bk 11 1 cX11_init 48 [(.aload_n 0, (0, 0, 0, 0, 0), 0, 0)] = some 49 ∧ List.all [(.aload_n 0, (0, 0, 0, 0, 0), 0, 0)] (fun x => !px_us x) = true) := by decide +kernel
theorem q_X11_init_52 : (px_bk 11 1 cX11_init 52 [(.dup, (0, 0, 0, 0, 0), 0, 0)] = some 53 ∧ List.all [(.dup, (0, 0, 0, 0, 0), 0, 0)] (fun x => !px_us x) = true) := by decide +kernel
theorem q_X11_init_53K : px_tI cX11_init 53 35 = true := by decide +kernel
theorem q_X11_init_59 : (px_bk 11 1 cX11_init 59 [(.aload_n 0, (0, 0, 0, 0, 0), 0, 0)] = some 60 ∧ List.all [(.aload_n 0, (0, 0, 0, 0, 0), 0, 0)] (fun x => !px_us x) = true) := by decide +kernel
theorem q_X11_init_63 : (px_bk 11 1 cX11_init 63 [(.dup, (0, 0, 0, 0, 0), 0, 0), (.aload_n 0, (0, 0, 0, 0, 0), 0, 0), (.getfield 36, (11, 4, 4, 0, 0), 0, 0)] = some 68 ∧ List.all [(.dup, (0, 0, 0, 0, 0), 0, 0), (.aload_n 0, (0, 0, 0, 0, 0), 0, 0), (.getfield 36, (11, 4, 4, 0, 0), 0, 0)] (fun x => !px_us x) = true) := by decide +kernel
theorem q_X11_init_68K : px_tI cX11_init 68 42 = true := by decide +kernel
theorem q_X11_init_74 : (px_bk 11 1 cX11_init 74 [(.aload_n 0, (0, 0, 0, 0, 0), 0, 0)] = some 75 ∧ List.all [(.aload_n 0, (0, 0, 0, 0, 0), 0, 0)] (fun x => !px_us x) = true) := by decide +kernel
theorem q_X11_init_78 : (px_bk 11 1 cX11_init 78 [(.dup, (0, 0, 0, 0, 0), 0, 0)] = some 79 ∧ List.all [(.dup, (0, 0, 0, 0, 0), 0, 0)] (fun x => !px_us x) = true) := by decide +kernel
theorem q_X11_init_79K : px_tI cX11_init 79 51 = true := by decide +kernel
theorem q_X11_init_85 : (px_bk 11 1 cX11_init 85 [(.aload_n 0, (0, 0, 0, 0, 0), 0, 0)] = some 86 ∧ List.all [(.aload_n 0, (0, 0, 0, 0, 0), 0, 0)] (fun x => !px_us x) = true) := by decide +kernel
theorem q_X11_init_89 : (px_bk 11 1 cX11_init 89 [(.dup, (0, 0, 0, 0, 0), 0, 0), (.aload_n 0, (0, 0, 0, 0, 0), 0, 0), (.getfield 10, (11, 0, 4, 0, 0), 0, 0), (.aload_n 0, (0, 0, 0, 0, 0), 0, 0), (.getfield 52, (11, 6, 4, 0, 0), 0, 0)] = some 98 ∧ List.all [(.dup, (0, 0, 0, 0, 0), 0, 0), (.aload_n 0, (0, 0, 0, 0, 0), 0, 0), (.getfield 10, (11, 0, 4, 0, 0), 0, 0), (.aload_n 0, (0, 0, 0, 0, 0), 0, 0), (.getfield 52, (11, 6, 4, 0, 0), 0, 0)] (fun x => !px_us x) = true) := by decide +kernel
theorem q_X11_init_98K : px_tI cX11_init 98 58 = true := by decide +kernel
theorem q_X11_init_104 : (px_bk 11 1 cX11_init 104 [(.aload_n 0, (0, 0, 0, 0, 0), 0, 0)] = some 105 ∧ List.all [(.aload_n 0, (0, 0, 0, 0, 0), 0, 0)] (fun x => !px_us x) = true) := by decide +kernel
theorem q_X11_init_108 : (px_bk 11 1 cX11_init 108 [(.dup, (0, 0, 0, 0, 0), 0, 0)] = some 109 ∧ List.all [(.dup, (0, 0, 0, 0, 0), 0, 0)] (fun x => !px_us x) = true) := by decide +kernel
theorem q_X11_init_109K : px_tI cX11_init 109 67 = true := by decide +kernel
theorem q_X11_init_115 : (px_bk 11 1 cX11_init 115 [(.aload_n 0, (0, 0, 0, 0, 0), 0, 0)] = some 116 ∧ List.all [(.aload_n 0, (0, 0, 0, 0, 0), 0, 0)] (fun x => !px_us x) = true) := by decide +kernel
theorem q_X11_init_119 : (px_bk 11 1 cX11_init 119 [(.dup, (0, 0, 0, 0, 0), 0, 0), (.aload_n 0, (0, 0, 0, 0, 0), 0, 0), (.getfield 10, (11, 0, 4, 0, 0), 0, 0)] = some 124 ∧ List.all [(.dup, (0, 0, 0, 0, 0), 0, 0), (.aload_n 0, (0, 0, 0, 0, 0), 0, 0), (.getfield 10, (11, 0, 4, 0, 0), 0, 0)] (fun x => !px_us x) = true) := by decide +kernel
theorem q_X11_init_124K : px_tI cX11_init 124 74 = true := by decide +kernel
theorem q_X11_init_130 : (px_bk 11 1 cX11_init 130 [(.aload_n 0, (0, 0, 0, 0, 0), 0, 0), (.iconst 0, (0, 0, 0, 0, 0), 0, 0), (.putfield 81, (11, 10, 0, 0, 0), 0, 0)] = some 135 ∧ List.all [(.aload_n 0, (0, 0, 0, 0, 0), 0, 0), (.iconst 0, (0, 0, 0, 0, 0), 0, 0), (.putfield 81, (11, 10, 0, 0, 0), 0, 0)] (fun x => !px_us x) = true) ∧ px_tr cX11_init 135 .return_ = true := by decide +kernel
set_option maxRecDepth 100000 in
theorem mk_X11 {I : px_I} {L : px_L} {R : px_R} (hb : bOk 32 I L R) : px_K M_X11_init [.ref 32] 33 (px_w I 32 (fun _ => 0)) (px_w L 32 (fun _ => 0)) (px_w R 32 (fun _ => none)) (fun r n2 I2 L2 R2 => r = none ∧ n2 = 103 ∧ I2 = I ∧ L2 = L ∧ R2 = R) := by
  have hb1 : bOk 33 I L R := hb.le (by decide)
  have hb34 : bOk 34 I L R := hb.le (by decide)
  have hb35 : bOk 35 I L R := hb.le (by decide)
  have hb36 : bOk 36 I L R := hb.le (by decide)
  have hb37 : bOk 37 I L R := hb.le (by decide)
  have hb38 : bOk 38 I L R := hb.le (by decide)
  have hb39 : bOk 39 I L R := hb.le (by decide)
  have hb40 : bOk 40 I L R := hb.le (by decide)
  have hb41 : bOk 41 I L R := hb.le (by decide)
  have hb42 : bOk 42 I L R := hb.le (by decide)
  have hb43 : bOk 43 I L R := hb.le (by decide)
  have hb44 : bOk 44 I L R := hb.le (by decide)
  have hb45 : bOk 45 I L R := hb.le (by decide)
  have hb46 : bOk 46 I L R := hb.le (by decide)
  have hb47 : bOk 47 I L R := hb.le (by decide)
  have hb48 : bOk 48 I L R := hb.le (by decide)
  have hb49 : bOk 49 I L R := hb.le (by decide)
  have hb50 : bOk 50 I L R := hb.le (by decide)
  have hb51 : bOk 51 I L R := hb.le (by decide)
  have hb52 : bOk 52 I L R := hb.le (by decide)
  have hb53 : bOk 53 I L R := hb.le (by decide)
  have hb54 : bOk 54 I L R := hb.le (by decide)
  have hb55 : bOk 55 I L R := hb.le (by decide)
  have hb56 : bOk 56 I L R := hb.le (by decide)
  have hb57 : bOk 57 I L R := hb.le (by decide)
  have hb58 : bOk 58 I L R := hb.le (by decide)
  have hb59 : bOk 59 I L R := hb.le (by decide)
  have hb60 : bOk 60 I L R := hb.le (by decide)
  have hb61 : bOk 61 I L R := hb.le (by decide)
  have hb62 : bOk 62 I L R := hb.le (by decide)
  have hb63 : bOk 63 I L R := hb.le (by decide)
  have hb64 : bOk 64 I L R := hb.le (by decide)
  have hb65 : bOk 65 I L R := hb.le (by decide)
  have hb66 : bOk 66 I L R := hb.le (by decide)
  have hb67 : bOk 67 I L R := hb.le (by decide)
  have hb68 : bOk 68 I L R := hb.le (by decide)
  have hb69 : bOk 69 I L R := hb.le (by decide)
  have hb70 : bOk 70 I L R := hb.le (by decide)
  have hb71 : bOk 71 I L R := hb.le (by decide)
  have hb72 : bOk 72 I L R := hb.le (by decide)
  have hb73 : bOk 73 I L R := hb.le (by decide)
  have hb74 : bOk 74 I L R := hb.le (by decide)
  have hb75 : bOk 75 I L R := hb.le (by decide)
  have hb76 : bOk 76 I L R := hb.le (by decide)
  have hb77 : bOk 77 I L R := hb.le (by decide)
  have hb78 : bOk 78 I L R := hb.le (by decide)
  have hb79 : bOk 79 I L R := hb.le (by decide)
  have hb80 : bOk 80 I L R := hb.le (by decide)
  have hb81 : bOk 81 I L R := hb.le (by decide)
  have hb82 : bOk 82 I L R := hb.le (by decide)
  have hb83 : bOk 83 I L R := hb.le (by decide)
  have hb84 : bOk 84 I L R := hb.le (by decide)
  have hb85 : bOk 85 I L R := hb.le (by decide)
  have hb86 : bOk 86 I L R := hb.le (by decide)
  have hb87 : bOk 87 I L R := hb.le (by decide)
  have hb88 : bOk 88 I L R := hb.le (by decide)
  have hb89 : bOk 89 I L R := hb.le (by decide)
  have hb90 : bOk 90 I L R := hb.le (by decide)
  have hb91 : bOk 91 I L R := hb.le (by decide)
  have hb92 : bOk 92 I L R := hb.le (by decide)
  have hb93 : bOk 93 I L R := hb.le (by decide)
  have hb94 : bOk 94 I L R := hb.le (by decide)
  have hb95 : bOk 95 I L R := hb.le (by decide)
  have hb96 : bOk 96 I L R := hb.le (by decide)
  have hb97 : bOk 97 I L R := hb.le (by decide)
  have hb98 : bOk 98 I L R := hb.le (by decide)
  have hb99 : bOk 99 I L R := hb.le (by decide)
  have hb100 : bOk 100 I L R := hb.le (by decide)
  have hb101 : bOk 101 I L R := hb.le (by decide)
  have hb102 : bOk 102 I L R := hb.le (by decide)
  have hb103 : bOk 103 I L R := hb.le (by decide)
  refine px_of (plainFor_of_name np_RX11) (fun _ _ _ => trivial) rfl ?_
  refine px_bc rfl q_X11_init_0 rfl trivial ?_
  refine px_oI (by decide +kernel) (px_i1 24 rfl rfl) (px_i1 25 rfl rfl) (px_i1 26 rfl rfl) rfl rfl ?_
  refine px_bc rfl q_X11_init_4 rfl trivial ?_
  refine px_nO (idx := 7) (ci := 7) (nf := 9) (by decide +kernel) (by decide) rfl rfl rfl rfl ?_
  refine px_bc rfl q_X11_init_8 rfl trivial ?_
  refine px_kIN q_X11_init_9K lk_11_9 nm_X7_init (mk_X7 (by repeat (first | with_reducible assumption | refine bOk.uI ?_ (by decide) | refine bOk.uR ?_ (by decide) | refine bOk.wI ?_ (by decide) | refine bOk.wR ?_ (by decide) | refine bOk.wL ?_ (by decide) | refine bOk.uL ?_ (by decide)))) rfl rfl rfl ?_
  rintro _ _ _ _ _ ⟨rfl, rfl, rfl, rfl, rfl⟩
  refine px_pF (on := 11) (ci := 11) (kf := 0) (idx := 10) rfl (by decide +kernel) (by decide) ⟨by decide, by decide, rfl⟩ rfl (Or.inl ⟨_, rfl⟩) (by first | exact Or.inl rfl | exact Or.inr ⟨rfl, rfl, rfl⟩) ?_
  refine px_bc rfl q_X11_init_15 rfl trivial ?_
  refine px_nO (idx := 16) (ci := 1) (nf := 16) (by decide +kernel) (by decide) rfl rfl rfl rfl ?_
  refine px_bc rfl q_X11_init_19 rfl trivial ?_
  refine px_kIN q_X11_init_20K lk_11_18 nm_X1_init (mk_X1a (by repeat (first | with_reducible assumption | refine bOk.uI ?_ (by decide) | refine bOk.uR ?_ (by decide) | refine bOk.wI ?_ (by decide) | refine bOk.wR ?_ (by decide) | refine bOk.wL ?_ (by decide) | refine bOk.uL ?_ (by decide)))) rfl rfl rfl ?_
  rintro _ _ _ _ _ ⟨rfl, rfl, rfl, rfl, rfl⟩
  refine px_pF (on := 11) (ci := 11) (kf := 1) (idx := 19) rfl (by decide +kernel) (by decide) ⟨by decide, by decide, rfl⟩ rfl (Or.inl ⟨_, rfl⟩) (by first | exact Or.inl rfl | exact Or.inr ⟨rfl, rfl, rfl⟩) ?_
  refine px_bc rfl q_X11_init_26 rfl trivial ?_
  refine px_nO (idx := 16) (ci := 1) (nf := 16) (by decide +kernel) (by decide) rfl rfl rfl rfl ?_
  refine px_bc rfl q_X11_init_30 rfl trivial ?_
  refine px_kIN q_X11_init_31K lk_11_18 nm_X1_init (mk_X1b (by repeat (first | with_reducible assumption | refine bOk.uI ?_ (by decide) | refine bOk.uR ?_ (by decide) | refine bOk.wI ?_ (by decide) | refine bOk.wR ?_ (by decide) | refine bOk.wL ?_ (by decide) | refine bOk.uL ?_ (by decide)))) rfl rfl rfl ?_
  rintro _ _ _ _ _ ⟨rfl, rfl, rfl, rfl, rfl⟩
  refine px_pF (on := 11) (ci := 11) (kf := 2) (idx := 23) rfl (by decide +kernel) (by decide) ⟨by decide, by decide, rfl⟩ rfl (Or.inl ⟨_, rfl⟩) (by first | exact Or.inl rfl | exact Or.inr ⟨rfl, rfl, rfl⟩) ?_
  refine px_bc rfl q_X11_init_37 rfl trivial ?_
  refine px_nO (idx := 26) (ci := 2) (nf := 3) (by decide +kernel) (by decide) rfl rfl rfl rfl ?_
  refine px_bc rfl q_X11_init_41 rfl trivial ?_
  refine px_kIN q_X11_init_42K lk_11_28 nm_X2_init (mk_X2 (by repeat (first | with_reducible assumption | refine bOk.uI ?_ (by decide) | refine bOk.uR ?_ (by decide) | refine bOk.wI ?_ (by decide) | refine bOk.wR ?_ (by decide) | refine bOk.wL ?_ (by decide) | refine bOk.uL ?_ (by decide)))) rfl rfl rfl ?_
  rintro _ _ _ _ _ ⟨rfl, rfl, rfl, rfl, rfl⟩
  refine px_pF (on := 11) (ci := 11) (kf := 3) (idx := 29) rfl (by decide +kernel) (by decide) ⟨by decide, by decide, rfl⟩ rfl (Or.inl ⟨_, rfl⟩) (by first | exact Or.inl rfl | exact Or.inr ⟨rfl, rfl, rfl⟩) ?_
  refine px_bc rfl q_X11_init_48 rfl trivial ?_
  refine px_nO (idx := 33) (ci := 8) (nf := 7) (by decide +kernel) (by decide) rfl rfl rfl rfl ?_
  refine px_bc rfl q_X11_init_52 rfl trivial ?_
  refine px_kIN q_X11_init_53K lk_11_35 nm_X8_init (mk_X8 (by repeat (first | with_reducible assumption | refine bOk.uI ?_ (by decide) | refine bOk.uR ?_ (by decide) | refine bOk.wI ?_ (by decide) | refine bOk.wR ?_ (by decide) | refine bOk.wL ?_ (by decide) | refine bOk.uL ?_ (by decide)))) rfl rfl rfl ?_
  rintro _ _ _ _ _ ⟨rfl, rfl, rfl, rfl, rfl⟩
  refine px_pF (on := 11) (ci := 11) (kf := 4) (idx := 36) rfl (by decide +kernel) (by decide) ⟨by decide, by decide, rfl⟩ rfl (Or.inl ⟨_, rfl⟩) (by first | exact Or.inl rfl | exact Or.inr ⟨rfl, rfl, rfl⟩) ?_
  refine px_bc rfl q_X11_init_59 rfl trivial ?_
  refine px_nO (idx := 40) (ci := 4) (nf := 16) (by decide +kernel) (by decide) rfl rfl rfl rfl ?_
  refine px_bc rfl q_X11_init_63 rfl trivial ?_
  refine px_kI q_X11_init_68K lk_11_42 nm_X4_init (mk_X4 (by repeat (first | with_reducible assumption | refine bOk.uI ?_ (by decide) | refine bOk.uR ?_ (by decide) | refine bOk.wI ?_ (by decide) | refine bOk.wR ?_ (by decide) | refine bOk.wL ?_ (by decide) | refine bOk.uL ?_ (by decide)))) rfl rfl rfl ?_
  rintro _ _ _ _ _ ⟨rfl, rfl, rfl, rfl, rfl⟩
  refine px_pF (on := 11) (ci := 11) (kf := 5) (idx := 45) rfl (by decide +kernel) (by decide) ⟨by decide, by decide, rfl⟩ rfl (Or.inl ⟨_, rfl⟩) (by first | exact Or.inl rfl | exact Or.inr ⟨rfl, rfl, rfl⟩) ?_
  refine px_bc rfl q_X11_init_74 rfl trivial ?_
  refine px_nO (idx := 49) (ci := 5) (nf := 4) (by decide +kernel) (by decide) rfl rfl rfl rfl ?_
  refine px_bc rfl q_X11_init_78 rfl trivial ?_
  refine px_kIN q_X11_init_79K lk_11_51 nm_X5_init (mk_X5 (by repeat (first | with_reducible assumption | refine bOk.uI ?_ (by decide) | refine bOk.uR ?_ (by decide) | refine bOk.wI ?_ (by decide) | refine bOk.wR ?_ (by decide) | refine bOk.wL ?_ (by decide) | refine bOk.uL ?_ (by decide)))) rfl rfl rfl ?_
  rintro _ _ _ _ _ ⟨rfl, rfl, rfl, rfl, rfl⟩
  refine px_pF (on := 11) (ci := 11) (kf := 6) (idx := 52) rfl (by decide +kernel) (by decide) ⟨by decide, by decide, rfl⟩ rfl (Or.inl ⟨_, rfl⟩) (by first | exact Or.inl rfl | exact Or.inr ⟨rfl, rfl, rfl⟩) ?_
  refine px_bc rfl q_X11_init_85 rfl trivial ?_
  refine px_nO (idx := 56) (ci := 3) (nf := 6) (by decide +kernel) (by decide) rfl rfl rfl rfl ?_
  refine px_bc rfl q_X11_init_89 rfl trivial ?_
  refine px_kI q_X11_init_98K lk_11_58 nm_X3_init (mk_X3 (by repeat (first | with_reducible assumption | refine bOk.uI ?_ (by decide) | refine bOk.uR ?_ (by decide) | refine bOk.wI ?_ (by decide) | refine bOk.wR ?_ (by decide) | refine bOk.wL ?_ (by decide) | refine bOk.uL ?_ (by decide)))) rfl rfl rfl ?_
  rintro _ _ _ _ _ ⟨rfl, rfl, rfl, rfl, rfl⟩
  refine px_pF (on := 11) (ci := 11) (kf := 7) (idx := 61) rfl (by decide +kernel) (by decide) ⟨by decide, by decide, rfl⟩ rfl (Or.inl ⟨_, rfl⟩) (by first | exact Or.inl rfl | exact Or.inr ⟨rfl, rfl, rfl⟩) ?_
  refine px_bc rfl q_X11_init_104 rfl trivial ?_
  refine px_nO (idx := 65) (ci := 6) (nf := 6) (by decide +kernel) (by decide) rfl rfl rfl rfl ?_
  refine px_bc rfl q_X11_init_108 rfl trivial ?_
  refine px_kIN q_X11_init_109K lk_11_67 nm_X6_init (mk_X6 (by repeat (first | with_reducible assumption | refine bOk.uI ?_ (by decide) | refine bOk.uR ?_ (by decide) | refine bOk.wI ?_ (by decide) | refine bOk.wR ?_ (by decide) | refine bOk.wL ?_ (by decide) | refine bOk.uL ?_ (by decide)))) rfl rfl rfl ?_
  rintro _ _ _ _ _ ⟨rfl, rfl, rfl, rfl, rfl⟩
  refine px_pF (on := 11) (ci := 11) (kf := 8) (idx := 68) rfl (by decide +kernel) (by decide) ⟨by decide, by decide, rfl⟩ rfl (Or.inl ⟨_, rfl⟩) (by first | exact Or.inl rfl | exact Or.inr ⟨rfl, rfl, rfl⟩) ?_
  refine px_bc rfl q_X11_init_115 rfl trivial ?_
  refine px_nO (idx := 72) (ci := 0) (nf := 4) (by decide +kernel) (by decide) rfl rfl rfl rfl ?_
  refine px_bc rfl q_X11_init_119 rfl trivial ?_
  refine px_kI q_X11_init_124K lk_11_74 nm_X0_init (mk_X0 (by repeat (first | with_reducible assumption | refine bOk.uI ?_ (by decide) | refine bOk.uR ?_ (by decide) | refine bOk.wI ?_ (by decide) | refine bOk.wR ?_ (by decide) | refine bOk.wL ?_ (by decide) | refine bOk.uL ?_ (by decide)))) rfl rfl rfl ?_
  rintro _ _ _ _ _ ⟨rfl, rfl, rfl, rfl, rfl⟩
  refine px_pF (on := 11) (ci := 11) (kf := 9) (idx := 77) rfl (by decide +kernel) (by decide) ⟨by decide, by decide, rfl⟩ rfl (Or.inl ⟨_, rfl⟩) (by first | exact Or.inl rfl | exact Or.inr ⟨rfl, rfl, rfl⟩) ?_
  refine px_rvc rfl q_X11_init_130 rfl rfl rfl rfl trivial ⟨rfl, rfl, ?_, ?_, ?_⟩
  · funext b k
    by_cases h32 : b = 32
    · subst h32; rw [(hb 32 (by decide)).1]; simp only [px_ur, px_wr, px_I0]; grind
    simp only [px_ur, px_wr]; grind
  · funext b k
    by_cases h32 : b = 32
    · subst h32; rw [(hb 32 (by decide)).2.1]; simp only [px_ur, px_wr, px_L0]; grind
    simp only [px_ur, px_wr]; grind
  · funext b k
    by_cases h32 : b = 32
    · subst h32; rw [(hb 32 (by decide)).2.2]; simp only [px_ur, px_wr, px_R0]; grind
    simp only [px_ur, px_wr]; grind
