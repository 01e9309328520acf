/-! what stands outside: texts, two tables of numbers -/
section PXO
variable {on n cu su pc pb idx k : Nat} {R : px_R} {M M1 : px_M} {Q : px_Q} {xs : List px_o} {ls ls' : px_Ls} {st st' : List Value} {I I' : px_I} {L L' : px_L} {P' : Prop} {As rest : List Value}
theorem px_sEast (hd : decode M.2.1 pc = .ok (.getstatic idx, 3)) (hl : Cond.fieldLink M.1.cls idx RX9 "EAST" "[I" ∈ px_T) (kk : px M cu su (pc + 3) ls (.ref 18 :: rest) n I L R Q) : px M cu su pc ls rest n I L R Q := by
  intro p l e s m args below meth c base cst D cid Z H locs lr X hW hS hl2
  exact va_gets X.1 X.2.1 X.2.2.2.2.2.2.2.1.2.2.1 hS X.2.2.2.1 (X.2.2.2.2.1 _ hl) (fun _ h => h) hd (kk p l e s m args below meth c base cst D cid Z H locs lr X hW hS hl2)
theorem px_sNorth (hd : decode M.2.1 pc = .ok (.getstatic idx, 3)) (hl : Cond.fieldLink M.1.cls idx RX9 "NORTH" "[I" ∈ px_T) (kk : px M cu su (pc + 3) ls (.ref 19 :: rest) n I L R Q) : px M cu su pc ls rest n I L R Q := by
  intro p l e s m args below meth c base cst D cid Z H locs lr X hW hS hl2
  exact va_gets X.1 X.2.1 X.2.2.2.2.2.2.2.1.2.2.2.2.1 hS X.2.2.2.1 (X.2.2.2.2.1 _ hl) (fun _ h => h) hd (kk p l e s m args below meth c base cst D cid Z H locs lr X hW hS hl2)
theorem px_sComp (hd : decode M.2.1 pc = .ok (.getstatic idx, 3)) (hl : Cond.fieldLink M.1.cls idx "java/lang/String" "COMPACT_STRINGS" "Z" ∈ px_T) (kk : px M cu su (pc + 3) ls (.int 1 :: rest) n I L R Q) : px M cu su pc ls rest n I L R Q := by
  intro p l e s m args below meth c base cst D cid Z H locs lr X hW hS hl2
  exact va_gets X.1 X.2.1 X.2.2.2.2.2.2.2.1.2.2.2.2.2.2.1 hS X.2.2.2.1 (X.2.2.2.2.1 _ hl) (fun _ h => h) hd (kk p l e s m args below meth c base cst D cid Z H locs lr X hW hS hl2)
theorem px_sForm (hd : decode M.2.1 pc = .ok (.getstatic idx, 3)) (hl : Cond.fieldLink M.1.cls idx "jdk/internal/util/Preconditions" "SIOOBE_FORMATTER" "Ljava/util/function/BiFunction;" ∈ px_T) (k1 : px M cu su (pc + 3) ls (.null :: rest) n I L R Q) (k2 : px M cu su (pc + 3) ls (.ref 22 :: rest) n I L R Q) : px M cu su pc ls rest n I L R Q := by
  intro p l e s m args below meth c base cst D cid Z H locs lr X hW hS hl2
  rcases X.2.2.2.2.2.2.2.1.2.2.2.2.2.2.2.1 with h | h
  · exact va_gets X.1 X.2.1 h hS X.2.2.2.1 (X.2.2.2.2.1 _ hl) (fun _ h => h) hd (k1 p l e s m args below meth c base cst D cid Z H locs lr X hW hS hl2)
  · exact va_gets X.1 X.2.1 h hS X.2.2.2.1 (X.2.2.2.2.1 _ hl) (fun _ h => h) hd (k2 p l e s m args below meth c base cst D cid Z H locs lr X hW hS hl2)
theorem px_iEast {i : Int32} (hd : decode M.2.1 pc = .ok (.iaload, 1)) (hi : 0 ≤ i ∧ i < 4) (kk : px M cu su (pc + 1) ls (.int (px_east.getD i.toNatClampNeg 0) :: rest) n I L R Q) : px M cu su pc ls (.int i :: .ref 18 :: rest) n I L R Q := by
  intro p l e s m args below meth c base cst D cid Z H locs lr X hW hS hl2
  exact va_ti X.1 X.2.1 X.2.2.2.2.2.2.2.1.2.2.2.1 hS (px_inn hi rfl (by decide)) rfl hd (kk p l e s m args below meth c base cst D cid Z H locs lr X hW hS hl2)
theorem px_iNorth {i : Int32} (hd : decode M.2.1 pc = .ok (.iaload, 1)) (hi : 0 ≤ i ∧ i < 4) (kk : px M cu su (pc + 1) ls (.int (px_nort.getD i.toNatClampNeg 0) :: rest) n I L R Q) : px M cu su pc ls (.int i :: .ref 19 :: rest) n I L R Q := by
  intro p l e s m args below meth c base cst D cid Z H locs lr X hW hS hl2
  exact va_ti X.1 X.2.1 X.2.2.2.2.2.2.2.1.2.2.2.2.2.1 hS (px_inn hi rfl (by decide)) rfl hd (kk p l e s m args below meth c base cst D cid Z H locs lr X hW hS hl2)
theorem px_adc {base : Nat} {cst : Nat → Nat} {k : Nat} (h : k < 32) : px_ad base cst k = cst k := if_pos h
/-- a text: its coder, its bytes -/
theorem px_gCod {i : Nat} (hi : i < 9) (hd : decode M.2.1 pc = .ok (.getfield idx, 3)) (hl : Cond.fieldLink M.1.cls idx "java/lang/String" "coder" "B" ∈ px_T) (kk : px M cu su (pc + 3) ls (.int 0 :: rest) n I L R Q) : px M cu su pc ls (.ref i :: rest) n I L R Q := by
  intro p l e s m args below meth c base cst D cid Z H locs lr X hW hS hl2
  have h := (X.2.2.2.2.2.2.2.1.1.1 i hi).2.1
  rw [List.map_cons, show px_v (px_ad base cst) (.ref i) = .ref (cst i) from congrArg Value.ref (px_adc (by omega))]
  exact vk_getf X.1 X.2.1 h hS X.2.2.2.1 (X.2.2.2.2.1 _ hl) (fun _ h => h) hd (kk p l e s m args below meth c base cst D cid Z H locs lr X hW hS hl2)
theorem px_gVal {i : Nat} (hi : i < 9) (hd : decode M.2.1 pc = .ok (.getfield idx, 3)) (hl : Cond.fieldLink M.1.cls idx "java/lang/String" "value" "[B" ∈ px_T) (kk : px M cu su (pc + 3) ls (.ref (9 + i) :: rest) n I L R Q) : px M cu su pc ls (.ref i :: rest) n I L R Q := by
  intro p l e s m args below meth c base cst D cid Z H locs lr X hW hS hl2
  have h := (X.2.2.2.2.2.2.2.1.1.1 i hi).2.2.1
  have k2 := (kk p l e s m args below meth c base cst D cid Z H locs lr X hW hS hl2)
  rw [List.map_cons, show px_v (px_ad base cst) (.ref (9 + i)) = .ref (cst (9 + i)) from congrArg Value.ref (px_adc (by omega))] at k2
  rw [List.map_cons, show px_v (px_ad base cst) (.ref i) = .ref (cst i) from congrArg Value.ref (px_adc (by omega))]
  exact vk_getf X.1 X.2.1 h hS X.2.2.2.1 (X.2.2.2.2.1 _ hl) (fun _ h => h) hd k2
theorem px_lenB {i : Nat} (hi : i < 9) (hd : decode M.2.1 pc = .ok (.arraylength, 1)) (kk : px M cu su (pc + 1) ls (.int (Int32.ofNat (px_len.getD i 0)) :: rest) n I L R Q) : px M cu su pc ls (.ref (9 + i) :: rest) n I L R Q := by
  intro p l e s m args below meth c base cst D cid Z H locs lr X hW hS hl2
  have h := (X.2.2.2.2.2.2.2.1.1.1 i hi).2.2.2
  rw [List.map_cons, show px_v (px_ad base cst) (.ref (9 + i)) = .ref (cst (9 + i)) from congrArg Value.ref (px_adc (by omega))]
  exact va_tlen X.1 X.2.1 h hS rfl hd (kk p l e s m args below meth c base cst D cid Z H locs lr X hW hS hl2)
theorem px_len_lt : ∀ i, i < 9 → px_len.getD i 0 < 2000 := by decide
theorem px_ldB {i : Nat} {j : Int32} (hi : i < 9) (hj : 0 ≤ j ∧ j < Int32.ofNat (px_len.getD i 0)) (hd : decode M.2.1 pc = .ok (.baload, 1)) (kk : px M cu su (pc + 1) ls (.int ((px_byt.getD i []).getD j.toNatClampNeg 0) :: rest) n I L R Q) : px M cu su pc ls (.int j :: .ref (9 + i) :: rest) n I L R Q := by
  intro p l e s m args below meth c base cst D cid Z H locs lr X hW hS hl2
  have h := (X.2.2.2.2.2.2.2.1.1.1 i hi).2.2.2
  rw [List.map_cons, List.map_cons, show px_v (px_ad base cst) (.ref (9 + i)) = .ref (cst (9 + i)) from congrArg Value.ref (px_adc (by omega))]
  exact va_tb X.1 X.2.1 h hS (px_inn hj rfl (px_len_lt i hi)) rfl hd (kk p l e s m args below meth c base cst D cid Z H locs lr X hW hS hl2)
theorem px_i2c {x v : Int32} (hd : decode M.2.1 pc = .ok (.i2c, 1)) (hv : (x.toUInt32 % 65536).toInt32 = v) (kk : px M cu su (pc + 1) ls (.int v :: rest) n I L R Q) : px M cu su pc ls (.int x :: rest) n I L R Q := by
  intro p l e s m args below meth c base cst D cid Z H locs lr X hW hS hl2
  exact lv_i2c X.1 X.2.1 hd hv (kk p l e s m args below meth c base cst D cid Z H locs lr X hW hS hl2)
theorem px_ldS {i : Nat} (hi : i < 9) (hc : M.1.cls = RX4) (hd : decode M.2.1 pc = .ok (.ldc (px_txt.getD i (0, "")).1, 2)) (kk : px M cu su (pc + 2) ls (.ref i :: rest) n I L R Q) : px M cu su pc ls rest n I L R Q := by
  intro p l e s m args below meth c base cst D cid Z H locs lr X hW hS hl2
  have h := X.2.2.2.2.2.2.2.1.2.1 i hi
  have k2 := (kk p l e s m args below meth c base cst D cid Z H locs lr X hW hS hl2)
  rw [List.map_cons, show px_v (px_ad base cst) (.ref i) = .ref (cst i) from congrArg Value.ref (px_adc (by omega))] at k2
  exact va_ldcS X.1 X.2.1 (by rw [← hc]; exact X.2.2.2.1) h hd k2
theorem px_kVs {Q1 : px_Q} {i : Nat} (q : px_tv M.2.1 pb idx = true) (lk : px_lV M.1.cls idx M1) (hnm : px_nm M1 k) (hk : px_K M1 (.ref i :: As) n I L R Q1) (hs : st = As.reverse ++ .ref i :: rest) (hn : Nat.beq As.length k = true) (hi : i < 9) (hrc : M1.1.cls = "java/lang/String") (hrm : px_rk M M1 cu su rest = true)
    (kk : ∀ (r : Option Value) (n' : Nat) (I' : px_I) (L' : px_L) (R' : px_R), Q1 r n' I' L' R' → px M (cu + (px_room M1).cells) (su + (px_room M1).slots) (pb + 3) ls (r.toList ++ rest) n' I' L' R' Q) : px M cu su pb ls st n I L R Q := by
  intro p l e s m args below meth c base cst D cid Z H locs lr X hW hS hl
  subst hs
  obtain ⟨hrm1, hrm2, hrm3⟩ := px_rk_ok hrm
  obtain ⟨hx, hb, hml, hown, hts, hK, hbs, hC, -⟩ := id X
  have hpre : ∀ U : State, U.heap = H → s.WarmedH U.vm → px_Pc base cst D cid (.ref i :: As) n I L R (((.ref i :: As).map (px_v (px_ad base cst))).toArray) U := fun U hU hWm => ⟨rfl, by rw [hU]; exact hW, hK.moved hWm.alike, by rw [hU]; exact hC.go hS hWm hbs⟩
  have hln : (As.map (px_v (px_ad base cst))).length = k := by rw [List.length_map]; exact Nat.eq_of_beq_eq_true hn
  have hrv := vk_recv hC.1 hi hS
  rw [← px_adc (base := base) (cst := cst) (show i < 32 by omega)] at hrv
  refine px_runk (va_runV (C := M1.1.cls) (b := px_ad base cst i) (As := As.map (px_v (px_ad base cst))) (rest := rest.map (px_v (px_ad base cst))) ⟨hx, hb, hml, hown, hts⟩ (hk l base cst D cid)
    (cwV k hts (px_good (by
      intro w hw
      rcases List.mem_append.mp hw with hw | hw
      · rcases List.mem_cons.mp hw with rfl | hw; · exact lk.1
        rcases List.mem_cons.mp hw with rfl | hw; · exact lk.2.1
        rcases List.mem_cons.mp hw with rfl | hw; · exact lk.2.2.1
        rcases List.mem_cons.mp hw with rfl | hw; · exact lk.2.2.2.1
        cases hw
      · rcases List.mem_cons.mp hw with rfl | hw; · exact lk.2.2.2.2
        exact hw)) rfl rfl rfl ⟨rfl, hnm⟩ hrm1) ⟨px_blind, by rw [hrc]; exact hrv, hpre⟩ rfl hln hl.1 (by rw [List.map_append, List.map_reverse]; rfl) (lv_room (by rw [px_cat]; exact hrm3)) (px_tv_ok q) hrm2) hS ?_
  intro r n' I' L' R' H1 locs1 hq hW1 hS1
  have h9 := kk r n' I' L' R' hq p l e s m args below meth c base cst D cid Z H1 locs1 lr X hW1 hS1 hl
  cases r <;> exact h9
theorem px_cVsP {post : Int32 → Prop} {i : Nat} (hon : M.1.cls = px_Rn on) (q : px_bk on M.2.2.1 M.2.1 pc xs = some pb ∧ px_tv M.2.1 pb idx = true) (hg : px_G n R) (he : px_ex px_nb n R xs ls st I L True = some (P', ls', st', I', L')) (hP : P')
    (lk : px_lV M.1.cls idx M1) (hnm : px_nm M1 k) (hk : px_KP M1 (.ref i :: As) n I' L' R post) (hs : st' = As.reverse ++ .ref i :: rest) (hn : Nat.beq As.length k = true) (hi : i < 9) (hrc : M1.1.cls = "java/lang/String") (hrm : px_rk M M1 cu su rest = true) (hz : (px_room M1).cells = 0 ∧ (px_room M1).slots = 0)
    (kk : ∀ x : Int32, post x → px M cu su (pb + 3) ls' (.int x :: rest) n I' L' R Q) : px M cu su pc ls st n I L R Q := by
  refine px_b hon q.1 hg he hP (px_kVs q.2 lk hnm hk hs hn hi hrc hrm ?_)
  intro r n2 I2 L2 R2 hq
  obtain ⟨rfl, rfl, x, rfl, rfl, rfl, hp⟩ := hq
  rw [hz.1, hz.2]
  exact kk x hp
theorem px_rnP {x : Int32} {ty : FieldType} {n0 : Nat} {R0 : px_R} {I0 : px_I} {L0 : px_L} {post : Int32 → Prop} (hon : M.1.cls = px_Rn on) (q : px_bk on M.2.2.1 M.2.1 pc xs = some pb ∧ px_tr M.2.1 pb .ireturn = true) (hr : M.2.2.2.1 = some ty) (hcu : Nat.ble cu (px_room M).cells = true) (hsu : Nat.ble su (px_room M).slots = true) (hg : px_G n R) (he : px_ex px_nb n R xs ls st I L True = some (P', ls', [.int x], I', L')) (hP : P') (hq : (n = n0 ∧ R = R0 ∧ I' = I0 ∧ L' = L0) ∧ narrow ty (.int x) = .int x ∧ post x) : px M cu su pc ls st n I L R (fun r n' I' L' R' => n' = n0 ∧ R' = R0 ∧ ∃ x, r = some (.int x) ∧ I' = I0 ∧ L' = L0 ∧ post x) :=
  px_rn hon q hr hcu hsu hg he hP hq.2.1 ⟨hq.1.1, hq.1.2.1, x, rfl, hq.1.2.2.1, hq.1.2.2.2, hq.2.2⟩
end PXO
