/-! calls -/
section PXC
variable {p : Program} {l : Launch} {e : Env} {s : State} {m : MethodId} {args : Array Value} {below : List Frame} {meth : Method} {c : Code} {Rm : Room} {base : Nat} {cst : Nat → Nat} {D : va_G} {cid : Nat → ClassId} {Z : State → Prop} {H : Heap} {locs : List Loc} {cu su mc ms pc : Nat} {lr : Array Slot} {st0 rest : List Value} {a : Array Value}
theorem px_runk {Q1 : px_Q} (hr : va_Run p l e Rm s m args below meth c H locs cu su mc ms (F0 m pc lr st0) rest (px_Qc base cst D cid Q1 a) (px_A base)) (hS : va_S (px_A base) s.heap H locs)
    (kk : ∀ (r : Option Value) (n : Nat) (I : px_I) (L : px_L) (R : px_R) (H1 : Heap) (locs1 : List Loc), Q1 r n I L R → px_W base cst D cid n I L R H1 → va_S (px_A base) s.heap H1 locs1 → W p l e Rm s m args below meth c H1 locs1 (cu + mc) (su + ms) Z (F0 m (pc + 3) lr ((r.map (px_v (px_ad base cst))).toList ++ rest))) : W p l e Rm s m args below meth c H locs cu su Z (F0 m pc lr st0) := by
  intro T hT X
  obtain ⟨v, st₀, t, T', L, h0, X', hL, e1, e2, ⟨⟨r, n, I, L1, R, hv, hq, hw⟩, hz, hk⟩, st⟩ := hr T hT X
  cases hv
  rw [h0] at hz hk
  obtain ⟨t2, a1, b1⟩ := kk r n I L1 R T'.heap (locs ++ L) hq (by rw [e1]; exact hw)
    ⟨Nat.le_trans hS.1 (by rw [e1]; exact hz), fun q h1 h2 => by rw [e1, hk q (Nat.lt_of_lt_of_le h1 hS.1) h2]; exact hS.2.1 q h1 h2, fun q hq => by
      rcases List.mem_append.mp hq with h | h
      · exact hS.2.2 q h
      · exact hL q h⟩ T' rfl X'
  exact ⟨t2, st t2 a1, b1⟩
theorem px_blind {as : List Value} {n : Nat} {I : px_I} {L : px_L} {R : px_R} : FrameBlind (px_Pc base cst D cid as n I L R) := by
  intro a U g mk h
  obtain ⟨h1, h2, h3, h4⟩ := h
  exact ⟨h1, h2, va_K.moved (u := U) (U := U.calling g mk a) (Vm.Alike.refl U.vm) h3, h4.same rfl⟩
end PXC
theorem px_good {ws : List Cond} (h : ∀ w ∈ ws, w ∈ px_T) : GoodIn px_T ws := fun w hw => ⟨h w hw, good_of_word (List.mem_filter.mp (h w hw)).2⟩
/-- of a method: its name is plain, how many arguments -/
def px_nm (M : px_M) (k : Nat) : Prop := M.1.cls ≠ "java/lang/invoke/MethodHandle" ∧ M.1.cls ≠ "java/lang/invoke/VarHandle" ∧ (parseMethodDescriptor M.1.desc).map (fun d => d.parameters.length) = some k
def px_lV (own : String) (idx : Nat) (M : px_M) : Prop := Cond.methodLink own idx M.1 ∈ px_T ∧ Cond.instanceMethod M.1 ∈ px_T ∧ Cond.selects M.1.cls M.1 M.1 ∈ px_T ∧ Cond.initialized M.1.cls ∈ px_T ∧ Cond.code M.1 M.2.1 M.2.2.1 M.2.2.2.1 ∈ px_T
def px_lS (own : String) (idx : Nat) (M : px_M) : Prop := Cond.methodLink own idx M.1 ∈ px_T ∧ Cond.static M.1 ∈ px_T ∧ Cond.initialized M.1.cls ∈ px_T ∧ Cond.code M.1 M.2.1 M.2.2.1 M.2.2.2.1 ∈ px_T
def px_lI (own : String) (idx : Nat) (M : px_M) : Prop := Cond.methodLink own idx M.1 ∈ px_T ∧ Cond.instanceMethod M.1 ∈ px_T ∧ Cond.initialized M.1.cls ∈ px_T ∧ Cond.code M.1 M.2.1 M.2.2.1 M.2.2.2.1 ∈ px_T ∧ M.1.name = "<init>" ∧ M.2.2.2.1 = none
def px_lSN (own : String) (idx : Nat) (M : px_M) (host : String) : Prop := (own, idx, M.1, host) ∈ px_nest ∧ Cond.static M.1 ∈ px_T ∧ Cond.initialized M.1.cls ∈ px_T ∧ Cond.code M.1 M.2.1 M.2.2.1 M.2.2.2.1 ∈ px_T
def px_lIN (own : String) (idx : Nat) (M : px_M) (host : String) : Prop := (own, idx, M.1, host) ∈ px_nest ∧ Cond.instanceMethod M.1 ∈ px_T ∧ Cond.initialized M.1.cls ∈ px_T ∧ Cond.code M.1 M.2.1 M.2.2.1 M.2.2.2.1 ∈ px_T ∧ M.1.name = "<init>" ∧ M.2.2.2.1 = none
/-- the callee's room fits -/
def px_rk (M M1 : px_M) (cu su : Nat) (rest : List Value) : Bool := Nat.ble ((px_room M1).frames + 1) (px_room M).frames && (Nat.ble (8 + (M1.2.2.1 + 11) + (px_room M1).locals) (px_room M).locals && (Nat.ble (cu + (px_room M1).cells) (px_room M).cells && (Nat.ble (su + (px_room M1).slots) (px_room M).slots && Nat.ble (rest.map fun v => v.category).sum 8)))
theorem px_rk_ok {M M1 : px_M} {cu su : Nat} {rest : List Value} (h : px_rk M M1 cu su rest = true) : ((px_room M1).frames + 1 ≤ (px_room M).frames ∧ 8 + (M1.2.2.1 + 11) + (px_room M1).locals ≤ (px_room M).locals) ∧ (cu + (px_room M1).cells ≤ (px_room M).cells ∧ su + (px_room M1).slots ≤ (px_room M).slots) ∧ (rest.map fun v => v.category).sum ≤ 8 := by
  unfold px_rk at h
  simp only [Bool.and_eq_true] at h
  exact ⟨⟨Nat.le_of_ble_eq_true h.1, Nat.le_of_ble_eq_true h.2.1⟩, ⟨Nat.le_of_ble_eq_true h.2.2.1, Nat.le_of_ble_eq_true h.2.2.2.1⟩, Nat.le_of_ble_eq_true h.2.2.2.2⟩
theorem px_cat (ad : Nat → Nat) (rest : List Value) : ((rest.map (px_v ad)).map fun v => v.category).sum = (rest.map fun v => v.category).sum := by
  induction rest with
  | nil => rfl
  | cons v t ih => simp only [List.map_cons, List.sum_cons, px_v_cat, ih]
def px_tv (cc : ByteArray) (pb idx : Nat) : Bool := match decode cc pb with
  | .ok (.invokevirtual i, 3) => Nat.beq i idx
  | _ => false
def px_tS (cc : ByteArray) (pb idx : Nat) : Bool := match decode cc pb with
  | .ok (.invokestatic i, 3) => Nat.beq i idx
  | _ => false
def px_tI (cc : ByteArray) (pb idx : Nat) : Bool := match decode cc pb with
  | .ok (.invokespecial i, 3) => Nat.beq i idx
  | _ => false
theorem px_tv_ok {cc : ByteArray} {pb idx : Nat} (h : px_tv cc pb idx = true) : decode cc pb = .ok (.invokevirtual idx, 3) := by
  unfold px_tv at h
  split at h
  · rename_i i hd; rw [hd, Nat.eq_of_beq_eq_true h]
  · cases h
theorem px_tS_ok {cc : ByteArray} {pb idx : Nat} (h : px_tS cc pb idx = true) : decode cc pb = .ok (.invokestatic idx, 3) := by
  unfold px_tS at h
  split at h
  · rename_i i hd; rw [hd, Nat.eq_of_beq_eq_true h]
  · cases h
theorem px_tI_ok {cc : ByteArray} {pb idx : Nat} (h : px_tI cc pb idx = true) : decode cc pb = .ok (.invokespecial idx, 3) := by
  unfold px_tI at h
  split at h
  · rename_i i hd; rw [hd, Nat.eq_of_beq_eq_true h]
  · cases h
section PXD
variable {on n cu su pc pb idx k : Nat} {R : px_R} {M M1 : px_M} {Q Q1 : px_Q} {xs : List px_o} {ls ls' : px_Ls} {st st' : List Value} {I I' : px_I} {L L' : px_L} {P' : Prop} {As rest : List Value} {o ci : Nat}

theorem px_kV (q : px_tv M.2.1 pb idx = true) (lk : px_lV M.1.cls idx M1) (hnm : px_nm M1 k) (hk : px_K M1 (.ref o :: As) n I L R Q1) (hs : st = As.reverse ++ .ref o :: rest) (hn : Nat.beq As.length k = true) (ho : px_is n o ci) (hrc : M1.1.cls = px_Rn ci) (hci : Nat.blt ci 13 = true) (hrm : px_rk M M1 cu su rest = true)
    (kk : ∀ (r : Option Value) (n' : Nat) (I' : px_I) (L' : px_L) (R' : px_R), Q1 r n' I' L' R' → px M (cu + (px_room M1).cells) (su + (px_room M1).slots) (pb + 3) ls (r.toList ++ rest) n' I' L' R' Q) : px M cu su pb ls st n I L R Q := by
  intro p l e s m args below meth c base cst D cid Z H locs lr X hW hS hl
  subst hs
  obtain ⟨hrm1, hrm2, hrm3⟩ := px_rk_ok hrm
  obtain ⟨hx, hb, hml, hown, hts, hK, hbs, hC, -⟩ := id X
  have hpre : ∀ U : State, U.heap = H → s.WarmedH U.vm → px_Pc base cst D cid (.ref o :: As) n I L R (((.ref o :: As).map (px_v (px_ad base cst))).toArray) U := fun U hU hWm => ⟨rfl, by rw [hU]; exact hW, hK.moved hWm.alike, by rw [hU]; exact hC.go hS hWm hbs⟩
  have hln : (As.map (px_v (px_ad base cst))).length = k := by rw [List.length_map]; exact Nat.eq_of_beq_eq_true hn
  have hat := hW.2.2 o ho.1 ho.2.1
  have hci := Nat.le_of_ble_eq_true hci
  rw [px_e_obj _ _ (by rw [ho.2.2]; exact hci), ho.2.2] at hat
  have hrv := va_recv hK (px_one hat) (px_cl_at ci hci) (q0 := 0) rfl
  refine px_runk (va_runV (C := M1.1.cls) (b := px_ad base cst o) (As := As.map (px_v (px_ad base cst))) (rest := rest.map (px_v (px_ad base cst))) ⟨hx, hb, hml, hown, hts⟩ (hk l base cst D cid)
    (cwV k hts (px_good (by
      intro w hw
      rcases List.mem_append.mp hw with hw | hw
      · rcases List.mem_cons.mp hw with rfl | hw; · exact lk.1
        rcases List.mem_cons.mp hw with rfl | hw; · exact lk.2.1
        rcases List.mem_cons.mp hw with rfl | hw; · exact lk.2.2.1
        rcases List.mem_cons.mp hw with rfl | hw; · exact lk.2.2.2.1
        cases hw
      · rcases List.mem_cons.mp hw with rfl | hw; · exact lk.2.2.2.2
        exact hw)) rfl rfl rfl ⟨rfl, hnm⟩ hrm1) ⟨px_blind, by rw [hrc]; exact hrv, hpre⟩ rfl hln hl.1 (by rw [List.map_append, List.map_reverse]; rfl) (lv_room (by rw [px_cat]; exact hrm3)) (px_tv_ok q) hrm2) hS ?_
  intro r n' I' L' R' H1 locs1 hq hW1 hS1
  have h9 := kk r n' I' L' R' hq p l e s m args below meth c base cst D cid Z H1 locs1 lr X hW1 hS1 hl
  cases r <;> exact h9

theorem px_kS (q : px_tS M.2.1 pb idx = true) (lk : px_lS M.1.cls idx M1) (hnm : px_nm M1 k) (hk : px_K M1 As n I L R Q1) (hs : st = As.reverse ++ rest) (hn : Nat.beq As.length k = true) (hrm : px_rk M M1 cu su rest = true)
    (kk : ∀ (r : Option Value) (n' : Nat) (I' : px_I) (L' : px_L) (R' : px_R), Q1 r n' I' L' R' → px M (cu + (px_room M1).cells) (su + (px_room M1).slots) (pb + 3) ls (r.toList ++ rest) n' I' L' R' Q) : px M cu su pb ls st n I L R Q := by
  intro p l e s m args below meth c base cst D cid Z H locs lr X hW hS hl
  subst hs
  obtain ⟨hrm1, hrm2, hrm3⟩ := px_rk_ok hrm
  obtain ⟨hx, hb, hml, hown, hts, hK, hbs, hC, -⟩ := id X
  have hpre : ∀ U : State, U.heap = H → s.WarmedH U.vm → px_Pc base cst D cid As n I L R ((As.map (px_v (px_ad base cst))).toArray) U := fun U hU hWm => ⟨rfl, by rw [hU]; exact hW, hK.moved hWm.alike, by rw [hU]; exact hC.go hS hWm hbs⟩
  have hln : (As.map (px_v (px_ad base cst))).length = k := by rw [List.length_map]; exact Nat.eq_of_beq_eq_true hn
  refine px_runk (va_runS (As := As.map (px_v (px_ad base cst))) (rest := rest.map (px_v (px_ad base cst))) ⟨hx, hb, hml, hown, hts⟩ (hk l base cst D cid)
    (va_cwS k hts (px_good (by
      intro w hw
      rcases List.mem_append.mp hw with hw | hw
      · rcases List.mem_cons.mp hw with rfl | hw; · exact lk.1
        rcases List.mem_cons.mp hw with rfl | hw; · exact lk.2.1
        rcases List.mem_cons.mp hw with rfl | hw; · exact lk.2.2.1
        cases hw
      · rcases List.mem_cons.mp hw with rfl | hw; · exact lk.2.2.2
        exact hw)) rfl rfl rfl hnm hrm1) ⟨px_blind, hpre⟩ rfl hln hl.1 (by rw [List.map_append, List.map_reverse]) (lv_room (by rw [px_cat]; exact hrm3)) (px_tS_ok q) hrm2) hS ?_
  intro r n' I' L' R' H1 locs1 hq hW1 hS1
  have h9 := kk r n' I' L' R' hq p l e s m args below meth c base cst D cid Z H1 locs1 lr X hW1 hS1 hl
  cases r <;> exact h9

theorem px_kI (q : px_tI M.2.1 pb idx = true) (lk : px_lI M.1.cls idx M1) (hnm : px_nm M1 k) (hk : px_K M1 (.ref o :: As) n I L R Q1) (hs : st = As.reverse ++ .ref o :: rest) (hn : Nat.beq As.length k = true) (hrm : px_rk M M1 cu su rest = true)
    (kk : ∀ (r : Option Value) (n' : Nat) (I' : px_I) (L' : px_L) (R' : px_R), Q1 r n' I' L' R' → px M (cu + (px_room M1).cells) (su + (px_room M1).slots) (pb + 3) ls (r.toList ++ rest) n' I' L' R' Q) : px M cu su pb ls st n I L R Q := by
  intro p l e s m args below meth c base cst D cid Z H locs lr X hW hS hl
  subst hs
  obtain ⟨hrm1, hrm2, hrm3⟩ := px_rk_ok hrm
  obtain ⟨hx, hb, hml, hown, hts, hK, hbs, hC, -⟩ := id X
  have hpre : ∀ U : State, U.heap = H → s.WarmedH U.vm → px_Pc base cst D cid (.ref o :: As) n I L R (((.ref o :: As).map (px_v (px_ad base cst))).toArray) U := fun U hU hWm => ⟨rfl, by rw [hU]; exact hW, hK.moved hWm.alike, by rw [hU]; exact hC.go hS hWm hbs⟩
  have hln : (As.map (px_v (px_ad base cst))).length = k := by rw [List.length_map]; exact Nat.eq_of_beq_eq_true hn
  obtain ⟨y1, y2, y3, y4, y5, y6⟩ := lk
  refine px_runk (va_runI (maxL := M1.2.2.1) (bytes := M1.2.1) (n := k) (b := px_ad base cst o) (As := As.map (px_v (px_ad base cst))) (rest := rest.map (px_v (px_ad base cst))) ⟨hx, hb, hml, hown, hts⟩ (hk l base cst D cid)
    ⟨callB_of (ws' := px_T) k hts (px_good (by
      intro w hw
      rcases List.mem_cons.mp hw with rfl | hw; · exact y4
      exact hw)) (by rw [← y6]; rfl) rfl rfl (hts _ y3) (hts _ y1) hnm hrm1, y5, hts _ y2⟩ ⟨px_blind, hpre⟩ rfl hln hl.1 (by rw [List.map_append, List.map_reverse]; rfl) (lv_room (by rw [px_cat]; exact hrm3)) (px_tI_ok q) hrm2) hS ?_
  intro r n' I' L' R' H1 locs1 hq hW1 hS1
  have h9 := kk r n' I' L' R' hq p l e s m args below meth c base cst D cid Z H1 locs1 lr X hW1 hS1 hl
  cases r <;> exact h9

theorem px_kSN {host : String} (q : px_tS M.2.1 pb idx = true) (lk : px_lSN M.1.cls idx M1 host) (hnm : px_nm M1 k) (hk : px_K M1 As n I L R Q1) (hs : st = As.reverse ++ rest) (hn : Nat.beq As.length k = true) (hrm : px_rk M M1 cu su rest = true)
    (kk : ∀ (r : Option Value) (n' : Nat) (I' : px_I) (L' : px_L) (R' : px_R), Q1 r n' I' L' R' → px M (cu + (px_room M1).cells) (su + (px_room M1).slots) (pb + 3) ls (r.toList ++ rest) n' I' L' R' Q) : px M cu su pb ls st n I L R Q := by
  intro p l e s m args below meth c base cst D cid Z H locs lr X hW hS hl
  subst hs
  obtain ⟨hrm1, hrm2, hrm3⟩ := px_rk_ok hrm
  obtain ⟨hx, hb, hml, hown, hts, hK, hbs, hC, -⟩ := id X
  have hpre : ∀ U : State, U.heap = H → s.WarmedH U.vm → px_Pc base cst D cid As n I L R ((As.map (px_v (px_ad base cst))).toArray) U := fun U hU hWm => ⟨rfl, by rw [hU]; exact hW, hK.moved hWm.alike, by rw [hU]; exact hC.go hS hWm hbs⟩
  have hln : (As.map (px_v (px_ad base cst))).length = k := by rw [List.length_map]; exact Nat.eq_of_beq_eq_true hn
  refine px_runk (va_runSN (As := As.map (px_v (px_ad base cst))) (rest := rest.map (px_v (px_ad base cst))) ⟨hx, hb, hml, hown, hts⟩ (hk l base cst D cid)
    ⟨va_cnB k hts (px_good (by
      intro w hw
      rcases List.mem_cons.mp hw with rfl | hw; · exact lk.2.2.2
      exact hw)) rfl rfl rfl (hC.2.2.2.2.2.2.2.2.2 _ lk.1) (hts _ lk.2.2.1) hnm hrm1, hts _ lk.2.1, trivial⟩ ⟨px_blind, hpre⟩ rfl hln hl.1 (by rw [List.map_append, List.map_reverse]) (lv_room (by rw [px_cat]; exact hrm3)) (px_tS_ok q) hrm2) hS ?_
  intro r n' I' L' R' H1 locs1 hq hW1 hS1
  have h9 := kk r n' I' L' R' hq p l e s m args below meth c base cst D cid Z H1 locs1 lr X hW1 hS1 hl
  cases r <;> exact h9

theorem px_kIN {host : String} (q : px_tI M.2.1 pb idx = true) (lk : px_lIN M.1.cls idx M1 host) (hnm : px_nm M1 k) (hk : px_K M1 (.ref o :: As) n I L R Q1) (hs : st = As.reverse ++ .ref o :: rest) (hn : Nat.beq As.length k = true) (hrm : px_rk M M1 cu su rest = true)
    (kk : ∀ (r : Option Value) (n' : Nat) (I' : px_I) (L' : px_L) (R' : px_R), Q1 r n' I' L' R' → px M (cu + (px_room M1).cells) (su + (px_room M1).slots) (pb + 3) ls (r.toList ++ rest) n' I' L' R' Q) : px M cu su pb ls st n I L R Q := by
  intro p l e s m args below meth c base cst D cid Z H locs lr X hW hS hl
  subst hs
  obtain ⟨hrm1, hrm2, hrm3⟩ := px_rk_ok hrm
  obtain ⟨hx, hb, hml, hown, hts, hK, hbs, hC, -⟩ := id X
  have hpre : ∀ U : State, U.heap = H → s.WarmedH U.vm → px_Pc base cst D cid (.ref o :: As) n I L R (((.ref o :: As).map (px_v (px_ad base cst))).toArray) U := fun U hU hWm => ⟨rfl, by rw [hU]; exact hW, hK.moved hWm.alike, by rw [hU]; exact hC.go hS hWm hbs⟩
  have hln : (As.map (px_v (px_ad base cst))).length = k := by rw [List.length_map]; exact Nat.eq_of_beq_eq_true hn
  obtain ⟨y1, y2, y3, y4, y5, y6⟩ := lk
  refine px_runk (va_runIN (maxL := M1.2.2.1) (bytes := M1.2.1) (n := k) (b := px_ad base cst o) (As := As.map (px_v (px_ad base cst))) (rest := rest.map (px_v (px_ad base cst))) ⟨hx, hb, hml, hown, hts⟩ (hk l base cst D cid)
    ⟨va_cnB (ws' := px_T) k hts (px_good (by
      intro w hw
      rcases List.mem_cons.mp hw with rfl | hw; · exact y4
      exact hw)) (by rw [← y6]; rfl) rfl rfl (hC.2.2.2.2.2.2.2.2.2 _ y1) (hts _ y3) hnm hrm1, y5, hts _ y2⟩ ⟨px_blind, hpre⟩ rfl hln hl.1 (by rw [List.map_append, List.map_reverse]; rfl) (lv_room (by rw [px_cat]; exact hrm3)) (px_tI_ok q) hrm2) hS ?_
  intro r n' I' L' R' H1 locs1 hq hW1 hS1
  have h9 := kk r n' I' L' R' hq p l e s m args below meth c base cst D cid Z H1 locs1 lr X hW1 hS1 hl
  cases r <;> exact h9

end PXD