/-! arrays, and what is made anew, by numbers -/
section PXA
variable {p : Program} {l : Launch} {e : Env} {s : State} {m : MethodId} {args : Array Value} {below : List Frame} {meth : Method} {c : Code} {M : px_M} {base : Nat} {cst : Nat → Nat} {D : va_G} {cid : Nat → ClassId} {Z : State → Prop} {Q : px_Q} {H : Heap} {locs : List Loc} {lr : Array Slot} {cu su pc n : Nat} {I : px_I} {L : px_L} {R : px_R} {rest : List Value}
theorem px_one {D : va_G} {q : Nat × va_E} {H : Heap} (h : va_at D vwCl q H) : va_P D vwCl [q] H := fun j x hx => by
  have hj : j = 0 := by have := (List.getElem?_eq_some_iff.mp hx).1; simp at this; exact this
  subst hj; cases hx; exact h
theorem px_e20 (ad : Nat → Nat) (cid : Nat → ClassId) {sh : Nat × Nat × Int32} (h : sh.1 = 20) (I : Nat → Int32) (L : Nat → Int64) (R : Nat → Option Nat) : px_e ad cid sh I L R = .inl (cid 0, sh.2.1, .inl I) := by unfold px_e; rw [if_pos h]
theorem px_e21 (ad : Nat → Nat) (cid : Nat → ClassId) {sh : Nat × Nat × Int32} (h : sh.1 = 21) (I : Nat → Int32) (L : Nat → Int64) (R : Nat → Option Nat) : px_e ad cid sh I L R = .inl (cid 1, sh.2.1, .inr (.inl L)) := by unfold px_e; rw [if_neg (by omega), if_pos h]
theorem px_e22 (ad : Nat → Nat) (cid : Nat → ClassId) {sh : Nat × Nat × Int32} (h : sh.1 = 22) (I : Nat → Int32) (L : Nat → Int64) (R : Nat → Option Nat) : px_e ad cid sh I L R = .inl (cid 2, sh.2.1, .inl I) := by unfold px_e; rw [if_neg (by omega), if_neg (by omega), if_pos h]
theorem px_e23 (ad : Nat → Nat) (cid : Nat → ClassId) {sh : Nat × Nat × Int32} (h : sh.1 = 23) (I : Nat → Int32) (L : Nat → Int64) (R : Nat → Option Nat) : px_e ad cid sh I L R = .inl (cid 3, sh.2.1, .inl I) := by unfold px_e; rw [if_neg (by omega), if_neg (by omega), if_neg (by omega), if_pos h]
theorem px_e24 (ad : Nat → Nat) (cid : Nat → ClassId) {sh : Nat × Nat × Int32} (h : sh.1 = 24) (I : Nat → Int32) (L : Nat → Int64) (R : Nat → Option Nat) : px_e ad cid sh I L R = .inl (cid 4, sh.2.1, .inr (.inr (.inr (.inr fun i => (R i).map ad)))) := by unfold px_e; rw [if_neg (by omega), if_neg (by omega), if_neg (by omega), if_neg (by omega), if_pos h]
theorem px_bnd {o : Nat} {i : Int32} (hi : 0 ≤ i ∧ i < (px_sh o).2.2) : vp_in i (px_sh o).2.1 := px_inn hi (px_sh_ok o).1 (px_sh_ok o).2
theorem px_ild (X : px_X p l e s m args below meth c M base cst D cid Z Q) (hW : px_W base cst D cid n I L R H) {o : Nat} {i : Int32} (ho : 32 ≤ o) (hon : o < n) (hsh : (px_sh o).1 = 20) (hi : 0 ≤ i ∧ i < (px_sh o).2.2) (hdg : decode M.2.1 pc = .ok (.iaload, 1))
    (kk : W p l e (px_room M) s m args below meth c H locs cu su Z (F0 m (pc + 1) lr (.int (I o i.toNatClampNeg) :: rest))) : W p l e (px_room M) s m args below meth c H locs cu su Z (F0 m pc lr (.int i :: .ref (px_ad base cst o) :: rest)) := by
  obtain ⟨hx, hb, hml, hown, hts, hK, -⟩ := X
  have hat := hW.2.2 o ho hon
  rw [px_e20 _ _ hsh] at hat
  exact va_iald hx hb hK (px_one hat) 0 0 rfl rfl (px_bnd hi) hdg kk
theorem px_bld (X : px_X p l e s m args below meth c M base cst D cid Z Q) (hW : px_W base cst D cid n I L R H) {o : Nat} {i : Int32} (ho : 32 ≤ o) (hon : o < n) (hsh : (px_sh o).1 = 22 ∨ (px_sh o).1 = 23) (hi : 0 ≤ i ∧ i < (px_sh o).2.2) (hdg : decode M.2.1 pc = .ok (.baload, 1))
    (kk : W p l e (px_room M) s m args below meth c H locs cu su Z (F0 m (pc + 1) lr (.int (I o i.toNatClampNeg) :: rest))) : W p l e (px_room M) s m args below meth c H locs cu su Z (F0 m pc lr (.int i :: .ref (px_ad base cst o) :: rest)) := by
  obtain ⟨hx, hb, hml, hown, hts, hK, -⟩ := X
  have hat := hW.2.2 o ho hon
  rcases hsh with hsh | hsh
  · rw [px_e22 _ _ hsh] at hat
    exact va_bald hx hb hK (px_one hat) 0 2 rfl rfl (px_bnd hi) hdg kk
  · rw [px_e23 _ _ hsh] at hat
    exact va_zald hx hb hK (px_one hat) 0 3 rfl rfl (px_bnd hi) hdg kk
theorem px_lld (X : px_X p l e s m args below meth c M base cst D cid Z Q) (hW : px_W base cst D cid n I L R H) {o : Nat} {i : Int32} (ho : 32 ≤ o) (hon : o < n) (hsh : (px_sh o).1 = 21) (hi : 0 ≤ i ∧ i < (px_sh o).2.2) (hdg : decode M.2.1 pc = .ok (.laload, 1))
    (kk : W p l e (px_room M) s m args below meth c H locs cu su Z (F0 m (pc + 1) lr (.long (L o i.toNatClampNeg) :: rest))) : W p l e (px_room M) s m args below meth c H locs cu su Z (F0 m pc lr (.int i :: .ref (px_ad base cst o) :: rest)) := by
  obtain ⟨hx, hb, hml, hown, hts, hK, -⟩ := X
  have hat := hW.2.2 o ho hon
  rw [px_e21 _ _ hsh] at hat
  exact va_lald hx hb hK (px_one hat) 0 1 rfl rfl (px_bnd hi) hdg kk
theorem px_ald (X : px_X p l e s m args below meth c M base cst D cid Z Q) (hW : px_W base cst D cid n I L R H) {o : Nat} {i : Int32} (ho : 32 ≤ o) (hon : o < n) (hsh : (px_sh o).1 = 24) (hi : 0 ≤ i ∧ i < (px_sh o).2.2) (hdg : decode M.2.1 pc = .ok (.aaload, 1))
    (kk : W p l e (px_room M) s m args below meth c H locs cu su Z (F0 m (pc + 1) lr (va_rf ((R o i.toNatClampNeg).map (px_ad base cst)) :: rest))) : W p l e (px_room M) s m args below meth c H locs cu su Z (F0 m pc lr (.int i :: .ref (px_ad base cst o) :: rest)) := by
  obtain ⟨hx, hb, hml, hown, hts, hK, -⟩ := X
  have hat := hW.2.2 o ho hon
  rw [px_e24 _ _ hsh] at hat
  exact va_aldq hx hb hK (px_one hat) 0 4 rfl rfl (px_bnd hi) hdg kk
theorem px_updV {f : Nat → Int32} {k : Nat} {x : Int32} : updV (fun j => Value.int (f j)) k (.int x) = fun j => .int (upd f k x j) := by
  funext q
  by_cases hq : q = k
  · subst hq; simp [updV, upd]
  · simp [updV, upd, hq]
theorem px_ist (X : px_X p l e s m args below meth c M base cst D cid Z Q) (hW : px_W base cst D cid n I L R H) (hS : va_S (px_A base) s.heap H locs) {o : Nat} {i x : Int32} (ho : 32 ≤ o) (hon : o < n) (hsh : (px_sh o).1 = 20) (hi : 0 ≤ i ∧ i < (px_sh o).2.2) (hdg : decode M.2.1 pc = .ok (.iastore, 1))
    (kk : ∀ (H1 : Heap) (locs1 : List Loc), px_W base cst D cid n (px_u I o i.toNatClampNeg x) L R H1 → va_S (px_A base) s.heap H1 locs1 → W p l e (px_room M) s m args below meth c H1 locs1 cu su Z (F0 m (pc + 1) lr rest)) : W p l e (px_room M) s m args below meth c H locs cu su Z (F0 m pc lr (.int x :: .int i :: .ref (px_ad base cst o) :: rest)) := by
  obtain ⟨hx, hb, hml, hown, hts, hK, -⟩ := X
  have hat := hW.2.2 o ho hon
  rw [px_e20 _ _ hsh] at hat
  refine W.iast hx hb hat ((hK.2 0 _ rfl).1 _ (fun j => .int (I o j))) (fun q => by cases q) (by show ¬ (i < 0 ∨ (arrV _ _ _).slots.size ≤ _); rw [arrV_size]; exact px_bnd hi) rfl rfl hdg fun H1 e1 z oq => ?_
  refine kk H1 _ (hW.upd ho z oq (fun b hb => px_u_ne hb) (fun _ _ => rfl) (fun _ _ => rfl) ?_) (hS.put z oq (px_ad_in ho))
  rw [px_e20 _ _ hsh]
  show H1[_]? = some (vp_cell _ _)
  rw [e1, vp_cell_i, vp_cell_i, arrV_store, px_u_row, px_updV]
theorem px_bst (X : px_X p l e s m args below meth c M base cst D cid Z Q) (hW : px_W base cst D cid n I L R H) (hS : va_S (px_A base) s.heap H locs) {o : Nat} {i x : Int32} (ho : 32 ≤ o) (hon : o < n) (hsh : (px_sh o).1 = 22) (hi : 0 ≤ i ∧ i < (px_sh o).2.2) (hdg : decode M.2.1 pc = .ok (.bastore, 1))
    (kk : ∀ (H1 : Heap) (locs1 : List Loc), px_W base cst D cid n (px_u I o i.toNatClampNeg x.toInt8.toInt32) L R H1 → va_S (px_A base) s.heap H1 locs1 → W p l e (px_room M) s m args below meth c H1 locs1 cu su Z (F0 m (pc + 1) lr rest)) : W p l e (px_room M) s m args below meth c H locs cu su Z (F0 m pc lr (.int x :: .int i :: .ref (px_ad base cst o) :: rest)) := by
  obtain ⟨hx, hb, hml, hown, hts, hK, -⟩ := X
  have hat := hW.2.2 o ho hon
  rw [px_e22 _ _ hsh] at hat
  refine W.bast hx hb hat ((hK.2 2 _ rfl).1 _ (fun j => .int (I o j))) (fun q => by cases q) (by show ¬ (i < 0 ∨ (arrV _ _ _).slots.size ≤ _); rw [arrV_size]; exact px_bnd hi) rfl rfl hdg fun H1 e1 z oq => ?_
  refine kk H1 _ (hW.upd ho z oq (fun b hb => px_u_ne hb) (fun _ _ => rfl) (fun _ _ => rfl) ?_) (hS.put z oq (px_ad_in ho))
  rw [px_e22 _ _ hsh]
  show H1[_]? = some (vp_cell _ _)
  rw [e1, vp_cell_i, vp_cell_i, arrV_store, px_u_row]
  show some (arrV _ _ (updV _ _ (.int x.toInt8.toInt32))) = _
  rw [px_updV]
theorem px_zst (X : px_X p l e s m args below meth c M base cst D cid Z Q) (hW : px_W base cst D cid n I L R H) (hS : va_S (px_A base) s.heap H locs) {o : Nat} {i x : Int32} (ho : 32 ≤ o) (hon : o < n) (hsh : (px_sh o).1 = 23) (hi : 0 ≤ i ∧ i < (px_sh o).2.2) (hdg : decode M.2.1 pc = .ok (.bastore, 1))
    (kk : ∀ (H1 : Heap) (locs1 : List Loc), px_W base cst D cid n (px_u I o i.toNatClampNeg (x &&& 1)) L R H1 → va_S (px_A base) s.heap H1 locs1 → W p l e (px_room M) s m args below meth c H1 locs1 cu su Z (F0 m (pc + 1) lr rest)) : W p l e (px_room M) s m args below meth c H locs cu su Z (F0 m pc lr (.int x :: .int i :: .ref (px_ad base cst o) :: rest)) := by
  obtain ⟨hx, hb, hml, hown, hts, hK, -⟩ := X
  have hat := hW.2.2 o ho hon
  rw [px_e23 _ _ hsh] at hat
  refine W.zast hx hb hat ((hK.2 3 _ rfl).1 _ (fun j => .int (I o j))) (fun q => by cases q) (by show ¬ (i < 0 ∨ (arrV _ _ _).slots.size ≤ _); rw [arrV_size]; exact px_bnd hi) rfl rfl hdg fun H1 e1 z oq => ?_
  refine kk H1 _ (hW.upd ho z oq (fun b hb => px_u_ne hb) (fun _ _ => rfl) (fun _ _ => rfl) ?_) (hS.put z oq (px_ad_in ho))
  rw [px_e23 _ _ hsh]
  show H1[_]? = some (vp_cell _ _)
  rw [e1, vp_cell_i, vp_cell_i, arrV_store, px_u_row]
  show some (arrV _ _ (updV _ _ (.int (x &&& 1)))) = _
  rw [px_updV]
theorem px_lst (X : px_X p l e s m args below meth c M base cst D cid Z Q) (hW : px_W base cst D cid n I L R H) (hS : va_S (px_A base) s.heap H locs) {o : Nat} {i : Int32} {x : Int64} (ho : 32 ≤ o) (hon : o < n) (hsh : (px_sh o).1 = 21) (hi : 0 ≤ i ∧ i < (px_sh o).2.2) (hdg : decode M.2.1 pc = .ok (.lastore, 1))
    (kk : ∀ (H1 : Heap) (locs1 : List Loc), px_W base cst D cid n I (px_u L o i.toNatClampNeg x) R H1 → va_S (px_A base) s.heap H1 locs1 → W p l e (px_room M) s m args below meth c H1 locs1 cu su Z (F0 m (pc + 1) lr rest)) : W p l e (px_room M) s m args below meth c H locs cu su Z (F0 m pc lr (.long x :: .int i :: .ref (px_ad base cst o) :: rest)) := by
  obtain ⟨hx, hb, hml, hown, hts, hK, -⟩ := X
  have hat := hW.2.2 o ho hon
  rw [px_e21 _ _ hsh] at hat
  refine W.last hx hb hat ((hK.2 1 _ rfl).1 _ (fun j => .long (L o j))) (fun q => by cases q) (by show ¬ (i < 0 ∨ (arrV _ _ _).slots.size ≤ _); rw [arrV_size]; exact px_bnd hi) rfl rfl hdg fun H1 e1 z oq => ?_
  refine kk H1 _ (hW.upd ho z oq (fun _ _ => rfl) (fun b hb => px_u_ne hb) (fun _ _ => rfl) ?_) (hS.put z oq (px_ad_in ho))
  rw [px_e21 _ _ hsh]
  show H1[_]? = some (vp_cell _ _)
  rw [e1, vp_cell_l, vp_cell_l, arrV_store, px_u_rowL]
  congr 2
  funext q
  by_cases hq : q = i.toNatClampNeg
  · subst hq; simp [updV, vp_updL]
  · simp [updV, vp_updL, hq]
theorem px_ast (X : px_X p l e s m args below meth c M base cst D cid Z Q) (hW : px_W base cst D cid n I L R H) (hS : va_S (px_A base) s.heap H locs) {o w : Nat} {i : Int32} (ho : 32 ≤ o) (hon : o < n) (hsh : (px_sh o).1 = 24) (hw : 32 ≤ w) (hwn : w < n) (hshw : (px_sh w).1 = 10) (hi : 0 ≤ i ∧ i < (px_sh o).2.2) (hdg : decode M.2.1 pc = .ok (.aastore, 1))
    (kk : ∀ (H1 : Heap) (locs1 : List Loc), px_W base cst D cid n I L (px_u R o i.toNatClampNeg (some w)) H1 → va_S (px_A base) s.heap H1 locs1 → W p l e (px_room M) s m args below meth c H1 locs1 cu su Z (F0 m (pc + 1) lr rest)) : W p l e (px_room M) s m args below meth c H locs cu su Z (F0 m pc lr (.ref (px_ad base cst w) :: .int i :: .ref (px_ad base cst o) :: rest)) := by
  obtain ⟨hx, hb, hml, hown, hts, hK, -⟩ := X
  have hat := hW.2.2 o ho hon
  rw [px_e24 _ _ hsh] at hat
  have hav := hW.2.2 w hw hwn
  rw [px_e_obj _ _ (by rw [hshw]; decide), hshw] at hav
  have hin := px_bnd hi
  have hlt : i.toNatClampNeg < (px_sh o).2.1 := Nat.not_le.mp fun q => hin (Or.inr q)
  have h0 : ¬ i < 0 := fun q => hin (Or.inl q)
  obtain ⟨r', hr', cellV, g1, g2, g3, -⟩ := hav
  have hcls := (hK.1 10 _ rfl).2
  obtain ⟨kA, comp, k1, k2, k3, -⟩ := (hK.2 4 _ rfl).2
  have hcomp : comp = D.1 10 := Option.some.inj (k3.symm.trans hcls.1)
  subst hcomp
  obtain ⟨kC, hkC, -⟩ := hcls.2
  refine W.aast hx hb hat (fun q h => by cases h) (fun h => by cases h) k1 k2 rfl hkC ⟨h0, by show _ < (arrV _ _ _).slots.size; rw [arrV_size]; exact hlt⟩ g1 (fun q h => by rw [g3] at h; cases h) (by rw [g2]; exact hkC) (by rw [g2]; exact va_assign hcls) rfl rfl hdg fun H1 e1 z oq => ?_
  refine kk H1 _ (hW.upd ho z oq (fun _ _ => rfl) (fun _ _ => rfl) (fun b hb => px_u_ne hb) ?_) (hS.put z oq (px_ad_in ho))
  rw [px_e24 _ _ hsh]
  show H1[_]? = some (vp_cell _ _)
  rw [e1, vp_cell_q, vp_cell_q, arrV_store]
  congr 2
  funext q
  by_cases hq : q = i.toNatClampNeg
  · subst hq; simp [updV, px_u, va_rf]
  · simp [updV, px_u, hq]
theorem px_ty_ok : ∀ ci, ci < 13 → ∀ k, k < px_Nf ci → ((px_ty ci k == .int) || (px_ty ci k == .long) || (px_ty ci k == .boolean) || (match px_ty ci k with | .object _ => true | .array _ => true | _ => false)) = true := by decide +kernel
theorem px_dft {ci k : Nat} (hc : ci < 13) (hk : k < px_Nf ci) (ad : Nat → Nat) : px_fv ad (px_ft ci k) 0 0 none = defaultValue (px_ty ci k) := by
  have h := px_ty_ok ci hc k hk
  unfold px_ft
  cases ht : px_ty ci k <;> rw [ht] at h <;> first | rfl | exact absurd h (by decide)
theorem px_new (X : px_X p l e s m args below meth c M base cst D cid Z Q) (hW : px_W base cst D cid n I L R H) (hS : va_S (px_A base) s.heap H locs) {ci idx : Nat} (hf : (M.1.cls, idx, ci) ∈ px_tn) (hsh : (px_sh n).1 = ci) (hcu : cu + 1 ≤ (px_room M).cells) (hsu : su + px_Nf ci ≤ (px_room M).slots) (hdg : decode M.2.1 pc = .ok (.new idx, 3))
    (kk : ∀ (H1 : Heap), px_W base cst D cid (n + 1) (px_w I n (fun _ => 0)) (px_w L n (fun _ => 0)) (px_w R n (fun _ => none)) H1 → va_S (px_A base) s.heap H1 locs → W p l e (px_room M) s m args below meth c H1 locs (cu + 1) (su + px_Nf ci) Z (F0 m (pc + 3) lr (.ref (px_ad base cst n) :: rest))) : W p l e (px_room M) s m args below meth c H locs cu su Z (F0 m pc lr rest) := by
  obtain ⟨hx, hb, hml, hown, hts, hK, hbs, -⟩ := X
  have hci := px_tn_lt _ hf
  have hKn := hK.1 ci _ (px_cl_at ci hci)
  refine W.newcK hx hb hown (hts _ (px_tn_in _ hf)) (hts _ (px_in_ok ci hci).1) (hts _ (px_in_ok ci hci).2) rfl hdg hcu hsu hKn.2.1 rfl fun H1 kC hkC e1 z1 o1 => ?_
  refine W.eq (g2 := F0 m (pc + 3) lr (.ref (px_ad base cst n) :: rest)) (by rw [px_adn hW]) (kk H1 (hW.push z1 o1 (fun b hb => px_w_ne hb) (fun b hb => px_w_ne hb) (fun b hb => px_w_ne hb) ?_) ⟨Nat.le_trans hS.1 (by omega), fun x h1 h2 => (o1 x (Nat.lt_of_lt_of_le h1 hS.1)).trans (hS.2.1 x h1 h2), hS.2.2⟩)
  rw [px_e_obj _ _ (by rw [hsh]; exact hci), hsh, px_w_at, px_w_at, px_w_at]
  refine ⟨_, px_cl_at ci hci, (u_born (px_ty ci) hts (px_cl_in ci hci) hKn hkC e1 (px_cl_ty ci hci)).to fun j hj => ?_⟩
  show _ = vp_V _ j
  unfold vp_V
  rw [List.getD_eq_getElem?_getD, px_fs_at _ hj, px_dft hci hj]
  rfl
theorem px_tyid (X : px_X p l e s m args below meth c M base cst D cid Z Q) {t0 : Nat} {ty : FieldType} {cA : ClassId} (ht : (px_tys cid)[t0]? = some (cid t0, ty)) (hp : ∀ C, ty ≠ .object C) (h : s.vm.findClass ("[" ++ ty.toString) = some cA) : cA = cid t0 := by
  obtain ⟨-, -, -, -, -, hK, -⟩ := X
  have h1 := (hK.2 t0 _ ht).2
  cases ty with
  | object C => exact absurd rfl (hp C)
  | _ => exact Option.some.inj (h.symm.trans h1)
theorem px_nwa (X : px_X p l e s m args below meth c M base cst D cid Z Q) (hW : px_W base cst D cid n I L R H) (hS : va_S (px_A base) s.heap H locs) {at_ : ArrayType} {t0 N : Nat} {x : Int32} (hat : (at_ = .int ∧ t0 = 0 ∧ (px_sh n).1 = 20) ∨ (at_ = .long ∧ t0 = 1 ∧ (px_sh n).1 = 21) ∨ (at_ = .byte ∧ t0 = 2 ∧ (px_sh n).1 = 22) ∨ (at_ = .boolean ∧ t0 = 3 ∧ (px_sh n).1 = 23)) (hN : (px_sh n).2.1 = N) (hx0 : x = Int32.ofNat N) (hcu : cu + 1 ≤ (px_room M).cells) (hsu : su + N ≤ (px_room M).slots) (hdg : decode M.2.1 pc = .ok (.newarray at_, 2))
    (kk : ∀ (H1 : Heap), px_W base cst D cid (n + 1) (px_w I n (fun _ => 0)) (px_w L n (fun _ => 0)) (px_w R n (fun _ => none)) H1 → va_S (px_A base) s.heap H1 locs → W p l e (px_room M) s m args below meth c H1 locs (cu + 1) (su + N) Z (F0 m (pc + 2) lr (.ref (px_ad base cst n) :: rest))) : W p l e (px_room M) s m args below meth c H locs cu su Z (F0 m pc lr (.int x :: rest)) := by
  obtain ⟨hx, hb, hml, hown, hts, hK, hbs, -⟩ := id X
  have hlt : N < 2000 := by rw [← hN]; exact (px_sh_ok n).2
  have hn0 : ¬ x < 0 := by rw [hx0]; exact nI_pos (by omega)
  have hcl : x.toNatClampNeg = N := by rw [hx0]; exact nI_clamp (by omega)
  have fin : ∀ (H1 : Heap) (cA : ClassId), cA = cid t0 → H1[H.size]? = some (arrV cA N (fun _ => defaultValue (newarray.typeOf at_))) → H1.size = H.size + 1 → (∀ q, q < H.size → H1[q]? = H[q]?) → W p l e (px_room M) s m args below meth c H1 locs (cu + 1) (su + N) Z (F0 m (pc + 2) lr (.ref H.size :: rest)) := by
    intro H1 cA hcA e1 z1 o1
    rw [← px_adn hW]
    refine kk H1 (hW.push z1 o1 (fun b hb => px_w_ne hb) (fun b hb => px_w_ne hb) (fun b hb => px_w_ne hb) ?_) ⟨Nat.le_trans hS.1 (by omega), fun x h1 h2 => (o1 x (Nat.lt_of_lt_of_le h1 hS.1)).trans (hS.2.1 x h1 h2), hS.2.2⟩
    rw [px_w_at, px_w_at, px_w_at]
    subst hcA
    rcases hat with ⟨rfl, rfl, hsh⟩ | ⟨rfl, rfl, hsh⟩ | ⟨rfl, rfl, hsh⟩ | ⟨rfl, rfl, hsh⟩
    · rw [px_e20 _ _ hsh, hN]; exact e1
    · rw [px_e21 _ _ hsh, hN]; exact e1
    · rw [px_e22 _ _ hsh, hN]; exact e1
    · rw [px_e23 _ _ hsh, hN]; exact e1
  have hac : (Cond.arrayClass (newarray.typeOf at_)).before args s = true := by
    rcases hat with ⟨rfl, -⟩ | ⟨rfl, -⟩ | ⟨rfl, -⟩ | ⟨rfl, -⟩
    · exact hts _ px_ac_int
    · exact hts _ px_ac_long
    · exact hts _ px_ac_byte
    · exact hts _ px_ac_boolean
  have hcb : N * componentBytes (newarray.typeOf at_) ≤ 536870912 := by
    rcases hat with ⟨rfl, -⟩ | ⟨rfl, -⟩ | ⟨rfl, -⟩ | ⟨rfl, -⟩
    · show N * 4 ≤ _; omega
    · show N * 8 ≤ _; omega
    · show N * 1 ≤ _; omega
    · show N * 1 ≤ _; omega
  refine va_newaK hx hb hac rfl hdg rfl hn0 hcl hcb hcu hsu rfl fun H1 cA e1 z1 o1 hAr hNm => fin H1 cA ?_ e1 z1 o1
  rcases hat with ⟨rfl, rfl, -⟩ | ⟨rfl, rfl, -⟩ | ⟨rfl, rfl, -⟩ | ⟨rfl, rfl, -⟩
  · exact px_tyid X (t0 := 0) (ty := .int) rfl (fun _ h => by cases h) hNm
  · exact px_tyid X (t0 := 1) (ty := .long) rfl (fun _ h => by cases h) hNm
  · exact px_tyid X (t0 := 2) (ty := .byte) rfl (fun _ h => by cases h) hNm
  · exact px_tyid X (t0 := 3) (ty := .boolean) rfl (fun _ h => by cases h) hNm
theorem px_nwr (X : px_X p l e s m args below meth c M base cst D cid Z Q) (hW : px_W base cst D cid n I L R H) (hS : va_S (px_A base) s.heap H locs) {N idx : Nat} {x : Int32} (hf : (M.1.cls, idx, 10) ∈ px_tn) (hsh : (px_sh n).1 = 24) (hN : (px_sh n).2.1 = N) (hx0 : x = Int32.ofNat N) (hcu : cu + 1 ≤ (px_room M).cells) (hsu : su + N ≤ (px_room M).slots) (hdg : decode M.2.1 pc = .ok (.anewarray idx, 3))
    (kk : ∀ (H1 : Heap), px_W base cst D cid (n + 1) (px_w I n (fun _ => 0)) (px_w L n (fun _ => 0)) (px_w R n (fun _ => none)) H1 → va_S (px_A base) s.heap H1 locs → W p l e (px_room M) s m args below meth c H1 locs (cu + 1) (su + N) Z (F0 m (pc + 3) lr (.ref (px_ad base cst n) :: rest))) : W p l e (px_room M) s m args below meth c H locs cu su Z (F0 m pc lr (.int x :: rest)) := by
  obtain ⟨hx, hb, hml, hown, hts, hK, hbs, hC, -⟩ := id X
  have hlt : N < 2000 := by rw [← hN]; exact (px_sh_ok n).2
  have hn0 : ¬ x < 0 := by rw [hx0]; exact nI_pos (by omega)
  have hcl : x.toNatClampNeg = N := by rw [hx0]; exact nI_clamp (by omega)
  refine W.anew hx hb hown (hts _ (px_tn_in _ hf)) (va_AO.use hC.2.2.2.2.2.2.2.2.1) rfl hdg rfl hn0 (by rw [hcl]; omega) hcu (by rw [hcl]; exact hsu) fun cA kA comp f1 f2 f3 f4 => ?_
  rw [hcl]
  generalize hH1 : H.push ({ cls := cA, slots := Array.replicate N .null, vm := .none } : Cell) = H1
  have z1 : H1.size = H.size + 1 := by rw [← hH1, Array.size_push]
  have e1 : H1[H.size]? = some (arrV cA N (fun _ => .null)) := by rw [← hH1, Array.getElem?_push_size, ← arrV_new]
  have o1 : ∀ q : Nat, q < H.size → H1[q]? = H[q]? := fun q hq => by rw [← hH1, Array.getElem?_push, if_neg (Nat.ne_of_lt hq)]
  have hcA : cA = cid 4 := by
    obtain ⟨_, _, -, -, -, h4⟩ := (hK.2 4 _ rfl).2
    exact Option.some.inj (f1.symm.trans h4)
  subst hcA
  refine W.eq (g2 := F0 m (pc + 3) lr (.ref (px_ad base cst n) :: rest)) (by rw [px_adn hW]) (kk H1 (hW.push z1 o1 (fun b hb => px_w_ne hb) (fun b hb => px_w_ne hb) (fun b hb => px_w_ne hb) ?_) ⟨Nat.le_trans hS.1 (by omega), fun x h1 h2 => (o1 x (Nat.lt_of_lt_of_le h1 hS.1)).trans (hS.2.1 x h1 h2), hS.2.2⟩)
  rw [px_e24 _ _ hsh, hN, px_w_at]
  exact e1
end PXA
