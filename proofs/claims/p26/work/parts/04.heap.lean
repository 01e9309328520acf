/-! what fields and arrays do, by numbers -/
theorem px_sh_ok : ∀ k : Nat, (px_sh k).2.2 = Int32.ofNat (px_sh k).2.1 ∧ (px_sh k).2.1 < 2000 := by
  have h0 : ∀ k, k < 160 → (px_sh k).2.2 = Int32.ofNat (px_sh k).2.1 ∧ (px_sh k).2.1 < 2000 := by decide +kernel
  intro k
  by_cases hk : k < 160
  · exact h0 k hk
  · have h1 : px_nth px_shL (k / 16) [] = [] := by
      have : ∀ (j : Nat), px_nth px_shL (j + 10) [] = [] := fun _ => rfl
      rw [show k / 16 = (k / 16 - 10) + 10 by omega]; exact this _
    have h2 : ∀ (j : Nat) (d : Nat × Nat × Int32), px_nth [] j d = d := fun j d => by cases j <;> rfl
    have e : px_sh k = (bif Nat.beq ((k - 147) % 3) 0 then (10, 4, 4) else (20, 200, 200)) := by unfold px_sh; rw [h1, h2]
    rw [e]
    cases Nat.beq ((k - 147) % 3) 0 <;> decide
/-- within an array of N places -/
theorem px_inn {i NI : Int32} {N : Nat} (h : 0 ≤ i ∧ i < NI) (hN : NI = Int32.ofNat N) (hlt : N < 2000) : vp_in i N := by
  refine vp_in_iff.mpr ?_
  obtain ⟨h1, h2⟩ := h
  have h1 := Int32.le_iff_toInt_le.mp h1
  have h2 := Int32.lt_iff_toInt_lt.mp h2
  rw [hN, Int32.toInt_ofNat_of_lt (by omega)] at h2
  exact ⟨by simpa using h1, h2⟩
theorem px_fs_at (ad : Nat → Nat) {ci k : Nat} (hk : k < px_Nf ci) (I : Nat → Int32) (L : Nat → Int64) (R : Nat → Option Nat) : (px_fs ad ci I L R)[k]? = some (px_fv ad (px_ft ci k) (I k) (L k) (R k)) := by
  simp [px_fs, hk]
theorem px_fs_set (ad : Nat → Nat) {ci k : Nat} (hk : k < px_Nf ci) {I I' : Nat → Int32} {L L' : Nat → Int64} {R R' : Nat → Option Nat} {v : Value} (hv : px_fv ad (px_ft ci k) (I' k) (L' k) (R' k) = v)
    (h1 : ∀ j, j ≠ k → I' j = I j) (h2 : ∀ j, j ≠ k → L' j = L j) (h3 : ∀ j, j ≠ k → R' j = R j) : (px_fs ad ci I L R).set k v = px_fs ad ci I' L' R' := by
  apply List.ext_getElem?
  intro j
  by_cases hj : j = k
  · subst hj
    rw [List.getElem?_set_self (by simpa [px_fs] using hk), px_fs_at ad hk, hv]
  · rw [List.getElem?_set_ne (Ne.symm hj)]
    simp only [px_fs, List.getElem?_map]
    cases hq : (List.range (px_Nf ci))[j]? with
    | none => rfl
    | some x =>
      have hx : x = j := by
        have := List.getElem?_eq_some_iff.mp hq
        obtain ⟨h4, h5⟩ := this
        rw [List.getElem_range] at h5; exact h5.symm
      subst hx
      simp only [Option.map_some, h1 x hj, h2 x hj, h3 x hj]
theorem px_e_obj (ad : Nat → Nat) (cid : Nat → ClassId) {sh : Nat × Nat × Int32} (h : sh.1 < 13) (I : Nat → Int32) (L : Nat → Int64) (R : Nat → Option Nat) : px_e ad cid sh I L R = .inr (sh.1, px_fs ad sh.1 I L R) := by
  unfold px_e
  rw [if_neg (by omega), if_neg (by omega), if_neg (by omega), if_neg (by omega), if_neg (by omega)]
theorem px_ad_inj {base : Nat} {cst : Nat → Nat} {a b : Nat} (ha : 32 ≤ a) (hb : 32 ≤ b) (h : px_ad base cst a = px_ad base cst b) : a = b := by
  unfold px_ad at h
  rw [if_neg (by omega), if_neg (by omega)] at h
  omega
theorem px_ad_in {base : Nat} {cst : Nat → Nat} {a : Nat} (ha : 32 ≤ a) : px_A base (px_ad base cst a) := by
  unfold px_A px_ad
  rw [if_neg (by omega)]
  omega
/-- one number's contents change -/
theorem px_W.upd {base : Nat} {cst : Nat → Nat} {D : va_G} {cid : Nat → ClassId} {n : Nat} {I I' : px_I} {L L' : px_L} {R R' : px_R} {H H1 : Heap} (h : px_W base cst D cid n I L R H) {o : Nat} (ho : 32 ≤ o)
    (hz : H1.size = H.size) (oq : ∀ q : Nat, q ≠ px_ad base cst o → H1[q]? = H[q]?) (hI : ∀ b, b ≠ o → I' b = I b) (hL : ∀ b, b ≠ o → L' b = L b) (hR : ∀ b, b ≠ o → R' b = R b)
    (ha : va_at D vwCl (px_ad base cst o, px_e (px_ad base cst) cid (px_sh o) (I' o) (L' o) (R' o)) H1) : px_W base cst D cid n I' L' R' H1 := by
  refine ⟨by rw [hz]; exact h.1, h.2.1, fun k h1 h2 => ?_⟩
  by_cases hk : k = o
  · subst hk; exact ha
  · rw [hI k hk, hL k hk, hR k hk]
    exact (h.2.2 k h1 h2).kept (oq _ (fun q => hk (px_ad_inj h1 ho q)))
/-- a new number -/
theorem px_W.push {base : Nat} {cst : Nat → Nat} {D : va_G} {cid : Nat → ClassId} {n : Nat} {I I' : px_I} {L L' : px_L} {R R' : px_R} {H H1 : Heap} (h : px_W base cst D cid n I L R H)
    (hz : H1.size = H.size + 1) (oq : ∀ q : Nat, q < H.size → H1[q]? = H[q]?) (hI : ∀ b, b ≠ n → I' b = I b) (hL : ∀ b, b ≠ n → L' b = L b) (hR : ∀ b, b ≠ n → R' b = R b)
    (ha : va_at D vwCl (H.size, px_e (px_ad base cst) cid (px_sh n) (I' n) (L' n) (R' n)) H1) : px_W base cst D cid (n + 1) I' L' R' H1 := by
  obtain ⟨g1, g2, g3⟩ := h
  refine ⟨by omega, by omega, fun k h1 h2 => ?_⟩
  by_cases hk : k = n
  · subst hk
    rw [show px_ad base cst k = H.size by unfold px_ad; rw [if_neg (by omega)]; omega]
    exact ha
  · rw [hI k hk, hL k hk, hR k hk]
    exact (g3 k h1 (by omega)).kept (oq _ (g3 k h1 (by omega)).lt)
theorem px_adn {base : Nat} {cst : Nat → Nat} {D : va_G} {cid : Nat → ClassId} {n : Nat} {I : px_I} {L : px_L} {R : px_R} {H : Heap} (h : px_W base cst D cid n I L R H) : px_ad base cst n = H.size := by
  obtain ⟨g1, g2, g3⟩ := h
  unfold px_ad; rw [if_neg (by omega)]; omega
/-- a place of a number gets a value -/
def px_u {α : Type} (f : Nat → Nat → α) (a k : Nat) (v : α) : Nat → Nat → α := fun b j => if b = a then (if j = k then v else f b j) else f b j
theorem px_u_ne {α : Type} {f : Nat → Nat → α} {a k : Nat} {v : α} {b : Nat} (h : b ≠ a) : px_u f a k v b = f b := by funext j; simp [px_u, h]
theorem px_u_at {α : Type} {f : Nat → Nat → α} {a k : Nat} {v : α} : px_u f a k v a k = v := by simp [px_u]
theorem px_u_at_ne {α : Type} {f : Nat → Nat → α} {a k : Nat} {v : α} {j : Nat} (h : j ≠ k) : px_u f a k v a j = f a j := by simp [px_u, h]
theorem px_u_row {f : Nat → Nat → Int32} {a k : Nat} {v : Int32} : px_u f a k v a = upd (f a) k v := by funext j; simp [px_u, upd]
theorem px_u_rowL {f : Nat → Nat → Int64} {a k : Nat} {v : Int64} : px_u f a k v a = vp_updL (f a) k v := by funext j; simp [px_u, vp_updL]
/-- a whole row -/
def px_w {α : Type} (f : Nat → Nat → α) (a : Nat) (g : Nat → α) : Nat → Nat → α := fun b => if b = a then g else f b
theorem px_w_ne {α : Type} {f : Nat → Nat → α} {a : Nat} {g : Nat → α} {b : Nat} (h : b ≠ a) : px_w f a g b = f b := by simp [px_w, h]
theorem px_w_at {α : Type} {f : Nat → Nat → α} {a : Nat} {g : Nat → α} : px_w f a g a = g := by simp [px_w]
section PXH
variable {p : Program} {l : Launch} {e : Env} {s : State} {m : MethodId} {args : Array Value} {below : List Frame} {meth : Method} {c : Code} {M : px_M} {base : Nat} {cst : Nat → Nat} {D : va_G} {cid : Nat → ClassId} {Z : State → Prop} {Q : px_Q} {H : Heap} {locs : List Loc} {lr : Array Slot} {cu su pc n : Nat} {I : px_I} {L : px_L} {R : px_R} {rest : List Value}
theorem px_tf_ok {own idx ci k : Nat} (hf : (own, idx, ci, k) ∈ px_tf) : ci < 13 ∧ k < px_Nf ci ∧ Cond.fieldLink (px_Rn own) idx (px_Tf ci k).1 (px_Tf ci k).2.1 (px_Tf ci k).2.2.1 ∈ px_T := ⟨(px_tf_lt _ hf).1, (px_tf_lt _ hf).2, px_tf_in _ hf⟩
theorem px_get (X : px_X p l e s m args below meth c M base cst D cid Z Q) (hW : px_W base cst D cid n I L R H) {on o ci k idx : Nat} (hon1 : M.1.cls = px_Rn on) (hf : (on, idx, ci, k) ∈ px_tf) (ho : 32 ≤ o) (hon : o < n) (hsh : (px_sh o).1 = ci) (hdg : decode M.2.1 pc = .ok (.getfield idx, 3))
    (kk : W p l e (px_room M) s m args below meth c H locs cu su Z (F0 m (pc + 3) lr (px_fv (px_ad base cst) (px_ft ci k) (I o k) (L o k) (R o k) :: rest))) : W p l e (px_room M) s m args below meth c H locs cu su Z (F0 m pc lr (.ref (px_ad base cst o) :: rest)) := by
  obtain ⟨hx, hb, hml, hown, hts, hK, hbs, hC, hin, -⟩ := X
  obtain ⟨hci, hk, hw⟩ := px_tf_ok hf
  rw [← hon1] at hw
  have hat := hW.2.2 o ho hon
  rw [px_e_obj _ _ (by rw [hsh]; exact hci), hsh] at hat
  exact va_get (D := D) (cl := vwCl) (ws := [(px_ad base cst o, .inr (ci, px_fs (px_ad base cst) ci (I o) (L o) (R o)))]) (ref := (px_Tf ci k).1) hx hb hts (px_cl_in ci hci) hown hK (fun j q h => by
    have hj : j = 0 := by have := (List.getElem?_eq_some_iff.mp h).1; simp at this; exact this
    subst hj; cases h; exact hat) 0 rfl (px_cl_at ci hci) k hk (hts _ hw) (fun _ h => h) (px_fs_at _ hk _ _ _) hdg kk
theorem px_put (X : px_X p l e s m args below meth c M base cst D cid Z Q) (hW : px_W base cst D cid n I L R H) (hS : va_S (px_A base) s.heap H locs) {on o ci k idx : Nat} (hon1 : M.1.cls = px_Rn on) (hf : (on, idx, ci, k) ∈ px_tf) (ho : 32 ≤ o) (hon : o < n) (hsh : (px_sh o).1 = ci) (hdg : decode M.2.1 pc = .ok (.putfield idx, 3))
    (hfin : (px_Tf ci k).2.2.2 = false ∨ ((px_Tf ci k).2.2.2 = true ∧ M.1.name = "<init>" ∧ (px_Tf ci k).1 = M.1.cls)) {I' : px_I} {L' : px_L} {R' : px_R} (hI : ∀ b, b ≠ o → I' b = I b) (hL : ∀ b, b ≠ o → L' b = L b) (hR : ∀ b, b ≠ o → R' b = R b)
    (hI2 : ∀ j, j ≠ k → I' o j = I o j) (hL2 : ∀ j, j ≠ k → L' o j = L o j) (hR2 : ∀ j, j ≠ k → R' o j = R o j) {v : Value} (hv : px_fv (px_ad base cst) (px_ft ci k) (I' o k) (L' o k) (R' o k) = v) (hn : narrow (px_ty ci k) v = v) (hfit : fits (px_ty ci k) v = true)
    (kk : ∀ (H1 : Heap) (locs1 : List Loc), px_W base cst D cid n I' L' R' H1 → va_S (px_A base) s.heap H1 locs1 → W p l e (px_room M) s m args below meth c H1 locs1 cu su Z (F0 m (pc + 3) lr rest)) : W p l e (px_room M) s m args below meth c H locs cu su Z (F0 m pc lr (v :: .ref (px_ad base cst o) :: rest)) := by
  obtain ⟨hx, hb, hml, hown, hts, hK, hbs, hC, hin, -⟩ := X
  obtain ⟨hci, hk, hw⟩ := px_tf_ok hf
  rw [← hon1] at hw
  have hat := hW.2.2 o ho hon
  rw [px_e_obj _ _ (by rw [hsh]; exact hci), hsh] at hat
  obtain ⟨r, h1, cell, q1, q2, q3, q4⟩ := hat
  have hr : r = (px_Rn ci, px_Tf ci, px_Nf ci) := Option.some.inj (h1.symm.trans (px_cl_at ci hci))
  subst hr
  have hKn := hK.1 ci _ (px_cl_at ci hci)
  have hap : ∀ x y, x < px_Nf ci → y < px_Nf ci → x ≠ y → (D.2 ci) x ≠ (D.2 ci) y := va_apart (own := M.1.cls) hts (px_cl_in ci hci) (px_ty ci) (px_cl_ty ci hci) (px_cl_nm ci hci) hK (px_cl_at ci hci)
  obtain ⟨hSl, hfc, kC, hkC, hkind⟩ := hKn
  obtain ⟨cf, kf, fi, f, hi, hsl⟩ := hSl k hk
  have hlay := hts _ (px_cl_in ci hci _ (u_in_lay hk))
  unfold u_lay at hlay
  have hst := (u_facts hfc hkC (u_lays hts (px_cl_in ci hci) hk) hi).1
  have fin : ∀ (H1 : Heap) (locs1 : List Loc), H1[px_ad base cst o]? = some (cell.setSlot f.slot v) → H1.size = H.size → (∀ q, q ≠ px_ad base cst o → H1[q]? = H[q]?) → va_S (px_A base) s.heap H1 locs1 → W p l e (px_room M) s m args below meth c H1 locs1 cu su Z (F0 m (pc + 3) lr rest) := by
    intro H1 locs1 e1 e2 e3 e4
    refine kk H1 locs1 (hW.upd ho e2 e3 hI hL hR ?_) e4
    rw [px_e_obj _ _ (by rw [hsh]; exact hci), hsh, ← px_fs_set (px_ad base cst) hk hv hI2 hL2 hR2]
    rw [hsl] at e1
    exact ⟨_, px_cl_at ci hci, t_OB.to (V := updV (vp_V (px_fs (px_ad base cst) ci (I o) (L o) (R o))) k v) ⟨_, e1, q2, q3, t_set q4 hap hk v⟩ (fun j _ => vp_updV_set (by simpa [px_fs] using hk) v j)⟩
  rcases hfin with hfin | ⟨hfin, hin2, hdecl⟩
  · rw [if_neg (by rw [hfin]; decide)] at hlay
    have h6 := u_store hfc hkC hkind hlay hi (px_cl_ty ci hci k hk) hn hfit
    exact W.putK hx hb (f := f) ⟨hown, hts _ hw, ⟨_, _, _, hi⟩, hst⟩ (by rw [q2]; exact h6) q1 q3 (by rw [hsl]; exact k2_hasslot (q4 k hk)) rfl rfl hdg fun H' e1 e2 e3 => fin H' _ e1 e2 e3 (hS.put e2 e3 (px_ad_in ho))
  · rw [if_pos hfin] at hlay
    have hcf : m.cls = cf := by
      obtain ⟨_, _, c', _, _, _, -, -, hf', -, -, -, hown2, -⟩ := Cond.laysFinal_spec hlay
      have e1 : c' = cf := by have := hi.symm.trans hf'; simp at this; exact this.1.symm
      rw [hdecl] at hown2
      rw [← e1]; exact Option.some.inj (hown.symm.trans hown2)
    have h6 := u_fits hfc hkC hkind (Or.inr hlay) hi (px_cl_ty ci hci k hk) hn hfit
    exact W.putFinK hx hb hown (hts _ hw) hi hst hcf (hin hin2) (by rw [q2]; exact h6) q1 q3 (by rw [hsl]; exact k2_hasslot (q4 k hk)) rfl rfl hdg fun H' e1 e2 e3 => fin H' _ e1 e2 e3 (hS.put e2 e3 (px_ad_in ho))
end PXH
