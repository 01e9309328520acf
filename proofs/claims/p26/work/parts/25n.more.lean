/-! more: calls that change anything, references put into fields and rows -/
section PXN
variable {on n cu su pc pb idx k : Nat} {R : px_R} {M M1 : px_M} {Q : px_Q} {xs : List px_o} {ls ls' : px_Ls} {st st' : List Value} {I I' : px_I} {L L' : px_L} {P' : Prop} {As rest : List Value} {o ci : Nat}
theorem px_cVG {Q1 : px_Q} (hon : M.1.cls = px_Rn on) (q : px_bk on M.2.2.1 M.2.1 pc xs = some pb ∧ px_tv M.2.1 pb idx = true) (hg : px_G n R) (he : px_ex px_nb n R xs ls st I L True = some (P', ls', st', I', L')) (hP : P')
    (lk : px_lV M.1.cls idx M1) (hnm : px_nm M1 k) (hk : px_K M1 (.ref o :: As) n I' L' R Q1) (hs : st' = As.reverse ++ .ref o :: rest) (hn : Nat.beq As.length k = true) (ho : px_is n o ci) (hrc : M1.1.cls = px_Rn ci) (hci : Nat.blt ci 13 = true) (hrm : px_rk M M1 cu su rest = true)
    (kk : ∀ (r : Option Value) (n2 : Nat) (I2 : px_I) (L2 : px_L) (R2 : px_R), Q1 r n2 I2 L2 R2 → px M (cu + (px_room M1).cells) (su + (px_room M1).slots) (pb + 3) ls' (r.toList ++ rest) n2 I2 L2 R2 Q) : px M cu su pc ls st n I L R Q :=
  px_b hon q.1 hg he hP (px_kV q.2 lk hnm hk hs hn ho hrc hci hrm kk)
/-- a reference into a field -/
def px_dpf (cc : ByteArray) (pb idx : Nat) : Bool := match decode cc pb with
  | .ok (.putfield i, 3) => Nat.beq i idx
  | _ => false
theorem px_dpf_ok {cc : ByteArray} {pb idx : Nat} (h : px_dpf cc pb idx = true) : decode cc pb = .ok (.putfield idx, 3) := by
  unfold px_dpf at h
  split at h
  · rename_i i hd; rw [hd, Nat.eq_of_beq_eq_true h]
  · cases h
theorem px_pR {kf v : Nat} (hon : M.1.cls = px_Rn on) (q : px_bk on M.2.2.1 M.2.1 pc xs = some pb ∧ px_dpf M.2.1 pb idx = true) (hg : px_G n R) (he : px_ex px_nb n R xs ls st I L True = some (P', ls', .ref v :: .ref o :: rest, I', L')) (hP : P')
    (hf : (on, idx, ci, kf) ∈ px_tf) (hck : px_ck px_nb o ci = true) (hft : px_ft ci kf = 2) (hty : (∃ c, px_ty ci kf = .object c) ∨ ∃ t, px_ty ci kf = .array t) (hfin : (px_Tf ci kf).2.2.2 = false)
    (kk : px M cu su (pb + 3) ls' rest n I' L' (px_u R o kf (some v)) Q) : px M cu su pc ls st n I L R Q := by
  refine px_b hon q.1 hg he hP ?_
  intro p l e s m args below meth c base cst D cid Z H locs lr X hW hS hl
  obtain ⟨h1, h2, h3⟩ := px_ck_ok hck
  refine px_put (v := .ref (px_ad base cst v)) X hW hS hon hf h1 (Nat.lt_of_lt_of_le h2 hg.1) h3 (px_dpf_ok q.2) (Or.inl hfin) (I' := I') (L' := L') (R' := px_u R o kf (some v)) (fun _ _ => rfl) (fun _ _ => rfl) (fun b hb => px_u_ne hb) (fun _ _ => rfl) (fun _ _ => rfl) (fun j hj => px_u_at_ne hj) (by rw [px_u_at, hft]; rfl) ?_ ?_ (fun H1 locs1 hW hS => kk p l e s m args below meth c base cst D cid Z H1 locs1 lr X hW hS hl)
  · rcases hty with ⟨c, h⟩ | ⟨t, h⟩ <;> rw [h] <;> rfl
  · rcases hty with ⟨c, h⟩ | ⟨t, h⟩ <;> rw [h] <;> rfl
end PXN
