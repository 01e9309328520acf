/-! more rules: what is null or isn't as it stands; methods that answer a reference -/
section PXM
variable {on n cu su pc pb idx k : Nat} {R : px_R} {M M1 : px_M} {Q : px_Q} {xs : List px_o} {ls ls' : px_Ls} {st st' : List Value} {I I' : px_I} {L L' : px_L} {P' : Prop} {As rest : List Value} {o ci : Nat}
theorem px_nulN {tgt : Nat} (hon : M.1.cls = px_Rn on) (q : px_bk on M.2.2.1 M.2.1 pc xs = some pb ∧ px_t3 M.2.1 pb tgt = true) (hg : px_G n R) (he : px_ex px_nb n R xs ls st I L True = some (P', ls', .null :: rest, I', L')) (hP : P')
    (kt : px M cu su tgt ls' rest n I' L' R Q) : px M cu su pc ls st n I L R Q := px_null (r := none) hon q hg he hP (fun _ => kt) (fun a h => by cases h)
theorem px_nulR {tgt a : Nat} (hon : M.1.cls = px_Rn on) (q : px_bk on M.2.2.1 M.2.1 pc xs = some pb ∧ px_t3 M.2.1 pb tgt = true) (hg : px_G n R) (he : px_ex px_nb n R xs ls st I L True = some (P', ls', .ref a :: rest, I', L')) (hP : P')
    (kf : px M cu su (pb + 3) ls' rest n I' L' R Q) : px M cu su pc ls st n I L R Q := px_null (r := some a) hon q hg he hP (fun h => by cases h) (fun _ _ => kf)
theorem px_nonN {tgt : Nat} (hon : M.1.cls = px_Rn on) (q : px_bk on M.2.2.1 M.2.1 pc xs = some pb ∧ px_t4 M.2.1 pb tgt = true) (hg : px_G n R) (he : px_ex px_nb n R xs ls st I L True = some (P', ls', .null :: rest, I', L')) (hP : P')
    (kf : px M cu su (pb + 3) ls' rest n I' L' R Q) : px M cu su pc ls st n I L R Q := px_nonnull (r := none) hon q hg he hP (fun a h => by cases h) (fun _ => kf)
theorem px_nonR {tgt a : Nat} (hon : M.1.cls = px_Rn on) (q : px_bk on M.2.2.1 M.2.1 pc xs = some pb ∧ px_t4 M.2.1 pb tgt = true) (hg : px_G n R) (he : px_ex px_nb n R xs ls st I L True = some (P', ls', .ref a :: rest, I', L')) (hP : P')
    (kt : px M cu su tgt ls' rest n I' L' R Q) : px M cu su pc ls st n I L R Q := px_nonnull (r := some a) hon q hg he hP (fun _ _ => kt) (fun h => by cases h)
/-- a reference, nothing changed -/
def px_KA (M : px_M) (as : List Value) (n : Nat) (I : px_I) (L : px_L) (R : px_R) (post : Option Nat → Prop) : Prop := px_K M as n I L R (fun r n' I' L' R' => n' = n ∧ R' = R ∧ ∃ x, r = some (va_rf x) ∧ I' = I ∧ L' = L ∧ post x)
theorem px_cVA {post : Option Nat → Prop} (hon : M.1.cls = px_Rn on) (q : px_bk on M.2.2.1 M.2.1 pc xs = some pb ∧ px_tv M.2.1 pb idx = true) (hg : px_G n R) (he : px_ex px_nb n R xs ls st I L True = some (P', ls', st', I', L')) (hP : P')
    (lk : px_lV M.1.cls idx M1) (hnm : px_nm M1 k) (hk : px_KA M1 (.ref o :: As) n I' L' R post) (hs : st' = As.reverse ++ .ref o :: rest) (hn : Nat.beq As.length k = true) (ho : px_is n o ci) (hrc : M1.1.cls = px_Rn ci) (hci : Nat.blt ci 13 = true) (hrm : px_rk M M1 cu su rest = true) (hz : (px_room M1).cells = 0 ∧ (px_room M1).slots = 0)
    (kk : ∀ x : Option Nat, post x → px M cu su (pb + 3) ls' (va_rf x :: rest) n I' L' R Q) : px M cu su pc ls st n I L R Q := by
  refine px_b hon q.1 hg he hP (px_kV q.2 lk hnm hk hs hn ho hrc hci hrm ?_)
  intro r n2 I2 L2 R2 hq
  obtain ⟨rfl, rfl, x, rfl, rfl, rfl, hp⟩ := hq
  rw [hz.1, hz.2]
  exact kk x hp
theorem px_raN {nm : String} {n0 : Nat} {R0 : px_R} {I0 : px_I} {L0 : px_L} {post : Option Nat → Prop} (hon : M.1.cls = px_Rn on) (q : px_bk on M.2.2.1 M.2.1 pc xs = some pb ∧ px_tr M.2.1 pb .areturn = true) (hr : M.2.2.2.1 = some (.object nm)) (hcu : Nat.ble cu (px_room M).cells = true) (hsu : Nat.ble su (px_room M).slots = true) (hg : px_G n R) (he : px_ex px_nb n R xs ls st I L True = some (P', ls', [.null], I', L')) (hP : P') (hq : (n = n0 ∧ R = R0 ∧ I' = I0 ∧ L' = L0) ∧ post none) : px M cu su pc ls st n I L R (fun r n' I' L' R' => n' = n0 ∧ R' = R0 ∧ ∃ x, r = some (va_rf x) ∧ I' = I0 ∧ L' = L0 ∧ post x) :=
  px_ra (v := none) hon q hr hcu hsu hg he hP ⟨hq.1.1, hq.1.2.1, none, rfl, hq.1.2.2.1, hq.1.2.2.2, hq.2⟩
theorem px_raR {nm : String} {a : Nat} {n0 : Nat} {R0 : px_R} {I0 : px_I} {L0 : px_L} {post : Option Nat → Prop} (hon : M.1.cls = px_Rn on) (q : px_bk on M.2.2.1 M.2.1 pc xs = some pb ∧ px_tr M.2.1 pb .areturn = true) (hr : M.2.2.2.1 = some (.object nm)) (hcu : Nat.ble cu (px_room M).cells = true) (hsu : Nat.ble su (px_room M).slots = true) (hg : px_G n R) (he : px_ex px_nb n R xs ls st I L True = some (P', ls', [.ref a], I', L')) (hP : P') (hq : (n = n0 ∧ R = R0 ∧ I' = I0 ∧ L' = L0) ∧ post (some a)) : px M cu su pc ls st n I L R (fun r n' I' L' R' => n' = n0 ∧ R' = R0 ∧ ∃ x, r = some (va_rf x) ∧ I' = I0 ∧ L' = L0 ∧ post x) :=
  px_ra (v := some a) hon q hr hcu hsu hg he hP ⟨hq.1.1, hq.1.2.1, some a, rfl, hq.1.2.2.1, hq.1.2.2.2, hq.2⟩
end PXM
