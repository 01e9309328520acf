theorem xS_up {I : px_I} {lo left k d : Int32} {A T : Nat → Int64} {c : Int} {x z : Int32} {v : Int64} {L1 : px_L} (h0 : 0 ≤ d) (hd : d < 3) (hk : 1 ≤ k ∧ k < 128) (hp : 0 ≤ I 103 60 ∧ I 103 60 ≤ 3) (hc : c ≤ 100000) (hA : xBd A c) (hT : xBd T (c + 64)) (hA1 : L1 145 = A) (hF : L1 146 = xS 64 (I 103 59) (I 103 60) left lo (I 137) k A T d.toNatClampNeg) (hn : ¬ L1 145 k.toNatClampNeg < 0)
    (hx : x = pOff (I 103 59) (I 103 60) (k - 64 + (d - 1)) left ∧ -64 ≤ x ∧ x ≤ 64) (hz : z = if x < 0 then 0 - x else x)
    (hv : (¬ I 137 d.toNatClampNeg ≤ 0 ∧ v = L1 145 k.toNatClampNeg + z.toInt64 ∧ xBt (L1 146 (x + 64).toNatClampNeg) (L1 145 k.toNatClampNeg + z.toInt64) lo) ∨ ((I 137 d.toNatClampNeg ≤ 0 ∨ ¬ xBt (L1 146 (x + 64).toNatClampNeg) (L1 145 k.toNatClampNeg + z.toInt64) lo) ∧ v = L1 146 (x + 64).toNatClampNeg)) : px_u L1 146 (x + 64).toNatClampNeg v 146 = xS 64 (I 103 59) (I 103 60) left lo (I 137) k A T (d + 1).toNatClampNeg := by
  have ek := px_tnS (i := k) (by grind) (by grind)
  have ed := px_tnS (i := d) h0 (by grind)
  have kk := xnat (x := k) (by grind)
  have k1 := Int32.le_iff_toInt_le.mp hk.1
  have k2 := Int32.lt_iff_toInt_lt.mp hk.2
  rw [show (1 : Int32).toInt = 1 by decide] at k1
  rw [show (128 : Int32).toInt = 128 by decide] at k2
  have bA := hA k.toNatClampNeg (by omega)
  have hn' : 0 ≤ (A k.toNatClampNeg).toInt := by
    have q := Int64.le_iff_toInt_le.mp (Int64.not_lt.mp hn)
    rw [hA1, show (0 : Int64).toInt = 0 by decide] at q
    exact q
  have ne : ¬ A k.toNatClampNeg = -1 := fun q => by have := xi1.mp q; omega
  have eS : ∀ e, xS 64 (I 103 59) (I 103 60) left lo (I 137) k A T e = xD 64 (I 103 59) (I 103 60) left lo (I 137) k (A k.toNatClampNeg) T e := fun e => if_neg ne
  have lt3 : d.toNatClampNeg < 3 := by
    have a1 := xnat h0
    have a2 := Int32.lt_iff_toInt_lt.mp hd
    rw [show (3 : Int32).toInt = 3 by decide] at a2
    omega
  rw [eS] at hF
  rw [eS, ed.1]
  have ex : x = pOff (I 103 59) (I 103 60) (k + Int32.ofNat d.toNatClampNeg - 1 - 64) left := by
    rw [hx.1, ed.2]
    congr 1
    grind
  have xb : -64 ≤ x.toInt ∧ x.toInt ≤ 64 := by
    have q1 := Int32.le_iff_toInt_le.mp hx.2.1
    have q2 := Int32.le_iff_toInt_le.mp hx.2.2
    rw [show (-64 : Int32).toInt = -64 by decide] at q1
    rw [show (64 : Int32).toInt = 64 by decide] at q2
    exact ⟨q1, q2⟩
  have ez : z = aV x := hz
  have sm := xSum (c := c) hc ⟨hn', bA.2⟩ xb
  rw [← hA1, ← ez] at sm
  have t128 : (x + 64).toNatClampNeg ≤ 128 := by
    have t : (x + 64).toInt = x.toInt + 64 := by rw [Int32.toInt_add, show (64 : Int32).toInt = 64 by decide, Int.bmod_eq_of_le (by omega) (by omega)]
    show (x + 64).toInt.toNat ≤ 128
    omega
  have bX : -1 ≤ (L1 146 (x + 64).toNatClampNeg).toInt := by
    rw [hF]
    have q := xD_bd (hear := I 103 59) (left := left) (h := lo) (w := I 137) (m := k.toNatClampNeg) hc hp (by omega) (by omega) ⟨hn', bA.2⟩ hT d.toNatClampNeg (by omega) (x + 64).toNatClampNeg t128
    rw [ek.2] at q
    exact q.1
  by_cases cw : I 137 d.toNatClampNeg ≤ 0
  · have e : v = L1 146 (x + 64).toNatClampNeg := hv.elim (fun q => absurd cw q.1) (fun q => q.2)
    rw [e, px_u_id rfl, hF, xD_st (by grind)]
  · have cw' : 0 < I 137 d.toNatClampNeg := by grind
    refine xD_up hF ex cw' ?_
    rw [← hA1, ← ez]
    rcases hv with ⟨-, h1, h2⟩ | ⟨h1, h2⟩
    · rw [h1, cBet_y bX sm.1 h2]
    · rw [h2, cBet_n bX sm.1 (h1.resolve_left cw)]
theorem xS_ng {I : px_I} {lo left k : Int32} {A T : Nat → Int64} {c : Int} {L1 : px_L} {d : Nat} (hk : 1 ≤ k ∧ k < 128) (hA : xBd A c) (hA1 : L1 145 = A) (hn : L1 145 k.toNatClampNeg < 0) (hF : L1 146 = xS 64 (I 103 59) (I 103 60) left lo (I 137) k A T d) : L1 146 = xS 64 (I 103 59) (I 103 60) left lo (I 137) k A T 3 := by
  have kk := xnat (x := k) (by grind)
  have k2 := Int32.lt_iff_toInt_lt.mp hk.2
  rw [show (128 : Int32).toInt = 128 by decide] at k2
  have q := Int64.lt_iff_toInt_lt.mp hn
  rw [hA1, show (0 : Int64).toInt = 0 by decide] at q
  have bA := hA k.toNatClampNeg (by omega)
  have e : A k.toNatClampNeg = -1 := xi1.mpr (by omega)
  rw [hF, xS_m e, xS_m e]

set_option maxRecDepth 100000 in
theorem ls_detour119 {n : Nat} {R : px_R} (hg : px_G n R) {Q : px_Q} (a o lo left k : Int32) (hk : 1 ≤ k ∧ k < 128) {I : px_I} (hp : 0 ≤ I 103 60 ∧ I 103 60 ≤ 3) (L : px_L) (A T : Nat → Int64) (c : Int) (hc : c ≤ 100000) (hA : xBd A c) (hT : xBd T (c + 64)) (hq : ∀ L2, mNL L L2 → L2 145 = A → L2 146 = xS 64 (I 103 59) (I 103 60) left lo (I 137) k A T 3 → px M_X12_detour 0 0 108 [(0, .ref 103), (1, .int a), (2, .int o), (3, .int lo), (4, .int left), (5, .int (k + 1))] [] n I L2 R Q) : ∀ d : Int32, d ≤ 3 → 0 ≤ d → ∀ L1, mNL L L1 → L1 145 = A → L1 146 = xS 64 (I 103 59) (I 103 60) left lo (I 137) k A T d.toNatClampNeg → px M_X12_detour 0 0 119 [(0, .ref 103), (1, .int a), (2, .int o), (3, .int lo), (4, .int left), (5, .int k), (6, .int d)] [] n I L1 R Q := by
  refine px_up 3 (fun d ih hd => ?_)
  intro h0 L1 h1 hA1 hF1
  refine px_ige rfl q_X12_detour_119 hg rfl trivial (fun c122 => ?_) (fun c122 => ?_)
  · refine px_b rfl q_X12_detour_277 hg rfl trivial ?_
    have e9 : d = 3 := (by grind)
    rw [e9, show (3 : Int32).toNatClampNeg = 3 by decide] at hF1
    exact px_go (hq _ h1 hA1 hF1) ⟨rfl, rfl, rfl, rfl, rfl, rfl, trivial⟩
  · refine px_llt rfl q_X12_detour_125 hg rfl ⟨trivial, (by first | with_reducible assumption | decide | (refine ⟨?_, ?_⟩ <;> grind))⟩ (fun c134 => ?_) (fun c134 => ?_)
    · refine px_b rfl q_X12_detour_277 hg rfl trivial ?_
      exact px_go (hq _ h1 hA1 (xS_ng hk hA hA1 c134 hF1)) ⟨rfl, rfl, rfl, rfl, rfl, rfl, trivial⟩
    · refine px_cVP (ci := 12) rfl q_X12_detour_137 hg rfl trivial lk_12_465 nm_X12_off (ks_off hg _ _ _ (by grind) (by grind) (by grind)) rfl rfl (px_lit hg rfl) rfl rfl rfl ⟨rfl, rfl⟩ ?_
      intro x149 h149
      obtain ⟨-, z1, z2⟩ := id h149
      have z3 : 0 ≤ x149 + 64 ∧ x149 + 64 < 129 := ⟨by grind, by grind⟩
      refine px_cSP rfl q_X12_detour_152 hg rfl ⟨trivial, (by first | with_reducible assumption | decide | (refine ⟨?_, ?_⟩ <;> grind))⟩ lk_12_385 nm_X12_size (k_size hg _) rfl rfl rfl ⟨rfl, rfl⟩ ?_
      intro x163 h163
      refine px_llt rfl q_X12_detour_166 hg rfl ⟨trivial, (by first | with_reducible assumption | decide | (refine ⟨?_, ?_⟩ <;> grind))⟩ (fun c182 => ?_) (fun c182 => ?_)
      · refine px_le rfl q_X12_detour_224 hg rfl ⟨trivial, (by first | with_reducible assumption | decide | (refine ⟨?_, ?_⟩ <;> grind))⟩ (fun c247 => ?_) (fun c247 => ?_)
        · refine px_b rfl q_X12_detour_260 hg rfl ⟨⟨trivial, (by first | with_reducible assumption | decide | (refine ⟨?_, ?_⟩ <;> grind))⟩, (by first | with_reducible assumption | decide | (refine ⟨?_, ?_⟩ <;> grind))⟩ ?_
          exact px_go (ih (d + 1) (by grind) (by grind) (by grind) _ (h1.u6 _ _) (by rw [px_u_ne (by decide)]; exact hA1) (xS_up h0 (by grind) hk hp hc hA hT hA1 hF1 c134 h149 h163 (Or.inr ⟨Or.inl c247, rfl⟩))) ⟨rfl, rfl, rfl, rfl, rfl, rfl, rfl, trivial⟩
        · refine px_eq rfl q_X12_detour_250 hg rfl trivial (fun c252 => ?_) (fun c252 => ?_)
          · refine px_b rfl q_X12_detour_260 hg rfl ⟨⟨trivial, (by first | with_reducible assumption | decide | (refine ⟨?_, ?_⟩ <;> grind))⟩, (by first | with_reducible assumption | decide | (refine ⟨?_, ?_⟩ <;> grind))⟩ ?_
            exact absurd c252 (by decide)
          · refine px_b rfl q_X12_detour_255 hg rfl ⟨trivial, (by first | with_reducible assumption | decide | (refine ⟨?_, ?_⟩ <;> grind))⟩ ?_
            exact px_go (ih (d + 1) (by grind) (by grind) (by grind) _ (h1.u6 _ _) (by rw [px_u_ne (by decide)]; exact hA1) (xS_up h0 (by grind) hk hp hc hA hT hA1 hF1 c134 h149 h163 (Or.inl ⟨c247, rfl, Or.inl c182⟩))) ⟨rfl, rfl, rfl, rfl, rfl, rfl, rfl, trivial⟩
      · refine px_eq rfl q_X12_detour_185 hg rfl trivial (fun c186 => ?_) (fun c186 => ?_)
        · refine px_lge rfl q_X12_detour_208 hg rfl ⟨trivial, (by first | with_reducible assumption | decide | (refine ⟨?_, ?_⟩ <;> grind))⟩ (fun c221 => ?_) (fun c221 => ?_)
          · refine px_le rfl q_X12_detour_228 hg rfl ⟨trivial, (by first | with_reducible assumption | decide | (refine ⟨?_, ?_⟩ <;> grind))⟩ (fun c247 => ?_) (fun c247 => ?_)
            · refine px_b rfl q_X12_detour_260 hg rfl ⟨⟨trivial, (by first | with_reducible assumption | decide | (refine ⟨?_, ?_⟩ <;> grind))⟩, (by first | with_reducible assumption | decide | (refine ⟨?_, ?_⟩ <;> grind))⟩ ?_
              exact px_go (ih (d + 1) (by grind) (by grind) (by grind) _ (h1.u6 _ _) (by rw [px_u_ne (by decide)]; exact hA1) (xS_up h0 (by grind) hk hp hc hA hT hA1 hF1 c134 h149 h163 (Or.inr ⟨Or.inl c247, rfl⟩))) ⟨rfl, rfl, rfl, rfl, rfl, rfl, rfl, trivial⟩
            · refine px_eq rfl q_X12_detour_250 hg rfl trivial (fun c252 => ?_) (fun c252 => ?_)
              · refine px_b rfl q_X12_detour_260 hg rfl ⟨⟨trivial, (by first | with_reducible assumption | decide | (refine ⟨?_, ?_⟩ <;> grind))⟩, (by first | with_reducible assumption | decide | (refine ⟨?_, ?_⟩ <;> grind))⟩ ?_
                exact px_go (ih (d + 1) (by grind) (by grind) (by grind) _ (h1.u6 _ _) (by rw [px_u_ne (by decide)]; exact hA1) (xS_up h0 (by grind) hk hp hc hA hT hA1 hF1 c134 h149 h163 (Or.inr ⟨Or.inr (fun q => q.elim c182 (fun q => q.elim (fun q => q.1 c186) (fun q => absurd q.2 (Int64.not_lt.mpr c221)))), rfl⟩))) ⟨rfl, rfl, rfl, rfl, rfl, rfl, rfl, trivial⟩
              · refine px_b rfl q_X12_detour_255 hg rfl ⟨trivial, (by first | with_reducible assumption | decide | (refine ⟨?_, ?_⟩ <;> grind))⟩ ?_
                exact absurd rfl c252
          · refine px_le rfl q_X12_detour_224 hg rfl ⟨trivial, (by first | with_reducible assumption | decide | (refine ⟨?_, ?_⟩ <;> grind))⟩ (fun c247 => ?_) (fun c247 => ?_)
            · refine px_b rfl q_X12_detour_260 hg rfl ⟨⟨trivial, (by first | with_reducible assumption | decide | (refine ⟨?_, ?_⟩ <;> grind))⟩, (by first | with_reducible assumption | decide | (refine ⟨?_, ?_⟩ <;> grind))⟩ ?_
              exact px_go (ih (d + 1) (by grind) (by grind) (by grind) _ (h1.u6 _ _) (by rw [px_u_ne (by decide)]; exact hA1) (xS_up h0 (by grind) hk hp hc hA hT hA1 hF1 c134 h149 h163 (Or.inr ⟨Or.inl c247, rfl⟩))) ⟨rfl, rfl, rfl, rfl, rfl, rfl, rfl, trivial⟩
            · refine px_eq rfl q_X12_detour_250 hg rfl trivial (fun c252 => ?_) (fun c252 => ?_)
              · refine px_b rfl q_X12_detour_260 hg rfl ⟨⟨trivial, (by first | with_reducible assumption | decide | (refine ⟨?_, ?_⟩ <;> grind))⟩, (by first | with_reducible assumption | decide | (refine ⟨?_, ?_⟩ <;> grind))⟩ ?_
                exact absurd c252 (by decide)
              · refine px_b rfl q_X12_detour_255 hg rfl ⟨trivial, (by first | with_reducible assumption | decide | (refine ⟨?_, ?_⟩ <;> grind))⟩ ?_
                exact px_go (ih (d + 1) (by grind) (by grind) (by grind) _ (h1.u6 _ _) (by rw [px_u_ne (by decide)]; exact hA1) (xS_up h0 (by grind) hk hp hc hA hT hA1 hF1 c134 h149 h163 (Or.inl ⟨c247, rfl, Or.inr (Or.inr ⟨c186, Int64.not_le.mp c221⟩)⟩))) ⟨rfl, rfl, rfl, rfl, rfl, rfl, rfl, trivial⟩
        · refine px_lle rfl q_X12_detour_189 hg rfl ⟨trivial, (by first | with_reducible assumption | decide | (refine ⟨?_, ?_⟩ <;> grind))⟩ (fun c202 => ?_) (fun c202 => ?_)
          · refine px_le rfl q_X12_detour_228 hg rfl ⟨trivial, (by first | with_reducible assumption | decide | (refine ⟨?_, ?_⟩ <;> grind))⟩ (fun c247 => ?_) (fun c247 => ?_)
            · refine px_b rfl q_X12_detour_260 hg rfl ⟨⟨trivial, (by first | with_reducible assumption | decide | (refine ⟨?_, ?_⟩ <;> grind))⟩, (by first | with_reducible assumption | decide | (refine ⟨?_, ?_⟩ <;> grind))⟩ ?_
              exact px_go (ih (d + 1) (by grind) (by grind) (by grind) _ (h1.u6 _ _) (by rw [px_u_ne (by decide)]; exact hA1) (xS_up h0 (by grind) hk hp hc hA hT hA1 hF1 c134 h149 h163 (Or.inr ⟨Or.inl c247, rfl⟩))) ⟨rfl, rfl, rfl, rfl, rfl, rfl, rfl, trivial⟩
            · refine px_eq rfl q_X12_detour_250 hg rfl trivial (fun c252 => ?_) (fun c252 => ?_)
              · refine px_b rfl q_X12_detour_260 hg rfl ⟨⟨trivial, (by first | with_reducible assumption | decide | (refine ⟨?_, ?_⟩ <;> grind))⟩, (by first | with_reducible assumption | decide | (refine ⟨?_, ?_⟩ <;> grind))⟩ ?_
                exact px_go (ih (d + 1) (by grind) (by grind) (by grind) _ (h1.u6 _ _) (by rw [px_u_ne (by decide)]; exact hA1) (xS_up h0 (by grind) hk hp hc hA hT hA1 hF1 c134 h149 h163 (Or.inr ⟨Or.inr (fun q => q.elim c182 (fun q => q.elim (fun q => absurd q.2 (Int64.not_lt.mpr c202)) (fun q => c186 q.1))), rfl⟩))) ⟨rfl, rfl, rfl, rfl, rfl, rfl, rfl, trivial⟩
              · refine px_b rfl q_X12_detour_255 hg rfl ⟨trivial, (by first | with_reducible assumption | decide | (refine ⟨?_, ?_⟩ <;> grind))⟩ ?_
                exact absurd rfl c252
          · refine px_le rfl q_X12_detour_205 hg rfl ⟨trivial, (by first | with_reducible assumption | decide | (refine ⟨?_, ?_⟩ <;> grind))⟩ (fun c247 => ?_) (fun c247 => ?_)
            · refine px_b rfl q_X12_detour_260 hg rfl ⟨⟨trivial, (by first | with_reducible assumption | decide | (refine ⟨?_, ?_⟩ <;> grind))⟩, (by first | with_reducible assumption | decide | (refine ⟨?_, ?_⟩ <;> grind))⟩ ?_
              exact px_go (ih (d + 1) (by grind) (by grind) (by grind) _ (h1.u6 _ _) (by rw [px_u_ne (by decide)]; exact hA1) (xS_up h0 (by grind) hk hp hc hA hT hA1 hF1 c134 h149 h163 (Or.inr ⟨Or.inl c247, rfl⟩))) ⟨rfl, rfl, rfl, rfl, rfl, rfl, rfl, trivial⟩
            · refine px_eq rfl q_X12_detour_250 hg rfl trivial (fun c252 => ?_) (fun c252 => ?_)
              · refine px_b rfl q_X12_detour_260 hg rfl ⟨⟨trivial, (by first | with_reducible assumption | decide | (refine ⟨?_, ?_⟩ <;> grind))⟩, (by first | with_reducible assumption | decide | (refine ⟨?_, ?_⟩ <;> grind))⟩ ?_
                exact absurd c252 (by decide)
              · refine px_b rfl q_X12_detour_255 hg rfl ⟨trivial, (by first | with_reducible assumption | decide | (refine ⟨?_, ?_⟩ <;> grind))⟩ ?_
                exact px_go (ih (d + 1) (by grind) (by grind) (by grind) _ (h1.u6 _ _) (by rw [px_u_ne (by decide)]; exact hA1) (xS_up h0 (by grind) hk hp hc hA hT hA1 hF1 c134 h149 h163 (Or.inl ⟨c247, rfl, Or.inr (Or.inl ⟨c186, Int64.not_le.mp c202⟩)⟩))) ⟨rfl, rfl, rfl, rfl, rfl, rfl, rfl, trivial⟩

set_option maxRecDepth 100000 in
theorem ls_detour286 {n : Nat} {R : px_R} (hg : px_G n R) {Q : px_Q} (a o lo left : Int32) {I : px_I} (L : px_L) (X : Nat → Int64) (hq : ∀ L2, mNL L L2 → (∀ j, j ≤ 128 → L2 145 j = X j) → px M_X12_detour 0 0 73 [(0, .ref 103), (1, .int a), (2, .int o), (3, .int lo), (4, .int (left + -1))] [] n I L2 R Q) : ∀ k : Int32, k ≤ 129 → 0 ≤ k → ∀ L1, mNL L L1 → L1 146 = X → (∀ j, j < k.toNatClampNeg → L1 145 j = X j) → px M_X12_detour 0 0 286 [(0, .ref 103), (1, .int a), (2, .int o), (3, .int lo), (4, .int left), (5, .int k)] [] n I L1 R Q := by
  refine px_up 129 (fun k ih hk => ?_)
  intro h0 L1 h1 hX1 hF1
  refine px_ige rfl q_X12_detour_286 hg rfl trivial (fun c291 => ?_) (fun c291 => ?_)
  · refine px_b rfl q_X12_detour_314 hg rfl trivial ?_
    exact px_go (hq _ h1 (fun j hj => hF1 j (xn129 (by grind) hj))) ⟨rfl, rfl, rfl, rfl, rfl, trivial⟩
  · refine px_b rfl q_X12_detour_294 hg rfl ⟨⟨trivial, (by first | decide | (refine ⟨?_, ?_⟩ <;> grind) | grind)⟩, (by first | decide | (refine ⟨?_, ?_⟩ <;> grind) | grind)⟩ ?_
    exact px_go (ih (k + 1) (by grind) (by grind) (by grind) _ (h1.u5 _ _) (by rw [px_u_ne (by decide)]; exact hX1) (xnext h0 (by grind) hF1 (by rw [hX1]))) ⟨rfl, rfl, rfl, rfl, rfl, rfl, trivial⟩

set_option maxRecDepth 100000 in
theorem ls_detour108 {n : Nat} {R : px_R} (hg : px_G n R) {Q : px_Q} (a o lo left : Int32) {I : px_I} (hp : 0 ≤ I 103 60 ∧ I 103 60 ≤ 3) (L : px_L) (A T : Nat → Int64) (c : Int) (hc : c ≤ 100000) (hA : xBd A c) (hT : xBd T (c + 64)) (hq : ∀ L2, mNL L L2 → (∀ j, j ≤ 128 → L2 145 j = xK 64 (I 103 59) (I 103 60) left lo (I 137) A T 127 j) → px M_X12_detour 0 0 73 [(0, .ref 103), (1, .int a), (2, .int o), (3, .int lo), (4, .int (left + -1))] [] n I L2 R Q) : ∀ k : Int32, k ≤ 128 → 1 ≤ k → ∀ L1, mNL L L1 → L1 145 = A → L1 146 = xK 64 (I 103 59) (I 103 60) left lo (I 137) A T (k.toNatClampNeg - 1) → px M_X12_detour 0 0 108 [(0, .ref 103), (1, .int a), (2, .int o), (3, .int lo), (4, .int left), (5, .int k)] [] n I L1 R Q := by
  refine px_up 128 (fun k ih hk => ?_)
  intro h0 L1 h1 hA1 hF1
  have k127 : k < 128 → k.toNatClampNeg - 1 ≤ 127 := fun q => by have := xlt (i := k) (N := 128) (by grind) q; rw [show (128 : Int32).toNatClampNeg = 128 by decide] at this; omega
  refine px_ige rfl q_X12_detour_108 hg rfl trivial (fun c113 => ?_) (fun c113 => ?_)
  · refine px_b rfl q_X12_detour_283 hg rfl trivial ?_
    have e9 : k = 128 := (by grind)
    rw [e9, show (128 : Int32).toNatClampNeg - 1 = 127 by decide] at hF1
    exact px_go (ls_detour286 hg a o lo left L1 (xK 64 (I 103 59) (I 103 60) left lo (I 137) A T 127) (fun L2 h2 hF2 => hq L2 (h1.trans h2) hF2) 0 (by decide) (by decide) L1 (fun _ _ _ => rfl) hF1 xnone) ⟨rfl, rfl, rfl, rfl, rfl, rfl, trivial⟩
  · refine px_b rfl q_X12_detour_116 hg rfl trivial ?_
    exact px_go (ls_detour119 hg a o lo left k (by grind) hp L1 A (xK 64 (I 103 59) (I 103 60) left lo (I 137) A T (k.toNatClampNeg - 1)) c hc hA (xK_bd hc hp hA hT _ (k127 (by grind))) (fun L2 h2 hA2 hF2 => ih (k + 1) (by grind) (by grind) (by grind) L2 (h1.trans h2) hA2 (by rw [hF2]; exact xS_K h0 (by grind))) 0 (by decide) (by decide) L1 (fun _ _ _ => rfl) hA1 (by rw [xz0, xS_0]; exact hF1)) ⟨rfl, rfl, rfl, rfl, rfl, rfl, rfl, trivial⟩

set_option maxRecDepth 100000 in
theorem ls_detour81 {n : Nat} {R : px_R} (hg : px_G n R) {Q : px_Q} (a o lo left : Int32) {I : px_I} (hp : 0 ≤ I 103 60 ∧ I 103 60 ≤ 3) (L : px_L) (A : Nat → Int64) (c : Int) (hc0 : -65 ≤ c) (hc : c ≤ 100000) (hA : xBd A c) (hq : ∀ L2, mNL L L2 → (∀ j, j ≤ 128 → L2 145 j = xK 64 (I 103 59) (I 103 60) left lo (I 137) A (fun _ => -1) 127 j) → px M_X12_detour 0 0 73 [(0, .ref 103), (1, .int a), (2, .int o), (3, .int lo), (4, .int (left + -1))] [] n I L2 R Q) : ∀ k : Int32, k ≤ 129 → 0 ≤ k → ∀ L1, mNL L L1 → L1 145 = A → (∀ j, j < k.toNatClampNeg → L1 146 j = -1) → px M_X12_detour 0 0 81 [(0, .ref 103), (1, .int a), (2, .int o), (3, .int lo), (4, .int left), (5, .int k)] [] n I L1 R Q := by
  refine px_up 129 (fun k ih hk => ?_)
  intro h0 L1 h1 hA1 hF1
  refine px_ige rfl q_X12_detour_81 hg rfl trivial (fun c86 => ?_) (fun c86 => ?_)
  · refine px_b rfl q_X12_detour_105 hg rfl trivial ?_
    have hT : ∀ j, j ≤ 128 → L1 146 j = -1 := fun j hj => hF1 j (xn129 (by grind) hj)
    exact px_go (ls_detour108 hg a o lo left hp L1 A (L1 146) c hc hA (fun j hj => by rw [hT j hj, show (-1 : Int64).toInt = -1 by decide]; omega) (fun L2 h2 hF2 => hq L2 (h1.trans h2) (fun j hj => (hF2 j hj).trans (xK_cg (N := 128) (fun _ _ => rfl) hT 127 (by decide) j hj))) 1 (by decide) (by decide) L1 (fun _ _ _ => rfl) hA1 (by rw [show (1 : Int32).toNatClampNeg - 1 = 0 by decide]; rfl)) ⟨rfl, rfl, rfl, rfl, rfl, rfl, trivial⟩
  · refine px_b rfl q_X12_detour_89 hg rfl ⟨trivial, (by first | decide | (refine ⟨?_, ?_⟩ <;> grind) | grind)⟩ ?_
    exact px_go (ih (k + 1) (by grind) (by grind) (by grind) _ (h1.u6 _ _) (by rw [px_u_ne (by decide)]; exact hA1) (xnext (F := fun _ => -1) h0 (by grind) hF1 rfl)) ⟨rfl, rfl, rfl, rfl, rfl, rfl, trivial⟩

theorem xB_up {h : Int32} {F : Nat → Int64} {w0 : Nat} {k : Int32} (h0 : 0 ≤ k) (hk : ¬ 1000 ≤ k) (hw : w0 ≤ k.toNatClampNeg) : xB h F w0 ((k + 1).toNatClampNeg - w0) = cBet (xB h F w0 (k.toNatClampNeg - w0)) (F k.toNatClampNeg) h := by
  rw [(px_tnS h0 hk).1, show k.toNatClampNeg + 1 - w0 = (k.toNatClampNeg - w0) + 1 by omega]
  show cBet (xB h F w0 (k.toNatClampNeg - w0)) (F (w0 + (k.toNatClampNeg - w0))) h = _
  rw [show w0 + (k.toNatClampNeg - w0) = k.toNatClampNeg by omega]
theorem xW {w : Int32} (h : 0 ≤ w ∧ w ≤ 20) : (64 - w).toNatClampNeg = 64 - w.toNatClampNeg ∧ (64 + w + 1).toNatClampNeg = 64 + w.toNatClampNeg + 1 ∧ w.toNatClampNeg ≤ 20 := by
  have a := xnat h.1
  have b := Int32.le_iff_toInt_le.mp h.2
  rw [show (20 : Int32).toInt = 20 by decide] at b
  have e1 : (64 - w).toInt = 64 - w.toInt := by rw [Int32.toInt_sub, show (64 : Int32).toInt = 64 by decide, Int.bmod_eq_of_le (by omega) (by omega)]
  have e2 : (64 + w).toInt = 64 + w.toInt := by rw [Int32.toInt_add, show (64 : Int32).toInt = 64 by decide, Int.bmod_eq_of_le (by omega) (by omega)]
  have e3 : (64 + w + 1).toInt = 64 + w.toInt + 1 := by rw [Int32.toInt_add, e2, show (1 : Int32).toInt = 1 by decide, Int.bmod_eq_of_le (by omega) (by omega)]
  refine ⟨?_, ?_, by omega⟩
  · show (64 - w).toInt.toNat = _; omega
  · show (64 + w + 1).toInt.toNat = _; omega

set_option maxRecDepth 100000 in
theorem ls_detour334 {n : Nat} {R : px_R} (hg : px_G n R) {Q : px_Q} (a o lo : Int32) {I : px_I} {L : px_L} (F : Nat → Int64) (c : Int) (hc : -1 ≤ c) (hF : xBd F c) (hL : ∀ j, j ≤ 128 → L 145 j = F j) (hw : 0 ≤ I 103 61 ∧ I 103 61 ≤ 20) (hq : Q (some (.int (xB lo F (64 - (I 103 61).toNatClampNeg) (2 * (I 103 61).toNatClampNeg + 1)).toInt32)) n I L R) : ∀ k : Int32, k ≤ 64 + I 103 61 + 1 → 64 - I 103 61 ≤ k → ∀ m : Int64, m = xB lo F (64 - (I 103 61).toNatClampNeg) (k.toNatClampNeg - (64 - (I 103 61).toNatClampNeg)) → px M_X12_detour 0 0 334 [(0, .ref 103), (1, .int a), (2, .int o), (3, .int lo), (4, .long m), (6, .int k)] [] n I L R Q := by
  refine px_up _ (fun k ih hk => ?_)
  intro h0 m hm
  obtain ⟨w1, w2, w3⟩ := xW hw
  have hk0 : 0 ≤ k := by grind
  have hkw : 64 - (I 103 61).toNatClampNeg ≤ k.toNatClampNeg := by rw [← w1]; exact xle (by grind) h0
  have hkn : k.toNatClampNeg ≤ 64 + (I 103 61).toNatClampNeg + 1 := by rw [← w2]; exact xle hk0 hk
  have bm : -1 ≤ m.toInt := by rw [hm]; exact (xB_bd hc _ (fun j hj => hF _ (by omega))).1
  refine px_igt rfl q_X12_detour_334 hg rfl trivial (fun c343 => ?_) (fun c343 => ?_)
  · refine px_ri rfl q_X12_detour_418 rfl rfl rfl hg rfl trivial ?_
    have e9 : k = 64 + I 103 61 + 1 := by grind
    rw [hm, e9, w2, show 64 + (I 103 61).toNatClampNeg + 1 - (64 - (I 103 61).toNatClampNeg) = 2 * (I 103 61).toNatClampNeg + 1 by omega]
    exact hq
  · have k128 : k.toNatClampNeg ≤ 128 := by omega
    have bF := hF k.toNatClampNeg k128
    rw [← hL _ k128] at bF
    refine px_llt rfl q_X12_detour_346 hg rfl ⟨trivial, (by first | decide | (refine ⟨?_, ?_⟩ <;> grind) | grind)⟩ (fun c355 => ?_) (fun c355 => ?_)
    · refine px_b rfl q_X12_detour_408 hg rfl trivial ?_
      exact px_go (ih (k + 1) (by grind) (by grind) (by grind) _ (by rw [xB_up hk0 (by grind) hkw, ← hm, ← hL _ k128]; exact (cBet_m bm (by have q := Int64.lt_iff_toInt_lt.mp c355; rw [show (0 : Int64).toInt = 0 by decide] at q; have := bF.1; omega)).symm)) ⟨rfl, rfl, rfl, rfl, rfl, rfl, trivial⟩
    · refine px_llt rfl q_X12_detour_358 hg rfl trivial (fun c362 => ?_) (fun c362 => ?_)
      · refine px_b rfl q_X12_detour_398 hg rfl ⟨trivial, (by first | decide | (refine ⟨?_, ?_⟩ <;> grind) | grind)⟩ ?_
        exact px_go (ih (k + 1) (by grind) (by grind) (by grind) _ (by rw [xB_up hk0 (by grind) hkw, ← hm, ← hL _ k128]; exact (cBet_y bm (by have q := Int64.le_iff_toInt_le.mp (Int64.not_lt.mp c355); rw [show (0 : Int64).toInt = 0 by decide] at q; exact q) (Or.inl c362)).symm)) ⟨rfl, rfl, rfl, rfl, rfl, rfl, trivial⟩
      · refine px_eq rfl q_X12_detour_365 hg rfl trivial (fun c366 => ?_) (fun c366 => ?_)
        · refine px_lge rfl q_X12_detour_385 hg rfl ⟨trivial, (by first | decide | (refine ⟨?_, ?_⟩ <;> grind) | grind)⟩ (fun c395 => ?_) (fun c395 => ?_)
          · refine px_b rfl q_X12_detour_408 hg rfl trivial ?_
            exact px_go (ih (k + 1) (by grind) (by grind) (by grind) _ (by rw [xB_up hk0 (by grind) hkw, ← hm, ← hL _ k128]; exact (cBet_n bm (by have q := Int64.le_iff_toInt_le.mp (Int64.not_lt.mp c355); rw [show (0 : Int64).toInt = 0 by decide] at q; exact q) (fun q => q.elim c362 (fun q => q.elim (fun q => q.1 c366) (fun q => absurd q.2 (Int64.not_lt.mpr c395))))).symm)) ⟨rfl, rfl, rfl, rfl, rfl, rfl, trivial⟩
          · refine px_b rfl q_X12_detour_398 hg rfl ⟨trivial, (by first | decide | (refine ⟨?_, ?_⟩ <;> grind) | grind)⟩ ?_
            exact px_go (ih (k + 1) (by grind) (by grind) (by grind) _ (by rw [xB_up hk0 (by grind) hkw, ← hm, ← hL _ k128]; exact (cBet_y bm (by have q := Int64.le_iff_toInt_le.mp (Int64.not_lt.mp c355); rw [show (0 : Int64).toInt = 0 by decide] at q; exact q) (Or.inr (Or.inr ⟨c366, Int64.not_le.mp c395⟩))).symm)) ⟨rfl, rfl, rfl, rfl, rfl, rfl, trivial⟩
        · refine px_lle rfl q_X12_detour_369 hg rfl ⟨trivial, (by first | decide | (refine ⟨?_, ?_⟩ <;> grind) | grind)⟩ (fun c379 => ?_) (fun c379 => ?_)
          · refine px_b rfl q_X12_detour_408 hg rfl trivial ?_
            exact px_go (ih (k + 1) (by grind) (by grind) (by grind) _ (by rw [xB_up hk0 (by grind) hkw, ← hm, ← hL _ k128]; exact (cBet_n bm (by have q := Int64.le_iff_toInt_le.mp (Int64.not_lt.mp c355); rw [show (0 : Int64).toInt = 0 by decide] at q; exact q) (fun q => q.elim c362 (fun q => q.elim (fun q => absurd q.2 (Int64.not_lt.mpr c379)) (fun q => c366 q.1)))).symm)) ⟨rfl, rfl, rfl, rfl, rfl, rfl, trivial⟩
          · refine px_b rfl q_X12_detour_382 hg rfl ⟨trivial, (by first | decide | (refine ⟨?_, ?_⟩ <;> grind) | grind)⟩ ?_
            exact px_go (ih (k + 1) (by grind) (by grind) (by grind) _ (by rw [xB_up hk0 (by grind) hkw, ← hm, ← hL _ k128]; exact (cBet_y bm (by have q := Int64.le_iff_toInt_le.mp (Int64.not_lt.mp c355); rw [show (0 : Int64).toInt = 0 by decide] at q; exact q) (Or.inr (Or.inl ⟨c366, Int64.not_le.mp c379⟩))).symm)) ⟨rfl, rfl, rfl, rfl, rfl, rfl, trivial⟩

theorem xR_S {hear pull h left : Int32} {w : Nat → Int32} {n : Nat} {B0 F : Nat → Int64} (h0 : 0 ≤ left) (hl : left.toNatClampNeg < n) (h1 : ¬ 1000 ≤ left) (hF : ∀ j, j ≤ 128 → F j = xR 64 127 hear pull h w n B0 (n - (left + 1).toNatClampNeg) j) : ∀ j, j ≤ 128 → xK 64 hear pull left h w F (fun _ => -1) 127 j = xR 64 127 hear pull h w n B0 (n - (left + -1 + 1).toNatClampNeg) j := by
  have e := px_tnS h0 h1
  rw [e.1] at hF
  rw [show left + -1 + 1 = left by grind, show n - left.toNatClampNeg = (n - (left.toNatClampNeg + 1)) + 1 by omega]
  intro j hj
  show _ = xK (Int32.ofNat 64) hear pull (Int32.ofNat (n - 1 - (n - (left.toNatClampNeg + 1)))) h w (xR 64 127 hear pull h w n B0 (n - (left.toNatClampNeg + 1))) (fun _ => -1) 127 j
  rw [show n - 1 - (n - (left.toNatClampNeg + 1)) = left.toNatClampNeg by omega, e.2]
  exact xK_cg (N := 128) hF (fun _ _ => rfl) 127 (by decide) j hj
theorem xR_T {hear pull h left : Int32} {w : Nat → Int32} {n : Nat} {B0 F : Nat → Int64} (h0 : 0 ≤ left) (hl : left.toNatClampNeg < n) (h1 : ¬ 1000 ≤ left) (hF : ∀ j, j ≤ 122 → F j = xR 61 121 hear pull h w n B0 (n - (left + 1).toNatClampNeg) j) : ∀ j, j ≤ 122 → xK 61 hear pull left h w F (fun _ => -1) 121 j = xR 61 121 hear pull h w n B0 (n - (left + -1 + 1).toNatClampNeg) j := by
  have e := px_tnS h0 h1
  rw [e.1] at hF
  rw [show left + -1 + 1 = left by grind, show n - left.toNatClampNeg = (n - (left.toNatClampNeg + 1)) + 1 by omega]
  intro j hj
  show _ = xK (Int32.ofNat 61) hear pull (Int32.ofNat (n - 1 - (n - (left.toNatClampNeg + 1)))) h w (xR 61 121 hear pull h w n B0 (n - (left.toNatClampNeg + 1))) (fun _ => -1) 121 j
  rw [show n - 1 - (n - (left.toNatClampNeg + 1)) = left.toNatClampNeg by omega, e.2]
  exact xK_cg (N := 122) hF (fun _ _ => rfl) 121 (by decide) j hj
theorem x40 {a : Int32} (h : 1 ≤ a ∧ a ≤ 40) : 1 ≤ a.toNatClampNeg ∧ a.toNatClampNeg ≤ 40 ∧ (a - 1 + 1).toNatClampNeg = a.toNatClampNeg := by
  have a1 := xnat (x := a) (by grind)
  have a2 := Int32.le_iff_toInt_le.mp h.1
  have a3 := Int32.le_iff_toInt_le.mp h.2
  rw [show (1 : Int32).toInt = 1 by decide] at a2
  rw [show (40 : Int32).toInt = 40 by decide] at a3
  exact ⟨by omega, by omega, by rw [show a - 1 + 1 = a by grind]⟩

set_option maxRecDepth 100000 in
theorem ls_detour73 {n : Nat} {R : px_R} (hg : px_G n R) {Q : px_Q} (a o lo : Int32) (ha : 1 ≤ a ∧ a ≤ 40) {I : px_I} (hW : mW I) (L : px_L) (B0 : Nat → Int64) (hB0 : xBd B0 0) (hq : ∀ L2, mNL L L2 → Q (some (.int (xB lo (xR 64 127 (I 103 59) (I 103 60) lo (I 137) a.toNatClampNeg B0 a.toNatClampNeg) (64 - (I 103 61).toNatClampNeg) (2 * (I 103 61).toNatClampNeg + 1)).toInt32)) n I L2 R) : ∀ left : Int32, -1 ≤ left → left < a → ∀ L1, mNL L L1 → (∀ j, j ≤ 128 → L1 145 j = xR 64 127 (I 103 59) (I 103 60) lo (I 137) a.toNatClampNeg B0 (a.toNatClampNeg - (left + 1).toNatClampNeg) j) → px M_X12_detour 0 0 73 [(0, .ref 103), (1, .int a), (2, .int o), (3, .int lo), (4, .int left)] [] n I L1 R Q := by
  refine px_dn (-1) (fun left ih hl => ?_)
  intro hla L1 h1 hF1
  have hp : 0 ≤ I 103 60 ∧ I 103 60 ≤ 3 := by unfold mW at hW; grind
  have hw : 0 ≤ I 103 61 ∧ I 103 61 ≤ 20 := by unfold mW at hW; grind
  obtain ⟨n1, n2, -⟩ := x40 ha
  have bd : xBd (L1 145) (64 * ((a.toNatClampNeg - (left + 1).toNatClampNeg : Nat) : Int)) := fun j hj => by rw [hF1 j hj]; exact xR_bd hp hB0 _ (by omega) j hj
  refine px_lt rfl q_X12_detour_73 hg rfl trivial (fun c75 => ?_) (fun c75 => ?_)
  · refine px_b rfl q_X12_detour_320 hg rfl trivial ?_
    have e9 : left = -1 := by grind
    rw [e9, show ((-1 : Int32) + 1).toNatClampNeg = 0 by decide, Nat.sub_zero] at hF1
    obtain ⟨w1, w2, w3⟩ := xW hw
    exact px_go (ls_detour334 hg a o lo (xR 64 127 (I 103 59) (I 103 60) lo (I 137) a.toNatClampNeg B0 a.toNatClampNeg) (64 * (a.toNatClampNeg : Int)) (by omega) (xR_bd hp hB0 _ n2) hF1 hw (hq _ h1) (64 - I 103 61) (by grind) (by grind) _ (by rw [w1, Nat.sub_self]; rfl)) ⟨rfl, rfl, rfl, rfl, rfl, rfl, trivial⟩
  · refine px_b rfl q_X12_detour_78 hg rfl trivial ?_
    have l0 : 0 ≤ left := by grind
    have ln := xlt l0 hla
    exact px_go (ls_detour81 hg a o lo left hp L1 (L1 145) _ (by omega) (by omega) bd (fun L2 h2 hF2 => ih (left + -1) (by grind) (by grind) (by grind) L2 (h1.trans h2) (fun j hj => (hF2 j hj).trans (xR_S l0 ln (by grind) hF1 j hj))) 0 (by decide) (by decide) L1 (fun _ _ _ => rfl) rfl xnone) ⟨rfl, rfl, rfl, rfl, rfl, rfl, trivial⟩

set_option maxRecDepth 100000 in
theorem ls_detour31 {n : Nat} {R : px_R} (hg : px_G n R) {Q : px_Q} (a o lo : Int32) (ha : 1 ≤ a ∧ a ≤ 40) (ho : -20 ≤ o ∧ o ≤ 20) {I : px_I} (hW : mW I) (L : px_L) (hq : ∀ L2, mNL L L2 → Q (some (.int (xB lo (xR 64 127 (I 103 59) (I 103 60) lo (I 137) a.toNatClampNeg (x0 64 o (-1) 0) a.toNatClampNeg) (64 - (I 103 61).toNatClampNeg) (2 * (I 103 61).toNatClampNeg + 1)).toInt32)) n I L2 R) : ∀ k : Int32, k ≤ 129 → 0 ≤ k → ∀ L1, mNL L L1 → (∀ j, j < k.toNatClampNeg → L1 145 j = x0 64 o (-1) 0 j) → px M_X12_detour 0 0 31 [(0, .ref 103), (1, .int a), (2, .int o), (3, .int lo), (4, .int k)] [] n I L1 R Q := by
  refine px_up 129 (fun k ih hk => ?_)
  intro h0 L1 h1 hF1
  refine px_ige rfl q_X12_detour_31 hg rfl trivial (fun c36 => ?_) (fun c36 => ?_)
  · refine px_b rfl q_X12_detour_68 hg rfl trivial ?_
    obtain ⟨n1, n2, n3⟩ := x40 ha
    exact px_go (ls_detour73 hg a o lo ha hW L (x0 64 o (-1) 0) (fun j _ => by unfold x0; split <;> decide) hq (a - 1) (by grind) (by grind) L1 h1 (fun j hj => by rw [n3, Nat.sub_self]; exact hF1 j (xn129 (by grind) hj))) ⟨rfl, rfl, rfl, rfl, rfl, trivial⟩
  · refine px_ine rfl q_X12_detour_39 hg rfl trivial (fun c51 => ?_) (fun c51 => ?_)
    · refine px_b rfl q_X12_detour_58 hg rfl ⟨trivial, (by first | decide | (refine ⟨?_, ?_⟩ <;> grind) | grind)⟩ ?_
      exact px_go (ih (k + 1) (by grind) (by grind) (by grind) _ (h1.u5 _ _) (xnext h0 (by grind) hF1 (by rw [x0_at h0 (by grind)]; exact (if_neg c51).symm))) ⟨rfl, rfl, rfl, rfl, rfl, trivial⟩
    · refine px_b rfl q_X12_detour_54 hg rfl ⟨trivial, (by first | decide | (refine ⟨?_, ?_⟩ <;> grind) | grind)⟩ ?_
      exact px_go (ih (k + 1) (by grind) (by grind) (by grind) _ (h1.u5 _ _) (xnext h0 (by grind) hF1 (by rw [x0_at h0 (by grind)]; exact (if_pos (by grind)).symm))) ⟨rfl, rfl, rfl, rfl, rfl, trivial⟩

def mAns (I : px_I) (a o lo : Int32) : Int32 := (xB lo (xR 64 127 (I 103 59) (I 103 60) lo (I 137) a.toNatClampNeg (x0 64 o (-1) 0) a.toNatClampNeg) (64 - (I 103 61).toNatClampNeg) (2 * (I 103 61).toNatClampNeg + 1)).toInt32

set_option maxRecDepth 100000 in
theorem ks_detour {n : Nat} {I : px_I} {L : px_L} {R : px_R} (hg : px_G n R) (a o lo : Int32) (hW : mW I) : px_KS M_X12_detour [.ref 103, .int a, .int o, .int lo] n I L R (fun r I2 L2 => (I2 = I ∧ mNL L L2) ∧ ((((1 ≤ a ∧ a ≤ 40) ∧ (-20 ≤ o ∧ o ≤ 20)) ∧ r = mAns I a o lo) ∨ (¬ ((1 ≤ a ∧ a ≤ 40) ∧ (-20 ≤ o ∧ o ≤ 20)) ∧ r = -1))) := by
  refine px_of (plainFor_of_name np_RX12) (fun _ _ _ => trivial) rfl ?_
  refine px_cSP rfl q_X12_detour_0 hg rfl trivial lk_12_167 nm_X12_in (k_inI hg _ (1) (40) (by decide) (by decide)) rfl rfl rfl ⟨rfl, rfl⟩ ?_
  intro x6 h6
  refine px_eq rfl q_X12_detour_9 hg rfl trivial (fun c9 => ?_) (fun c9 => ?_)
  · replace h6 := px_bf h6 c9
    refine px_riS rfl q_X12_detour_26 rfl rfl rfl hg rfl trivial ⟨⟨rfl, rfl⟩, ?_⟩
    exact ⟨⟨rfl, fun _ _ _ => rfl⟩, Or.inr ⟨by grind, rfl⟩⟩
  · replace h6 := px_bt h6 c9
    refine px_cSP rfl q_X12_detour_12 hg rfl trivial lk_12_167 nm_X12_in (k_inI hg _ (-20) (20) (by decide) (by decide)) rfl rfl rfl ⟨rfl, rfl⟩ ?_
    intro x20 h20
    refine px_ne rfl q_X12_detour_23 hg rfl trivial (fun c23 => ?_) (fun c23 => ?_)
    · replace h20 := px_bt h20 c23
      refine px_b rfl q_X12_detour_28 hg rfl trivial ?_
      exact px_go (ls_detour31 hg a o lo (by grind) (by grind) hW L (fun L2 h => ⟨rfl, rfl, _, rfl, ⟨rfl, h⟩, Or.inl ⟨by grind, rfl⟩⟩) 0 (by decide) (by decide) L (fun _ _ _ => rfl) xnone) ⟨rfl, rfl, rfl, rfl, rfl, trivial⟩
    · replace h20 := px_bf h20 c23
      refine px_riS rfl q_X12_detour_26 rfl rfl rfl hg rfl trivial ⟨⟨rfl, rfl⟩, ?_⟩
      exact ⟨⟨rfl, fun _ _ _ => rfl⟩, Or.inr ⟨by grind, rfl⟩⟩
