theorem q_law_0n : decode cL_law 0 = .ok (.new 7, 3) := by decide +kernel
theorem q_law_8n : decode cL_law 8 = .ok (.new 10, 3) := by decide +kernel
theorem q_law_0s : (px_bk 13 4 cL_law 3 [(.dup, (0, 0, 0, 0, 0), 0, 0)] = some 4 ∧ List.all [(.dup, (0, 0, 0, 0, 0), 0, 0)] (fun x => !px_us x) = true) := by decide +kernel
theorem q_law_4s : px_tI cL_law 4 9 = true := by decide +kernel
theorem q_law_12s : px_tI cL_law 12 12 = true := by decide +kernel
theorem q_law_7s : (px_bk 13 4 cL_law 7 [(.astore_n 1, (0, 0, 0, 0, 0), 0, 0)] = some 8 ∧ List.all [(.astore_n 1, (0, 0, 0, 0, 0), 0, 0)] (fun x => !px_us x) = true) := by decide +kernel
theorem q_law_11s : (px_bk 13 4 cL_law 11 [(.dup, (0, 0, 0, 0, 0), 0, 0)] = some 12 ∧ List.all [(.dup, (0, 0, 0, 0, 0), 0, 0)] (fun x => !px_us x) = true) := by decide +kernel
theorem q_law_15s : (px_bk 13 4 cL_law 15 [(.astore_n 2, (0, 0, 0, 0, 0), 0, 0), (.iconst 0, (0, 0, 0, 0, 0), 0, 0), (.istore_n 3, (0, 0, 0, 0, 0), 0, 0)] = some 18 ∧ List.all [(.astore_n 2, (0, 0, 0, 0, 0), 0, 0), (.iconst 0, (0, 0, 0, 0, 0), 0, 0), (.istore_n 3, (0, 0, 0, 0, 0), 0, 0)] (fun x => !px_us x) = true) := by decide +kernel

/-! the start: both are made, nothing is told yet -/
theorem bOk0 (o : Nat) : bOk o px_I0 px_L0 px_R0 := fun _ _ => ⟨rfl, rfl, rfl⟩
theorem cWay0 : cWay 147 77 := ⟨⟨by decide, by decide, rfl⟩, ⟨by decide, by decide, rfl, rfl⟩, ⟨by decide, by decide, rfl, rfl⟩⟩
theorem px_z2 (N : Int32) (hN : 0 ≤ N) : (0 : Int32) ≤ 0 ∧ (0 : Int32) ≤ N := ⟨Int32.le_refl 0, hN⟩
theorem cRd0 : cRd 77 px_I0 := ⟨Or.inl rfl, by decide, fun k => px_z2 1000000 (by decide), by decide, by decide, by decide, fun k => px_z2 200 (by decide), fun k => px_z2 201 (by decide), by decide, fun k => px_z2 1000000 (by decide)⟩
theorem mSafe0 : mSafe px_I0 := by
  refine ⟨⟨by decide, by decide, fun k k0 k1 => ?_⟩, fun g g0 g1 => ⟨px_z2 20 (by decide), fun p p1 p2 => ?_⟩, fun k k0 k1 => ?_, ⟨by decide, fun k k0 k1 => ?_⟩, ?_, fun w w0 w1 w2 => ?_, by decide, by decide⟩
  · exact absurd (Int32.lt_of_le_of_lt k0 k1) (by show ¬ ((0 : Int32) < 0); decide)
  · exact absurd (Int32.lt_of_le_of_lt p1 p2) (by show ¬ ((1 : Int32) < 0); decide)
  · show -1 ≤ (if k.toNatClampNeg < 40 then (-1 : Int32) else 0) ∧ (if k.toNatClampNeg < 40 then (-1 : Int32) else 0) < 24
    split <;> decide
  · exact absurd (Int32.lt_of_le_of_lt k0 k1) (by show ¬ ((0 : Int32) < 0); decide)
  · unfold mW; decide
  · exact absurd w2 (by show ¬ ((0 : Int32) = 1); decide)
theorem jJ0 : jJ 147 px_I0 px_R0 := by
  refine ⟨⟨⟨0, rfl⟩, px_R0_G, ⟨77, rfl, cWay0, cRd0⟩, fun i hi w hw => ?_, by decide⟩, by unfold cSt; decide, by unfold cGal; decide, Or.inl ⟨rfl, rfl⟩, mSafe0⟩
  have : px_R0 89 i = none := rfl
  rw [this] at hw
  cases hw
theorem rel0 : rel px_I0 px_L0 px_R0 := ⟨(by decide), (by decide), (by decide), ⟨fun i h => absurd h (by have e : (px_I0 33 8).toNatClampNeg = 0 := (by decide); rw [e]; exact Nat.not_lt_zero _), fun i h => absurd h (by have e : (px_I0 33 8).toNatClampNeg = 0 := (by decide); rw [e]; exact Nat.not_lt_zero _)⟩, (by decide), (fun _ => rfl), WY0, (by decide)⟩
set_option maxRecDepth 100000 in
theorem lw_px {N : Nat} {xs : Nat → Int32} (hN : N ≤ 4096) {Q : px_Q} (hq : ∀ n I L R, Q (some (.int 1)) n I L R) : px (M_law N xs) 0 0 0 [(0, .ref 20)] [] 32 px_I0 px_L0 px_R0 Q := by
  refine px_nO (idx := 7) (ci := 11) (nf := 11) q_law_0n (show (RL, 7, 11) ∈ px_tn by decide) rfl rfl rfl rfl ?_
  refine px_bc (on := 13) rfl q_law_0s rfl trivial ?_
  refine px_kI q_law_4s lk_13_9 nm_X11_init (mk_X11 (bOk0 32)) rfl rfl rfl ?_
  rintro _ _ _ _ _ ⟨rfl, rfl, rfl, rfl, rfl⟩
  refine px_bc (on := 13) rfl q_law_7s rfl trivial ?_
  refine px_nO (idx := 10) (ci := 12) (nf := 77) q_law_8n (show (RL, 10, 12) ∈ px_tn by decide) rfl rfl rfl rfl ?_
  refine px_bc (on := 13) rfl q_law_11s rfl trivial ?_
  refine px_kI q_law_12s lk_13_12 nm_X12_init (mk_X12 (bOk0 103)) rfl rfl rfl ?_
  rintro _ _ _ _ _ ⟨rfl, rfl, rfl, rfl, rfl⟩
  refine px_bc (on := 13) rfl q_law_15s rfl trivial ?_
  exact px_go (lw_loop hN hq 0 (by decide) 0 rfl 147 px_I0 px_L0 px_R0 jJ0 rel0) ⟨rfl, rfl, rfl, rfl, trivial⟩
