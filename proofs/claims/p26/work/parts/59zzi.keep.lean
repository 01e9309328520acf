set_option maxRecDepth 100000 in
theorem ls_keep {n : Nat} {R : px_R} (hg : px_G n R) {Q : px_Q} (a : Int32) (ha : 0 ≤ a ∧ a ≤ 855) {I : px_I} {L : px_L} {f : Nat → Int32} (hf : ∀ q, f q = -2000000000) (hq : ∀ I2, cKp a I f 9 I2 → Q none n I2 L R) : ∀ i : Int32, i ≤ 9 → 0 ≤ i → ∀ I1, cKp a I f i.toNatClampNeg I1 → px M_X5_keep 0 0 12 [(0, .ref 85), (1, .int a), (2, .int i)] [] n I1 L R Q := by
  refine px_up 9 (fun i ih hi => ?_)
  intro h0 I1 h1
  have up := (px_tnS h0 (by grind)).1
  refine px_ige rfl q_X5_keep_12 hg rfl trivial (fun c15 => ?_) (fun c15 => ?_)
  · refine px_rv rfl q_X5_keep_34 rfl rfl rfl hg rfl trivial ?_
    have e9 : i = 9 := by grind
    subst e9
    exact hq _ h1
  · refine px_b rfl q_X5_keep_18 hg rfl ⟨trivial, (by first | decide | (refine ⟨?_, ?_⟩ <;> grind) | grind)⟩ ?_
    exact px_go (ih (i + 1) (by grind) (by grind) (by grind) _ (by rw [up]; exact h1.at (kA ha ⟨h0, hi⟩) (hf _).symm)) ⟨rfl, rfl, rfl, trivial⟩

set_option maxRecDepth 100000 in
theorem cs_keep {n : Nat} {I : px_I} {L : px_L} {R : px_R} (hg : px_G n R) (a : Int32) (ha : 0 ≤ a ∧ a ≤ 855) : px_KV M_X5_keep [.ref 85, .int a] n I L R (fun I2 L2 => L2 = L ∧ cKp a I (cAns I L) 9 I2) := by
  refine px_of (plainFor_of_name np_RX5) (fun _ _ _ => trivial) rfl ?_
  refine px_ne rfl q_X5_keep_0 hg rfl trivial (fun c7 => ?_) (fun c7 => ?_)
  · refine px_rvW rfl q_X5_keep_35 rfl rfl rfl hg rfl ⟨⟨⟨⟨⟨⟨⟨⟨⟨trivial, (by first | exact Or.inl rfl | (refine ⟨?_, ?_⟩ <;> grind))⟩, (by first | exact Or.inl rfl | (refine ⟨?_, ?_⟩ <;> grind))⟩, (by first | exact Or.inl rfl | (refine ⟨?_, ?_⟩ <;> grind))⟩, (by first | exact Or.inl rfl | (refine ⟨?_, ?_⟩ <;> grind))⟩, (by first | exact Or.inl rfl | (refine ⟨?_, ?_⟩ <;> grind))⟩, (by first | exact Or.inl rfl | (refine ⟨?_, ?_⟩ <;> grind))⟩, (by first | exact Or.inl rfl | (refine ⟨?_, ?_⟩ <;> grind))⟩, (by first | exact Or.inl rfl | (refine ⟨?_, ?_⟩ <;> grind))⟩, (by first | exact Or.inl rfl | (refine ⟨?_, ?_⟩ <;> grind))⟩ ⟨⟨rfl, rfl⟩, ?_⟩
    refine ⟨rfl, ?_⟩
    have nz : ¬ I 86 17 = 0 := by assumption
    have v : ∀ q, cAns I L q = (cV I L q).toInt32 := fun q => if_neg nz
    have k1 : (a + 1).toNatClampNeg = a.toNatClampNeg + 1 := (kA ha (i := 1) (by decide)).trans (by rw [show (1 : Int32).toNatClampNeg = 1 by decide])
    have k2 : (a + 2).toNatClampNeg = a.toNatClampNeg + 2 := (kA ha (i := 2) (by decide)).trans (by rw [show (2 : Int32).toNatClampNeg = 2 by decide])
    have k3 : (a + 3).toNatClampNeg = a.toNatClampNeg + 3 := (kA ha (i := 3) (by decide)).trans (by rw [show (3 : Int32).toNatClampNeg = 3 by decide])
    have k4 : (a + 4).toNatClampNeg = a.toNatClampNeg + 4 := (kA ha (i := 4) (by decide)).trans (by rw [show (4 : Int32).toNatClampNeg = 4 by decide])
    have k5 : (a + 5).toNatClampNeg = a.toNatClampNeg + 5 := (kA ha (i := 5) (by decide)).trans (by rw [show (5 : Int32).toNatClampNeg = 5 by decide])
    have k6 : (a + 6).toNatClampNeg = a.toNatClampNeg + 6 := (kA ha (i := 6) (by decide)).trans (by rw [show (6 : Int32).toNatClampNeg = 6 by decide])
    have k7 : (a + 7).toNatClampNeg = a.toNatClampNeg + 7 := (kA ha (i := 7) (by decide)).trans (by rw [show (7 : Int32).toNatClampNeg = 7 by decide])
    have k8 : (a + 8).toNatClampNeg = a.toNatClampNeg + 8 := (kA ha (i := 8) (by decide)).trans (by rw [show (8 : Int32).toNatClampNeg = 8 by decide])
    exact ((((((((((cKp.zero (a := a) (I := I) (f := cAns I L)).at (m := 0) (Nat.add_zero _).symm (by rw [v]; rfl)).at (m := 1) k1 (by rw [v]; rfl)).at (m := 2) k2 (by rw [v]; rfl)).at (m := 3) k3 (by rw [v]; rfl)).at (m := 4) k4 (by rw [v]; rfl)).at (m := 5) k5 (by rw [v]; rfl)).at (m := 6) k6 (by rw [v]; rfl)).at (m := 7) k7 (by rw [v]; show _ = (I 86 15).toInt64.toInt32; simp)).at (m := 8) k8 (by rw [v]; show _ = (I 86 16).toInt64.toInt32; simp))
  · refine px_b rfl q_X5_keep_10 hg rfl trivial ?_
    exact px_go (ls_keep hg a ha (f := cAns I L) (fun q => if_pos (by assumption)) (fun I2 h => ⟨rfl, rfl, rfl, rfl, h⟩) 0 (by decide) (by decide) I cKp.zero) ⟨rfl, rfl, rfl, trivial⟩

set_option maxRecDepth 100000 in
theorem cs_answer {n : Nat} {I : px_I} {L : px_L} {R : px_R} (hg : px_G n R) (s a : Int32) : px_KP M_X5_answer [.ref 85, .int s, .int a] n I L R (fun r => r = if 0 ≤ s * 9 + a ∧ s * 9 + a ≤ 863 then I 91 (s * 9 + a).toNatClampNeg else -2000000000) := by
  refine px_of (plainFor_of_name np_RX5) (fun _ _ _ => trivial) rfl ?_
  refine px_cSNP rfl q_X5_answer_0 hg rfl trivial lk_5_82 nm_X11_within (c_within hg _ _ _) rfl rfl rfl ⟨rfl, rfl⟩ ?_
  intro x12 h12
  refine px_eq rfl q_X5_answer_15 hg rfl trivial (fun c15 => ?_) (fun c15 => ?_)
  · replace h12 := px_bf h12 c15
    refine px_riP rfl q_X5_answer_27 rfl rfl rfl hg rfl trivial ⟨⟨rfl, rfl, rfl, rfl⟩, ?_⟩
    first | exact (if_pos (by assumption)).symm | exact (if_neg (by assumption)).symm
  · replace h12 := px_bt h12 c15
    refine px_riP rfl q_X5_answer_18 rfl rfl rfl hg rfl ⟨trivial, (by refine ⟨?_, ?_⟩ <;> grind)⟩ ⟨⟨rfl, rfl, rfl, rfl⟩, ?_⟩
    first | exact (if_pos (by assumption)).symm | exact (if_neg (by assumption)).symm

set_option maxRecDepth 100000 in
theorem cs_make {n : Nat} {I : px_I} {L : px_L} {R : px_R} (hg : px_G n R) (s : Int32) (ht : cTold n I R) {Z : Nat → zL} (hZ : cHas I R Z) : px_KS M_X5_make [.ref 85, .int s] n I L R (fun r I2 L2 => (r = 0 ∨ r = 1) ∧ cMI I I2 ∧ cWL L L2 ∧ cHas I2 R Z ∧ (r = 1 ↔ cTd R s) ∧ (r = 1 → ¬ I2 90 s.toNatClampNeg = 0) ∧ ∀ k, ¬ I 90 k = 0 → ¬ I2 90 k = 0) := by
  refine px_of (plainFor_of_name np_RX5) (fun _ _ _ => trivial) rfl ?_
  refine px_lt rfl q_X5_make_0 hg rfl trivial (fun c1 => ?_) (fun c1 => ?_)
  · refine px_rzS rfl q_X5_make_15 rfl rfl rfl hg rfl trivial ⟨⟨rfl, rfl⟩, (by first | exact Or.inl rfl | exact Or.inr rfl | grind), ?_⟩
    first
      | exact ⟨Or.inl rfl, cMI.rfl', cWL.rfl', hZ, ⟨fun z => absurd z (by decide), fun z => absurd z.1.1 (by grind)⟩, fun z => absurd z (by decide), fun _ z => z⟩
      | exact ⟨Or.inl rfl, cMI.rfl', cWL.rfl', hZ, ⟨fun z => absurd z (by decide), fun z => absurd ⟨z.1.2, z.2⟩ h9⟩, fun z => absurd z (by decide), fun _ z => z⟩
      | exact ⟨Or.inr rfl, cMI.rfl', cWL.rfl', hZ, ⟨fun _ => ⟨⟨hs0, hs8⟩, h9.2⟩, fun _ => rfl⟩, fun _ => by assumption, fun _ z => z⟩
      | exact ⟨Or.inr rfl, (h43a.M.trans (cKp_M h51)).k _ _, h43b, hZ.made ht hs0 hs8.2 h43a h43c h51, ⟨fun _ => ⟨⟨hs0, hs8⟩, h9.2⟩, fun _ => rfl⟩, fun _ => by rw [px_u_at]; decide, kept_up h43a h51 (by decide)⟩
  · refine px_cVP (ci := 5) rfl q_X5_make_4 hg rfl ⟨trivial, (by first | decide | with_reducible assumption | (refine ⟨?_, ?_⟩ <;> grind))⟩ lk_5_36 nm_X5_isTold (c_isTold hg _) rfl rfl (px_lit hg rfl) rfl rfl rfl ⟨rfl, rfl⟩ ?_
    intro x9 h9
    refine px_ne rfl q_X5_make_12 hg rfl trivial (fun c12 => ?_) (fun c12 => ?_)
    · replace h9 := px_bt h9 c12
      have hs9 := px_s96 c1 h9.1.2
      have hs8 : 0 ≤ s / 16 ∧ s / 16 < 6 := h9.1
      have hs7 : 0 ≤ s - s / 16 * 16 ∧ s - s / 16 * 16 ≤ 15 := px_rm16 (by grind)
      obtain ⟨w, hw⟩ := Option.ne_none_iff_exists'.mp h9.2
      obtain ⟨w0, hw1, hw2⟩ := ht _ (px_n6 hs8) w hw
      have hs0 : 0 ≤ s := by grind
      refine px_ne rfl q_X5_make_17 hg rfl ⟨trivial, (by first | decide | with_reducible assumption | (refine ⟨?_, ?_⟩ <;> grind))⟩ (fun c23 => ?_) (fun c23 => ?_)
      · refine px_rzS rfl q_X5_make_61 rfl rfl rfl hg rfl trivial ⟨⟨rfl, rfl⟩, (by first | exact Or.inl rfl | exact Or.inr rfl | grind), ?_⟩
        first
          | exact ⟨Or.inl rfl, cMI.rfl', cWL.rfl', hZ, ⟨fun z => absurd z (by decide), fun z => absurd z.1.1 (by grind)⟩, fun z => absurd z (by decide), fun _ z => z⟩
          | exact ⟨Or.inl rfl, cMI.rfl', cWL.rfl', hZ, ⟨fun z => absurd z (by decide), fun z => absurd ⟨z.1.2, z.2⟩ h9⟩, fun z => absurd z (by decide), fun _ z => z⟩
          | exact ⟨Or.inr rfl, cMI.rfl', cWL.rfl', hZ, ⟨fun _ => ⟨⟨hs0, hs8⟩, h9.2⟩, fun _ => rfl⟩, fun _ => by assumption, fun _ z => z⟩
          | exact ⟨Or.inr rfl, (h43a.M.trans (cKp_M h51)).k _ _, h43b, hZ.made ht hs0 hs8.2 h43a h43c h51, ⟨fun _ => ⟨⟨hs0, hs8⟩, h9.2⟩, fun _ => rfl⟩, fun _ => by rw [px_u_at]; decide, kept_up h43a h51 (by decide)⟩
      · refine px_b rfl q_X5_make_26 hg rfl ⟨trivial, (by first | decide | with_reducible assumption | (refine ⟨?_, ?_⟩ <;> grind))⟩ ?_
        refine px_aald hg (by decide +kernel) hs8 ?_
        rw [hw]
        refine px_cVW (ci := 9) rfl q_X5_make_39 hg rfl ⟨trivial, (by first | decide | with_reducible assumption | (refine ⟨?_, ?_⟩ <;> grind))⟩ lk_5_40 nm_X9_go (cx_go hg hw1 _ hs7 w0 hw2 hZ.1 (hZ.2.1 _ (px_n6 hs8) w hw)) rfl rfl (px_lit hg rfl) rfl rfl rfl ⟨rfl, rfl⟩ ?_
        intro I43 L43 h43
        obtain ⟨h43a, h43b, h43c⟩ := h43
        refine px_cVW (ci := 5) rfl q_X5_make_46 hg rfl trivial lk_5_44 nm_X5_keep (cs_keep hg _ (by grind)) rfl rfl (px_lit hg rfl) rfl rfl rfl ⟨rfl, rfl⟩ ?_
        intro I51 L51 h51
        obtain ⟨rfl, h51⟩ := h51
        refine px_rzS rfl q_X5_make_54 rfl rfl rfl hg rfl ⟨trivial, (by first | decide | with_reducible assumption | (refine ⟨?_, ?_⟩ <;> grind))⟩ ⟨⟨rfl, rfl⟩, (by first | exact Or.inl rfl | exact Or.inr rfl | grind), ?_⟩
        first
          | exact ⟨Or.inl rfl, cMI.rfl', cWL.rfl', hZ, ⟨fun z => absurd z (by decide), fun z => absurd z.1.1 (by grind)⟩, fun z => absurd z (by decide), fun _ z => z⟩
          | exact ⟨Or.inl rfl, cMI.rfl', cWL.rfl', hZ, ⟨fun z => absurd z (by decide), fun z => absurd ⟨z.1.2, z.2⟩ h9⟩, fun z => absurd z (by decide), fun _ z => z⟩
          | exact ⟨Or.inr rfl, cMI.rfl', cWL.rfl', hZ, ⟨fun _ => ⟨⟨hs0, hs8⟩, h9.2⟩, fun _ => rfl⟩, fun _ => by assumption, fun _ z => z⟩
          | exact ⟨Or.inr rfl, (h43a.M.trans (cKp_M h51)).k _ _, h43b, hZ.made ht hs0 hs8.2 h43a h43c h51, ⟨fun _ => ⟨⟨hs0, hs8⟩, h9.2⟩, fun _ => rfl⟩, fun _ => by rw [px_u_at]; decide, kept_up h43a h51 (by decide)⟩
    · replace h9 := px_bf h9 c12
      refine px_rzS rfl q_X5_make_15 rfl rfl rfl hg rfl trivial ⟨⟨rfl, rfl⟩, (by first | exact Or.inl rfl | exact Or.inr rfl | grind), ?_⟩
      first
        | exact ⟨Or.inl rfl, cMI.rfl', cWL.rfl', hZ, ⟨fun z => absurd z (by decide), fun z => absurd z.1.1 (by grind)⟩, fun z => absurd z (by decide), fun _ z => z⟩
        | exact ⟨Or.inl rfl, cMI.rfl', cWL.rfl', hZ, ⟨fun z => absurd z (by decide), fun z => absurd ⟨z.1.2, z.2⟩ h9⟩, fun z => absurd z (by decide), fun _ z => z⟩
        | exact ⟨Or.inr rfl, cMI.rfl', cWL.rfl', hZ, ⟨fun _ => ⟨⟨hs0, hs8⟩, h9.2⟩, fun _ => rfl⟩, fun _ => by assumption, fun _ z => z⟩
        | exact ⟨Or.inr rfl, (h43a.M.trans (cKp_M h51)).k _ _, h43b, hZ.made ht hs0 hs8.2 h43a h43c h51, ⟨fun _ => ⟨⟨hs0, hs8⟩, h9.2⟩, fun _ => rfl⟩, fun _ => by rw [px_u_at]; decide, kept_up h43a h51 (by decide)⟩

set_option maxRecDepth 100000 in
theorem bs_run {n : Nat} {I : px_I} {L : px_L} {R : px_R} (hg : px_G n R) (w h a : Int32) (hT : cTold n I R) {Z : Nat → zL} (hZ : cHas I R Z) : px_KS M_X11_run [.ref 32, .int w, .int h, .int a] n I L R (fun r I2 L2 => (bXI I I2 ∧ bXL L L2) ∧ cHas I2 R Z ∧ r = aRn R (cTl I) Z w h a) := by
  refine px_of (plainFor_of_name np_RX11) (fun _ _ _ => trivial) rfl ?_
  refine px_cVP (ci := 5) rfl q_X11_run_0 hg rfl trivial lk_11_181 nm_X5_hasPlace (c_hasPlace hg _) rfl rfl (px_lit hg rfl) rfl rfl rfl ⟨rfl, rfl⟩ ?_
  intro x5 h5
  refine px_eq rfl q_X11_run_8 hg rfl trivial (fun c8 => ?_) (fun c8 => ?_)
  · replace h5 := px_bf h5 c8
    refine px_riS rfl q_X11_run_28 rfl rfl rfl hg rfl trivial ⟨⟨rfl, rfl⟩, ?_⟩
    first
      | exact ⟨⟨bXI.rfl', bXL.rfl'⟩, hZ, run_no (fun z => by first | exact absurd z.1 (by assumption) | exact absurd z.2.1 (by assumption) | exact absurd z.2.2 (by assumption))⟩
      | exact ⟨⟨h45a.b, h45b.b⟩, h45c, run_out (by assumption) (by assumption) (by assumption) (fun z => absurd (h45d.mpr z) (by grind))⟩
      | (refine ⟨⟨h45a.b, h45b.b⟩, h45c, ?_⟩; have r1 := hr45.resolve_left (by assumption); subst h58; exact run_in (by assumption) (by assumption) (by assumption) h45c h45a (h45d.mp r1) (h45e r1))
  · replace h5 := px_bt h5 c8
    refine px_cSP rfl q_X11_run_11 hg rfl trivial lk_11_218 nm_X11_isHeading (c_isHeading hg _) rfl rfl rfl ⟨rfl, rfl⟩ ?_
    intro x12 h12
    refine px_eq rfl q_X11_run_15 hg rfl trivial (fun c15 => ?_) (fun c15 => ?_)
    · replace h12 := px_bf h12 c15
      refine px_riS rfl q_X11_run_28 rfl rfl rfl hg rfl trivial ⟨⟨rfl, rfl⟩, ?_⟩
      first
        | exact ⟨⟨bXI.rfl', bXL.rfl'⟩, hZ, run_no (fun z => by first | exact absurd z.1 (by assumption) | exact absurd z.2.1 (by assumption) | exact absurd z.2.2 (by assumption))⟩
        | exact ⟨⟨h45a.b, h45b.b⟩, h45c, run_out (by assumption) (by assumption) (by assumption) (fun z => absurd (h45d.mpr z) (by grind))⟩
        | (refine ⟨⟨h45a.b, h45b.b⟩, h45c, ?_⟩; have r1 := hr45.resolve_left (by assumption); subst h58; exact run_in (by assumption) (by assumption) (by assumption) h45c h45a (h45d.mp r1) (h45e r1))
    · replace h12 := px_bt h12 c15
      refine px_cSP rfl q_X11_run_18 hg rfl trivial lk_11_85 nm_X11_within (c_within hg _ _ _) rfl rfl rfl ⟨rfl, rfl⟩ ?_
      intro x22 h22
      refine px_ne rfl q_X11_run_25 hg rfl trivial (fun c25 => ?_) (fun c25 => ?_)
      · replace h22 := px_bt h22 c25
        refine px_cVS (ci := 5) rfl q_X11_run_31 hg rfl trivial lk_11_221 nm_X5_make (cs_make hg _ hT hZ) rfl rfl (px_lit hg rfl) rfl rfl rfl ⟨rfl, rfl⟩ ?_
        intro x45 I45 L45 h45
        obtain ⟨hr45, h45a, h45b, h45c, h45d, h45e, -⟩ := h45
        refine px_eq rfl q_X11_run_48 hg rfl trivial (fun c48 => ?_) (fun c48 => ?_)
        · refine px_riS rfl q_X11_run_64 rfl rfl rfl hg rfl trivial ⟨⟨rfl, rfl⟩, ?_⟩
          first
            | exact ⟨⟨bXI.rfl', bXL.rfl'⟩, hZ, run_no (fun z => by first | exact absurd z.1 (by assumption) | exact absurd z.2.1 (by assumption) | exact absurd z.2.2 (by assumption))⟩
            | exact ⟨⟨h45a.b, h45b.b⟩, h45c, run_out (by assumption) (by assumption) (by assumption) (fun z => absurd (h45d.mpr z) (by grind))⟩
            | (refine ⟨⟨h45a.b, h45b.b⟩, h45c, ?_⟩; have r1 := hr45.resolve_left (by assumption); subst h58; exact run_in (by assumption) (by assumption) (by assumption) h45c h45a (h45d.mp r1) (h45e r1))
        · refine px_cVP (ci := 5) rfl q_X11_run_51 hg rfl trivial lk_11_224 nm_X5_answer (cs_answer hg _ _) rfl rfl (px_lit hg rfl) rfl rfl rfl ⟨rfl, rfl⟩ ?_
          intro x58 h58
          refine px_riS rfl q_X11_run_61 rfl rfl rfl hg rfl trivial ⟨⟨rfl, rfl⟩, ?_⟩
          first
            | exact ⟨⟨bXI.rfl', bXL.rfl'⟩, hZ, run_no (fun z => by first | exact absurd z.1 (by assumption) | exact absurd z.2.1 (by assumption) | exact absurd z.2.2 (by assumption))⟩
            | exact ⟨⟨h45a.b, h45b.b⟩, h45c, run_out (by assumption) (by assumption) (by assumption) (fun z => absurd (h45d.mpr z) (by grind))⟩
            | (refine ⟨⟨h45a.b, h45b.b⟩, h45c, ?_⟩; have r1 := hr45.resolve_left (by assumption); subst h58; exact run_in (by assumption) (by assumption) (by assumption) h45c h45a (h45d.mp r1) (h45e r1))
      · replace h22 := px_bf h22 c25
        refine px_riS rfl q_X11_run_28 rfl rfl rfl hg rfl trivial ⟨⟨rfl, rfl⟩, ?_⟩
        first
          | exact ⟨⟨bXI.rfl', bXL.rfl'⟩, hZ, run_no (fun z => by first | exact absurd z.1 (by assumption) | exact absurd z.2.1 (by assumption) | exact absurd z.2.2 (by assumption))⟩
          | exact ⟨⟨h45a.b, h45b.b⟩, h45c, run_out (by assumption) (by assumption) (by assumption) (fun z => absurd (h45d.mpr z) (by grind))⟩
          | (refine ⟨⟨h45a.b, h45b.b⟩, h45c, ?_⟩; have r1 := hr45.resolve_left (by assumption); subst h58; exact run_in (by assumption) (by assumption) (by assumption) h45c h45a (h45d.mp r1) (h45e r1))

set_option maxRecDepth 100000 in
theorem kx_run {n : Nat} {I : px_I} {L : px_L} {R : px_R} (hg : px_G n R) (w h a : Int32) {Z : Nat → zL} (hZ : mHas I Z) : px_KS M_X12_run [.ref 103, .int w, .int h, .int a] n I L R (fun r I2 L2 => (mXI I I2 ∧ mXL L L2) ∧ r = kRn I Z w h a) := by
  refine px_of (plainFor_of_name np_RX12) (fun _ _ _ => trivial) rfl ?_
  refine px_cVP (ci := 12) rfl q_X12_run_0 hg rfl trivial lk_12_406 nm_X12_isWay (k_isWay hg _) rfl rfl (px_lit hg rfl) rfl rfl rfl ⟨rfl, rfl⟩ ?_
  intro x2 h2
  refine px_eq rfl q_X12_run_5 hg rfl trivial (fun c5 => ?_) (fun c5 => ?_)
  · replace h2 := px_bf h2 c5
    refine px_riS rfl q_X12_run_41 rfl rfl rfl hg rfl trivial ⟨⟨rfl, rfl⟩, ?_⟩
    first
      | exact ⟨⟨mXI.rfl', mXL.rfl'⟩, kRn_no (fun z => by first | exact absurd z.1 (by assumption) | exact absurd z.2.1 (by assumption) | exact absurd z.2.2 (by assumption))⟩
      | exact ⟨⟨h35.2.1.X, h35.2.2.1.X⟩, kRn_0 h2 (by assumption) (by assumption) h35.2.2.2 (by assumption)⟩
      | exact ⟨⟨h35.2.1.X, h35.2.2.1.X⟩, kRn_1 h2 (by assumption) (by assumption) h35.2.2.2 (by assumption)⟩
  · replace h2 := px_bt h2 c5
    refine px_cSP rfl q_X12_run_8 hg rfl trivial lk_12_167 nm_X12_in (k_inI hg _ (0) (15) (by decide) (by decide)) rfl rfl rfl ⟨rfl, rfl⟩ ?_
    intro x14 h14
    refine px_eq rfl q_X12_run_17 hg rfl trivial (fun c17 => ?_) (fun c17 => ?_)
    · replace h14 := px_bf h14 c17
      refine px_riS rfl q_X12_run_41 rfl rfl rfl hg rfl trivial ⟨⟨rfl, rfl⟩, ?_⟩
      first
        | exact ⟨⟨mXI.rfl', mXL.rfl'⟩, kRn_no (fun z => by first | exact absurd z.1 (by assumption) | exact absurd z.2.1 (by assumption) | exact absurd z.2.2 (by assumption))⟩
        | exact ⟨⟨h35.2.1.X, h35.2.2.1.X⟩, kRn_0 h2 (by assumption) (by assumption) h35.2.2.2 (by assumption)⟩
        | exact ⟨⟨h35.2.1.X, h35.2.2.1.X⟩, kRn_1 h2 (by assumption) (by assumption) h35.2.2.2 (by assumption)⟩
    · replace h14 := px_bt h14 c17
      refine px_cSP rfl q_X12_run_20 hg rfl trivial lk_12_167 nm_X12_in (k_inI hg _ (0) (8) (by decide) (by decide)) rfl rfl rfl ⟨rfl, rfl⟩ ?_
      intro x26 h26
      refine px_eq rfl q_X12_run_29 hg rfl trivial (fun c29 => ?_) (fun c29 => ?_)
      · replace h26 := px_bf h26 c29
        refine px_riS rfl q_X12_run_41 rfl rfl rfl hg rfl trivial ⟨⟨rfl, rfl⟩, ?_⟩
        first
          | exact ⟨⟨mXI.rfl', mXL.rfl'⟩, kRn_no (fun z => by first | exact absurd z.1 (by assumption) | exact absurd z.2.1 (by assumption) | exact absurd z.2.2 (by assumption))⟩
          | exact ⟨⟨h35.2.1.X, h35.2.2.1.X⟩, kRn_0 h2 (by assumption) (by assumption) h35.2.2.2 (by assumption)⟩
          | exact ⟨⟨h35.2.1.X, h35.2.2.1.X⟩, kRn_1 h2 (by assumption) (by assumption) h35.2.2.2 (by assumption)⟩
      · replace h26 := px_bt h26 c29
        refine px_cVS (ci := 12) rfl q_X12_run_32 hg rfl trivial lk_12_413 nm_X12_runs (kx_runs hg _ _ h2.1 (by assumption) (hZ w h2.1.1 h2.1.2 h2.2)) rfl rfl (px_lit hg rfl) rfl rfl rfl ⟨rfl, rfl⟩ ?_
        intro x35 I35 L35 h35
        refine px_ne rfl q_X12_run_38 hg rfl trivial (fun c38 => ?_) (fun c38 => ?_)
        · refine px_riS rfl q_X12_run_46 rfl rfl rfl hg rfl ⟨trivial, (by refine ⟨?_, ?_⟩ <;> grind)⟩ ⟨⟨rfl, rfl⟩, ?_⟩
          first
            | exact ⟨⟨mXI.rfl', mXL.rfl'⟩, kRn_no (fun z => by first | exact absurd z.1 (by assumption) | exact absurd z.2.1 (by assumption) | exact absurd z.2.2 (by assumption))⟩
            | exact ⟨⟨h35.2.1.X, h35.2.2.1.X⟩, kRn_0 h2 (by assumption) (by assumption) h35.2.2.2 (by assumption)⟩
            | exact ⟨⟨h35.2.1.X, h35.2.2.1.X⟩, kRn_1 h2 (by assumption) (by assumption) h35.2.2.2 (by assumption)⟩
        · refine px_riS rfl q_X12_run_41 rfl rfl rfl hg rfl trivial ⟨⟨rfl, rfl⟩, ?_⟩
          first
            | exact ⟨⟨mXI.rfl', mXL.rfl'⟩, kRn_no (fun z => by first | exact absurd z.1 (by assumption) | exact absurd z.2.1 (by assumption) | exact absurd z.2.2 (by assumption))⟩
            | exact ⟨⟨h35.2.1.X, h35.2.2.1.X⟩, kRn_0 h2 (by assumption) (by assumption) h35.2.2.2 (by assumption)⟩
            | exact ⟨⟨h35.2.1.X, h35.2.2.1.X⟩, kRn_1 h2 (by assumption) (by assumption) h35.2.2.2 (by assumption)⟩
