set_option maxRecDepth 100000 in
theorem ls_judge {n : Nat} {R : px_R} (hg : px_G n R) {Q : px_Q} (a b : Int32) {I : px_I} {L : px_L} (hq : ∀ r, r = jF (gFr I a b) (gOu I a b) → Q (some (.int r)) n I L R) : ∀ i : Int32, i ≤ 3 → 0 ≤ i → ∀ v : Int32, (∀ x : Int32, 0 ≤ x → x < i → ¬ gFr I a b x) → jO 1 0 v i (gOu I a b) → px M_X3_judge 0 0 5 [(0, .ref 92), (1, .int a), (2, .int b), (3, .int v), (4, .int i)] [] n I L R Q := by
  refine px_up 3 (fun i ih hi => ?_)
  intro h0 v hF hO
  refine px_ige rfl q_X3_judge_5 hg rfl trivial (fun c8 => ?_) (fun c8 => ?_)
  · refine px_ri rfl q_X3_judge_81 rfl rfl rfl hg rfl trivial ?_
    first
      | exact hq _ (jF_2 h0 (by assumption) (Or.inl (g17.trans (by assumption))))
      | exact hq _ (jF_2 h0 (by grind) (Or.inl (g17.trans (by assumption))))
      | exact hq _ (jF_2 h0 (by grind) (Or.inr (g28.trans (by assumption))))
      | (have e3 : i = 3 := by grind
         subst e3
         exact hq _ (jF_v hF hO))
  · refine px_cVP (ci := 3) rfl q_X3_judge_11 hg rfl trivial lk_3_49 nm_X3_bound (cs_boundM hg _ _ _ _ ⟨h0, by grind⟩) rfl rfl (px_lit hg rfl) rfl rfl rfl ⟨rfl, rfl⟩ ?_
    intro x17 h17
    have g17 : jjB I a b i 0 = x17 := h17.symm
    refine px_cVP (ci := 3) rfl q_X3_judge_20 hg rfl trivial lk_3_49 nm_X3_bound (cs_boundM hg _ _ _ _ ⟨h0, by grind⟩) rfl rfl (px_lit hg rfl) rfl rfl rfl ⟨rfl, rfl⟩ ?_
    intro x28 h28
    have g28 : jjB I a b i 1 = x28 := h28.symm
    refine px_ieq rfl q_X3_judge_31 hg rfl trivial (fun c37 => ?_) (fun c37 => ?_)
    · refine px_ri rfl q_X3_judge_47 rfl rfl rfl hg rfl trivial ?_
      first
        | exact hq _ (jF_2 h0 (by assumption) (Or.inl (g17.trans (by assumption))))
        | exact hq _ (jF_2 h0 (by grind) (Or.inl (g17.trans (by assumption))))
        | exact hq _ (jF_2 h0 (by grind) (Or.inr (g28.trans (by assumption))))
        | (have e3 : i = 3 := by grind
           subst e3
           exact hq _ (jF_v hF hO))
    · refine px_ine rfl q_X3_judge_40 hg rfl trivial (fun c44 => ?_) (fun c44 => ?_)
      · refine px_igt rfl q_X3_judge_49 hg rfl ⟨trivial, (by first | decide | (refine ⟨?_, ?_⟩ <;> grind) | grind)⟩ (fun c58 => ?_) (fun c58 => ?_)
        · refine px_b rfl q_X3_judge_73 hg rfl trivial ?_
          have hi3 : i < 3 := by grind
          first
            | exact px_go (ih (i + 1) (by grind) (by grind) (by grind) _ (no_up h0 hi3 hF (fun z => z.elim (fun z => absurd (g17.symm.trans z) (by assumption)) (fun z => absurd (g28.symm.trans z) (by assumption)))) (jO.hit h0 hi3 (Or.inl (by rw [g17]; grind)))) ⟨rfl, rfl, rfl, rfl, rfl, trivial⟩
            | exact px_go (ih (i + 1) (by grind) (by grind) (by grind) _ (no_up h0 hi3 hF (fun z => z.elim (fun z => absurd (g17.symm.trans z) (by assumption)) (fun z => absurd (g28.symm.trans z) (by assumption)))) (jO.hit h0 hi3 (Or.inr (by rw [g28]; grind)))) ⟨rfl, rfl, rfl, rfl, rfl, trivial⟩
            | exact px_go (ih (i + 1) (by grind) (by grind) (by grind) _ (no_up h0 hi3 hF (fun z => z.elim (fun z => absurd (g17.symm.trans z) (by assumption)) (fun z => absurd (g28.symm.trans z) (by assumption)))) (hO.on h0 hi3 (fun z => z.elim (fun z => by rw [g17] at z; grind) (fun z => by rw [g28] at z; grind)))) ⟨rfl, rfl, rfl, rfl, rfl, trivial⟩
        · refine px_ige rfl q_X3_judge_61 hg rfl ⟨trivial, (by first | decide | (refine ⟨?_, ?_⟩ <;> grind) | grind)⟩ (fun c70 => ?_) (fun c70 => ?_)
          · refine px_b rfl q_X3_judge_75 hg rfl trivial ?_
            have hi3 : i < 3 := by grind
            first
              | exact px_go (ih (i + 1) (by grind) (by grind) (by grind) _ (no_up h0 hi3 hF (fun z => z.elim (fun z => absurd (g17.symm.trans z) (by assumption)) (fun z => absurd (g28.symm.trans z) (by assumption)))) (jO.hit h0 hi3 (Or.inl (by rw [g17]; grind)))) ⟨rfl, rfl, rfl, rfl, rfl, trivial⟩
              | exact px_go (ih (i + 1) (by grind) (by grind) (by grind) _ (no_up h0 hi3 hF (fun z => z.elim (fun z => absurd (g17.symm.trans z) (by assumption)) (fun z => absurd (g28.symm.trans z) (by assumption)))) (jO.hit h0 hi3 (Or.inr (by rw [g28]; grind)))) ⟨rfl, rfl, rfl, rfl, rfl, trivial⟩
              | exact px_go (ih (i + 1) (by grind) (by grind) (by grind) _ (no_up h0 hi3 hF (fun z => z.elim (fun z => absurd (g17.symm.trans z) (by assumption)) (fun z => absurd (g28.symm.trans z) (by assumption)))) (hO.on h0 hi3 (fun z => z.elim (fun z => by rw [g17] at z; grind) (fun z => by rw [g28] at z; grind)))) ⟨rfl, rfl, rfl, rfl, rfl, trivial⟩
          · refine px_b rfl q_X3_judge_73 hg rfl trivial ?_
            have hi3 : i < 3 := by grind
            first
              | exact px_go (ih (i + 1) (by grind) (by grind) (by grind) _ (no_up h0 hi3 hF (fun z => z.elim (fun z => absurd (g17.symm.trans z) (by assumption)) (fun z => absurd (g28.symm.trans z) (by assumption)))) (jO.hit h0 hi3 (Or.inl (by rw [g17]; grind)))) ⟨rfl, rfl, rfl, rfl, rfl, trivial⟩
              | exact px_go (ih (i + 1) (by grind) (by grind) (by grind) _ (no_up h0 hi3 hF (fun z => z.elim (fun z => absurd (g17.symm.trans z) (by assumption)) (fun z => absurd (g28.symm.trans z) (by assumption)))) (jO.hit h0 hi3 (Or.inr (by rw [g28]; grind)))) ⟨rfl, rfl, rfl, rfl, rfl, trivial⟩
              | exact px_go (ih (i + 1) (by grind) (by grind) (by grind) _ (no_up h0 hi3 hF (fun z => z.elim (fun z => absurd (g17.symm.trans z) (by assumption)) (fun z => absurd (g28.symm.trans z) (by assumption)))) (hO.on h0 hi3 (fun z => z.elim (fun z => by rw [g17] at z; grind) (fun z => by rw [g28] at z; grind)))) ⟨rfl, rfl, rfl, rfl, rfl, trivial⟩
      · refine px_ri rfl q_X3_judge_47 rfl rfl rfl hg rfl trivial ?_
        first
          | exact hq _ (jF_2 h0 (by assumption) (Or.inl (g17.trans (by assumption))))
          | exact hq _ (jF_2 h0 (by grind) (Or.inl (g17.trans (by assumption))))
          | exact hq _ (jF_2 h0 (by grind) (Or.inr (g28.trans (by assumption))))
          | (have e3 : i = 3 := by grind
             subst e3
             exact hq _ (jF_v hF hO))

set_option maxRecDepth 100000 in
theorem cs_judge {n : Nat} {I : px_I} {L : px_L} {R : px_R} (hg : px_G n R) (a b : Int32) : px_KP M_X3_judge [.ref 92, .int a, .int b] n I L R (fun r => r = jF (gFr I a b) (gOu I a b)) := by
  refine px_of (plainFor_of_name np_RX3) (fun _ _ _ => trivial) rfl ?_
  refine px_b rfl q_X3_judge_0 hg rfl trivial ?_
  exact px_go (ls_judge hg a b (fun r h => ⟨rfl, rfl, r, rfl, rfl, rfl, h⟩) 0 (by decide) (by decide) 0 (fun x x0 x1 => absurd (Int32.lt_of_le_of_lt x0 x1) (by decide)) jO.zero) ⟨rfl, rfl, rfl, rfl, rfl, trivial⟩

set_option maxRecDepth 100000 in
theorem bs_fits {n : Nat} {I : px_I} {L : px_L} {R : px_R} (hg : px_G n R) (a f b t : Int32) (hT : cTold n I R) {Z : Nat → zL} (hZ : cHas I R Z) (hS : cSt I) (hO : cSo I) : px_KS M_X11_fits [.ref 32, .int a, .int f, .int b, .int t] n I L R (fun r I2 L2 => (bXI I I2 ∧ bXL L L2) ∧ cHas I2 R Z ∧ r = cFt I R Z a f b t) := by
  refine px_of (plainFor_of_name np_RX11) (fun _ _ _ => trivial) rfl ?_
  refine px_cVS (ci := 11) rfl q_X11_fits_0 hg rfl trivial lk_11_228 nm_X11_canMeet (cs_canMeet hg _ _ _ _ hT hZ) rfl rfl (px_lit hg rfl) rfl rfl rfl ⟨rfl, rfl⟩ ?_
  intro x6 I6 L6 h6
  obtain ⟨hr6, h6m, h6w, h6z, h6i, h6k⟩ := h6
  have h6a := h6m.b
  have h6b := h6w.b
  have hT6 := h6m.told hT
  have f6 : ∀ b, 33 ≤ b → b ≤ 39 → I6 b = I b := fun b q1 q2 => funext fun j => h6m b j (by omega) (by omega) (by omega) (by omega) (by omega)
  have e67 : I6 33 7 = I 33 7 := h6m 33 7 (by decide) (by decide) (by decide) (by decide) (by decide)
  have hS6 := cSt_same f6 hS
  have hO6 := cSo_same f6 hO
  refine px_ne rfl q_X11_fits_9 hg rfl trivial (fun c9 => ?_) (fun c9 => ?_)
  · have r6 := hr6.resolve_left (by assumption)
    have m6 := h6i.mp r6
    have k6 := h6k r6
    have hf6 : 0 ≤ f ∧ f < I6 33 7 := by rw [e67]; exact m6.2.2.1
    have ht6 : 0 ≤ t ∧ t < I6 33 7 := by rw [e67]; exact m6.2.2.2
    refine px_cVW (ci := 3) rfl q_X11_fits_14 hg rfl trivial lk_11_231 nm_X3_look (cs_look hg _ _ _ hS6 hO6 hf6 ht6) rfl rfl (px_lit hg rfl) rfl rfl rfl ⟨rfl, rfl⟩ ?_
    intro I25 L25 h25
    obtain ⟨h25c, h25d, h25v⟩ := h25
    refine px_cVP (ci := 3) rfl q_X11_fits_28 hg rfl trivial lk_11_241 nm_X3_judge (cs_judge hg _ _) rfl rfl (px_lit hg rfl) rfl rfl rfl ⟨rfl, rfl⟩ ?_
    intro x34 h34
    refine px_riS rfl q_X11_fits_37 rfl rfl rfl hg rfl trivial ⟨⟨rfl, rfl⟩, ?_⟩
    first
      | exact ⟨⟨h6a, h6b⟩, h6z, (jjN_f (fun z => absurd (h6i.mpr z) (by grind))).symm⟩
      | exact ⟨⟨h6a.trans h25c.b, h6b.trans h25d.b⟩, h6z.gap hT6 h25c, by rw [h34]; exact (fits_in m6 h6z h6m k6.1 k6.2 h25c h25v).trans (jjN_t m6).symm⟩
  · refine px_riS rfl q_X11_fits_12 rfl rfl rfl hg rfl trivial ⟨⟨rfl, rfl⟩, ?_⟩
    first
      | exact ⟨⟨h6a, h6b⟩, h6z, (jjN_f (fun z => absurd (h6i.mpr z) (by grind))).symm⟩
      | exact ⟨⟨h6a.trans h25c.b, h6b.trans h25d.b⟩, h6z.gap hT6 h25c, by rw [h34]; exact (fits_in m6 h6z h6m k6.1 k6.2 h25c h25v).trans (jjN_t m6).symm⟩
