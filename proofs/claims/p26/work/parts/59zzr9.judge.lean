set_option maxRecDepth 100000 in
theorem ls_judge {n : Nat} {R : px_R} (hg : px_G n R) {Q : px_Q} (a b : Int32) {I : px_I} {L : px_L} (hq : ∀ r, r = jF (gFr I a b) (gOu I a b) → Q (some (.int r)) n I L R) : ∀ i : Int32, i ≤ 3 → 0 ≤ i → ∀ v : Int32, (∀ x : Int32, 0 ≤ x → x < i → ¬ gFr I a b x) → jO 1 0 v i (gOu I a b) → px M_X3_judge 0 0 5 [(0, .ref 92), (1, .int a), (2, .int b), (3, .int v), (4, .int i)] [] n I L R Q := by
  refine px_up 3 (fun i ih hi => ?_)
  intro h0 v hF hO
  refine px_ige rfl q_X3_judge_5 hg rfl trivial (fun c8 => ?_) (fun c8 => ?_)
  · refine px_ri rfl q_X3_judge_81 rfl rfl rfl hg rfl trivial ?_
    first
      | exact hq _ (jF_2 h0 (by assumption) (Or.inl (g17.trans (by assumption))))
      | exact hq _ (jF_2 h0 (by grind) (Or.inl (g17.trans (by assumption))))
      | exact hq _ (jF_2 h0 (by grind) (Or.inr (g28.trans (by assumption))))
      | (have e3 : i = 3 := by grind
         subst e3
         exact hq _ (jF_v hF hO))
  · refine px_cVP (ci := 3) rfl q_X3_judge_11 hg rfl trivial lk_3_49 nm_X3_bound (cs_boundM hg _ _ _ _ ⟨h0, by grind⟩) rfl rfl (px_lit hg rfl) rfl rfl rfl ⟨rfl, rfl⟩ ?_
    intro x17 h17
    have g17 : jjB I a b i 0 = x17 := h17.symm
    refine px_cVP (ci := 3) rfl q_X3_judge_20 hg rfl trivial lk_3_49 nm_X3_bound (cs_boundM hg _ _ _ _ ⟨h0, by grind⟩) rfl rfl (px_lit hg rfl) rfl rfl rfl ⟨rfl, rfl⟩ ?_
    intro x28 h28
    have g28 : jjB I a b i 1 = x28 := h28.symm
    refine px_ieq rfl q_X3_judge_31 hg rfl trivial (fun c37 => ?_) (fun c37 => ?_)
    · refine px_ri rfl q_X3_judge_47 rfl rfl rfl hg rfl trivial ?_
      first
        | exact hq _ (jF_2 h0 (by assumption) (Or.inl (g17.trans (by assumption))))
        | exact hq _ (jF_2 h0 (by grind) (Or.inl (g17.trans (by assumption))))
        | exact hq _ (jF_2 h0 (by grind) (Or.inr (g28.trans (by assumption))))
        | (have e3 : i = 3 := by grind
           subst e3
           exact hq _ (jF_v hF hO))
    · refine px_ine rfl q_X3_judge_40 hg rfl trivial (fun c44 => ?_) (fun c44 => ?_)
      · refine px_igt rfl q_X3_judge_49 hg rfl ⟨trivial, (by first | decide | (refine ⟨?_, ?_⟩ <;> grind) | grind)⟩ (fun c58 => ?_) (fun c58 => ?_)
        · refine px_b rfl q_X3_judge_73 hg rfl trivial ?_
          have hi3 : i < 3 := by grind
          first
            | exact px_go (ih (i + 1) (by grind) (by grind) (by grind) _ (no_up h0 hi3 hF (fun z => z.elim (fun z => absurd (g17.symm.trans z) (by assumption)) (fun z => absurd (g28.symm.trans z) (by assumption)))) (jO.hit h0 hi3 (Or.inl (by rw [g17]; grind)))) ⟨rfl, rfl, rfl, rfl, rfl, trivial⟩
            | exact px_go (ih (i + 1) (by grind) (by grind) (by grind) _ (no_up h0 hi3 hF (fun z => z.elim (fun z => absurd (g17.symm.trans z) (by assumption)) (fun z => absurd (g28.symm.trans z) (by assumption)))) (jO.hit h0 hi3 (Or.inr (by rw [g28]; grind)))) ⟨rfl, rfl, rfl, rfl, rfl, trivial⟩
            | exact px_go (ih (i + 1) (by grind) (by grind) (by grind) _ (no_up h0 hi3 hF (fun z => z.elim (fun z => absurd (g17.symm.trans z) (by assumption)) (fun z => absurd (g28.symm.trans z) (by assumption)))) (hO.on h0 hi3 (fun z => z.elim (fun z => by rw [g17] at z; grind) (fun z => by rw [g28] at z; grind)))) ⟨rfl, rfl, rfl, rfl, rfl, trivial⟩
        · refine px_ige rfl q_X3_judge_61 hg rfl ⟨trivial, (by first | decide | (refine ⟨?_, ?_⟩ <;> grind) | grind)⟩ (fun c70 => ?_) (fun c70 => ?_)
          · refine px_b rfl q_X3_judge_75 hg rfl trivial ?_
            have hi3 : i < 3 := by grind
            first
              | exact px_go (ih (i + 1) (by grind) (by grind) (by grind) _ (no_up h0 hi3 hF (fun z => z.elim (fun z => absurd (g17.symm.trans z) (by assumption)) (fun z => absurd (g28.symm.trans z) (by assumption)))) (jO.hit h0 hi3 (Or.inl (by rw [g17]; grind)))) ⟨rfl, rfl, rfl, rfl, rfl, trivial⟩
              | exact px_go (ih (i + 1) (by grind) (by grind) (by grind) _ (no_up h0 hi3 hF (fun z => z.elim (fun z => absurd (g17.symm.trans z) (by assumption)) (fun z => absurd (g28.symm.trans z) (by assumption)))) (jO.hit h0 hi3 (Or.inr (by rw [g28]; grind)))) ⟨rfl, rfl, rfl, rfl, rfl, trivial⟩
              | exact px_go (ih (i + 1) (by grind) (by grind) (by grind) _ (no_up h0 hi3 hF (fun z => z.elim (fun z => absurd (g17.symm.trans z) (by assumption)) (fun z => absurd (g28.symm.trans z) (by assumption)))) (hO.on h0 hi3 (fun z => z.elim (fun z => by rw [g17] at z; grind) (fun z => by rw [g28] at z; grind)))) ⟨rfl, rfl, rfl, rfl, rfl, trivial⟩
          · refine px_b rfl q_X3_judge_73 hg rfl trivial ?_
            have hi3 : i < 3 := by grind
            first
              | exact px_go (ih (i + 1) (by grind) (by grind) (by grind) _ (no_up h0 hi3 hF (fun z => z.elim (fun z => absurd (g17.symm.trans z) (by assumption)) (fun z => absurd (g28.symm.trans z) (by assumption)))) (jO.hit h0 hi3 (Or.inl (by rw [g17]; grind)))) ⟨rfl, rfl, rfl, rfl, rfl, trivial⟩
              | exact px_go (ih (i + 1) (by grind) (by grind) (by grind) _ (no_up h0 hi3 hF (fun z => z.elim (fun z => absurd (g17.symm.trans z) (by assumption)) (fun z => absurd (g28.symm.trans z) (by assumption)))) (jO.hit h0 hi3 (Or.inr (by rw [g28]; grind)))) ⟨rfl, rfl, rfl, rfl, rfl, trivial⟩
              | exact px_go (ih (i + 1) (by grind) (by grind) (by grind) _ (no_up h0 hi3 hF (fun z => z.elim (fun z => absurd (g17.symm.trans z) (by assumption)) (fun z => absurd (g28.symm.trans z) (by assumption)))) (hO.on h0 hi3 (fun z => z.elim (fun z => by rw [g17] at z; grind) (fun z => by rw [g28] at z; grind)))) ⟨rfl, rfl, rfl, rfl, rfl, trivial⟩
      · refine px_ri rfl q_X3_judge_47 rfl rfl rfl hg rfl trivial ?_
        first
          | exact hq _ (jF_2 h0 (by assumption) (Or.inl (g17.trans (by assumption))))
          | exact hq _ (jF_2 h0 (by grind) (Or.inl (g17.trans (by assumption))))
          | exact hq _ (jF_2 h0 (by grind) (Or.inr (g28.trans (by assumption))))
          | (have e3 : i = 3 := by grind
             subst e3
             exact hq _ (jF_v hF hO))

set_option maxRecDepth 100000 in
theorem cs_judge {n : Nat} {I : px_I} {L : px_L} {R : px_R} (hg : px_G n R) (a b : Int32) : px_KP M_X3_judge [.ref 92, .int a, .int b] n I L R (fun r => r = jF (gFr I a b) (gOu I a b)) := by
  refine px_of (plainFor_of_name np_RX3) (fun _ _ _ => trivial) rfl ?_
  refine px_b rfl q_X3_judge_0 hg rfl trivial ?_
  exact px_go (ls_judge hg a b (fun r h => ⟨rfl, rfl, r, rfl, rfl, rfl, h⟩) 0 (by decide) (by decide) 0 (fun x x0 x1 => absurd (Int32.lt_of_le_of_lt x0 x1) (by decide)) jO.zero) ⟨rfl, rfl, rfl, rfl, rfl, trivial⟩
