set_option maxRecDepth 100000 in
theorem ks_off {n : Nat} {I : px_I} {L : px_L} {R : px_R} (hg : px_G n R) (o b a : Int32) (h1 : -64 ≤ o + b) (h2 : o + b ≤ 64) (hp : 0 ≤ I 103 60) : px_KP M_X12_off [.ref 103, .int o, .int b, .int a] n I L R (fun r => r = pOff (I 103 59) (I 103 60) (o + b) a ∧ -64 ≤ r ∧ r ≤ 64) := by
  refine px_of (plainFor_of_name np_RX12) (fun _ _ _ => trivial) rfl ?_
  refine px_ile rfl q_X12_off_0 hg rfl trivial (fun c10 => ?_) (fun c10 => ?_)
  · refine px_le rfl q_X12_off_16 hg rfl trivial (fun c18 => ?_) (fun c18 => ?_)
    · refine px_ige rfl q_X12_off_44 hg rfl trivial (fun c51 => ?_) (fun c51 => ?_)
      · refine px_riP rfl q_X12_off_64 rfl rfl rfl hg rfl trivial ⟨⟨rfl, rfl, rfl, rfl⟩, ?_⟩
        refine ⟨by unfold pOff; grind, ?_, ?_⟩ <;> grind
      · refine px_riP rfl q_X12_off_54 rfl rfl rfl hg rfl trivial ⟨⟨rfl, rfl, rfl, rfl⟩, ?_⟩
        refine ⟨by unfold pOff; grind, ?_, ?_⟩ <;> grind
    · refine px_ile rfl q_X12_off_21 hg rfl trivial (fun c27 => ?_) (fun c27 => ?_)
      · refine px_riP rfl q_X12_off_40 rfl rfl rfl hg rfl trivial ⟨⟨rfl, rfl, rfl, rfl⟩, ?_⟩
        refine ⟨by unfold pOff; grind, ?_, ?_⟩ <;> grind
      · refine px_riP rfl q_X12_off_30 rfl rfl rfl hg rfl trivial ⟨⟨rfl, rfl, rfl, rfl⟩, ?_⟩
        refine ⟨by unfold pOff; grind, ?_, ?_⟩ <;> grind
  · refine px_riP rfl q_X12_off_13 rfl rfl rfl hg rfl trivial ⟨⟨rfl, rfl, rfl, rfl⟩, ?_⟩
    refine ⟨by unfold pOff; grind, ?_, ?_⟩ <;> grind
