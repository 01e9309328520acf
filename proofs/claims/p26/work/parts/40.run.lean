/-! a run is asked -/

theorem q_X11_run_0 : px_bk 11 5 cX11_run 0 [(.aload_n 0, (0, 0, 0, 0, 0), 0, 0), (.getfield 52, (11, 6, 3, 85, 0), 0, 0), (.iload_n 1, (0, 0, 0, 0, 0), 0, 0)] = some 5 ∧ px_tv cX11_run 5 181 = true := by decide +kernel
theorem q_X11_run_8 : px_bk 11 5 cX11_run 8 [] = some 8 ∧ px_t1 cX11_run 8 .eq 28 = true := by decide +kernel
theorem q_X11_run_28 : px_bk 11 5 cX11_run 28 [(.ldc 120, (0, 0, 0, 0, 0), -2000000000, 0)] = some 30 ∧ px_tr cX11_run 30 .ireturn = true := by decide +kernel
theorem q_X11_run_11 : px_bk 11 5 cX11_run 11 [(.iload_n 2, (0, 0, 0, 0, 0), 0, 0)] = some 12 ∧ px_tS cX11_run 12 218 = true := by decide +kernel
theorem q_X11_run_15 : px_bk 11 5 cX11_run 15 [] = some 15 ∧ px_t1 cX11_run 15 .eq 28 = true := by decide +kernel
theorem q_X11_run_18 : px_bk 11 5 cX11_run 18 [(.iload_n 3, (0, 0, 0, 0, 0), 0, 0), (.iconst 0, (0, 0, 0, 0, 0), 0, 0), (.bipush 8, (0, 0, 0, 0, 0), 8, 0)] = some 22 ∧ px_tS cX11_run 22 85 = true := by decide +kernel
theorem q_X11_run_25 : px_bk 11 5 cX11_run 25 [] = some 25 ∧ px_t1 cX11_run 25 .ne 31 = true := by decide +kernel
theorem q_X11_run_31 : px_bk 11 5 cX11_run 31 [(.bipush 16, (0, 0, 0, 0, 0), 16, 0), (.iload_n 1, (0, 0, 0, 0, 0), 0, 0), (.imul, (0, 0, 0, 0, 0), 0, 0), (.iload_n 2, (0, 0, 0, 0, 0), 0, 0), (.iadd, (0, 0, 0, 0, 0), 0, 0), (.istore 4, (0, 0, 0, 0, 0), 0, 0), (.aload_n 0, (0, 0, 0, 0, 0), 0, 0), (.getfield 52, (11, 6, 3, 85, 0), 0, 0), (.iload 4, (0, 0, 0, 0, 0), 0, 0)] = some 45 ∧ px_tv cX11_run 45 221 = true := by decide +kernel
theorem q_X11_run_48 : px_bk 11 5 cX11_run 48 [] = some 48 ∧ px_t1 cX11_run 48 .eq 64 = true := by decide +kernel
theorem q_X11_run_64 : px_bk 11 5 cX11_run 64 [(.ldc 120, (0, 0, 0, 0, 0), -2000000000, 0)] = some 66 ∧ px_tr cX11_run 66 .ireturn = true := by decide +kernel
theorem q_X11_run_51 : px_bk 11 5 cX11_run 51 [(.aload_n 0, (0, 0, 0, 0, 0), 0, 0), (.getfield 52, (11, 6, 3, 85, 0), 0, 0), (.iload 4, (0, 0, 0, 0, 0), 0, 0), (.iload_n 3, (0, 0, 0, 0, 0), 0, 0)] = some 58 ∧ px_tv cX11_run 58 224 = true := by decide +kernel
theorem q_X11_run_61 : px_bk 11 5 cX11_run 61 [(.goto 5, (0, 0, 0, 0, 0), 0, 0)] = some 66 ∧ px_tr cX11_run 66 .ireturn = true := by decide +kernel
set_option maxRecDepth 100000 in
theorem b_run {n : Nat} {I : px_I} {L : px_L} {R : px_R} (hg : px_G n R) (w h a : Int32) (hT : cTold n I R) : px_KS M_X11_run [.ref 32, .int w, .int h, .int a] n I L R (fun r I2 L2 => bXI I I2 ∧ bXL L L2) := by
  refine px_of (plainFor_of_name np_RX11) (fun _ _ _ => trivial) rfl ?_
  refine px_cVP (ci := 5) rfl q_X11_run_0 hg rfl trivial lk_11_181 nm_X5_hasPlace (c_hasPlace hg _) rfl rfl (px_lit hg rfl) rfl rfl rfl ⟨rfl, rfl⟩ ?_
  intro x5 h5
  refine px_eq rfl q_X11_run_8 hg rfl trivial (fun c8 => ?_) (fun c8 => ?_)
  · replace h5 := px_bf h5 c8
    refine px_riS rfl q_X11_run_28 rfl rfl rfl hg rfl trivial ⟨⟨rfl, rfl⟩, ?_⟩
    first | exact ⟨bXI.rfl', bXL.rfl'⟩ | exact ⟨h45a.b, h45b.b⟩
  · replace h5 := px_bt h5 c8
    refine px_cSP rfl q_X11_run_11 hg rfl trivial lk_11_218 nm_X11_isHeading (c_isHeading hg _) rfl rfl rfl ⟨rfl, rfl⟩ ?_
    intro x12 h12
    refine px_eq rfl q_X11_run_15 hg rfl trivial (fun c15 => ?_) (fun c15 => ?_)
    · replace h12 := px_bf h12 c15
      refine px_riS rfl q_X11_run_28 rfl rfl rfl hg rfl trivial ⟨⟨rfl, rfl⟩, ?_⟩
      first | exact ⟨bXI.rfl', bXL.rfl'⟩ | exact ⟨h45a.b, h45b.b⟩
    · replace h12 := px_bt h12 c15
      refine px_cSP rfl q_X11_run_18 hg rfl trivial lk_11_85 nm_X11_within (c_within hg _ _ _) rfl rfl rfl ⟨rfl, rfl⟩ ?_
      intro x22 h22
      refine px_ne rfl q_X11_run_25 hg rfl trivial (fun c25 => ?_) (fun c25 => ?_)
      · replace h22 := px_bt h22 c25
        refine px_cVS (ci := 5) rfl q_X11_run_31 hg rfl trivial lk_11_221 nm_X5_make (c_make hg _ hT) rfl rfl (px_lit hg rfl) rfl rfl rfl ⟨rfl, rfl⟩ ?_
        intro x45 I45 L45 h45
        obtain ⟨hr45, h45a, h45b⟩ := h45
        refine px_eq rfl q_X11_run_48 hg rfl trivial (fun c48 => ?_) (fun c48 => ?_)
        · refine px_riS rfl q_X11_run_64 rfl rfl rfl hg rfl trivial ⟨⟨rfl, rfl⟩, ?_⟩
          first | exact ⟨bXI.rfl', bXL.rfl'⟩ | exact ⟨h45a.b, h45b.b⟩
        · refine px_cVP (ci := 5) rfl q_X11_run_51 hg rfl trivial lk_11_224 nm_X5_answer (c_answer hg _ _) rfl rfl (px_lit hg rfl) rfl rfl rfl ⟨rfl, rfl⟩ ?_
          intro x58 h58
          refine px_riS rfl q_X11_run_61 rfl rfl rfl hg rfl trivial ⟨⟨rfl, rfl⟩, ?_⟩
          first | exact ⟨bXI.rfl', bXL.rfl'⟩ | exact ⟨h45a.b, h45b.b⟩
      · replace h22 := px_bf h22 c25
        refine px_riS rfl q_X11_run_28 rfl rfl rfl hg rfl trivial ⟨⟨rfl, rfl⟩, ?_⟩
        first | exact ⟨bXI.rfl', bXL.rfl'⟩ | exact ⟨h45a.b, h45b.b⟩
