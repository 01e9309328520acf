/-! what stands outside, out of what the claim gives of the start -/
def wTm (i : Nat) : Term := .string "TunnelBook$Reader" (px_txt.getD i (0, "")).1
def wCst (adK adV : Nat → Nat) (tE tN b tF : Nat) (k : Nat) : Nat := if k < 9 then adK k else if k < 18 then adV (k - 9) else if k = 18 then tE else if k = 19 then tN else if k = 20 then b else tF
abbrev wF : List Cond := flatC (Jvm.Cond.and given_1 narrow_1)
theorem wF_x : ∀ i, i < 9 → Cond.exactly (wTm i) "java/lang/String" ∈ wF := by decide +kernel
theorem wF_c : ∀ i, i < 9 → Cond.eq (.field (wTm i) "java/lang/String" "coder" "B") (.int 0) ∈ wF := by decide +kernel
theorem wF_r : ∀ i, i < 9 → Cond.arrayOf (.field (wTm i) "java/lang/String" "value" "[B") .byte ∈ wF := by decide +kernel
theorem wF_l : ∀ i, i < 9 → Cond.eq (.length (.field (wTm i) "java/lang/String" "value" "[B")) (.int (Int32.ofNat (px_len.getD i 0))) ∈ wF := by decide +kernel
theorem wF_e : ∀ i, i < 9 → ∀ j, j < px_len.getD i 0 → Cond.eq (.elem (.field (wTm i) "java/lang/String" "value" "[B") (.int (Int32.ofNat j))) (.int ((px_byt.getD i []).getD j 0)) ∈ wF := by decide +kernel
theorem wF_n : ∀ i, i < 9 → ∀ j, j < 9 → i ≠ j → Cond.not (Cond.eq (wTm i) (wTm j)) ∈ wF ∨ Cond.not (Cond.eq (wTm j) (wTm i)) ∈ wF := by decide +kernel
theorem wF_E : ∀ j, j < 4 → Cond.eq (.elem (.static "TunnelBook$Walk" "EAST" "[I") (.int (Int32.ofNat j))) (.int (px_east.getD j 0)) ∈ wF := by decide +kernel
theorem wF_N : ∀ j, j < 4 → Cond.eq (.elem (.static "TunnelBook$Walk" "NORTH" "[I") (.int (Int32.ofNat j))) (.int (px_nort.getD j 0)) ∈ wF := by decide +kernel
theorem wF_o : Cond.arrayOf (.static "TunnelBook$Walk" "EAST" "[I") .int ∈ wF ∧ Cond.eq (.length (.static "TunnelBook$Walk" "EAST" "[I")) (.int (Int32.ofNat 4)) ∈ wF ∧ Cond.arrayOf (.static "TunnelBook$Walk" "NORTH" "[I") .int ∈ wF ∧ Cond.eq (.length (.static "TunnelBook$Walk" "NORTH" "[I")) (.int (Int32.ofNat 4)) ∈ wF ∧ Cond.eq (.static "java/lang/String" "COMPACT_STRINGS" "Z") (.int 1) ∈ wF ∧ Cond.isRef (.static "jdk/internal/util/Preconditions" "SIOOBE_FORMATTER" "Ljava/util/function/BiFunction;") ∈ wF := by decide +kernel
theorem wT_s : ∀ i, i < 9 → Cond.stringRef RX4 (px_txt.getD i (0, "")).1 (px_txt.getD i (0, "")).2 ∈ lw_tbl := by decide +kernel
theorem wT_n : ∀ e ∈ px_nest, Cond.methodLinkNest e.1 e.2.1 e.2.2.1 e.2.2.2 ∈ lw_tbl := by decide +kernel
theorem lw_world {b : Nat} {s : State} (hgv : (Jvm.Cond.and given_1 narrow_1).before #[Value.ref b] s = true) (ht0 : ∀ w ∈ lw_tbl, w.before #[Value.ref b] s = true) : ∃ cst : Nat → Nat, cst 20 = b ∧ px_C s.heap.size cst s s.heap := by
  have hs := flat_of_before _ hgv
  have hts : ∀ w ∈ px_T, w.before #[Value.ref b] s = true := fun w hw => ht0 w (List.mem_filter.mp hw).1
  have hA : ∀ a : Nat, a < s.heap.size → ¬ px_A s.heap.size a := fun a h => Nat.not_le.mpr h
  obtain ⟨adK, adV, hK, hE⟩ := vk_Sof (args := #[Value.ref b]) (s := s) (A := px_A s.heap.size) (tm := wTm) (len := px_len) (byt := px_byt) (N := 9) (by decide) (fun i hi => hs _ (wF_x i hi)) (fun i hi => hs _ (wF_c i hi)) (fun i hi => hs _ (wF_r i hi)) (fun i hi => hs _ (wF_l i hi)) (fun i hi j hj => hs _ (wF_e i hi j hj)) (fun i j hi hj hne => (wF_n i hi j hj hne).imp (fun h => hs _ h) (fun h => hs _ h)) hA
  obtain ⟨o1, o2, o3, o4, o5, o6⟩ := wF_o
  obtain ⟨tE, hE1, hE2⟩ := va_Tof (f := fun j => .int (px_east.getD j 0)) (N := 4) (A := px_A s.heap.size) (by decide) (hs _ o1) (va_eqt (hs _ o2)) (fun j hj => va_eqt (hs _ (wF_E j hj))) hA
  obtain ⟨tN, hN1, hN2⟩ := va_Tof (f := fun j => .int (px_nort.getD j 0)) (N := 4) (A := px_A s.heap.size) (by decide) (hs _ o3) (va_eqt (hs _ o4)) (fun j hj => va_eqt (hs _ (wF_N j hj))) hA
  have hCS : va_Z "java/lang/String" "COMPACT_STRINGS" "Z" (.int 1) (px_A s.heap.size) s s.heap := va_Zof (ht0 (Jvm.Cond.laysStatic "java/lang/String" "COMPACT_STRINGS" "Z") (by decide +kernel)) (ht0 (Jvm.Cond.initialized "java/lang/String") (by decide +kernel)) (va_eqi (hs _ o5)) hA
  have hF : ∃ tF, va_Z "jdk/internal/util/Preconditions" "SIOOBE_FORMATTER" "Ljava/util/function/BiFunction;" .null (px_A s.heap.size) s s.heap ∨ va_Z "jdk/internal/util/Preconditions" "SIOOBE_FORMATTER" "Ljava/util/function/BiFunction;" (.ref tF) (px_A s.heap.size) s s.heap := by
    rcases va_Zqof (ht0 (Jvm.Cond.laysStatic "jdk/internal/util/Preconditions" "SIOOBE_FORMATTER" "Ljava/util/function/BiFunction;") (by decide +kernel)) (ht0 (Jvm.Cond.initialized "jdk/internal/util/Preconditions") (by decide +kernel)) (hs _ o6) hA with h | ⟨t, h⟩
    · exact ⟨0, Or.inl h⟩
    · exact ⟨t, Or.inr h⟩
  obtain ⟨tF, hF⟩ := hF
  have c1 : ∀ i, i < 9 → wCst adK adV tE tN b tF i = adK i := fun i hi => if_pos hi
  have c2 : ∀ i, i < 9 → wCst adK adV tE tN b tF (9 + i) = adV i := fun i hi => by
    unfold wCst
    rw [if_neg (by omega), if_pos (by omega), show 9 + i - 9 = i by omega]
  refine ⟨wCst adK adV tE tN b tF, rfl, ⟨⟨fun i hi => ?_, fun i j hi hj h => hK.2 i j hi hj ?_⟩, fun i hi => ?_, va_Zof (ht0 (Jvm.Cond.laysStatic "TunnelBook$Walk" "EAST" "[I") (by decide +kernel)) (ht0 (Jvm.Cond.initialized "TunnelBook$Walk") (by decide +kernel)) hE1 hA, hE2, va_Zof (ht0 (Jvm.Cond.laysStatic "TunnelBook$Walk" "NORTH" "[I") (by decide +kernel)) (ht0 (Jvm.Cond.initialized "TunnelBook$Walk") (by decide +kernel)) hN1 hA, hN2, hCS, hF, va_AO.of (ht0 ((Jvm.Cond.arrayOver (Jvm.ClassFile.FieldType.object "TunnelBook$Way"))) (by decide +kernel)), fun e he => ?_⟩⟩
  · rw [c1 i hi]; simp only [c2 i hi]; exact hK.1 i hi
  · rw [c1 i hi, c1 j hj] at h; exact h
  · rw [c1 i hi]; exact vk_R.of (ht0 _ (wT_s i hi)) (hE i hi)
  · exact va_tabs rfl rfl (ht0 _ (wT_n e he))
