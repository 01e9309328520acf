/-! the methods, and the words of their calls -/
theorem px_j1 (i : Nat) {q : MethodName × Nat} (h : lw_privs_1[i]? = some q) : Cond.selects q.1.cls q.1 q.1 ∈ px_T := List.mem_filter.mpr ⟨List.mem_append_left _ (List.mem_map.mpr ⟨q, (show q ∈ lw_privs from (List.mem_append_left _ (List.mem_of_getElem? h))), rfl⟩), rfl⟩
theorem px_j2 (i : Nat) {q : MethodName × Nat} (h : lw_privs_2[i]? = some q) : Cond.selects q.1.cls q.1 q.1 ∈ px_T := List.mem_filter.mpr ⟨List.mem_append_left _ (List.mem_map.mpr ⟨q, (show q ∈ lw_privs from (List.mem_append_right _ (List.mem_append_left _ (List.mem_of_getElem? h)))), rfl⟩), rfl⟩
theorem px_j3 (i : Nat) {q : MethodName × Nat} (h : lw_privs_3[i]? = some q) : Cond.selects q.1.cls q.1 q.1 ∈ px_T := List.mem_filter.mpr ⟨List.mem_append_left _ (List.mem_map.mpr ⟨q, (show q ∈ lw_privs from (List.mem_append_right _ (List.mem_append_right _ (List.mem_append_left _ (List.mem_of_getElem? h))))), rfl⟩), rfl⟩
theorem px_j4 (i : Nat) {q : MethodName × Nat} (h : lw_privs_4[i]? = some q) : Cond.selects q.1.cls q.1 q.1 ∈ px_T := List.mem_filter.mpr ⟨List.mem_append_left _ (List.mem_map.mpr ⟨q, (show q ∈ lw_privs from (List.mem_append_right _ (List.mem_append_right _ (List.mem_append_right _ (List.mem_append_left _ (List.mem_of_getElem? h)))))), rfl⟩), rfl⟩
theorem px_j5 (i : Nat) {q : MethodName × Nat} (h : lw_privs_5[i]? = some q) : Cond.selects q.1.cls q.1 q.1 ∈ px_T := List.mem_filter.mpr ⟨List.mem_append_left _ (List.mem_map.mpr ⟨q, (show q ∈ lw_privs from (List.mem_append_right _ (List.mem_append_right _ (List.mem_append_right _ (List.mem_append_right _ (List.mem_of_getElem? h)))))), rfl⟩), rfl⟩
theorem nc_RJ0 : RJ0 ≠ "java/lang/invoke/MethodHandle" ∧ RJ0 ≠ "java/lang/invoke/VarHandle" := by decide +kernel
theorem nc_RJ1 : RJ1 ≠ "java/lang/invoke/MethodHandle" ∧ RJ1 ≠ "java/lang/invoke/VarHandle" := by decide +kernel
theorem nc_RJ2 : RJ2 ≠ "java/lang/invoke/MethodHandle" ∧ RJ2 ≠ "java/lang/invoke/VarHandle" := by decide +kernel
theorem nc_RJ3 : RJ3 ≠ "java/lang/invoke/MethodHandle" ∧ RJ3 ≠ "java/lang/invoke/VarHandle" := by decide +kernel
theorem nc_RJ9 : RJ9 ≠ "java/lang/invoke/MethodHandle" ∧ RJ9 ≠ "java/lang/invoke/VarHandle" := by decide +kernel
theorem nc_RL : RL ≠ "java/lang/invoke/MethodHandle" ∧ RL ≠ "java/lang/invoke/VarHandle" := by decide +kernel
theorem nc_RX0 : RX0 ≠ "java/lang/invoke/MethodHandle" ∧ RX0 ≠ "java/lang/invoke/VarHandle" := by decide +kernel
theorem nc_RX1 : RX1 ≠ "java/lang/invoke/MethodHandle" ∧ RX1 ≠ "java/lang/invoke/VarHandle" := by decide +kernel
theorem nc_RX10 : RX10 ≠ "java/lang/invoke/MethodHandle" ∧ RX10 ≠ "java/lang/invoke/VarHandle" := by decide +kernel
theorem nc_RX11 : RX11 ≠ "java/lang/invoke/MethodHandle" ∧ RX11 ≠ "java/lang/invoke/VarHandle" := by decide +kernel
theorem nc_RX12 : RX12 ≠ "java/lang/invoke/MethodHandle" ∧ RX12 ≠ "java/lang/invoke/VarHandle" := by decide +kernel
theorem nc_RX2 : RX2 ≠ "java/lang/invoke/MethodHandle" ∧ RX2 ≠ "java/lang/invoke/VarHandle" := by decide +kernel
theorem nc_RX3 : RX3 ≠ "java/lang/invoke/MethodHandle" ∧ RX3 ≠ "java/lang/invoke/VarHandle" := by decide +kernel
theorem nc_RX4 : RX4 ≠ "java/lang/invoke/MethodHandle" ∧ RX4 ≠ "java/lang/invoke/VarHandle" := by decide +kernel
theorem nc_RX5 : RX5 ≠ "java/lang/invoke/MethodHandle" ∧ RX5 ≠ "java/lang/invoke/VarHandle" := by decide +kernel
theorem nc_RX6 : RX6 ≠ "java/lang/invoke/MethodHandle" ∧ RX6 ≠ "java/lang/invoke/VarHandle" := by decide +kernel
theorem nc_RX7 : RX7 ≠ "java/lang/invoke/MethodHandle" ∧ RX7 ≠ "java/lang/invoke/VarHandle" := by decide +kernel
theorem nc_RX8 : RX8 ≠ "java/lang/invoke/MethodHandle" ∧ RX8 ≠ "java/lang/invoke/VarHandle" := by decide +kernel
theorem nc_RX9 : RX9 ≠ "java/lang/invoke/MethodHandle" ∧ RX9 ≠ "java/lang/invoke/VarHandle" := by decide +kernel
theorem np_RL : plainName RL = true := by decide +kernel
theorem np_RX0 : plainName RX0 = true := by decide +kernel
theorem np_RX1 : plainName RX1 = true := by decide +kernel
theorem np_RX10 : plainName RX10 = true := by decide +kernel
theorem np_RX11 : plainName RX11 = true := by decide +kernel
theorem np_RX12 : plainName RX12 = true := by decide +kernel
theorem np_RX2 : plainName RX2 = true := by decide +kernel
theorem np_RX3 : plainName RX3 = true := by decide +kernel
theorem np_RX4 : plainName RX4 = true := by decide +kernel
theorem np_RX5 : plainName RX5 = true := by decide +kernel
theorem np_RX6 : plainName RX6 = true := by decide +kernel
theorem np_RX7 : plainName RX7 = true := by decide +kernel
theorem np_RX8 : plainName RX8 = true := by decide +kernel
theorem np_RX9 : plainName RX9 = true := by decide +kernel
abbrev M_X0_init : px_M := (yX0_init, cX0_init, 3, none, 1, 20, 1, 10, fun _ _ _ => True)
theorem nm_X0_init : px_nm M_X0_init 1 := ⟨nc_RX0.1, nc_RX0.2, by decide +kernel⟩
abbrev M_X0_setRow : px_M := (yX0_setRow, cX0_setRow, 3, some .boolean, 1, 22, 0, 0, fun _ _ _ => True)
theorem nm_X0_setRow : px_nm M_X0_setRow 2 := ⟨nc_RX0.1, nc_RX0.2, by decide +kernel⟩
abbrev M_X0_rowOf : px_M := (yX0_rowOf, cX0_rowOf, 2, some .int, 1, 22, 0, 0, fun _ _ _ => True)
theorem nm_X0_rowOf : px_nm M_X0_rowOf 1 := ⟨nc_RX0.1, nc_RX0.2, by decide +kernel⟩
abbrev M_X0_tightest : px_M := (yX0_tightest, cX0_tightest, 8, some .int, 5, 135, 0, 0, fun _ _ _ => True)
theorem nm_X0_tightest : px_nm M_X0_tightest 4 := ⟨nc_RX0.1, nc_RX0.2, by decide +kernel⟩
abbrev M_X0_letThrough : px_M := (yX0_letThrough, cX0_letThrough, 14, some .int, 4, 102, 0, 0, fun _ _ _ => True)
theorem nm_X0_letThrough : px_nm M_X0_letThrough 5 := ⟨nc_RX0.1, nc_RX0.2, by decide +kernel⟩
abbrev M_X0_classOf : px_M := (yX0_classOf, cX0_classOf, 2, some .int, 1, 23, 0, 0, fun _ _ _ => True)
theorem nm_X0_classOf : px_nm M_X0_classOf 1 := ⟨nc_RX0.1, nc_RX0.2, by decide +kernel⟩
abbrev M_X1_init : px_M := (yX1_init, cX1_init, 1, none, 1, 20, 13, 290, fun _ _ _ => True)
theorem nm_X1_init : px_nm M_X1_init 0 := ⟨nc_RX1.1, nc_RX1.2, by decide +kernel⟩
abbrev M_X1_hasPeg : px_M := (yX1_hasPeg, cX1_hasPeg, 2, some .boolean, 0, 0, 0, 0, fun _ _ _ => True)
theorem nm_X1_hasPeg : px_nm M_X1_hasPeg 1 := ⟨nc_RX1.1, nc_RX1.2, by decide +kernel⟩
abbrev M_X1_hasReach : px_M := (yX1_hasReach, cX1_hasReach, 2, some .boolean, 0, 0, 0, 0, fun _ _ _ => True)
theorem nm_X1_hasReach : px_nm M_X1_hasReach 1 := ⟨nc_RX1.1, nc_RX1.2, by decide +kernel⟩
abbrev M_X1_addReach : px_M := (yX1_addReach, cX1_addReach, 8, some .int, 1, 23, 0, 0, fun _ _ _ => True)
theorem nm_X1_addReach : px_nm M_X1_addReach 6 := ⟨nc_RX1.1, nc_RX1.2, by decide +kernel⟩
abbrev M_X1_addPeg : px_M := (yX1_addPeg, cX1_addPeg, 2, none, 0, 0, 0, 0, fun _ _ _ => True)
theorem nm_X1_addPeg : px_nm M_X1_addPeg 1 := ⟨nc_RX1.1, nc_RX1.2, by decide +kernel⟩
abbrev M_X1_openAt : px_M := (yX1_openAt, cX1_openAt, 2, some .boolean, 0, 0, 0, 0, fun _ _ _ => True)
theorem nm_X1_openAt : px_nm M_X1_openAt 1 := ⟨nc_RX1.1, nc_RX1.2, by decide +kernel⟩
abbrev M_X1_addMark : px_M := (yX1_addMark, cX1_addMark, 4, some .boolean, 1, 23, 0, 0, fun _ _ _ => True)
theorem nm_X1_addMark : px_nm M_X1_addMark 3 := ⟨nc_RX1.1, nc_RX1.2, by decide +kernel⟩
abbrev M_X1_dayOf : px_M := (yX1_dayOf, cX1_dayOf, 3, some .int, 2, 42, 0, 0, fun _ _ _ => True)
theorem nm_X1_dayOf : px_nm M_X1_dayOf 2 := ⟨nc_RX1.1, nc_RX1.2, by decide +kernel⟩
abbrev M_X1_daysFrom : px_M := (yX1_daysFrom, cX1_daysFrom, 7, some .int, 2, 42, 0, 0, fun _ _ _ => True)
theorem nm_X1_daysFrom : px_nm M_X1_daysFrom 3 := ⟨nc_RX1.1, nc_RX1.2, by decide +kernel⟩
abbrev M_X1_dig : px_M := (yX1_dig, cX1_dig, 2, some .boolean, 1, 21, 0, 0, fun _ _ _ => True)
theorem nm_X1_dig : px_nm M_X1_dig 0 := ⟨nc_RX1.1, nc_RX1.2, by decide +kernel⟩
abbrev M_X1_holesAgree : px_M := (yX1_holesAgree, cX1_holesAgree, 7, some .boolean, 1, 21, 0, 0, fun _ _ _ => True)
theorem nm_X1_holesAgree : px_nm M_X1_holesAgree 4 := ⟨nc_RX1.1, nc_RX1.2, by decide +kernel⟩
abbrev M_X1_addRepair : px_M := (yX1_addRepair, cX1_addRepair, 4, some .boolean, 1, 22, 0, 0, fun _ _ _ => True)
theorem nm_X1_addRepair : px_nm M_X1_addRepair 3 := ⟨nc_RX1.1, nc_RX1.2, by decide +kernel⟩
abbrev M_X1_limeYears : px_M := (yX1_limeYears, cX1_limeYears, 6, some .int, 1, 21, 0, 0, fun _ _ _ => True)
theorem nm_X1_limeYears : px_nm M_X1_limeYears 3 := ⟨nc_RX1.1, nc_RX1.2, by decide +kernel⟩
abbrev M_X2_init : px_M := (yX2_init, cX2_init, 1, none, 1, 20, 0, 0, fun _ _ _ => True)
theorem nm_X2_init : px_nm M_X2_init 0 := ⟨nc_RX2.1, nc_RX2.2, by decide +kernel⟩
abbrev M_X2_addCount : px_M := (yX2_addCount, cX2_addCount, 6, some .int, 1, 23, 0, 0, fun _ _ _ => True)
theorem nm_X2_addCount : px_nm M_X2_addCount 3 := ⟨nc_RX2.1, nc_RX2.2, by decide +kernel⟩
abbrev M_X3_init : px_M := (yX3_init, cX3_init, 3, none, 1, 20, 4, 12, fun _ _ _ => True)
theorem nm_X3_init : px_nm M_X3_init 2 := ⟨nc_RX3.1, nc_RX3.2, by decide +kernel⟩
abbrev M_X3_seen : px_M := (yX3_seen, cX3_seen, 4, none, 2, 42, 0, 0, fun _ _ _ => True)
theorem nm_X3_seen : px_nm M_X3_seen 3 := ⟨nc_RX3.1, nc_RX3.2, by decide +kernel⟩
abbrev M_X3_look : px_M := (yX3_look, cX3_look, 5, none, 4, 102, 0, 0, fun _ _ _ => True)
theorem nm_X3_look : px_nm M_X3_look 3 := ⟨nc_RX3.1, nc_RX3.2, by decide +kernel⟩
abbrev M_X3_bound : px_M := (yX3_bound, cX3_bound, 9, some .int, 2, 45, 0, 0, fun _ _ _ => True)
theorem nm_X3_bound : px_nm M_X3_bound 4 := ⟨nc_RX3.1, nc_RX3.2, by decide +kernel⟩
abbrev M_X3_judge : px_M := (yX3_judge, cX3_judge, 7, some .int, 3, 73, 0, 0, fun _ _ _ => True)
theorem nm_X3_judge : px_nm M_X3_judge 2 := ⟨nc_RX3.1, nc_RX3.2, by decide +kernel⟩
abbrev M_X3_pairs : px_M := (yX3_pairs, cX3_pairs, 9, some .int, 6, 138, 0, 0, fun _ _ _ => True)
theorem nm_X3_pairs : px_nm M_X3_pairs 3 := ⟨nc_RX3.1, nc_RX3.2, by decide +kernel⟩
abbrev M_X4_init : px_M := (yX4_init, cX4_init, 2, none, 2, 40, 8, 447, fun _ _ _ => True)
theorem nm_X4_init : px_nm M_X4_init 1 := ⟨nc_RX4.1, nc_RX4.2, by decide +kernel⟩
abbrev M_X4_read : px_M := (yX4_read, cX4_read, 2, some .boolean, 7, 149, 0, 0, fun _ _ _ => True)
theorem nm_X4_read : px_nm M_X4_read 0 := ⟨nc_RX4.1, nc_RX4.2, by decide +kernel⟩
abbrev M_X4_begin : px_M := (yX4_begin, cX4_begin, 2, none, 0, 0, 0, 0, fun _ _ _ => True)
theorem nm_X4_begin : px_nm M_X4_begin 0 := ⟨nc_RX4.1, nc_RX4.2, by decide +kernel⟩
abbrev M_X4_fail : px_M := (yX4_fail, cX4_fail, 2, none, 0, 0, 0, 0, fun _ _ _ => True)
theorem nm_X4_fail : px_nm M_X4_fail 1 := ⟨nc_RX4.1, nc_RX4.2, by decide +kernel⟩
abbrev M_X4_readPart : px_M := (yX4_readPart, cX4_readPart, 1, none, 6, 129, 0, 0, fun _ _ _ => True)
theorem nm_X4_readPart : px_nm M_X4_readPart 0 := ⟨nc_RX4.1, nc_RX4.2, by decide +kernel⟩
abbrev M_X4_readStep : px_M := (yX4_readStep, cX4_readStep, 5, none, 3, 64, 0, 0, fun _ _ _ => True)
theorem nm_X4_readStep : px_nm M_X4_readStep 3 := ⟨nc_RX4.1, nc_RX4.2, by decide +kernel⟩
abbrev M_X4_readBareStep : px_M := (yX4_readBareStep, cX4_readBareStep, 2, none, 2, 43, 0, 0, fun _ _ _ => True)
theorem nm_X4_readBareStep : px_nm M_X4_readBareStep 1 := ⟨nc_RX4.1, nc_RX4.2, by decide +kernel⟩
abbrev M_X4_readDo : px_M := (yX4_readDo, cX4_readDo, 2, none, 3, 65, 0, 0, fun _ _ _ => True)
theorem nm_X4_readDo : px_nm M_X4_readDo 0 := ⟨nc_RX4.1, nc_RX4.2, by decide +kernel⟩
abbrev M_X4_readRepeat : px_M := (yX4_readRepeat, cX4_readRepeat, 2, none, 3, 64, 0, 0, fun _ _ _ => True)
theorem nm_X4_readRepeat : px_nm M_X4_readRepeat 0 := ⟨nc_RX4.1, nc_RX4.2, by decide +kernel⟩
abbrev M_X4_readDef : px_M := (yX4_readDef, cX4_readDef, 2, none, 3, 65, 0, 0, fun _ _ _ => True)
theorem nm_X4_readDef : px_nm M_X4_readDef 0 := ⟨nc_RX4.1, nc_RX4.2, by decide +kernel⟩
abbrev M_X4_openBlock : px_M := (yX4_openBlock, cX4_openBlock, 2, none, 0, 0, 0, 0, fun _ _ _ => True)
theorem nm_X4_openBlock : px_nm M_X4_openBlock 1 := ⟨nc_RX4.1, nc_RX4.2, by decide +kernel⟩
abbrev M_X4_closeBlock : px_M := (yX4_closeBlock, cX4_closeBlock, 2, none, 2, 44, 0, 0, fun _ _ _ => True)
theorem nm_X4_closeBlock : px_nm M_X4_closeBlock 0 := ⟨nc_RX4.1, nc_RX4.2, by decide +kernel⟩
abbrev M_X4_closeDef : px_M := (yX4_closeDef, cX4_closeDef, 3, none, 1, 22, 0, 0, fun _ _ _ => True)
theorem nm_X4_closeDef : px_nm M_X4_closeDef 1 := ⟨nc_RX4.1, nc_RX4.2, by decide +kernel⟩
abbrev M_X4_addSteps : px_M := (yX4_addSteps, cX4_addSteps, 2, none, 1, 22, 0, 0, fun _ _ _ => True)
theorem nm_X4_addSteps : px_nm M_X4_addSteps 1 := ⟨nc_RX4.1, nc_RX4.2, by decide +kernel⟩
abbrev M_X4_take : px_M := (yX4_take, cX4_take, 2, none, 1, 21, 0, 0, fun _ _ _ => True)
theorem nm_X4_take : px_nm M_X4_take 1 := ⟨nc_RX4.1, nc_RX4.2, by decide +kernel⟩
abbrev M_X4_takeNumber : px_M := (yX4_takeNumber, cX4_takeNumber, 3, none, 2, 42, 0, 0, fun _ _ _ => True)
theorem nm_X4_takeNumber : px_nm M_X4_takeNumber 2 := ⟨nc_RX4.1, nc_RX4.2, by decide +kernel⟩
abbrev M_X4_takeOpening : px_M := (yX4_takeOpening, cX4_takeOpening, 1, none, 2, 42, 0, 0, fun _ _ _ => True)
theorem nm_X4_takeOpening : px_nm M_X4_takeOpening 0 := ⟨nc_RX4.1, nc_RX4.2, by decide +kernel⟩
abbrev M_X4_takeLetter : px_M := (yX4_takeLetter, cX4_takeLetter, 4, some .int, 2, 42, 0, 0, fun _ _ _ => True)
theorem nm_X4_takeLetter : px_nm M_X4_takeLetter 1 := ⟨nc_RX4.1, nc_RX4.2, by decide +kernel⟩
abbrev M_X4_letterHere : px_M := (yX4_letterHere, cX4_letterHere, 1, some .int, 1, 22, 0, 0, fun _ _ _ => True)
theorem nm_X4_letterHere : px_nm M_X4_letterHere 0 := ⟨nc_RX4.1, nc_RX4.2, by decide +kernel⟩
abbrev M_X4_nextToken : px_M := (yX4_nextToken, cX4_nextToken, 1, none, 0, 0, 0, 0, fun _ _ _ => True)
theorem nm_X4_nextToken : px_nm M_X4_nextToken 0 := ⟨nc_RX4.1, nc_RX4.2, by decide +kernel⟩
abbrev M_X5_init : px_M := (yX5_init, cX5_init, 1, none, 2, 40, 6, 1144, fun _ _ _ => True)
theorem nm_X5_init : px_nm M_X5_init 0 := ⟨nc_RX5.1, nc_RX5.2, by decide +kernel⟩
abbrev M_X5_hasPlace : px_M := (yX5_hasPlace, cX5_hasPlace, 2, some .boolean, 0, 0, 0, 0, fun _ _ _ => True)
theorem nm_X5_hasPlace : px_nm M_X5_hasPlace 1 := ⟨nc_RX5.1, nc_RX5.2, by decide +kernel⟩
abbrev M_X5_isTold : px_M := (yX5_isTold, cX5_isTold, 2, some .boolean, 1, 21, 0, 0, fun _ _ _ => True)
theorem nm_X5_isTold : px_nm M_X5_isTold 1 := ⟨nc_RX5.1, nc_RX5.2, by decide +kernel⟩
abbrev M_X5_toldWays : px_M := (yX5_toldWays, cX5_toldWays, 3, some .int, 2, 42, 0, 0, fun _ _ _ => True)
theorem nm_X5_toldWays : px_nm M_X5_toldWays 0 := ⟨nc_RX5.1, nc_RX5.2, by decide +kernel⟩
abbrev M_X5_replace : px_M := (yX5_replace, cX5_replace, 5, some (.object "TunnelBook$Way"), 2, 40, 3, 404, fun _ _ _ => True)
theorem nm_X5_replace : px_nm M_X5_replace 2 := ⟨nc_RX5.1, nc_RX5.2, by decide +kernel⟩
abbrev M_X5_forgetAll : px_M := (yX5_forgetAll, cX5_forgetAll, 2, none, 0, 0, 0, 0, fun _ _ _ => True)
theorem nm_X5_forgetAll : px_nm M_X5_forgetAll 0 := ⟨nc_RX5.1, nc_RX5.2, by decide +kernel⟩
abbrev M_X5_make : px_M := (yX5_make, cX5_make, 2, some .boolean, 5, 117, 0, 0, fun _ _ _ => True)
theorem nm_X5_make : px_nm M_X5_make 1 := ⟨nc_RX5.1, nc_RX5.2, by decide +kernel⟩
abbrev M_X5_keep : px_M := (yX5_keep, cX5_keep, 3, none, 0, 0, 0, 0, fun _ _ _ => True)
theorem nm_X5_keep : px_nm M_X5_keep 1 := ⟨nc_RX5.1, nc_RX5.2, by decide +kernel⟩
abbrev M_X5_answer : px_M := (yX5_answer, cX5_answer, 4, some .int, 1, 22, 0, 0, fun _ _ _ => True)
theorem nm_X5_answer : px_nm M_X5_answer 2 := ⟨nc_RX5.1, nc_RX5.2, by decide +kernel⟩
abbrev M_X6_init : px_M := (yX6_init, cX6_init, 1, none, 1, 20, 3, 249, fun _ _ _ => True)
theorem nm_X6_init : px_nm M_X6_init 0 := ⟨nc_RX6.1, nc_RX6.2, by decide +kernel⟩
abbrev M_X6_weigh : px_M := (yX6_weigh, cX6_weigh, 4, none, 0, 0, 0, 0, fun _ _ _ => True)
theorem nm_X6_weigh : px_nm M_X6_weigh 3 := ⟨nc_RX6.1, nc_RX6.2, by decide +kernel⟩
abbrev M_X6_hear : px_M := (yX6_hear, cX6_hear, 4, none, 0, 0, 0, 0, fun _ _ _ => True)
theorem nm_X6_hear : px_nm M_X6_hear 3 := ⟨nc_RX6.1, nc_RX6.2, by decide +kernel⟩
abbrev M_X6_share : px_M := (yX6_share, cX6_share, 10, some .long, 3, 68, 0, 0, fun _ _ _ => True)
theorem nm_X6_share : px_nm M_X6_share 3 := ⟨nc_RX6.1, nc_RX6.2, by decide +kernel⟩
abbrev M_X6_roundabout : px_M := (yX6_roundabout, cX6_roundabout, 7, some .int, 3, 74, 0, 0, fun _ _ _ => True)
theorem nm_X6_roundabout : px_nm M_X6_roundabout 3 := ⟨nc_RX6.1, nc_RX6.2, by decide +kernel⟩
abbrev M_X6_startAt : px_M := (yX6_startAt, cX6_startAt, 7, none, 0, 0, 0, 0, fun _ _ _ => True)
theorem nm_X6_startAt : px_nm M_X6_startAt 3 := ⟨nc_RX6.1, nc_RX6.2, by decide +kernel⟩
abbrev M_X6_clearNext : px_M := (yX6_clearNext, cX6_clearNext, 4, none, 0, 0, 0, 0, fun _ _ _ => True)
theorem nm_X6_clearNext : px_nm M_X6_clearNext 1 := ⟨nc_RX6.1, nc_RX6.2, by decide +kernel⟩
abbrev M_X6_swap : px_M := (yX6_swap, cX6_swap, 2, none, 0, 0, 0, 0, fun _ _ _ => True)
theorem nm_X6_swap : px_nm M_X6_swap 0 := ⟨nc_RX6.1, nc_RX6.2, by decide +kernel⟩
abbrev M_X6_spread : px_M := (yX6_spread, cX6_spread, 5, none, 2, 44, 0, 0, fun _ _ _ => True)
theorem nm_X6_spread : px_nm M_X6_spread 2 := ⟨nc_RX6.1, nc_RX6.2, by decide +kernel⟩
abbrev M_X6_prolong : px_M := (yX6_prolong, cX6_prolong, 8, none, 2, 47, 0, 0, fun _ _ _ => True)
theorem nm_X6_prolong : px_nm M_X6_prolong 3 := ⟨nc_RX6.1, nc_RX6.2, by decide +kernel⟩
abbrev M_X6_better : px_M := (yX6_better, cX6_better, 5, some .long, 1, 23, 0, 0, fun _ _ _ => True)
theorem nm_X6_better : px_nm M_X6_better 3 := ⟨nc_RX6.1, nc_RX6.2, by decide +kernel⟩
abbrev M_X6_pulled : px_M := (yX6_pulled, cX6_pulled, 4, some .int, 1, 21, 0, 0, fun _ _ _ => True)
theorem nm_X6_pulled : px_nm M_X6_pulled 2 := ⟨nc_RX6.1, nc_RX6.2, by decide +kernel⟩
abbrev M_X6_misses : px_M := (yX6_misses, cX6_misses, 2, some .boolean, 1, 20, 0, 0, fun _ _ _ => True)
theorem nm_X6_misses : px_nm M_X6_misses 1 := ⟨nc_RX6.1, nc_RX6.2, by decide +kernel⟩
abbrev M_X6_commonDivisor : px_M := (yX6_commonDivisor, cX6_commonDivisor, 11, some .long, 0, 0, 0, 0, fun _ _ _ => True)
theorem nm_X6_commonDivisor : px_nm M_X6_commonDivisor 2 := ⟨nc_RX6.1, nc_RX6.2, by decide +kernel⟩
abbrev M_X7_init : px_M := (yX7_init, cX7_init, 1, none, 1, 20, 7, 504, fun _ _ _ => True)
theorem nm_X7_init : px_nm M_X7_init 0 := ⟨nc_RX7.1, nc_RX7.2, by decide +kernel⟩
abbrev M_X7_addStation : px_M := (yX7_addStation, cX7_addStation, 1, some .int, 0, 0, 0, 0, fun _ _ _ => True)
theorem nm_X7_addStation : px_nm M_X7_addStation 0 := ⟨nc_RX7.1, nc_RX7.2, by decide +kernel⟩
abbrev M_X7_has : px_M := (yX7_has, cX7_has, 2, some .boolean, 0, 0, 0, 0, fun _ _ _ => True)
theorem nm_X7_has : px_nm M_X7_has 1 := ⟨nc_RX7.1, nc_RX7.2, by decide +kernel⟩
abbrev M_X7_addSight : px_M := (yX7_addSight, cX7_addSight, 7, some .int, 0, 0, 0, 0, fun _ _ _ => True)
theorem nm_X7_addSight : px_nm M_X7_addSight 6 := ⟨nc_RX7.1, nc_RX7.2, by decide +kernel⟩
abbrev M_X7_bound : px_M := (yX7_bound, cX7_bound, 8, some .int, 3, 75, 0, 0, fun _ _ _ => True)
theorem nm_X7_bound : px_nm M_X7_bound 5 := ⟨nc_RX7.1, nc_RX7.2, by decide +kernel⟩
abbrev M_X7_culprit : px_M := (yX7_culprit, cX7_culprit, 6, some .int, 3, 75, 0, 0, fun _ _ _ => True)
theorem nm_X7_culprit : px_nm M_X7_culprit 3 := ⟨nc_RX7.1, nc_RX7.2, by decide +kernel⟩
abbrev M_X7_counts : px_M := (yX7_counts, cX7_counts, 4, some .boolean, 0, 0, 0, 0, fun _ _ _ => True)
theorem nm_X7_counts : px_nm M_X7_counts 3 := ⟨nc_RX7.1, nc_RX7.2, by decide +kernel⟩
abbrev M_X7_settle : px_M := (yX7_settle, cX7_settle, 6, some .boolean, 2, 50, 0, 0, fun _ _ _ => True)
theorem nm_X7_settle : px_nm M_X7_settle 4 := ⟨nc_RX7.1, nc_RX7.2, by decide +kernel⟩
abbrev M_X7_shortenAll : px_M := (yX7_shortenAll, cX7_shortenAll, 8, some .boolean, 1, 23, 0, 0, fun _ _ _ => True)
theorem nm_X7_shortenAll : px_nm M_X7_shortenAll 3 := ⟨nc_RX7.1, nc_RX7.2, by decide +kernel⟩
abbrev M_X7_shorten : px_M := (yX7_shorten, cX7_shorten, 4, some .boolean, 0, 0, 0, 0, fun _ _ _ => True)
theorem nm_X7_shorten : px_nm M_X7_shorten 3 := ⟨nc_RX7.1, nc_RX7.2, by decide +kernel⟩
abbrev M_X8_init : px_M := (yX8_init, cX8_init, 1, none, 1, 20, 5, 2004, fun _ _ _ => True)
theorem nm_X8_init : px_nm M_X8_init 0 := ⟨nc_RX8.1, nc_RX8.2, by decide +kernel⟩
abbrev M_X8_hasRoom : px_M := (yX8_hasRoom, cX8_hasRoom, 2, some .boolean, 0, 0, 0, 0, fun _ _ _ => True)
theorem nm_X8_hasRoom : px_nm M_X8_hasRoom 1 := ⟨nc_RX8.1, nc_RX8.2, by decide +kernel⟩
abbrev M_X8_append : px_M := (yX8_append, cX8_append, 3, none, 0, 0, 0, 0, fun _ _ _ => True)
theorem nm_X8_append : px_nm M_X8_append 1 := ⟨nc_RX8.1, nc_RX8.2, by decide +kernel⟩
abbrev M_X8_cut : px_M := (yX8_cut, cX8_cut, 3, none, 2, 45, 0, 0, fun _ _ _ => True)
theorem nm_X8_cut : px_nm M_X8_cut 0 := ⟨nc_RX8.1, nc_RX8.2, by decide +kernel⟩
abbrev M_X8_goesOn : px_M := (yX8_goesOn, cX8_goesOn, 4, some .boolean, 1, 22, 0, 0, fun _ _ _ => True)
theorem nm_X8_goesOn : px_nm M_X8_goesOn 2 := ⟨nc_RX8.1, nc_RX8.2, by decide +kernel⟩
abbrev M_X8_addToken : px_M := (yX8_addToken, cX8_addToken, 3, none, 0, 0, 0, 0, fun _ _ _ => True)
theorem nm_X8_addToken : px_nm M_X8_addToken 2 := ⟨nc_RX8.1, nc_RX8.2, by decide +kernel⟩
abbrev M_X8_lengthen : px_M := (yX8_lengthen, cX8_lengthen, 3, none, 1, 22, 0, 0, fun _ _ _ => True)
theorem nm_X8_lengthen : px_nm M_X8_lengthen 1 := ⟨nc_RX8.1, nc_RX8.2, by decide +kernel⟩
abbrev M_X8_byteAt : px_M := (yX8_byteAt, cX8_byteAt, 2, some .int, 0, 0, 0, 0, fun _ _ _ => True)
theorem nm_X8_byteAt : px_nm M_X8_byteAt 1 := ⟨nc_RX8.1, nc_RX8.2, by decide +kernel⟩
abbrev M_X8_isWord : px_M := (yX8_isWord, cX8_isWord, 4, some .boolean, 5, 106, 0, 0, fun _ _ _ => True)
theorem nm_X8_isWord : px_nm M_X8_isWord 2 := ⟨nc_RX8.1, nc_RX8.2, by decide +kernel⟩
abbrev M_X8_kindOf : px_M := (yX8_kindOf, cX8_kindOf, 1, some .int, 1, 22, 0, 0, fun _ _ _ => True)
theorem nm_X8_kindOf : px_nm M_X8_kindOf 1 := ⟨nc_RX8.1, nc_RX8.2, by decide +kernel⟩
abbrev M_X9_init : px_M := (yX9_init, cX9_init, 1, none, 1, 20, 2, 160, fun _ _ _ => True)
theorem nm_X9_init : px_nm M_X9_init 0 := ⟨nc_RX9.1, nc_RX9.2, by decide +kernel⟩
abbrev M_X9_take : px_M := (yX9_take, cX9_take, 6, none, 0, 0, 0, 0, fun _ _ _ => True)
theorem nm_X9_take : px_nm M_X9_take 5 := ⟨nc_RX9.1, nc_RX9.2, by decide +kernel⟩
abbrev M_X9_go : px_M := (yX9_go, cX9_go, 5, none, 4, 93, 0, 0, fun _ _ _ => True)
theorem nm_X9_go : px_nm M_X9_go 2 := ⟨nc_RX9.1, nc_RX9.2, by decide +kernel⟩
abbrev M_X9_begin : px_M := (yX9_begin, cX9_begin, 2, none, 0, 0, 0, 0, fun _ _ _ => True)
theorem nm_X9_begin : px_nm M_X9_begin 1 := ⟨nc_RX9.1, nc_RX9.2, by decide +kernel⟩
abbrev M_X9_follow : px_M := (yX9_follow, cX9_follow, 4, some .int, 3, 70, 0, 0, fun _ _ _ => True)
theorem nm_X9_follow : px_nm M_X9_follow 3 := ⟨nc_RX9.1, nc_RX9.2, by decide +kernel⟩
abbrev M_X9_push : px_M := (yX9_push, cX9_push, 3, none, 0, 0, 0, 0, fun _ _ _ => True)
theorem nm_X9_push : px_nm M_X9_push 2 := ⟨nc_RX9.1, nc_RX9.2, by decide +kernel⟩
abbrev M_X9_turnBack : px_M := (yX9_turnBack, cX9_turnBack, 3, some .int, 1, 22, 0, 0, fun _ _ _ => True)
theorem nm_X9_turnBack : px_nm M_X9_turnBack 1 := ⟨nc_RX9.1, nc_RX9.2, by decide +kernel⟩
abbrev M_X9_pop : px_M := (yX9_pop, cX9_pop, 3, some .int, 1, 22, 0, 0, fun _ _ _ => True)
theorem nm_X9_pop : px_nm M_X9_pop 1 := ⟨nc_RX9.1, nc_RX9.2, by decide +kernel⟩
abbrev M_X9_step : px_M := (yX9_step, cX9_step, 3, none, 2, 48, 0, 0, fun _ _ _ => True)
theorem nm_X9_step : px_nm M_X9_step 2 := ⟨nc_RX9.1, nc_RX9.2, by decide +kernel⟩
abbrev M_X9_layLine : px_M := (yX9_layLine, cX9_layLine, 9, none, 1, 20, 0, 0, fun _ _ _ => True)
theorem nm_X9_layLine : px_nm M_X9_layLine 1 := ⟨nc_RX9.1, nc_RX9.2, by decide +kernel⟩
abbrev M_X9_staysNear : px_M := (yX9_staysNear, cX9_staysNear, 1, some .boolean, 1, 21, 0, 0, fun _ _ _ => True)
theorem nm_X9_staysNear : px_nm M_X9_staysNear 0 := ⟨nc_RX9.1, nc_RX9.2, by decide +kernel⟩
abbrev M_X10_init : px_M := (yX10_init, cX10_init, 1, none, 1, 20, 2, 400, fun _ _ _ => True)
theorem nm_X10_init : px_nm M_X10_init 0 := ⟨nc_RX10.1, nc_RX10.2, by decide +kernel⟩
abbrev M_X10_add : px_M := (yX10_add, cX10_add, 3, none, 0, 0, 0, 0, fun _ _ _ => True)
theorem nm_X10_add : px_nm M_X10_add 2 := ⟨nc_RX10.1, nc_RX10.2, by decide +kernel⟩
abbrev M_X11_init : px_M := (yX11_init, cX11_init, 1, none, 3, 61, 70, 5037, fun _ _ _ => True)
theorem nm_X11_init : px_nm M_X11_init 0 := ⟨nc_RX11.1, nc_RX11.2, by decide +kernel⟩
abbrev M_X11_days : px_M := (yX11_days, cX11_days, 2, some .int, 1, 22, 0, 0, fun _ _ _ => True)
theorem nm_X11_days : px_nm M_X11_days 1 := ⟨nc_RX11.1, nc_RX11.2, by decide +kernel⟩
abbrev M_X11_station : px_M := (yX11_station, cX11_station, 1, some .int, 1, 20, 0, 0, fun _ _ _ => True)
theorem nm_X11_station : px_nm M_X11_station 0 := ⟨nc_RX11.1, nc_RX11.2, by decide +kernel⟩
abbrev M_X11_sight : px_M := (yX11_sight, cX11_sight, 6, some .int, 2, 42, 0, 0, fun _ _ _ => True)
theorem nm_X11_sight : px_nm M_X11_sight 5 := ⟨nc_RX11.1, nc_RX11.2, by decide +kernel⟩
abbrev M_X11_closed : px_M := (yX11_closed, cX11_closed, 3, some .int, 3, 75, 0, 0, fun _ _ _ => True)
theorem nm_X11_closed : px_nm M_X11_closed 2 := ⟨nc_RX11.1, nc_RX11.2, by decide +kernel⟩
abbrev M_X11_span : px_M := (yX11_span, cX11_span, 5, some .int, 5, 127, 0, 0, fun _ _ _ => True)
theorem nm_X11_span : px_nm M_X11_span 4 := ⟨nc_RX11.1, nc_RX11.2, by decide +kernel⟩
abbrev M_X11_gap : px_M := (yX11_gap, cX11_gap, 6, some .int, 4, 102, 0, 0, fun _ _ _ => True)
theorem nm_X11_gap : px_nm M_X11_gap 5 := ⟨nc_RX11.1, nc_RX11.2, by decide +kernel⟩
abbrev M_X11_blamed : px_M := (yX11_blamed, cX11_blamed, 4, some .int, 4, 100, 0, 0, fun _ _ _ => True)
theorem nm_X11_blamed : px_nm M_X11_blamed 3 := ⟨nc_RX11.1, nc_RX11.2, by decide +kernel⟩
abbrev M_X11_reach : px_M := (yX11_reach, cX11_reach, 9, some .int, 2, 50, 0, 0, fun _ _ _ => True)
theorem nm_X11_reach : px_nm M_X11_reach 7 := ⟨nc_RX11.1, nc_RX11.2, by decide +kernel⟩
abbrev M_X11_mouth : px_M := (yX11_mouth, cX11_mouth, 4, some .boolean, 1, 21, 0, 0, fun _ _ _ => True)
theorem nm_X11_mouth : px_nm M_X11_mouth 2 := ⟨nc_RX11.1, nc_RX11.2, by decide +kernel⟩
abbrev M_X11_mark : px_M := (yX11_mark, cX11_mark, 6, some .int, 2, 46, 0, 0, fun _ _ _ => True)
theorem nm_X11_mark : px_nm M_X11_mark 4 := ⟨nc_RX11.1, nc_RX11.2, by decide +kernel⟩
abbrev M_X11_when : px_M := (yX11_when, cX11_when, 5, some .int, 3, 64, 0, 0, fun _ _ _ => True)
theorem nm_X11_when : px_nm M_X11_when 3 := ⟨nc_RX11.1, nc_RX11.2, by decide +kernel⟩
abbrev M_X11_between : px_M := (yX11_between, cX11_between, 6, some .int, 3, 68, 0, 0, fun _ _ _ => True)
theorem nm_X11_between : px_nm M_X11_between 4 := ⟨nc_RX11.1, nc_RX11.2, by decide +kernel⟩
abbrev M_X11_lamps : px_M := (yX11_lamps, cX11_lamps, 7, some .int, 2, 47, 0, 0, fun _ _ _ => True)
theorem nm_X11_lamps : px_nm M_X11_lamps 5 := ⟨nc_RX11.1, nc_RX11.2, by decide +kernel⟩
abbrev M_X11_count : px_M := (yX11_count, cX11_count, 4, some .int, 2, 48, 0, 0, fun _ _ _ => True)
theorem nm_X11_count : px_nm M_X11_count 3 := ⟨nc_RX11.1, nc_RX11.2, by decide +kernel⟩
abbrev M_X11_unit : px_M := (yX11_unit, cX11_unit, 2, some .int, 0, 0, 0, 0, fun _ _ _ => True)
theorem nm_X11_unit : px_nm M_X11_unit 1 := ⟨nc_RX11.1, nc_RX11.2, by decide +kernel⟩
abbrev M_X11_feed : px_M := (yX11_feed, cX11_feed, 6, some .int, 1, 22, 0, 0, fun _ _ _ => True)
theorem nm_X11_feed : px_nm M_X11_feed 5 := ⟨nc_RX11.1, nc_RX11.2, by decide +kernel⟩
abbrev M_X11_end : px_M := (yX11_end, cX11_end, 2, some .int, 1, 22, 0, 0, fun _ _ _ => True)
theorem nm_X11_end : px_nm M_X11_end 1 := ⟨nc_RX11.1, nc_RX11.2, by decide +kernel⟩
abbrev M_X11_way : px_M := (yX11_way, cX11_way, 3, some .int, 8, 170, 3, 404, fun _ _ _ => True)
theorem nm_X11_way : px_nm M_X11_way 1 := ⟨nc_RX11.1, nc_RX11.2, by decide +kernel⟩
abbrev M_X11_fault : px_M := (yX11_fault, cX11_fault, 2, some .int, 0, 0, 0, 0, fun _ _ _ => True)
theorem nm_X11_fault : px_nm M_X11_fault 1 := ⟨nc_RX11.1, nc_RX11.2, by decide +kernel⟩
abbrev M_X11_tools : px_M := (yX11_tools, cX11_tools, 6, some .boolean, 1, 25, 0, 0, fun _ _ _ => True)
theorem nm_X11_tools : px_nm M_X11_tools 5 := ⟨nc_RX11.1, nc_RX11.2, by decide +kernel⟩
abbrev M_X11_run : px_M := (yX11_run, cX11_run, 5, some .int, 6, 138, 0, 0, fun _ _ _ => True)
theorem nm_X11_run : px_nm M_X11_run 3 := ⟨nc_RX11.1, nc_RX11.2, by decide +kernel⟩
abbrev M_X11_meeting : px_M := (yX11_meeting, cX11_meeting, 7, some .int, 7, 162, 0, 0, fun _ _ _ => True)
theorem nm_X11_meeting : px_nm M_X11_meeting 6 := ⟨nc_RX11.1, nc_RX11.2, by decide +kernel⟩
abbrev M_X11_there : px_M := (yX11_there, cX11_there, 4, some .boolean, 3, 65, 0, 0, fun _ _ _ => True)
theorem nm_X11_there : px_nm M_X11_there 3 := ⟨nc_RX11.1, nc_RX11.2, by decide +kernel⟩
abbrev M_X11_fits : px_M := (yX11_fits, cX11_fits, 5, some .int, 7, 162, 0, 0, fun _ _ _ => True)
theorem nm_X11_fits : px_nm M_X11_fits 4 := ⟨nc_RX11.1, nc_RX11.2, by decide +kernel⟩
abbrev M_X11_ways : px_M := (yX11_ways, cX11_ways, 6, some .int, 7, 166, 0, 0, fun _ _ _ => True)
theorem nm_X11_ways : px_nm M_X11_ways 5 := ⟨nc_RX11.1, nc_RX11.2, by decide +kernel⟩
abbrev M_X11_seek : px_M := (yX11_seek, cX11_seek, 7, some .boolean, 1, 23, 0, 0, fun _ _ _ => True)
theorem nm_X11_seek : px_nm M_X11_seek 6 := ⟨nc_RX11.1, nc_RX11.2, by decide +kernel⟩
abbrev M_X11_chance : px_M := (yX11_chance, cX11_chance, 4, some .long, 4, 97, 0, 0, fun _ _ _ => True)
theorem nm_X11_chance : px_nm M_X11_chance 3 := ⟨nc_RX11.1, nc_RX11.2, by decide +kernel⟩
abbrev M_X11_detour : px_M := (yX11_detour, cX11_detour, 4, some .int, 4, 100, 0, 0, fun _ _ _ => True)
theorem nm_X11_detour : px_nm M_X11_detour 3 := ⟨nc_RX11.1, nc_RX11.2, by decide +kernel⟩
abbrev M_X11_table : px_M := (yX11_table, cX11_table, 3, some .boolean, 2, 44, 0, 0, fun _ _ _ => True)
theorem nm_X11_table : px_nm M_X11_table 2 := ⟨nc_RX11.1, nc_RX11.2, by decide +kernel⟩
abbrev M_X11_repair : px_M := (yX11_repair, cX11_repair, 5, some .int, 2, 45, 0, 0, fun _ _ _ => True)
theorem nm_X11_repair : px_nm M_X11_repair 3 := ⟨nc_RX11.1, nc_RX11.2, by decide +kernel⟩
abbrev M_X11_lime : px_M := (yX11_lime, cX11_lime, 2, some .boolean, 1, 22, 0, 0, fun _ _ _ => True)
theorem nm_X11_lime : px_nm M_X11_lime 1 := ⟨nc_RX11.1, nc_RX11.2, by decide +kernel⟩
abbrev M_X11_flow : px_M := (yX11_flow, cX11_flow, 6, some .int, 6, 162, 0, 0, fun _ _ _ => True)
theorem nm_X11_flow : px_nm M_X11_flow 4 := ⟨nc_RX11.1, nc_RX11.2, by decide +kernel⟩
abbrev M_X11_narrow : px_M := (yX11_narrow, cX11_narrow, 5, some .int, 6, 162, 0, 0, fun _ _ _ => True)
theorem nm_X11_narrow : px_nm M_X11_narrow 3 := ⟨nc_RX11.1, nc_RX11.2, by decide +kernel⟩
abbrev M_X11_about : px_M := (yX11_about, cX11_about, 2, some .int, 3, 64, 0, 0, fun _ _ _ => True)
theorem nm_X11_about : px_nm M_X11_about 1 := ⟨nc_RX11.1, nc_RX11.2, by decide +kernel⟩
abbrev M_X11_galleryOf : px_M := (yX11_galleryOf, cX11_galleryOf, 2, some (.object "TunnelBook$Gallery"), 0, 0, 0, 0, fun _ _ _ => True)
theorem nm_X11_galleryOf : px_nm M_X11_galleryOf 1 := ⟨nc_RX11.1, nc_RX11.2, by decide +kernel⟩
abbrev M_X11_marks : px_M := (yX11_marks, cX11_marks, 1, some .int, 0, 0, 0, 0, fun _ _ _ => True)
theorem nm_X11_marks : px_nm M_X11_marks 0 := ⟨nc_RX11.1, nc_RX11.2, by decide +kernel⟩
abbrev M_X11_repairs : px_M := (yX11_repairs, cX11_repairs, 1, some .int, 0, 0, 0, 0, fun _ _ _ => True)
theorem nm_X11_repairs : px_nm M_X11_repairs 0 := ⟨nc_RX11.1, nc_RX11.2, by decide +kernel⟩
abbrev M_X11_canMeet : px_M := (yX11_canMeet, cX11_canMeet, 5, some .boolean, 6, 138, 0, 0, fun _ _ _ => True)
theorem nm_X11_canMeet : px_nm M_X11_canMeet 4 := ⟨nc_RX11.1, nc_RX11.2, by decide +kernel⟩
abbrev M_X11_within : px_M := (yX11_within, cX11_within, 3, some .boolean, 0, 0, 0, 0, fun _ _ _ => True)
theorem nm_X11_within : px_nm M_X11_within 3 := ⟨nc_RX11.1, nc_RX11.2, by decide +kernel⟩
abbrev M_X11_ordered : px_M := (yX11_ordered, cX11_ordered, 4, some .boolean, 0, 0, 0, 0, fun _ _ _ => True)
theorem nm_X11_ordered : px_nm M_X11_ordered 4 := ⟨nc_RX11.1, nc_RX11.2, by decide +kernel⟩
abbrev M_X11_isAxis : px_M := (yX11_isAxis, cX11_isAxis, 1, some .boolean, 1, 22, 0, 0, fun _ _ _ => True)
theorem nm_X11_isAxis : px_nm M_X11_isAxis 1 := ⟨nc_RX11.1, nc_RX11.2, by decide +kernel⟩
abbrev M_X11_isDay : px_M := (yX11_isDay, cX11_isDay, 1, some .boolean, 1, 22, 0, 0, fun _ _ _ => True)
theorem nm_X11_isDay : px_nm M_X11_isDay 1 := ⟨nc_RX11.1, nc_RX11.2, by decide +kernel⟩
abbrev M_X11_isHeading : px_M := (yX11_isHeading, cX11_isHeading, 1, some .boolean, 1, 22, 0, 0, fun _ _ _ => True)
theorem nm_X11_isHeading : px_nm M_X11_isHeading 1 := ⟨nc_RX11.1, nc_RX11.2, by decide +kernel⟩
abbrev M_X12_init : px_M := (yX12_init, cX12_init, 2, none, 1, 20, 43, 5580, fun _ _ _ => True)
theorem nm_X12_init : px_nm M_X12_init 0 := ⟨nc_RX12.1, nc_RX12.2, by decide +kernel⟩
abbrev M_X12_in : px_M := (yX12_in, cX12_in, 6, some .boolean, 0, 0, 0, 0, fun _ _ _ => True)
theorem nm_X12_in : px_nm M_X12_in 3 := ⟨nc_RX12.1, nc_RX12.2, by decide +kernel⟩
abbrev M_X12_isStation : px_M := (yX12_isStation, cX12_isStation, 2, some .boolean, 1, 25, 0, 0, fun _ _ _ => True)
theorem nm_X12_isStation : px_nm M_X12_isStation 1 := ⟨nc_RX12.1, nc_RX12.2, by decide +kernel⟩
abbrev M_X12_isAxis : px_M := (yX12_isAxis, cX12_isAxis, 1, some .boolean, 1, 25, 0, 0, fun _ _ _ => True)
theorem nm_X12_isAxis : px_nm M_X12_isAxis 1 := ⟨nc_RX12.1, nc_RX12.2, by decide +kernel⟩
abbrev M_X12_isKnown : px_M := (yX12_isKnown, cX12_isKnown, 1, some .boolean, 1, 25, 0, 0, fun _ _ _ => True)
theorem nm_X12_isKnown : px_nm M_X12_isKnown 1 := ⟨nc_RX12.1, nc_RX12.2, by decide +kernel⟩
abbrev M_X12_isPeg : px_M := (yX12_isPeg, cX12_isPeg, 3, some .boolean, 1, 25, 0, 0, fun _ _ _ => True)
theorem nm_X12_isPeg : px_nm M_X12_isPeg 2 := ⟨nc_RX12.1, nc_RX12.2, by decide +kernel⟩
abbrev M_X12_days : px_M := (yX12_days, cX12_days, 2, some .int, 1, 25, 0, 0, fun _ _ _ => True)
theorem nm_X12_days : px_nm M_X12_days 1 := ⟨nc_RX12.1, nc_RX12.2, by decide +kernel⟩
abbrev M_X12_station : px_M := (yX12_station, cX12_station, 1, some .int, 0, 0, 0, 0, fun _ _ _ => True)
theorem nm_X12_station : px_nm M_X12_station 0 := ⟨nc_RX12.1, nc_RX12.2, by decide +kernel⟩
abbrev M_X12_sight : px_M := (yX12_sight, cX12_sight, 6, some .int, 2, 46, 0, 0, fun _ _ _ => True)
theorem nm_X12_sight : px_nm M_X12_sight 5 := ⟨nc_RX12.1, nc_RX12.2, by decide +kernel⟩
abbrev M_X12_begins : px_M := (yX12_begins, cX12_begins, 3, none, 0, 0, 0, 0, fun _ _ _ => True)
theorem nm_X12_begins : px_nm M_X12_begins 1 := ⟨nc_RX12.1, nc_RX12.2, by decide +kernel⟩
abbrev M_X12_bounds : px_M := (yX12_bounds, cX12_bounds, 6, none, 0, 0, 0, 0, fun _ _ _ => True)
theorem nm_X12_bounds : px_nm M_X12_bounds 3 := ⟨nc_RX12.1, nc_RX12.2, by decide +kernel⟩
abbrev M_X12_closes : px_M := (yX12_closes, cX12_closes, 4, some .boolean, 1, 25, 0, 0, fun _ _ _ => True)
theorem nm_X12_closes : px_nm M_X12_closes 0 := ⟨nc_RX12.1, nc_RX12.2, by decide +kernel⟩
abbrev M_X12_isClosed : px_M := (yX12_isClosed, cX12_isClosed, 5, some .boolean, 2, 48, 0, 0, fun _ _ _ => True)
theorem nm_X12_isClosed : px_nm M_X12_isClosed 3 := ⟨nc_RX12.1, nc_RX12.2, by decide +kernel⟩
abbrev M_X12_closed : px_M := (yX12_closed, cX12_closed, 3, some .int, 3, 72, 0, 0, fun _ _ _ => True)
theorem nm_X12_closed : px_nm M_X12_closed 2 := ⟨nc_RX12.1, nc_RX12.2, by decide +kernel⟩
abbrev M_X12_gapOf : px_M := (yX12_gapOf, cX12_gapOf, 6, some .int, 0, 0, 0, 0, fun _ _ _ => True)
theorem nm_X12_gapOf : px_nm M_X12_gapOf 3 := ⟨nc_RX12.1, nc_RX12.2, by decide +kernel⟩
abbrev M_X12_gap : px_M := (yX12_gap, cX12_gap, 6, some .int, 3, 72, 0, 0, fun _ _ _ => True)
theorem nm_X12_gap : px_nm M_X12_gap 5 := ⟨nc_RX12.1, nc_RX12.2, by decide +kernel⟩
abbrev M_X12_span : px_M := (yX12_span, cX12_span, 5, some .int, 4, 97, 0, 0, fun _ _ _ => True)
theorem nm_X12_span : px_nm M_X12_span 4 := ⟨nc_RX12.1, nc_RX12.2, by decide +kernel⟩
abbrev M_X12_blamed : px_M := (yX12_blamed, cX12_blamed, 6, some .int, 3, 72, 0, 0, fun _ _ _ => True)
theorem nm_X12_blamed : px_nm M_X12_blamed 3 := ⟨nc_RX12.1, nc_RX12.2, by decide +kernel⟩
abbrev M_X12_reach : px_M := (yX12_reach, cX12_reach, 9, some .int, 2, 46, 0, 0, fun _ _ _ => True)
theorem nm_X12_reach : px_nm M_X12_reach 7 := ⟨nc_RX12.1, nc_RX12.2, by decide +kernel⟩
abbrev M_X12_mouth : px_M := (yX12_mouth, cX12_mouth, 3, some .boolean, 2, 46, 0, 0, fun _ _ _ => True)
theorem nm_X12_mouth : px_nm M_X12_mouth 2 := ⟨nc_RX12.1, nc_RX12.2, by decide +kernel⟩
abbrev M_X12_mark : px_M := (yX12_mark, cX12_mark, 5, some .int, 2, 47, 0, 0, fun _ _ _ => True)
theorem nm_X12_mark : px_nm M_X12_mark 4 := ⟨nc_RX12.1, nc_RX12.2, by decide +kernel⟩
abbrev M_X12_isDug : px_M := (yX12_isDug, cX12_isDug, 7, some .boolean, 2, 48, 0, 0, fun _ _ _ => True)
theorem nm_X12_isDug : px_nm M_X12_isDug 1 := ⟨nc_RX12.1, nc_RX12.2, by decide +kernel⟩
abbrev M_X12_when : px_M := (yX12_when, cX12_when, 4, some .int, 3, 74, 0, 0, fun _ _ _ => True)
theorem nm_X12_when : px_nm M_X12_when 3 := ⟨nc_RX12.1, nc_RX12.2, by decide +kernel⟩
abbrev M_X12_between : px_M := (yX12_between, cX12_between, 5, some .int, 3, 74, 0, 0, fun _ _ _ => True)
theorem nm_X12_between : px_nm M_X12_between 4 := ⟨nc_RX12.1, nc_RX12.2, by decide +kernel⟩
abbrev M_X12_lamps : px_M := (yX12_lamps, cX12_lamps, 11, some .int, 2, 47, 0, 0, fun _ _ _ => True)
theorem nm_X12_lamps : px_nm M_X12_lamps 5 := ⟨nc_RX12.1, nc_RX12.2, by decide +kernel⟩
abbrev M_X12_count : px_M := (yX12_count, cX12_count, 8, some .int, 1, 25, 0, 0, fun _ _ _ => True)
theorem nm_X12_count : px_nm M_X12_count 3 := ⟨nc_RX12.1, nc_RX12.2, by decide +kernel⟩
abbrev M_X12_unit : px_M := (yX12_unit, cX12_unit, 2, some .int, 0, 0, 0, 0, fun _ _ _ => True)
theorem nm_X12_unit : px_nm M_X12_unit 1 := ⟨nc_RX12.1, nc_RX12.2, by decide +kernel⟩
abbrev M_X12_put : px_M := (yX12_put, cX12_put, 2, none, 0, 0, 0, 0, fun _ _ _ => True)
theorem nm_X12_put : px_nm M_X12_put 1 := ⟨nc_RX12.1, nc_RX12.2, by decide +kernel⟩
abbrev M_X12_feed : px_M := (yX12_feed, cX12_feed, 6, some .int, 1, 21, 0, 0, fun _ _ _ => True)
theorem nm_X12_feed : px_nm M_X12_feed 5 := ⟨nc_RX12.1, nc_RX12.2, by decide +kernel⟩
abbrev M_X12_end : px_M := (yX12_end, cX12_end, 2, some .int, 1, 25, 0, 0, fun _ _ _ => True)
theorem nm_X12_end : px_nm M_X12_end 1 := ⟨nc_RX12.1, nc_RX12.2, by decide +kernel⟩
abbrev M_X12_isLetter : px_M := (yX12_isLetter, cX12_isLetter, 1, some .boolean, 1, 25, 0, 0, fun _ _ _ => True)
theorem nm_X12_isLetter : px_nm M_X12_isLetter 1 := ⟨nc_RX12.1, nc_RX12.2, by decide +kernel⟩
abbrev M_X12_wordOf : px_M := (yX12_wordOf, cX12_wordOf, 2, some .int, 0, 0, 0, 0, fun _ _ _ => True)
theorem nm_X12_wordOf : px_nm M_X12_wordOf 1 := ⟨nc_RX12.1, nc_RX12.2, by decide +kernel⟩
abbrev M_X12_next : px_M := (yX12_next, cX12_next, 5, none, 2, 45, 0, 0, fun _ _ _ => True)
theorem nm_X12_next : px_nm M_X12_next 0 := ⟨nc_RX12.1, nc_RX12.2, by decide +kernel⟩
abbrev M_X12_isSign : px_M := (yX12_isSign, cX12_isSign, 2, some .boolean, 0, 0, 0, 0, fun _ _ _ => True)
theorem nm_X12_isSign : px_nm M_X12_isSign 1 := ⟨nc_RX12.1, nc_RX12.2, by decide +kernel⟩
abbrev M_X12_errs : px_M := (yX12_errs, cX12_errs, 2, none, 0, 0, 0, 0, fun _ _ _ => True)
theorem nm_X12_errs : px_nm M_X12_errs 1 := ⟨nc_RX12.1, nc_RX12.2, by decide +kernel⟩
abbrev M_X12_emits : px_M := (yX12_emits, cX12_emits, 3, some .int, 0, 0, 0, 0, fun _ _ _ => True)
theorem nm_X12_emits : px_nm M_X12_emits 2 := ⟨nc_RX12.1, nc_RX12.2, by decide +kernel⟩
abbrev M_X12_opens : px_M := (yX12_opens, cX12_opens, 3, none, 3, 69, 0, 0, fun _ _ _ => True)
theorem nm_X12_opens : px_nm M_X12_opens 2 := ⟨nc_RX12.1, nc_RX12.2, by decide +kernel⟩
abbrev M_X12_def : px_M := (yX12_def, cX12_def, 2, none, 4, 91, 0, 0, fun _ _ _ => True)
theorem nm_X12_def : px_nm M_X12_def 0 := ⟨nc_RX12.1, nc_RX12.2, by decide +kernel⟩
abbrev M_X12_closesBrace : px_M := (yX12_closesBrace, cX12_closesBrace, 4, none, 3, 69, 0, 0, fun _ _ _ => True)
theorem nm_X12_closesBrace : px_nm M_X12_closesBrace 0 := ⟨nc_RX12.1, nc_RX12.2, by decide +kernel⟩
abbrev M_X12_stepIsOver : px_M := (yX12_stepIsOver, cX12_stepIsOver, 1, none, 3, 69, 0, 0, fun _ _ _ => True)
theorem nm_X12_stepIsOver : px_nm M_X12_stepIsOver 0 := ⟨nc_RX12.1, nc_RX12.2, by decide +kernel⟩
abbrev M_X12_numbered : px_M := (yX12_numbered, cX12_numbered, 5, none, 4, 91, 0, 0, fun _ _ _ => True)
theorem nm_X12_numbered : px_nm M_X12_numbered 1 := ⟨nc_RX12.1, nc_RX12.2, by decide +kernel⟩
abbrev M_X12_step : px_M := (yX12_step, cX12_step, 3, none, 5, 115, 0, 0, fun _ _ _ => True)
theorem nm_X12_step : px_nm M_X12_step 0 := ⟨nc_RX12.1, nc_RX12.2, by decide +kernel⟩
abbrev M_X12_way : px_M := (yX12_way, cX12_way, 4, some .int, 6, 137, 0, 0, fun _ _ _ => True)
theorem nm_X12_way : px_nm M_X12_way 1 := ⟨nc_RX12.1, nc_RX12.2, by decide +kernel⟩
abbrev M_X12_fault : px_M := (yX12_fault, cX12_fault, 2, some .int, 0, 0, 0, 0, fun _ _ _ => True)
theorem nm_X12_fault : px_nm M_X12_fault 1 := ⟨nc_RX12.1, nc_RX12.2, by decide +kernel⟩
abbrev M_X12_tools : px_M := (yX12_tools, cX12_tools, 6, some .boolean, 1, 25, 0, 0, fun _ _ _ => True)
theorem nm_X12_tools : px_nm M_X12_tools 5 := ⟨nc_RX12.1, nc_RX12.2, by decide +kernel⟩
abbrev M_X12_along : px_M := (yX12_along, cX12_along, 4, some .int, 0, 0, 0, 0, fun _ _ _ => True)
theorem nm_X12_along : px_nm M_X12_along 1 := ⟨nc_RX12.1, nc_RX12.2, by decide +kernel⟩
abbrev M_X12_up : px_M := (yX12_up, cX12_up, 4, some .long, 0, 0, 0, 0, fun _ _ _ => True)
theorem nm_X12_up : px_nm M_X12_up 2 := ⟨nc_RX12.1, nc_RX12.2, by decide +kernel⟩
abbrev M_X12_size : px_M := (yX12_size, cX12_size, 1, some .int, 0, 0, 0, 0, fun _ _ _ => True)
theorem nm_X12_size : px_nm M_X12_size 1 := ⟨nc_RX12.1, nc_RX12.2, by decide +kernel⟩
abbrev M_X12_goesOn : px_M := (yX12_goesOn, cX12_goesOn, 8, none, 1, 23, 0, 0, fun _ _ _ => True)
theorem nm_X12_goesOn : px_nm M_X12_goesOn 1 := ⟨nc_RX12.1, nc_RX12.2, by decide +kernel⟩
abbrev M_X12_does : px_M := (yX12_does, cX12_does, 3, none, 2, 50, 0, 0, fun _ _ _ => True)
theorem nm_X12_does : px_nm M_X12_does 2 := ⟨nc_RX12.1, nc_RX12.2, by decide +kernel⟩
abbrev M_X12_isBeyond : px_M := (yX12_isBeyond, cX12_isBeyond, 3, some .boolean, 0, 0, 0, 0, fun _ _ _ => True)
theorem nm_X12_isBeyond : px_nm M_X12_isBeyond 0 := ⟨nc_RX12.1, nc_RX12.2, by decide +kernel⟩
abbrev M_X12_runs : px_M := (yX12_runs, cX12_runs, 6, some .boolean, 3, 72, 0, 0, fun _ _ _ => True)
theorem nm_X12_runs : px_nm M_X12_runs 2 := ⟨nc_RX12.1, nc_RX12.2, by decide +kernel⟩
abbrev M_X12_isWay : px_M := (yX12_isWay, cX12_isWay, 2, some .boolean, 1, 25, 0, 0, fun _ _ _ => True)
theorem nm_X12_isWay : px_nm M_X12_isWay 1 := ⟨nc_RX12.1, nc_RX12.2, by decide +kernel⟩
abbrev M_X12_run : px_M := (yX12_run, cX12_run, 4, some .int, 4, 97, 0, 0, fun _ _ _ => True)
theorem nm_X12_run : px_nm M_X12_run 3 := ⟨nc_RX12.1, nc_RX12.2, by decide +kernel⟩
abbrev M_X12_isFirst : px_M := (yX12_isFirst, cX12_isFirst, 1, some .boolean, 1, 25, 0, 0, fun _ _ _ => True)
theorem nm_X12_isFirst : px_nm M_X12_isFirst 1 := ⟨nc_RX12.1, nc_RX12.2, by decide +kernel⟩
abbrev M_X12_runsBoth : px_M := (yX12_runsBoth, cX12_runsBoth, 4, none, 4, 97, 0, 0, fun _ _ _ => True)
theorem nm_X12_runsBoth : px_nm M_X12_runsBoth 2 := ⟨nc_RX12.1, nc_RX12.2, by decide +kernel⟩
abbrev M_X12_meets : px_M := (yX12_meets, cX12_meets, 8, some .long, 3, 72, 0, 0, fun _ _ _ => True)
theorem nm_X12_meets : px_nm M_X12_meets 4 := ⟨nc_RX12.1, nc_RX12.2, by decide +kernel⟩
abbrev M_X12_areAsked : px_M := (yX12_areAsked, cX12_areAsked, 5, some .boolean, 2, 46, 0, 0, fun _ _ _ => True)
theorem nm_X12_areAsked : px_nm M_X12_areAsked 4 := ⟨nc_RX12.1, nc_RX12.2, by decide +kernel⟩
abbrev M_X12_meeting : px_M := (yX12_meeting, cX12_meeting, 7, some .int, 5, 120, 0, 0, fun _ _ _ => True)
theorem nm_X12_meeting : px_nm M_X12_meeting 6 := ⟨nc_RX12.1, nc_RX12.2, by decide +kernel⟩
abbrev M_X12_there : px_M := (yX12_there, cX12_there, 4, some .boolean, 2, 45, 0, 0, fun _ _ _ => True)
theorem nm_X12_there : px_nm M_X12_there 3 := ⟨nc_RX12.1, nc_RX12.2, by decide +kernel⟩
abbrev M_X12_fits : px_M := (yX12_fits, cX12_fits, 12, some .int, 5, 120, 0, 0, fun _ _ _ => True)
theorem nm_X12_fits : px_nm M_X12_fits 4 := ⟨nc_RX12.1, nc_RX12.2, by decide +kernel⟩
abbrev M_X12_ways : px_M := (yX12_ways, cX12_ways, 9, some .int, 6, 151, 0, 0, fun _ _ _ => True)
theorem nm_X12_ways : px_nm M_X12_ways 5 := ⟨nc_RX12.1, nc_RX12.2, by decide +kernel⟩
abbrev M_X12_seek : px_M := (yX12_seek, cX12_seek, 7, some .boolean, 1, 25, 0, 0, fun _ _ _ => True)
theorem nm_X12_seek : px_nm M_X12_seek 6 := ⟨nc_RX12.1, nc_RX12.2, by decide +kernel⟩
abbrev M_X12_off : px_M := (yX12_off, cX12_off, 5, some .int, 0, 0, 0, 0, fun _ _ _ => True)
theorem nm_X12_off : px_nm M_X12_off 3 := ⟨nc_RX12.1, nc_RX12.2, by decide +kernel⟩
abbrev M_X12_chance : px_M := (yX12_chance, cX12_chance, 14, some .long, 1, 25, 0, 0, fun _ _ _ => True)
theorem nm_X12_chance : px_nm M_X12_chance 3 := ⟨nc_RX12.1, nc_RX12.2, by decide +kernel⟩
abbrev M_X12_detour : px_M := (yX12_detour, cX12_detour, 11, some .int, 1, 25, 0, 0, fun _ _ _ => True)
theorem nm_X12_detour : px_nm M_X12_detour 3 := ⟨nc_RX12.1, nc_RX12.2, by decide +kernel⟩
abbrev M_X12_table : px_M := (yX12_table, cX12_table, 3, some .boolean, 1, 25, 0, 0, fun _ _ _ => True)
theorem nm_X12_table : px_nm M_X12_table 2 := ⟨nc_RX12.1, nc_RX12.2, by decide +kernel⟩
abbrev M_X12_repair : px_M := (yX12_repair, cX12_repair, 4, some .int, 2, 47, 0, 0, fun _ _ _ => True)
theorem nm_X12_repair : px_nm M_X12_repair 3 := ⟨nc_RX12.1, nc_RX12.2, by decide +kernel⟩
abbrev M_X12_lime : px_M := (yX12_lime, cX12_lime, 2, some .boolean, 1, 25, 0, 0, fun _ _ _ => True)
theorem nm_X12_lime : px_nm M_X12_lime 1 := ⟨nc_RX12.1, nc_RX12.2, by decide +kernel⟩
abbrev M_X12_widthOf : px_M := (yX12_widthOf, cX12_widthOf, 8, some .int, 0, 0, 0, 0, fun _ _ _ => True)
theorem nm_X12_widthOf : px_nm M_X12_widthOf 4 := ⟨nc_RX12.1, nc_RX12.2, by decide +kernel⟩
abbrev M_X12_down : px_M := (yX12_down, cX12_down, 4, some .long, 0, 0, 0, 0, fun _ _ _ => True)
theorem nm_X12_down : px_nm M_X12_down 2 := ⟨nc_RX12.1, nc_RX12.2, by decide +kernel⟩
abbrev M_X12_lets : px_M := (yX12_lets, cX12_lets, 5, some .int, 0, 0, 0, 0, fun _ _ _ => True)
theorem nm_X12_lets : px_nm M_X12_lets 2 := ⟨nc_RX12.1, nc_RX12.2, by decide +kernel⟩
abbrev M_X12_isFlow : px_M := (yX12_isFlow, cX12_isFlow, 7, some .boolean, 3, 72, 0, 0, fun _ _ _ => True)
theorem nm_X12_isFlow : px_nm M_X12_isFlow 3 := ⟨nc_RX12.1, nc_RX12.2, by decide +kernel⟩
abbrev M_X12_letsBy : px_M := (yX12_letsBy, cX12_letsBy, 9, some .int, 1, 27, 0, 0, fun _ _ _ => True)
theorem nm_X12_letsBy : px_nm M_X12_letsBy 5 := ⟨nc_RX12.1, nc_RX12.2, by decide +kernel⟩
abbrev M_X12_narrowest : px_M := (yX12_narrowest, cX12_narrowest, 7, some .int, 2, 55, 0, 0, fun _ _ _ => True)
theorem nm_X12_narrowest : px_nm M_X12_narrowest 4 := ⟨nc_RX12.1, nc_RX12.2, by decide +kernel⟩
abbrev M_X12_flow : px_M := (yX12_flow, cX12_flow, 5, some .int, 4, 98, 0, 0, fun _ _ _ => True)
theorem nm_X12_flow : px_nm M_X12_flow 4 := ⟨nc_RX12.1, nc_RX12.2, by decide +kernel⟩
abbrev M_X12_narrow : px_M := (yX12_narrow, cX12_narrow, 4, some .int, 4, 98, 0, 0, fun _ _ _ => True)
theorem nm_X12_narrow : px_nm M_X12_narrow 3 := ⟨nc_RX12.1, nc_RX12.2, by decide +kernel⟩
abbrev M_X12_about : px_M := (yX12_about, cX12_about, 4, some .int, 1, 25, 0, 0, fun _ _ _ => True)
theorem nm_X12_about : px_nm M_X12_about 1 := ⟨nc_RX12.1, nc_RX12.2, by decide +kernel⟩
abbrev M_J9_floorDiv_f86c9 : px_M := (yJ9_floorDiv_f86c9, cJ9_floorDiv_f86c9, 6, some .long, 0, 0, 0, 0, fun _ _ _ => True)
theorem nm_J9_floorDiv_f86c9 : px_nm M_J9_floorDiv_f86c9 2 := ⟨nc_RJ9.1, nc_RJ9.2, by decide +kernel⟩
theorem pl_J9_floorDiv_f86c9 : plainFor yJ9_floorDiv_f86c9 = true := by decide +kernel
abbrev M_J9_abs_0f7a4 : px_M := (yJ9_abs_0f7a4, cJ9_abs_0f7a4, 1, some .int, 0, 0, 0, 0, fun _ _ _ => True)
theorem nm_J9_abs_0f7a4 : px_nm M_J9_abs_0f7a4 1 := ⟨nc_RJ9.1, nc_RJ9.2, by decide +kernel⟩
theorem pl_J9_abs_0f7a4 : plainFor yJ9_abs_0f7a4 = true := by decide +kernel
abbrev M_J9_abs_067f4 : px_M := (yJ9_abs_067f4, cJ9_abs_067f4, 2, some .long, 0, 0, 0, 0, fun _ _ _ => True)
theorem nm_J9_abs_067f4 : px_nm M_J9_abs_067f4 1 := ⟨nc_RJ9.1, nc_RJ9.2, by decide +kernel⟩
theorem pl_J9_abs_067f4 : plainFor yJ9_abs_067f4 = true := by decide +kernel
abbrev M_J9_max_7cf53 : px_M := (yJ9_max_7cf53, cJ9_max_7cf53, 2, some .int, 0, 0, 0, 0, fun _ _ _ => True)
theorem nm_J9_max_7cf53 : px_nm M_J9_max_7cf53 2 := ⟨nc_RJ9.1, nc_RJ9.2, by decide +kernel⟩
theorem pl_J9_max_7cf53 : plainFor yJ9_max_7cf53 = true := by decide +kernel
abbrev M_J9_max_f86c9 : px_M := (yJ9_max_f86c9, cJ9_max_f86c9, 4, some .long, 0, 0, 0, 0, fun _ _ _ => True)
theorem nm_J9_max_f86c9 : px_nm M_J9_max_f86c9 2 := ⟨nc_RJ9.1, nc_RJ9.2, by decide +kernel⟩
theorem pl_J9_max_f86c9 : plainFor yJ9_max_f86c9 = true := by decide +kernel
abbrev M_J9_min_7cf53 : px_M := (yJ9_min_7cf53, cJ9_min_7cf53, 2, some .int, 0, 0, 0, 0, fun _ _ _ => True)
theorem nm_J9_min_7cf53 : px_nm M_J9_min_7cf53 2 := ⟨nc_RJ9.1, nc_RJ9.2, by decide +kernel⟩
theorem pl_J9_min_7cf53 : plainFor yJ9_min_7cf53 = true := by decide +kernel
abbrev M_J9_min_f86c9 : px_M := (yJ9_min_f86c9, cJ9_min_f86c9, 4, some .long, 0, 0, 0, 0, fun _ _ _ => True)
theorem nm_J9_min_f86c9 : px_nm M_J9_min_f86c9 2 := ⟨nc_RJ9.1, nc_RJ9.2, by decide +kernel⟩
theorem pl_J9_min_f86c9 : plainFor yJ9_min_f86c9 = true := by decide +kernel
abbrev M_J0_length_8abf5 : px_M := (yJ0_length_8abf5, cJ0_length_8abf5, 1, some .int, 1, 20, 0, 0, fun _ _ _ => True)
theorem nm_J0_length_8abf5 : px_nm M_J0_length_8abf5 0 := ⟨nc_RJ0.1, nc_RJ0.2, by decide +kernel⟩
theorem pl_J0_length_8abf5 : plainFor yJ0_length_8abf5 = true := by decide +kernel
abbrev M_J0_charAt_5068e : px_M := (yJ0_charAt_5068e, cJ0_charAt_5068e, 2, some .char, 4, 85, 0, 0, fun _ _ _ => True)
theorem nm_J0_charAt_5068e : px_nm M_J0_charAt_5068e 1 := ⟨nc_RJ0.1, nc_RJ0.2, by decide +kernel⟩
theorem pl_J0_charAt_5068e : plainFor yJ0_charAt_5068e = true := by decide +kernel
abbrev M_J0_coder_7d493 : px_M := (yJ0_coder_7d493, cJ0_coder_7d493, 1, some .byte, 0, 0, 0, 0, fun _ _ _ => True)
theorem nm_J0_coder_7d493 : px_nm M_J0_coder_7d493 0 := ⟨nc_RJ0.1, nc_RJ0.2, by decide +kernel⟩
theorem pl_J0_coder_7d493 : plainFor yJ0_coder_7d493 = true := by decide +kernel
abbrev M_J0_isLatin1_aae02 : px_M := (yJ0_isLatin1_aae02, cJ0_isLatin1_aae02, 1, some .boolean, 0, 0, 0, 0, fun _ _ _ => True)
theorem nm_J0_isLatin1_aae02 : px_nm M_J0_isLatin1_aae02 0 := ⟨nc_RJ0.1, nc_RJ0.2, by decide +kernel⟩
theorem pl_J0_isLatin1_aae02 : plainFor yJ0_isLatin1_aae02 = true := by decide +kernel
abbrev M_J0_checkIndex_df160 : px_M := (yJ0_checkIndex_df160, cJ0_checkIndex_df160, 2, none, 1, 22, 0, 0, fun _ _ _ => True)
theorem nm_J0_checkIndex_df160 : px_nm M_J0_checkIndex_df160 2 := ⟨nc_RJ0.1, nc_RJ0.2, by decide +kernel⟩
theorem pl_J0_checkIndex_df160 : plainFor yJ0_checkIndex_df160 = true := by decide +kernel
abbrev M_J1_charAt_3b067 : px_M := (yJ1_charAt_3b067, cJ1_charAt_3b067, 2, some .char, 2, 43, 0, 0, fun _ _ _ => True)
theorem nm_J1_charAt_3b067 : px_nm M_J1_charAt_3b067 2 := ⟨nc_RJ1.1, nc_RJ1.2, by decide +kernel⟩
theorem pl_J1_charAt_3b067 : plainFor yJ1_charAt_3b067 = true := by decide +kernel
abbrev M_J2_getChar_3b067 : px_M := (yJ2_getChar_3b067, cJ2_getChar_3b067, 2, some .char, 1, 20, 0, 0, fun _ _ _ => True)
theorem nm_J2_getChar_3b067 : px_nm M_J2_getChar_3b067 2 := ⟨nc_RJ2.1, nc_RJ2.2, by decide +kernel⟩
theorem pl_J2_getChar_3b067 : plainFor yJ2_getChar_3b067 = true := by decide +kernel
abbrev M_J2_length_9d52b : px_M := (yJ2_length_9d52b, cJ2_length_9d52b, 1, some .int, 0, 0, 0, 0, fun _ _ _ => True)
theorem nm_J2_length_9d52b : px_nm M_J2_length_9d52b 1 := ⟨nc_RJ2.1, nc_RJ2.2, by decide +kernel⟩
theorem pl_J2_length_9d52b : plainFor yJ2_length_9d52b = true := by decide +kernel
abbrev M_J2_charAt_3b067 : px_M := (yJ2_charAt_3b067, cJ2_charAt_3b067, 2, some .char, 3, 64, 0, 0, fun _ _ _ => True)
theorem nm_J2_charAt_3b067 : px_nm M_J2_charAt_3b067 2 := ⟨nc_RJ2.1, nc_RJ2.2, by decide +kernel⟩
theorem pl_J2_charAt_3b067 : plainFor yJ2_charAt_3b067 = true := by decide +kernel
abbrev M_J2_checkIndex_2214a : px_M := (yJ2_checkIndex_2214a, cJ2_checkIndex_2214a, 2, none, 2, 43, 0, 0, fun _ _ _ => True)
theorem nm_J2_checkIndex_2214a : px_nm M_J2_checkIndex_2214a 2 := ⟨nc_RJ2.1, nc_RJ2.2, by decide +kernel⟩
theorem pl_J2_checkIndex_2214a : plainFor yJ2_checkIndex_2214a = true := by decide +kernel
abbrev M_J3_checkIndex_8e157 : px_M := (yJ3_checkIndex_8e157, cJ3_checkIndex_8e157, 3, some .int, 0, 0, 0, 0, fun _ _ _ => True)
theorem nm_J3_checkIndex_8e157 : px_nm M_J3_checkIndex_8e157 3 := ⟨nc_RJ3.1, nc_RJ3.2, by decide +kernel⟩
theorem pl_J3_checkIndex_8e157 : plainFor yJ3_checkIndex_8e157 = true := by decide +kernel
theorem lk_11_9 : px_lIN RX11 9 M_X7_init "TunnelBook" := ⟨List.mem_of_getElem? (i := 0) rfl, px_i1 30 rfl rfl, px_i1 2 rfl rfl, px_i1 31 rfl rfl, rfl, rfl⟩
theorem lk_11_18 : px_lIN RX11 18 M_X1_init "TunnelBook" := ⟨List.mem_of_getElem? (i := 1) rfl, px_i1 68 rfl rfl, px_i1 3 rfl rfl, px_i1 69 rfl rfl, rfl, rfl⟩
theorem lk_11_28 : px_lIN RX11 28 M_X2_init "TunnelBook" := ⟨List.mem_of_getElem? (i := 2) rfl, px_i1 131 rfl rfl, px_i1 4 rfl rfl, px_i1 132 rfl rfl, rfl, rfl⟩
theorem lk_11_35 : px_lIN RX11 35 M_X8_init "TunnelBook" := ⟨List.mem_of_getElem? (i := 3) rfl, px_i1 151 rfl rfl, px_i1 5 rfl rfl, px_i1 152 rfl rfl, rfl, rfl⟩
theorem lk_11_42 : px_lI RX11 42 M_X4_init := ⟨px_i1 184 rfl rfl, px_i1 185 rfl rfl, px_i1 6 rfl rfl, px_i1 186 rfl rfl, rfl, rfl⟩
theorem lk_11_51 : px_lIN RX11 51 M_X5_init "TunnelBook" := ⟨List.mem_of_getElem? (i := 4) rfl, px_i2 30 rfl rfl, px_i1 8 rfl rfl, px_i2 31 rfl rfl, rfl, rfl⟩
theorem lk_11_58 : px_lI RX11 58 M_X3_init := ⟨px_i2 123 rfl rfl, px_i2 124 rfl rfl, px_i1 10 rfl rfl, px_i2 125 rfl rfl, rfl, rfl⟩
theorem lk_11_67 : px_lIN RX11 67 M_X6_init "TunnelBook" := ⟨List.mem_of_getElem? (i := 5) rfl, px_i2 149 rfl rfl, px_i1 11 rfl rfl, px_i2 150 rfl rfl, rfl, rfl⟩
theorem lk_11_74 : px_lI RX11 74 M_X0_init := ⟨px_i2 173 rfl rfl, px_i2 174 rfl rfl, px_i1 12 rfl rfl, px_i2 175 rfl rfl, rfl, rfl⟩
theorem lk_11_85 : px_lS RX11 85 M_X11_within := ⟨px_i2 230 rfl rfl, px_i2 231 rfl rfl, px_i1 1 rfl rfl, px_i2 232 rfl rfl⟩
theorem lk_11_89 : px_lV RX11 89 M_X7_addStation := ⟨px_i2 237 rfl rfl, px_i2 238 rfl rfl, px_i2 239 rfl rfl, px_i1 2 rfl rfl, px_i3 0 rfl rfl⟩
theorem lk_11_93 : px_lS RX11 93 M_X11_isAxis := ⟨px_i3 5 rfl rfl, px_i3 6 rfl rfl, px_i1 1 rfl rfl, px_i3 7 rfl rfl⟩
theorem lk_11_99 : px_lS RX11 99 M_X11_ordered := ⟨px_i3 10 rfl rfl, px_i3 11 rfl rfl, px_i1 1 rfl rfl, px_i3 12 rfl rfl⟩
theorem lk_11_103 : px_lV RX11 103 M_X7_has := ⟨px_i3 13 rfl rfl, px_i3 14 rfl rfl, px_i3 15 rfl rfl, px_i1 2 rfl rfl, px_i3 16 rfl rfl⟩
theorem lk_11_106 : px_lV RX11 106 M_X7_addSight := ⟨px_i3 17 rfl rfl, px_i3 18 rfl rfl, px_i3 19 rfl rfl, px_i1 2 rfl rfl, px_i3 20 rfl rfl⟩
theorem lk_11_110 : px_lS RX11 110 M_X11_isDay := ⟨px_i3 25 rfl rfl, px_i3 26 rfl rfl, px_i1 1 rfl rfl, px_i3 27 rfl rfl⟩
theorem lk_11_113 : px_lV RX11 113 M_X7_settle := ⟨px_i3 28 rfl rfl, px_i3 29 rfl rfl, px_i3 30 rfl rfl, px_i1 2 rfl rfl, px_i3 31 rfl rfl⟩
theorem lk_11_116 : px_lV RX11 116 M_X11_gap := ⟨px_i3 49 rfl rfl, px_i3 50 rfl rfl, px_i3 51 rfl rfl, px_i1 1 rfl rfl, px_i3 52 rfl rfl⟩
theorem lk_11_121 : px_lV RX11 121 M_X7_bound := ⟨px_i3 54 rfl rfl, px_i3 55 rfl rfl, px_i3 56 rfl rfl, px_i1 2 rfl rfl, px_i3 57 rfl rfl⟩
theorem lk_11_124 : px_lV RX11 124 M_X7_culprit := ⟨px_i3 66 rfl rfl, px_i3 67 rfl rfl, px_i3 68 rfl rfl, px_i1 2 rfl rfl, px_i3 69 rfl rfl⟩
theorem lk_11_128 : px_lV RX11 128 M_X11_galleryOf := ⟨px_i3 74 rfl rfl, px_i3 76 rfl rfl, px_j1 3 rfl, px_i1 1 rfl rfl, px_i3 77 rfl rfl⟩
theorem lk_11_132 : px_lV RX11 132 M_X1_addReach := ⟨px_i3 78 rfl rfl, px_i3 79 rfl rfl, px_i3 80 rfl rfl, px_i1 3 rfl rfl, px_i3 81 rfl rfl⟩
theorem lk_11_135 : px_lV RX11 135 M_X1_openAt := ⟨px_i3 93 rfl rfl, px_i3 94 rfl rfl, px_i3 95 rfl rfl, px_i1 3 rfl rfl, px_i3 96 rfl rfl⟩
theorem lk_11_138 : px_lV RX11 138 M_X11_marks := ⟨px_i3 101 rfl rfl, px_i3 103 rfl rfl, px_j1 5 rfl, px_i1 1 rfl rfl, px_i3 104 rfl rfl⟩
theorem lk_11_141 : px_lV RX11 141 M_X1_addMark := ⟨px_i3 105 rfl rfl, px_i3 106 rfl rfl, px_i3 107 rfl rfl, px_i1 3 rfl rfl, px_i3 108 rfl rfl⟩
theorem lk_11_144 : px_lV RX11 144 M_X1_dayOf := ⟨px_i3 123 rfl rfl, px_i3 124 rfl rfl, px_i3 125 rfl rfl, px_i1 3 rfl rfl, px_i3 126 rfl rfl⟩
theorem lk_11_148 : px_lV RX11 148 M_X1_daysFrom := ⟨px_i3 135 rfl rfl, px_i3 136 rfl rfl, px_i3 137 rfl rfl, px_i1 3 rfl rfl, px_i3 138 rfl rfl⟩
theorem lk_11_152 : px_lV RX11 152 M_X1_hasReach := ⟨px_i3 143 rfl rfl, px_i3 144 rfl rfl, px_i3 145 rfl rfl, px_i1 3 rfl rfl, px_i3 146 rfl rfl⟩
theorem lk_11_156 : px_lV RX11 156 M_X1_holesAgree := ⟨px_i3 148 rfl rfl, px_i3 149 rfl rfl, px_i3 150 rfl rfl, px_i1 3 rfl rfl, px_i3 151 rfl rfl⟩
theorem lk_11_159 : px_lV RX11 159 M_X2_addCount := ⟨px_i3 157 rfl rfl, px_i3 158 rfl rfl, px_i3 159 rfl rfl, px_i1 4 rfl rfl, px_i3 160 rfl rfl⟩
theorem lk_11_171 : px_lV RX11 171 M_X8_hasRoom := ⟨px_i3 174 rfl rfl, px_i3 175 rfl rfl, px_i3 176 rfl rfl, px_i1 5 rfl rfl, px_i3 177 rfl rfl⟩
theorem lk_11_174 : px_lV RX11 174 M_X8_append := ⟨px_i3 178 rfl rfl, px_i3 179 rfl rfl, px_i3 180 rfl rfl, px_i1 5 rfl rfl, px_i3 181 rfl rfl⟩
theorem lk_11_181 : px_lV RX11 181 M_X5_hasPlace := ⟨px_i3 190 rfl rfl, px_i3 191 rfl rfl, px_i3 192 rfl rfl, px_i1 8 rfl rfl, px_i3 193 rfl rfl⟩
theorem lk_11_184 : px_lV RX11 184 M_X4_read := ⟨px_i3 194 rfl rfl, px_i3 195 rfl rfl, px_i3 196 rfl rfl, px_i1 6 rfl rfl, px_i3 197 rfl rfl⟩
theorem lk_11_192 : px_lV RX11 192 M_X5_replace := ⟨px_i4 125 rfl rfl, px_i4 126 rfl rfl, px_i4 127 rfl rfl, px_i1 8 rfl rfl, px_i4 128 rfl rfl⟩
theorem lk_11_209 : px_lV RX11 209 M_X9_take := ⟨px_i4 140 rfl rfl, px_i4 141 rfl rfl, px_i4 142 rfl rfl, px_i1 9 rfl rfl, px_i4 143 rfl rfl⟩
theorem lk_11_215 : px_lV RX11 215 M_X5_forgetAll := ⟨px_i4 144 rfl rfl, px_i4 145 rfl rfl, px_i4 146 rfl rfl, px_i1 8 rfl rfl, px_i4 147 rfl rfl⟩
theorem lk_11_218 : px_lS RX11 218 M_X11_isHeading := ⟨px_i4 152 rfl rfl, px_i4 153 rfl rfl, px_i1 1 rfl rfl, px_i4 154 rfl rfl⟩
theorem lk_11_221 : px_lV RX11 221 M_X5_make := ⟨px_i4 155 rfl rfl, px_i4 156 rfl rfl, px_i4 157 rfl rfl, px_i1 8 rfl rfl, px_i4 158 rfl rfl⟩
theorem lk_11_224 : px_lV RX11 224 M_X5_answer := ⟨px_i4 224 rfl rfl, px_i4 225 rfl rfl, px_i4 226 rfl rfl, px_i1 8 rfl rfl, px_i4 227 rfl rfl⟩
theorem lk_11_228 : px_lV RX11 228 M_X11_canMeet := ⟨px_i4 233 rfl rfl, px_i4 235 rfl rfl, px_j3 5 rfl, px_i1 1 rfl rfl, px_i4 236 rfl rfl⟩
theorem lk_11_231 : px_lV RX11 231 M_X3_look := ⟨px_i4 237 rfl rfl, px_i4 238 rfl rfl, px_i4 239 rfl rfl, px_i1 10 rfl rfl, px_i5 0 rfl rfl⟩
theorem lk_11_235 : px_lV RX11 235 M_X3_bound := ⟨px_i5 2 rfl rfl, px_i5 3 rfl rfl, px_i5 4 rfl rfl, px_i1 10 rfl rfl, px_i5 5 rfl rfl⟩
theorem lk_11_238 : px_lV RX11 238 M_X3_seen := ⟨px_i5 13 rfl rfl, px_i5 14 rfl rfl, px_i5 15 rfl rfl, px_i1 10 rfl rfl, px_i5 16 rfl rfl⟩
theorem lk_11_241 : px_lV RX11 241 M_X3_judge := ⟨px_i5 21 rfl rfl, px_i5 22 rfl rfl, px_i5 23 rfl rfl, px_i1 10 rfl rfl, px_i5 24 rfl rfl⟩
theorem lk_11_244 : px_lV RX11 244 M_X3_pairs := ⟨px_i5 30 rfl rfl, px_i5 31 rfl rfl, px_i5 32 rfl rfl, px_i1 10 rfl rfl, px_i5 33 rfl rfl⟩
theorem lk_11_247 : px_lV RX11 247 M_X6_weigh := ⟨px_i5 40 rfl rfl, px_i5 41 rfl rfl, px_i5 42 rfl rfl, px_i1 11 rfl rfl, px_i5 43 rfl rfl⟩
theorem lk_11_250 : px_lV RX11 250 M_X6_hear := ⟨px_i5 44 rfl rfl, px_i5 45 rfl rfl, px_i5 46 rfl rfl, px_i1 11 rfl rfl, px_i5 47 rfl rfl⟩
theorem lk_11_255 : px_lV RX11 255 M_X6_share := ⟨px_i5 53 rfl rfl, px_i5 54 rfl rfl, px_i5 55 rfl rfl, px_i1 11 rfl rfl, px_i5 56 rfl rfl⟩
theorem lk_11_259 : px_lV RX11 259 M_X6_roundabout := ⟨px_i5 92 rfl rfl, px_i5 93 rfl rfl, px_i5 94 rfl rfl, px_i1 11 rfl rfl, px_i5 95 rfl rfl⟩
theorem lk_11_262 : px_lV RX11 262 M_X0_setRow := ⟨px_i5 111 rfl rfl, px_i5 112 rfl rfl, px_i5 113 rfl rfl, px_i1 12 rfl rfl, px_i5 114 rfl rfl⟩
theorem lk_11_266 : px_lV RX11 266 M_X11_repairs := ⟨px_i5 120 rfl rfl, px_i5 122 rfl rfl, px_j3 13 rfl, px_i1 1 rfl rfl, px_i5 123 rfl rfl⟩
theorem lk_11_269 : px_lV RX11 269 M_X1_addRepair := ⟨px_i5 124 rfl rfl, px_i5 125 rfl rfl, px_i5 126 rfl rfl, px_i1 3 rfl rfl, px_i5 127 rfl rfl⟩
theorem lk_11_275 : px_lV RX11 275 M_X0_tightest := ⟨px_i5 136 rfl rfl, px_i5 137 rfl rfl, px_i5 138 rfl rfl, px_i1 12 rfl rfl, px_i5 139 rfl rfl⟩
theorem lk_11_291 : px_lV RX11 291 M_X5_toldWays := ⟨px_i5 170 rfl rfl, px_i5 171 rfl rfl, px_i5 172 rfl rfl, px_i1 8 rfl rfl, px_i5 173 rfl rfl⟩
theorem lk_11_294 : px_lV RX11 294 M_X0_rowOf := ⟨px_i5 174 rfl rfl, px_i5 175 rfl rfl, px_i5 176 rfl rfl, px_i1 12 rfl rfl, px_i5 177 rfl rfl⟩
theorem lk_0_26 : px_lSN RX0 26 M_X11_within "TunnelBook" := ⟨List.mem_of_getElem? (i := 6) rfl, px_i2 231 rfl rfl, px_i1 1 rfl rfl, px_i2 232 rfl rfl⟩
theorem lk_0_35 : px_lV RX0 35 M_X0_letThrough := ⟨px_i5 140 rfl rfl, px_i5 142 rfl rfl, px_j3 14 rfl, px_i1 12 rfl rfl, px_i5 143 rfl rfl⟩
theorem lk_0_39 : px_lV RX0 39 M_X1_hasReach := ⟨px_i5 144 rfl rfl, px_i3 144 rfl rfl, px_i3 145 rfl rfl, px_i1 3 rfl rfl, px_i3 146 rfl rfl⟩
theorem lk_0_52 : px_lV RX0 52 M_X7_bound := ⟨px_i5 145 rfl rfl, px_i3 55 rfl rfl, px_i3 56 rfl rfl, px_i1 2 rfl rfl, px_i3 57 rfl rfl⟩
theorem lk_0_61 : px_lS RX0 61 M_J9_floorDiv_f86c9 := ⟨px_i5 148 rfl rfl, px_i5 149 rfl rfl, px_i1 14 rfl rfl, px_i5 150 rfl rfl⟩
theorem lk_0_67 : px_lV RX0 67 M_X1_limeYears := ⟨px_i5 151 rfl rfl, px_i5 152 rfl rfl, px_i5 153 rfl rfl, px_i1 3 rfl rfl, px_i5 154 rfl rfl⟩
theorem lk_0_74 : px_lS RX0 74 M_J9_max_7cf53 := ⟨px_i5 155 rfl rfl, px_i3 114 rfl rfl, px_i1 14 rfl rfl, px_i3 115 rfl rfl⟩
theorem lk_0_78 : px_lS RX0 78 M_X0_classOf := ⟨px_i5 156 rfl rfl, px_i5 157 rfl rfl, px_i1 12 rfl rfl, px_i5 158 rfl rfl⟩
theorem lk_0_86 : px_lS RX0 86 M_J9_min_f86c9 := ⟨px_i5 161 rfl rfl, px_i4 209 rfl rfl, px_i1 14 rfl rfl, px_i4 210 rfl rfl⟩
theorem lk_1_62 : px_lSN RX1 62 M_X11_ordered "TunnelBook" := ⟨List.mem_of_getElem? (i := 7) rfl, px_i3 11 rfl rfl, px_i1 1 rfl rfl, px_i3 12 rfl rfl⟩
theorem lk_1_66 : px_lSN RX1 66 M_X11_within "TunnelBook" := ⟨List.mem_of_getElem? (i := 8) rfl, px_i2 231 rfl rfl, px_i1 1 rfl rfl, px_i2 232 rfl rfl⟩
theorem lk_1_70 : px_lV RX1 70 M_X1_addPeg := ⟨px_i3 85 rfl rfl, px_i3 87 rfl rfl, px_j1 4 rfl, px_i1 3 rfl rfl, px_i3 88 rfl rfl⟩
theorem lk_1_74 : px_lV RX1 74 M_X1_hasPeg := ⟨px_i3 109 rfl rfl, px_i3 110 rfl rfl, px_i3 111 rfl rfl, px_i1 3 rfl rfl, px_i3 112 rfl rfl⟩
theorem lk_1_78 : px_lS RX1 78 M_J9_max_7cf53 := ⟨px_i3 113 rfl rfl, px_i3 114 rfl rfl, px_i1 14 rfl rfl, px_i3 115 rfl rfl⟩
theorem lk_1_84 : px_lS RX1 84 M_J9_min_7cf53 := ⟨px_i3 116 rfl rfl, px_i3 117 rfl rfl, px_i1 14 rfl rfl, px_i3 118 rfl rfl⟩
theorem lk_1_87 : px_lV RX1 87 M_X1_dig := ⟨px_i3 127 rfl rfl, px_i3 129 rfl rfl, px_j1 6 rfl, px_i1 3 rfl rfl, px_i3 130 rfl rfl⟩
theorem lk_1_91 : px_lV RX1 91 M_X1_hasReach := ⟨px_i3 152 rfl rfl, px_i3 144 rfl rfl, px_i3 145 rfl rfl, px_i1 3 rfl rfl, px_i3 146 rfl rfl⟩
theorem lk_2_22 : px_lSN RX2 22 M_X11_within "TunnelBook" := ⟨List.mem_of_getElem? (i := 9) rfl, px_i2 231 rfl rfl, px_i1 1 rfl rfl, px_i2 232 rfl rfl⟩
theorem lk_2_27 : px_lSN RX2 27 M_X11_ordered "TunnelBook" := ⟨List.mem_of_getElem? (i := 10) rfl, px_i3 11 rfl rfl, px_i1 1 rfl rfl, px_i3 12 rfl rfl⟩
theorem lk_2_31 : px_lS RX2 31 M_J9_max_7cf53 := ⟨px_i3 164 rfl rfl, px_i3 114 rfl rfl, px_i1 14 rfl rfl, px_i3 115 rfl rfl⟩
theorem lk_2_37 : px_lS RX2 37 M_J9_min_7cf53 := ⟨px_i3 165 rfl rfl, px_i3 117 rfl rfl, px_i1 14 rfl rfl, px_i3 118 rfl rfl⟩
theorem lk_3_32 : px_lSN RX3 32 M_X11_isAxis "TunnelBook" := ⟨List.mem_of_getElem? (i := 11) rfl, px_i3 6 rfl rfl, px_i1 1 rfl rfl, px_i3 7 rfl rfl⟩
theorem lk_3_36 : px_lV RX3 36 M_X7_bound := ⟨px_i5 1 rfl rfl, px_i3 55 rfl rfl, px_i3 56 rfl rfl, px_i1 2 rfl rfl, px_i3 57 rfl rfl⟩
theorem lk_3_43 : px_lV RX3 43 M_X5_answer := ⟨px_i5 8 rfl rfl, px_i4 225 rfl rfl, px_i4 226 rfl rfl, px_i1 8 rfl rfl, px_i4 227 rfl rfl⟩
theorem lk_3_49 : px_lV RX3 49 M_X3_bound := ⟨px_i5 25 rfl rfl, px_i5 3 rfl rfl, px_i5 4 rfl rfl, px_i1 10 rfl rfl, px_i5 5 rfl rfl⟩
theorem lk_3_52 : px_lV RX3 52 M_X5_make := ⟨px_i5 34 rfl rfl, px_i4 156 rfl rfl, px_i4 157 rfl rfl, px_i1 8 rfl rfl, px_i4 158 rfl rfl⟩
theorem lk_3_55 : px_lV RX3 55 M_X3_judge := ⟨px_i5 35 rfl rfl, px_i5 22 rfl rfl, px_i5 23 rfl rfl, px_i1 10 rfl rfl, px_i5 24 rfl rfl⟩
theorem lk_4_11 : px_lIN RX4 11 M_X10_init "TunnelBook" := ⟨List.mem_of_getElem? (i := 12) rfl, px_i1 191 rfl rfl, px_i1 7 rfl rfl, px_i1 192 rfl rfl, rfl, rfl⟩
theorem lk_4_68 : px_lV RX4 68 M_X8_cut := ⟨px_i3 198 rfl rfl, px_i3 199 rfl rfl, px_i3 200 rfl rfl, px_i1 5 rfl rfl, px_i3 201 rfl rfl⟩
theorem lk_4_71 : px_lV RX4 71 M_X4_begin := ⟨px_i3 224 rfl rfl, px_i3 226 rfl rfl, px_j1 10 rfl, px_i1 6 rfl rfl, px_i3 227 rfl rfl⟩
theorem lk_4_77 : px_lV RX4 77 M_X4_nextToken := ⟨px_i3 228 rfl rfl, px_i3 230 rfl rfl, px_j1 11 rfl, px_i1 6 rfl rfl, px_i3 231 rfl rfl⟩
theorem lk_4_80 : px_lV RX4 80 M_X4_closeBlock := ⟨px_i3 232 rfl rfl, px_i3 234 rfl rfl, px_j1 12 rfl, px_i1 6 rfl rfl, px_i3 235 rfl rfl⟩
theorem lk_4_83 : px_lV RX4 83 M_X4_readPart := ⟨px_i4 14 rfl rfl, px_i4 16 rfl rfl, px_j2 0 rfl, px_i1 6 rfl rfl, px_i4 17 rfl rfl⟩
theorem lk_4_86 : px_lV RX4 86 M_X4_fail := ⟨px_i3 237 rfl rfl, px_i3 239 rfl rfl, px_j1 13 rfl, px_i1 6 rfl rfl, px_i4 0 rfl rfl⟩
theorem lk_4_98 : px_lV RX4 98 M_X8_isWord := ⟨px_i4 19 rfl rfl, px_i4 20 rfl rfl, px_i4 21 rfl rfl, px_i1 5 rfl rfl, px_i4 22 rfl rfl⟩
theorem lk_4_102 : px_lV RX4 102 M_X4_readStep := ⟨px_i4 71 rfl rfl, px_i4 73 rfl rfl, px_j2 1 rfl, px_i1 6 rfl rfl, px_i4 74 rfl rfl⟩
theorem lk_4_115 : px_lV RX4 115 M_X4_readBareStep := ⟨px_i4 88 rfl rfl, px_i4 90 rfl rfl, px_j2 4 rfl, px_i1 6 rfl rfl, px_i4 91 rfl rfl⟩
theorem lk_4_122 : px_lV RX4 122 M_X4_readDo := ⟨px_i4 94 rfl rfl, px_i4 96 rfl rfl, px_j2 5 rfl, px_i1 6 rfl rfl, px_i4 97 rfl rfl⟩
theorem lk_4_127 : px_lV RX4 127 M_X4_readRepeat := ⟨px_i4 108 rfl rfl, px_i4 110 rfl rfl, px_j2 8 rfl, px_i1 6 rfl rfl, px_i4 111 rfl rfl⟩
theorem lk_4_132 : px_lV RX4 132 M_X4_readDef := ⟨px_i4 121 rfl rfl, px_i4 123 rfl rfl, px_j2 11 rfl, px_i1 6 rfl rfl, px_i4 124 rfl rfl⟩
theorem lk_4_135 : px_lV RX4 135 M_X4_takeNumber := ⟨px_i4 75 rfl rfl, px_i4 77 rfl rfl, px_j2 2 rfl, px_i1 6 rfl rfl, px_i4 78 rfl rfl⟩
theorem lk_4_139 : px_lV RX4 139 M_X4_take := ⟨px_i4 79 rfl rfl, px_i4 81 rfl rfl, px_j2 3 rfl, px_i1 6 rfl rfl, px_i4 82 rfl rfl⟩
theorem lk_4_142 : px_lV RX4 142 M_X10_add := ⟨px_i4 5 rfl rfl, px_i4 6 rfl rfl, px_i4 7 rfl rfl, px_i1 7 rfl rfl, px_i4 8 rfl rfl⟩
theorem lk_4_145 : px_lV RX4 145 M_X4_addSteps := ⟨px_i4 9 rfl rfl, px_i4 11 rfl rfl, px_j1 15 rfl, px_i1 6 rfl rfl, px_i4 12 rfl rfl⟩
theorem lk_4_148 : px_lV RX4 148 M_X4_takeLetter := ⟨px_i4 98 rfl rfl, px_i4 100 rfl rfl, px_j2 6 rfl, px_i1 6 rfl rfl, px_i4 101 rfl rfl⟩
theorem lk_4_152 : px_lV RX4 152 M_X4_takeOpening := ⟨px_i4 112 rfl rfl, px_i4 114 rfl rfl, px_j2 9 rfl, px_i1 6 rfl rfl, px_i4 115 rfl rfl⟩
theorem lk_4_155 : px_lV RX4 155 M_X4_openBlock := ⟨px_i4 116 rfl rfl, px_i4 118 rfl rfl, px_j2 10 rfl, px_i1 6 rfl rfl, px_i4 119 rfl rfl⟩
theorem lk_4_158 : px_lSN RX4 158 M_X11_within "TunnelBook" := ⟨List.mem_of_getElem? (i := 13) rfl, px_i2 231 rfl rfl, px_i1 1 rfl rfl, px_i2 232 rfl rfl⟩
theorem lk_4_162 : px_lV RX4 162 M_X4_closeDef := ⟨px_i4 1 rfl rfl, px_i4 3 rfl rfl, px_j1 14 rfl, px_i1 6 rfl rfl, px_i4 4 rfl rfl⟩
theorem lk_4_168 : px_lS RX4 168 M_J9_min_7cf53 := ⟨px_i4 13 rfl rfl, px_i3 117 rfl rfl, px_i1 14 rfl rfl, px_i3 118 rfl rfl⟩
theorem lk_4_174 : px_lV RX4 174 M_X4_letterHere := ⟨px_i4 102 rfl rfl, px_i4 104 rfl rfl, px_j2 7 rfl, px_i1 6 rfl rfl, px_i4 105 rfl rfl⟩
theorem lk_4_180 : px_lV RX4 180 M_X8_byteAt := ⟨px_i4 106 rfl rfl, px_i3 203 rfl rfl, px_i3 204 rfl rfl, px_i1 5 rfl rfl, px_i3 205 rfl rfl⟩
theorem lk_5_11 : px_lIN RX5 11 M_X9_init "TunnelBook" := ⟨List.mem_of_getElem? (i := 14) rfl, px_i2 36 rfl rfl, px_i1 9 rfl rfl, px_i2 37 rfl rfl, rfl, rfl⟩
theorem lk_5_32 : px_lV RX5 32 M_X5_hasPlace := ⟨px_i4 129 rfl rfl, px_i3 191 rfl rfl, px_i3 192 rfl rfl, px_i1 8 rfl rfl, px_i3 193 rfl rfl⟩
theorem lk_5_36 : px_lV RX5 36 M_X5_isTold := ⟨px_i4 159 rfl rfl, px_i4 160 rfl rfl, px_i4 161 rfl rfl, px_i1 8 rfl rfl, px_i4 162 rfl rfl⟩
theorem lk_5_39 : px_lIN RX5 39 M_X10_init "TunnelBook" := ⟨List.mem_of_getElem? (i := 15) rfl, px_i1 191 rfl rfl, px_i1 7 rfl rfl, px_i1 192 rfl rfl, rfl, rfl⟩
theorem lk_5_40 : px_lV RX5 40 M_X9_go := ⟨px_i4 163 rfl rfl, px_i4 164 rfl rfl, px_i4 165 rfl rfl, px_i1 9 rfl rfl, px_i4 166 rfl rfl⟩
theorem lk_5_44 : px_lV RX5 44 M_X5_keep := ⟨px_i4 219 rfl rfl, px_i4 221 rfl rfl, px_j3 4 rfl, px_i1 8 rfl rfl, px_i4 222 rfl rfl⟩
theorem lk_5_82 : px_lSN RX5 82 M_X11_within "TunnelBook" := ⟨List.mem_of_getElem? (i := 16) rfl, px_i2 231 rfl rfl, px_i1 1 rfl rfl, px_i2 232 rfl rfl⟩
theorem lk_6_32 : px_lV RX6 32 M_X6_startAt := ⟨px_i5 57 rfl rfl, px_i5 59 rfl rfl, px_j3 6 rfl, px_i1 11 rfl rfl, px_i5 60 rfl rfl⟩
theorem lk_6_36 : px_lV RX6 36 M_X6_clearNext := ⟨px_i5 61 rfl rfl, px_i5 63 rfl rfl, px_j3 7 rfl, px_i1 11 rfl rfl, px_i5 64 rfl rfl⟩
theorem lk_6_40 : px_lV RX6 40 M_X6_spread := ⟨px_i5 65 rfl rfl, px_i5 67 rfl rfl, px_j3 8 rfl, px_i1 11 rfl rfl, px_i5 68 rfl rfl⟩
theorem lk_6_44 : px_lV RX6 44 M_X6_swap := ⟨px_i5 75 rfl rfl, px_i5 77 rfl rfl, px_j3 10 rfl, px_i1 11 rfl rfl, px_i5 78 rfl rfl⟩
theorem lk_6_47 : px_lV RX6 47 M_X6_misses := ⟨px_i5 79 rfl rfl, px_i5 81 rfl rfl, px_j3 11 rfl, px_i1 11 rfl rfl, px_i5 82 rfl rfl⟩
theorem lk_6_51 : px_lS RX6 51 M_X6_commonDivisor := ⟨px_i5 84 rfl rfl, px_i5 85 rfl rfl, px_i1 11 rfl rfl, px_i5 86 rfl rfl⟩
theorem lk_6_57 : px_lV RX6 57 M_X6_prolong := ⟨px_i5 96 rfl rfl, px_i5 98 rfl rfl, px_j3 12 rfl, px_i1 11 rfl rfl, px_i5 99 rfl rfl⟩
theorem lk_6_61 : px_lS RX6 61 M_X6_better := ⟨px_i5 100 rfl rfl, px_i5 101 rfl rfl, px_i1 11 rfl rfl, px_i5 102 rfl rfl⟩
theorem lk_6_65 : px_lV RX6 65 M_X6_pulled := ⟨px_i5 69 rfl rfl, px_i5 71 rfl rfl, px_j3 9 rfl, px_i1 11 rfl rfl, px_i5 72 rfl rfl⟩
theorem lk_6_69 : px_lS RX6 69 M_J9_abs_0f7a4 := ⟨px_i5 83 rfl rfl, px_i4 202 rfl rfl, px_i1 14 rfl rfl, px_i4 203 rfl rfl⟩
theorem lk_6_75 : px_lS RX6 75 M_J9_max_f86c9 := ⟨px_i5 103 rfl rfl, px_i5 104 rfl rfl, px_i1 14 rfl rfl, px_i5 105 rfl rfl⟩
theorem lk_6_78 : px_lS RX6 78 M_J9_min_f86c9 := ⟨px_i5 106 rfl rfl, px_i4 209 rfl rfl, px_i1 14 rfl rfl, px_i4 210 rfl rfl⟩
theorem lk_6_81 : px_lS RX6 81 M_J9_max_7cf53 := ⟨px_i5 73 rfl rfl, px_i3 114 rfl rfl, px_i1 14 rfl rfl, px_i3 115 rfl rfl⟩
theorem lk_6_83 : px_lS RX6 83 M_J9_min_7cf53 := ⟨px_i5 74 rfl rfl, px_i3 117 rfl rfl, px_i1 14 rfl rfl, px_i3 118 rfl rfl⟩
theorem lk_7_41 : px_lV RX7 41 M_X7_settle := ⟨px_i3 58 rfl rfl, px_i3 29 rfl rfl, px_i3 30 rfl rfl, px_i1 2 rfl rfl, px_i3 31 rfl rfl⟩
theorem lk_7_46 : px_lV RX7 46 M_X7_has := ⟨px_i3 60 rfl rfl, px_i3 14 rfl rfl, px_i3 15 rfl rfl, px_i1 2 rfl rfl, px_i3 16 rfl rfl⟩
theorem lk_7_52 : px_lV RX7 52 M_X7_counts := ⟨px_i3 37 rfl rfl, px_i3 39 rfl rfl, px_j1 1 rfl, px_i1 2 rfl rfl, px_i3 40 rfl rfl⟩
theorem lk_7_56 : px_lV RX7 56 M_X7_shortenAll := ⟨px_i3 33 rfl rfl, px_i3 35 rfl rfl, px_j1 0 rfl, px_i1 2 rfl rfl, px_i3 36 rfl rfl⟩
theorem lk_7_59 : px_lV RX7 59 M_X7_shorten := ⟨px_i3 41 rfl rfl, px_i3 43 rfl rfl, px_j1 2 rfl, px_i1 2 rfl rfl, px_i3 44 rfl rfl⟩
theorem lk_8_32 : px_lV RX8 32 M_X8_byteAt := ⟨px_i3 202 rfl rfl, px_i3 203 rfl rfl, px_i3 204 rfl rfl, px_i1 5 rfl rfl, px_i3 205 rfl rfl⟩
theorem lk_8_36 : px_lS RX8 36 M_X8_kindOf := ⟨px_i3 206 rfl rfl, px_i3 207 rfl rfl, px_i1 5 rfl rfl, px_i3 208 rfl rfl⟩
theorem lk_8_39 : px_lV RX8 39 M_X8_goesOn := ⟨px_i3 210 rfl rfl, px_i3 212 rfl rfl, px_j1 7 rfl, px_i1 5 rfl rfl, px_i3 213 rfl rfl⟩
theorem lk_8_43 : px_lV RX8 43 M_X8_addToken := ⟨px_i3 214 rfl rfl, px_i3 216 rfl rfl, px_j1 8 rfl, px_i1 5 rfl rfl, px_i3 217 rfl rfl⟩
theorem lk_8_47 : px_lV RX8 47 M_X8_lengthen := ⟨px_i3 218 rfl rfl, px_i3 220 rfl rfl, px_j1 9 rfl, px_i1 5 rfl rfl, px_i3 221 rfl rfl⟩
theorem lk_8_51 : px_lSN RX8 51 M_X11_within "TunnelBook" := ⟨List.mem_of_getElem? (i := 17) rfl, px_i2 231 rfl rfl, px_i1 1 rfl rfl, px_i2 232 rfl rfl⟩
theorem lk_8_58 : px_lS RX8 58 M_J9_min_7cf53 := ⟨px_i3 223 rfl rfl, px_i3 117 rfl rfl, px_i1 14 rfl rfl, px_i3 118 rfl rfl⟩
theorem lk_8_64 : px_lV RX8 64 M_J0_length_8abf5 := ⟨px_i4 23 rfl rfl, px_i4 24 rfl rfl, px_i4 25 rfl rfl, px_i1 15 rfl rfl, px_i4 26 rfl rfl⟩
theorem lk_8_69 : px_lV RX8 69 M_J0_charAt_5068e := ⟨px_i4 33 rfl rfl, px_i4 34 rfl rfl, px_i4 35 rfl rfl, px_i1 15 rfl rfl, px_i4 36 rfl rfl⟩
theorem lk_9_67 : px_lV RX9 67 M_X9_begin := ⟨px_i4 167 rfl rfl, px_i4 169 rfl rfl, px_j2 12 rfl, px_i1 9 rfl rfl, px_i4 170 rfl rfl⟩
theorem lk_9_78 : px_lSN RX9 78 M_X11_within "TunnelBook" := ⟨List.mem_of_getElem? (i := 18) rfl, px_i2 231 rfl rfl, px_i1 1 rfl rfl, px_i2 232 rfl rfl⟩
theorem lk_9_90 : px_lV RX9 90 M_X9_follow := ⟨px_i4 173 rfl rfl, px_i4 175 rfl rfl, px_j2 13 rfl, px_i1 9 rfl rfl, px_i4 176 rfl rfl⟩
theorem lk_9_94 : px_lV RX9 94 M_X9_push := ⟨px_i4 177 rfl rfl, px_i4 179 rfl rfl, px_j2 14 rfl, px_i1 9 rfl rfl, px_i4 180 rfl rfl⟩
theorem lk_9_98 : px_lV RX9 98 M_X9_turnBack := ⟨px_i4 181 rfl rfl, px_i4 183 rfl rfl, px_j2 15 rfl, px_i1 9 rfl rfl, px_i4 184 rfl rfl⟩
theorem lk_9_102 : px_lV RX9 102 M_X9_pop := ⟨px_i4 185 rfl rfl, px_i4 187 rfl rfl, px_j3 0 rfl, px_i1 9 rfl rfl, px_i4 188 rfl rfl⟩
theorem lk_9_105 : px_lV RX9 105 M_X9_step := ⟨px_i4 189 rfl rfl, px_i4 191 rfl rfl, px_j3 1 rfl, px_i1 9 rfl rfl, px_i4 192 rfl rfl⟩
theorem lk_9_108 : px_lV RX9 108 M_X9_layLine := ⟨px_i4 193 rfl rfl, px_i4 195 rfl rfl, px_j3 2 rfl, px_i1 9 rfl rfl, px_i4 196 rfl rfl⟩
theorem lk_9_113 : px_lS RX9 113 M_J9_min_f86c9 := ⟨px_i4 208 rfl rfl, px_i4 209 rfl rfl, px_i1 14 rfl rfl, px_i4 210 rfl rfl⟩
theorem lk_9_119 : px_lV RX9 119 M_X9_staysNear := ⟨px_i4 211 rfl rfl, px_i4 213 rfl rfl, px_j3 3 rfl, px_i1 9 rfl rfl, px_i4 214 rfl rfl⟩
theorem lk_9_129 : px_lS RX9 129 M_J9_abs_0f7a4 := ⟨px_i4 201 rfl rfl, px_i4 202 rfl rfl, px_i1 14 rfl rfl, px_i4 203 rfl rfl⟩
theorem lk_9_140 : px_lS RX9 140 M_J9_abs_067f4 := ⟨px_i4 215 rfl rfl, px_i4 216 rfl rfl, px_i1 14 rfl rfl, px_i4 217 rfl rfl⟩
theorem lk_13_9 : px_lI RL 9 M_X11_init := ⟨px_i1 21 rfl rfl, px_i1 22 rfl rfl, px_i1 1 rfl rfl, px_i1 23 rfl rfl, rfl, rfl⟩
theorem lk_13_12 : px_lI RL 12 M_X12_init := ⟨px_i5 180 rfl rfl, px_i5 181 rfl rfl, px_i1 13 rfl rfl, px_i5 182 rfl rfl, rfl, rfl⟩
theorem lk_13_13 : px_lV RL 13 M_X11_days := ⟨px_i2 226 rfl rfl, px_i2 227 rfl rfl, px_i2 228 rfl rfl, px_i1 1 rfl rfl, px_i2 229 rfl rfl⟩
theorem lk_13_17 : px_lV RL 17 M_X12_days := ⟨px_i6 176 rfl rfl, px_i6 177 rfl rfl, px_i6 178 rfl rfl, px_i1 13 rfl rfl, px_i6 179 rfl rfl⟩
theorem lk_13_18 : px_lV RL 18 M_X11_station := ⟨px_i2 233 rfl rfl, px_i2 234 rfl rfl, px_i2 235 rfl rfl, px_i1 1 rfl rfl, px_i2 236 rfl rfl⟩
theorem lk_13_22 : px_lV RL 22 M_X12_station := ⟨px_i6 184 rfl rfl, px_i6 185 rfl rfl, px_i6 186 rfl rfl, px_i1 13 rfl rfl, px_i6 187 rfl rfl⟩
theorem lk_13_23 : px_lV RL 23 M_X11_sight := ⟨px_i3 1 rfl rfl, px_i3 2 rfl rfl, px_i3 3 rfl rfl, px_i1 1 rfl rfl, px_i3 4 rfl rfl⟩
theorem lk_13_27 : px_lV RL 27 M_X12_sight := ⟨px_i6 188 rfl rfl, px_i6 189 rfl rfl, px_i6 190 rfl rfl, px_i1 13 rfl rfl, px_i6 191 rfl rfl⟩
theorem lk_13_28 : px_lV RL 28 M_X11_closed := ⟨px_i3 21 rfl rfl, px_i3 22 rfl rfl, px_i3 23 rfl rfl, px_i1 1 rfl rfl, px_i3 24 rfl rfl⟩
theorem lk_13_32 : px_lV RL 32 M_X12_closed := ⟨px_i6 202 rfl rfl, px_i6 203 rfl rfl, px_i6 204 rfl rfl, px_i1 13 rfl rfl, px_i6 205 rfl rfl⟩
theorem lk_13_33 : px_lV RL 33 M_X11_span := ⟨px_i3 45 rfl rfl, px_i3 46 rfl rfl, px_i3 47 rfl rfl, px_i1 1 rfl rfl, px_i3 48 rfl rfl⟩
theorem lk_13_37 : px_lV RL 37 M_X12_span := ⟨px_i6 236 rfl rfl, px_i6 237 rfl rfl, px_i6 238 rfl rfl, px_i1 13 rfl rfl, px_i6 239 rfl rfl⟩
theorem lk_13_38 : px_lV RL 38 M_X11_gap := ⟨px_i3 61 rfl rfl, px_i3 50 rfl rfl, px_i3 51 rfl rfl, px_i1 1 rfl rfl, px_i3 52 rfl rfl⟩
theorem lk_13_42 : px_lV RL 42 M_X12_gap := ⟨px_i6 227 rfl rfl, px_i6 228 rfl rfl, px_i6 229 rfl rfl, px_i1 13 rfl rfl, px_i6 230 rfl rfl⟩
theorem lk_13_43 : px_lV RL 43 M_X11_blamed := ⟨px_i3 62 rfl rfl, px_i3 63 rfl rfl, px_i3 64 rfl rfl, px_i1 1 rfl rfl, px_i3 65 rfl rfl⟩
theorem lk_13_47 : px_lV RL 47 M_X12_blamed := ⟨px_i7 1 rfl rfl, px_i7 2 rfl rfl, px_i7 3 rfl rfl, px_i1 13 rfl rfl, px_i7 4 rfl rfl⟩
theorem lk_13_48 : px_lV RL 48 M_X11_reach := ⟨px_i3 70 rfl rfl, px_i3 71 rfl rfl, px_i3 72 rfl rfl, px_i1 1 rfl rfl, px_i3 73 rfl rfl⟩
theorem lk_13_52 : px_lV RL 52 M_X12_reach := ⟨px_i7 5 rfl rfl, px_i7 6 rfl rfl, px_i7 7 rfl rfl, px_i1 13 rfl rfl, px_i7 8 rfl rfl⟩
theorem lk_13_53 : px_lV RL 53 M_X11_mouth := ⟨px_i3 89 rfl rfl, px_i3 90 rfl rfl, px_i3 91 rfl rfl, px_i1 1 rfl rfl, px_i3 92 rfl rfl⟩
theorem lk_13_57 : px_lV RL 57 M_X12_mouth := ⟨px_i7 12 rfl rfl, px_i7 13 rfl rfl, px_i7 14 rfl rfl, px_i1 13 rfl rfl, px_i7 15 rfl rfl⟩
theorem lk_13_58 : px_lV RL 58 M_X11_mark := ⟨px_i3 97 rfl rfl, px_i3 98 rfl rfl, px_i3 99 rfl rfl, px_i1 1 rfl rfl, px_i3 100 rfl rfl⟩
theorem lk_13_62 : px_lV RL 62 M_X12_mark := ⟨px_i7 16 rfl rfl, px_i7 17 rfl rfl, px_i7 18 rfl rfl, px_i1 13 rfl rfl, px_i7 19 rfl rfl⟩
theorem lk_13_63 : px_lV RL 63 M_X11_when := ⟨px_i3 119 rfl rfl, px_i3 120 rfl rfl, px_i3 121 rfl rfl, px_i1 1 rfl rfl, px_i3 122 rfl rfl⟩
theorem lk_13_67 : px_lV RL 67 M_X12_when := ⟨px_i7 25 rfl rfl, px_i7 26 rfl rfl, px_i7 27 rfl rfl, px_i1 13 rfl rfl, px_i7 28 rfl rfl⟩
theorem lk_13_68 : px_lV RL 68 M_X11_between := ⟨px_i3 131 rfl rfl, px_i3 132 rfl rfl, px_i3 133 rfl rfl, px_i1 1 rfl rfl, px_i3 134 rfl rfl⟩
theorem lk_13_71 : px_lV RL 71 M_X12_between := ⟨px_i7 33 rfl rfl, px_i7 34 rfl rfl, px_i7 35 rfl rfl, px_i1 13 rfl rfl, px_i7 36 rfl rfl⟩
theorem lk_13_72 : px_lV RL 72 M_X11_lamps := ⟨px_i3 139 rfl rfl, px_i3 140 rfl rfl, px_i3 141 rfl rfl, px_i1 1 rfl rfl, px_i3 142 rfl rfl⟩
theorem lk_13_75 : px_lV RL 75 M_X12_lamps := ⟨px_i7 37 rfl rfl, px_i7 38 rfl rfl, px_i7 39 rfl rfl, px_i1 13 rfl rfl, px_i7 40 rfl rfl⟩
theorem lk_13_76 : px_lV RL 76 M_X11_count := ⟨px_i3 153 rfl rfl, px_i3 154 rfl rfl, px_i3 155 rfl rfl, px_i1 1 rfl rfl, px_i3 156 rfl rfl⟩
theorem lk_13_79 : px_lV RL 79 M_X12_count := ⟨px_i7 42 rfl rfl, px_i7 43 rfl rfl, px_i7 44 rfl rfl, px_i1 13 rfl rfl, px_i7 45 rfl rfl⟩
theorem lk_13_80 : px_lV RL 80 M_X11_unit := ⟨px_i3 166 rfl rfl, px_i3 167 rfl rfl, px_i3 168 rfl rfl, px_i1 1 rfl rfl, px_i3 169 rfl rfl⟩
theorem lk_13_84 : px_lV RL 84 M_X12_unit := ⟨px_i7 47 rfl rfl, px_i7 48 rfl rfl, px_i7 49 rfl rfl, px_i1 13 rfl rfl, px_i7 50 rfl rfl⟩
theorem lk_13_85 : px_lV RL 85 M_X11_feed := ⟨px_i3 170 rfl rfl, px_i3 171 rfl rfl, px_i3 172 rfl rfl, px_i1 1 rfl rfl, px_i3 173 rfl rfl⟩
theorem lk_13_88 : px_lV RL 88 M_X12_feed := ⟨px_i7 51 rfl rfl, px_i7 52 rfl rfl, px_i7 53 rfl rfl, px_i1 13 rfl rfl, px_i7 54 rfl rfl⟩
theorem lk_13_89 : px_lV RL 89 M_X11_end := ⟨px_i3 182 rfl rfl, px_i3 183 rfl rfl, px_i3 184 rfl rfl, px_i1 1 rfl rfl, px_i3 185 rfl rfl⟩
theorem lk_13_92 : px_lV RL 92 M_X12_end := ⟨px_i7 59 rfl rfl, px_i7 60 rfl rfl, px_i7 61 rfl rfl, px_i1 13 rfl rfl, px_i7 62 rfl rfl⟩
theorem lk_13_93 : px_lV RL 93 M_X11_way := ⟨px_i3 186 rfl rfl, px_i3 187 rfl rfl, px_i3 188 rfl rfl, px_i1 1 rfl rfl, px_i3 189 rfl rfl⟩
theorem lk_13_96 : px_lV RL 96 M_X12_way := ⟨px_i7 63 rfl rfl, px_i7 64 rfl rfl, px_i7 65 rfl rfl, px_i1 13 rfl rfl, px_i7 66 rfl rfl⟩
theorem lk_13_97 : px_lV RL 97 M_X11_fault := ⟨px_i4 132 rfl rfl, px_i4 133 rfl rfl, px_i4 134 rfl rfl, px_i1 1 rfl rfl, px_i4 135 rfl rfl⟩
theorem lk_13_100 : px_lV RL 100 M_X12_fault := ⟨px_i7 133 rfl rfl, px_i7 134 rfl rfl, px_i7 135 rfl rfl, px_i1 13 rfl rfl, px_i7 136 rfl rfl⟩
theorem lk_13_101 : px_lV RL 101 M_X11_tools := ⟨px_i4 136 rfl rfl, px_i4 137 rfl rfl, px_i4 138 rfl rfl, px_i1 1 rfl rfl, px_i4 139 rfl rfl⟩
theorem lk_13_105 : px_lV RL 105 M_X12_tools := ⟨px_i7 137 rfl rfl, px_i7 138 rfl rfl, px_i7 139 rfl rfl, px_i1 13 rfl rfl, px_i7 140 rfl rfl⟩
theorem lk_13_106 : px_lV RL 106 M_X11_run := ⟨px_i4 148 rfl rfl, px_i4 149 rfl rfl, px_i4 150 rfl rfl, px_i1 1 rfl rfl, px_i4 151 rfl rfl⟩
theorem lk_13_109 : px_lV RL 109 M_X12_run := ⟨px_i7 141 rfl rfl, px_i7 142 rfl rfl, px_i7 143 rfl rfl, px_i1 13 rfl rfl, px_i7 144 rfl rfl⟩
theorem lk_13_110 : px_lV RL 110 M_X11_meeting := ⟨px_i4 229 rfl rfl, px_i4 230 rfl rfl, px_i4 231 rfl rfl, px_i1 1 rfl rfl, px_i4 232 rfl rfl⟩
theorem lk_13_114 : px_lV RL 114 M_X12_meeting := ⟨px_i7 180 rfl rfl, px_i7 181 rfl rfl, px_i7 182 rfl rfl, px_i1 13 rfl rfl, px_i7 183 rfl rfl⟩
theorem lk_13_115 : px_lV RL 115 M_X11_there := ⟨px_i5 9 rfl rfl, px_i5 10 rfl rfl, px_i5 11 rfl rfl, px_i1 1 rfl rfl, px_i5 12 rfl rfl⟩
theorem lk_13_119 : px_lV RL 119 M_X12_there := ⟨px_i7 201 rfl rfl, px_i7 202 rfl rfl, px_i7 203 rfl rfl, px_i1 13 rfl rfl, px_i7 204 rfl rfl⟩
theorem lk_13_120 : px_lV RL 120 M_X11_fits := ⟨px_i5 17 rfl rfl, px_i5 18 rfl rfl, px_i5 19 rfl rfl, px_i1 1 rfl rfl, px_i5 20 rfl rfl⟩
theorem lk_13_123 : px_lV RL 123 M_X12_fits := ⟨px_i7 205 rfl rfl, px_i7 206 rfl rfl, px_i7 207 rfl rfl, px_i1 13 rfl rfl, px_i7 208 rfl rfl⟩
theorem lk_13_124 : px_lV RL 124 M_X11_ways := ⟨px_i5 26 rfl rfl, px_i5 27 rfl rfl, px_i5 28 rfl rfl, px_i1 1 rfl rfl, px_i5 29 rfl rfl⟩
theorem lk_13_127 : px_lV RL 127 M_X12_ways := ⟨px_i7 209 rfl rfl, px_i7 210 rfl rfl, px_i7 211 rfl rfl, px_i1 13 rfl rfl, px_i7 212 rfl rfl⟩
theorem lk_13_128 : px_lV RL 128 M_X11_seek := ⟨px_i5 36 rfl rfl, px_i5 37 rfl rfl, px_i5 38 rfl rfl, px_i1 1 rfl rfl, px_i5 39 rfl rfl⟩
theorem lk_13_132 : px_lV RL 132 M_X12_seek := ⟨px_i7 214 rfl rfl, px_i7 215 rfl rfl, px_i7 216 rfl rfl, px_i1 13 rfl rfl, px_i7 217 rfl rfl⟩
theorem lk_13_133 : px_lV RL 133 M_X11_chance := ⟨px_i5 48 rfl rfl, px_i5 49 rfl rfl, px_i5 50 rfl rfl, px_i1 1 rfl rfl, px_i5 51 rfl rfl⟩
theorem lk_13_137 : px_lV RL 137 M_X12_chance := ⟨px_i7 222 rfl rfl, px_i7 223 rfl rfl, px_i7 224 rfl rfl, px_i1 13 rfl rfl, px_i7 225 rfl rfl⟩
theorem lk_13_138 : px_lV RL 138 M_X11_detour := ⟨px_i5 88 rfl rfl, px_i5 89 rfl rfl, px_i5 90 rfl rfl, px_i1 1 rfl rfl, px_i5 91 rfl rfl⟩
theorem lk_13_141 : px_lV RL 141 M_X12_detour := ⟨px_i7 233 rfl rfl, px_i7 234 rfl rfl, px_i7 235 rfl rfl, px_i1 13 rfl rfl, px_i7 236 rfl rfl⟩
theorem lk_13_142 : px_lV RL 142 M_X11_table := ⟨px_i5 107 rfl rfl, px_i5 108 rfl rfl, px_i5 109 rfl rfl, px_i1 1 rfl rfl, px_i5 110 rfl rfl⟩
theorem lk_13_145 : px_lV RL 145 M_X12_table := ⟨px_i7 237 rfl rfl, px_i7 238 rfl rfl, px_i7 239 rfl rfl, px_i1 13 rfl rfl, px_i8 0 rfl rfl⟩
theorem lk_13_146 : px_lV RL 146 M_X11_repair := ⟨px_i5 116 rfl rfl, px_i5 117 rfl rfl, px_i5 118 rfl rfl, px_i1 1 rfl rfl, px_i5 119 rfl rfl⟩
theorem lk_13_149 : px_lV RL 149 M_X12_repair := ⟨px_i8 1 rfl rfl, px_i8 2 rfl rfl, px_i8 3 rfl rfl, px_i1 13 rfl rfl, px_i8 4 rfl rfl⟩
theorem lk_13_150 : px_lV RL 150 M_X11_lime := ⟨px_i5 128 rfl rfl, px_i5 129 rfl rfl, px_i5 130 rfl rfl, px_i1 1 rfl rfl, px_i5 131 rfl rfl⟩
theorem lk_13_154 : px_lV RL 154 M_X12_lime := ⟨px_i8 5 rfl rfl, px_i8 6 rfl rfl, px_i8 7 rfl rfl, px_i1 13 rfl rfl, px_i8 8 rfl rfl⟩
theorem lk_13_155 : px_lV RL 155 M_X11_flow := ⟨px_i5 132 rfl rfl, px_i5 133 rfl rfl, px_i5 134 rfl rfl, px_i1 1 rfl rfl, px_i5 135 rfl rfl⟩
theorem lk_13_158 : px_lV RL 158 M_X12_flow := ⟨px_i8 9 rfl rfl, px_i8 10 rfl rfl, px_i8 11 rfl rfl, px_i1 13 rfl rfl, px_i8 12 rfl rfl⟩
theorem lk_13_159 : px_lV RL 159 M_X11_narrow := ⟨px_i5 162 rfl rfl, px_i5 163 rfl rfl, px_i5 164 rfl rfl, px_i1 1 rfl rfl, px_i5 165 rfl rfl⟩
theorem lk_13_162 : px_lV RL 162 M_X12_narrow := ⟨px_i8 36 rfl rfl, px_i8 37 rfl rfl, px_i8 38 rfl rfl, px_i1 13 rfl rfl, px_i8 39 rfl rfl⟩
theorem lk_13_163 : px_lV RL 163 M_X11_about := ⟨px_i5 166 rfl rfl, px_i5 167 rfl rfl, px_i5 168 rfl rfl, px_i1 1 rfl rfl, px_i5 169 rfl rfl⟩
theorem lk_13_166 : px_lV RL 166 M_X12_about := ⟨px_i8 40 rfl rfl, px_i8 41 rfl rfl, px_i8 42 rfl rfl, px_i1 13 rfl rfl, px_i8 43 rfl rfl⟩
theorem lk_12_167 : px_lS RX12 167 M_X12_in := ⟨px_i6 181 rfl rfl, px_i6 182 rfl rfl, px_i1 13 rfl rfl, px_i6 183 rfl rfl⟩
theorem lk_12_180 : px_lS RX12 180 M_X12_isAxis := ⟨px_i6 192 rfl rfl, px_i6 193 rfl rfl, px_i1 13 rfl rfl, px_i6 194 rfl rfl⟩
theorem lk_12_184 : px_lV RX12 184 M_X12_isStation := ⟨px_i6 196 rfl rfl, px_i6 198 rfl rfl, px_j3 15 rfl, px_i1 13 rfl rfl, px_i6 199 rfl rfl⟩
theorem lk_12_199 : px_lV RX12 199 M_X12_bounds := ⟨px_i6 219 rfl rfl, px_i6 221 rfl rfl, px_j4 2 rfl, px_i1 13 rfl rfl, px_i6 222 rfl rfl⟩
theorem lk_12_203 : px_lV RX12 203 M_X12_begins := ⟨px_i6 214 rfl rfl, px_i6 216 rfl rfl, px_j4 1 rfl, px_i1 13 rfl rfl, px_i6 217 rfl rfl⟩
theorem lk_12_207 : px_lV RX12 207 M_X12_closes := ⟨px_i6 223 rfl rfl, px_i6 225 rfl rfl, px_j4 3 rfl, px_i1 13 rfl rfl, px_i6 226 rfl rfl⟩
theorem lk_12_211 : px_lS RX12 211 M_X12_isKnown := ⟨px_i6 206 rfl rfl, px_i6 207 rfl rfl, px_i1 13 rfl rfl, px_i6 208 rfl rfl⟩
theorem lk_12_214 : px_lV RX12 214 M_X12_isClosed := ⟨px_i6 210 rfl rfl, px_i6 212 rfl rfl, px_j4 0 rfl, px_i1 13 rfl rfl, px_i6 213 rfl rfl⟩
theorem lk_12_219 : px_lV RX12 219 M_X12_gapOf := ⟨px_i6 232 rfl rfl, px_i6 234 rfl rfl, px_j4 4 rfl, px_i1 13 rfl rfl, px_i6 235 rfl rfl⟩
theorem lk_12_223 : px_lV RX12 223 M_X12_gap := ⟨px_i7 0 rfl rfl, px_i6 228 rfl rfl, px_i6 229 rfl rfl, px_i1 13 rfl rfl, px_i6 230 rfl rfl⟩
theorem lk_12_233 : px_lV RX12 233 M_X12_isPeg := ⟨px_i7 20 rfl rfl, px_i7 22 rfl rfl, px_j4 5 rfl, px_i1 13 rfl rfl, px_i7 23 rfl rfl⟩
theorem lk_12_242 : px_lV RX12 242 M_X12_isDug := ⟨px_i7 29 rfl rfl, px_i7 31 rfl rfl, px_j4 6 rfl, px_i1 13 rfl rfl, px_i7 32 rfl rfl⟩
theorem lk_12_262 : px_lV RX12 262 M_X12_put := ⟨px_i7 55 rfl rfl, px_i7 57 rfl rfl, px_j4 7 rfl, px_i1 13 rfl rfl, px_i7 58 rfl rfl⟩
theorem lk_12_303 : px_lS RX12 303 M_X12_isLetter := ⟨px_i7 72 rfl rfl, px_i7 73 rfl rfl, px_i1 13 rfl rfl, px_i7 74 rfl rfl⟩
theorem lk_12_313 : px_lS RX12 313 M_X12_wordOf := ⟨px_i7 81 rfl rfl, px_i7 82 rfl rfl, px_i1 13 rfl rfl, px_i7 83 rfl rfl⟩
theorem lk_12_331 : px_lV RX12 331 M_X12_isSign := ⟨px_i7 96 rfl rfl, px_i7 98 rfl rfl, px_j4 9 rfl, px_i1 13 rfl rfl, px_i7 99 rfl rfl⟩
theorem lk_12_334 : px_lV RX12 334 M_X12_errs := ⟨px_i7 108 rfl rfl, px_i7 110 rfl rfl, px_j4 12 rfl, px_i1 13 rfl rfl, px_i7 111 rfl rfl⟩
theorem lk_12_340 : px_lV RX12 340 M_X12_next := ⟨px_i7 68 rfl rfl, px_i7 70 rfl rfl, px_j4 8 rfl, px_i1 13 rfl rfl, px_i7 71 rfl rfl⟩
theorem lk_12_346 : px_lV RX12 346 M_X12_emits := ⟨px_i7 104 rfl rfl, px_i7 106 rfl rfl, px_j4 11 rfl, px_i1 13 rfl rfl, px_i7 107 rfl rfl⟩
theorem lk_12_350 : px_lV RX12 350 M_X12_opens := ⟨px_i7 116 rfl rfl, px_i7 118 rfl rfl, px_j4 14 rfl, px_i1 13 rfl rfl, px_i7 119 rfl rfl⟩
theorem lk_12_358 : px_lV RX12 358 M_X12_stepIsOver := ⟨px_i7 124 rfl rfl, px_i7 126 rfl rfl, px_j5 0 rfl, px_i1 13 rfl rfl, px_i7 127 rfl rfl⟩
theorem lk_12_361 : px_lV RX12 361 M_X12_numbered := ⟨px_i7 128 rfl rfl, px_i7 130 rfl rfl, px_j5 1 rfl, px_i1 13 rfl rfl, px_i7 131 rfl rfl⟩
theorem lk_12_366 : px_lV RX12 366 M_X12_closesBrace := ⟨px_i7 100 rfl rfl, px_i7 102 rfl rfl, px_j4 10 rfl, px_i1 13 rfl rfl, px_i7 103 rfl rfl⟩
theorem lk_12_369 : px_lV RX12 369 M_X12_def := ⟨px_i7 112 rfl rfl, px_i7 114 rfl rfl, px_j4 13 rfl, px_i1 13 rfl rfl, px_i7 115 rfl rfl⟩
theorem lk_12_372 : px_lV RX12 372 M_X12_step := ⟨px_i7 120 rfl rfl, px_i7 122 rfl rfl, px_j4 15 rfl, px_i1 13 rfl rfl, px_i7 123 rfl rfl⟩
theorem lk_12_375 : px_lS RX12 375 M_X12_along := ⟨px_i7 163 rfl rfl, px_i7 164 rfl rfl, px_i1 13 rfl rfl, px_i7 165 rfl rfl⟩
theorem lk_12_381 : px_lS RX12 381 M_X12_up := ⟨px_i7 167 rfl rfl, px_i7 168 rfl rfl, px_i1 13 rfl rfl, px_i7 169 rfl rfl⟩
theorem lk_12_385 : px_lS RX12 385 M_X12_size := ⟨px_i7 170 rfl rfl, px_i7 171 rfl rfl, px_i1 13 rfl rfl, px_i7 172 rfl rfl⟩
theorem lk_12_387 : px_lV RX12 387 M_X12_goesOn := ⟨px_i7 159 rfl rfl, px_i7 161 rfl rfl, px_j5 5 rfl, px_i1 13 rfl rfl, px_i7 162 rfl rfl⟩
theorem lk_12_399 : px_lV RX12 399 M_X12_does := ⟨px_i7 155 rfl rfl, px_i7 157 rfl rfl, px_j5 4 rfl, px_i1 13 rfl rfl, px_i7 158 rfl rfl⟩
theorem lk_12_403 : px_lV RX12 403 M_X12_isBeyond := ⟨px_i7 174 rfl rfl, px_i7 176 rfl rfl, px_j5 6 rfl, px_i1 13 rfl rfl, px_i7 177 rfl rfl⟩
theorem lk_12_406 : px_lV RX12 406 M_X12_isWay := ⟨px_i7 145 rfl rfl, px_i7 147 rfl rfl, px_j5 2 rfl, px_i1 13 rfl rfl, px_i7 148 rfl rfl⟩
theorem lk_12_413 : px_lV RX12 413 M_X12_runs := ⟨px_i7 151 rfl rfl, px_i7 153 rfl rfl, px_j5 3 rfl, px_i1 13 rfl rfl, px_i7 154 rfl rfl⟩
theorem lk_12_424 : px_lS RX12 424 M_X12_isFirst := ⟨px_i7 188 rfl rfl, px_i7 189 rfl rfl, px_i1 13 rfl rfl, px_i7 190 rfl rfl⟩
theorem lk_12_427 : px_lV RX12 427 M_X12_areAsked := ⟨px_i7 184 rfl rfl, px_i7 186 rfl rfl, px_j5 7 rfl, px_i1 13 rfl rfl, px_i7 187 rfl rfl⟩
theorem lk_12_431 : px_lV RX12 431 M_X12_runsBoth := ⟨px_i7 192 rfl rfl, px_i7 194 rfl rfl, px_j5 8 rfl, px_i1 13 rfl rfl, px_i7 195 rfl rfl⟩
theorem lk_12_434 : px_lV RX12 434 M_X12_meets := ⟨px_i7 196 rfl rfl, px_i7 198 rfl rfl, px_j5 9 rfl, px_i1 13 rfl rfl, px_i7 199 rfl rfl⟩
theorem lk_12_438 : px_lV RX12 438 M_X12_fits := ⟨px_i7 213 rfl rfl, px_i7 206 rfl rfl, px_i7 207 rfl rfl, px_i1 13 rfl rfl, px_i7 208 rfl rfl⟩
theorem lk_12_465 : px_lV RX12 465 M_X12_off := ⟨px_i7 229 rfl rfl, px_i7 231 rfl rfl, px_j5 10 rfl, px_i1 13 rfl rfl, px_i7 232 rfl rfl⟩
theorem lk_12_475 : px_lS RX12 475 M_X12_down := ⟨px_i8 25 rfl rfl, px_i8 26 rfl rfl, px_i1 13 rfl rfl, px_i8 27 rfl rfl⟩
theorem lk_12_478 : px_lV RX12 478 M_X12_widthOf := ⟨px_i8 28 rfl rfl, px_i8 30 rfl rfl, px_j5 14 rfl, px_i1 13 rfl rfl, px_i8 31 rfl rfl⟩
theorem lk_12_481 : px_lV RX12 481 M_X12_lets := ⟨px_i8 32 rfl rfl, px_i8 34 rfl rfl, px_j5 15 rfl, px_i1 13 rfl rfl, px_i8 35 rfl rfl⟩
theorem lk_12_485 : px_lV RX12 485 M_X12_letsBy := ⟨px_i8 21 rfl rfl, px_i8 23 rfl rfl, px_j5 13 rfl, px_i1 13 rfl rfl, px_i8 24 rfl rfl⟩
theorem lk_12_488 : px_lV RX12 488 M_X12_isFlow := ⟨px_i8 13 rfl rfl, px_i8 15 rfl rfl, px_j5 11 rfl, px_i1 13 rfl rfl, px_i8 16 rfl rfl⟩
theorem lk_12_491 : px_lV RX12 491 M_X12_narrowest := ⟨px_i8 17 rfl rfl, px_i8 19 rfl rfl, px_j5 12 rfl, px_i1 13 rfl rfl, px_i8 20 rfl rfl⟩
theorem lk_15_335 : px_lV RJ0 335 M_J0_coder_7d493 := ⟨px_i4 27 rfl rfl, px_i4 28 rfl rfl, px_i4 29 rfl rfl, px_i1 15 rfl rfl, px_i4 30 rfl rfl⟩
theorem lk_15_492 : px_lV RJ0 492 M_J0_isLatin1_aae02 := ⟨px_i4 37 rfl rfl, px_i4 38 rfl rfl, px_i4 39 rfl rfl, px_i1 15 rfl rfl, px_i4 40 rfl rfl⟩
theorem lk_15_495 : px_lS RJ0 495 M_J1_charAt_3b067 := ⟨px_i4 41 rfl rfl, px_i4 42 rfl rfl, px_i1 16 rfl rfl, px_i4 43 rfl rfl⟩
theorem lk_15_498 : px_lS RJ0 498 M_J2_charAt_3b067 := ⟨px_i4 52 rfl rfl, px_i4 53 rfl rfl, px_i1 18 rfl rfl, px_i4 54 rfl rfl⟩
theorem lk_15_1059 : px_lS RJ0 1059 M_J3_checkIndex_8e157 := ⟨px_i4 49 rfl rfl, px_i4 50 rfl rfl, px_i1 17 rfl rfl, px_i4 51 rfl rfl⟩
theorem lk_16_9 : px_lS RJ1 9 M_J0_checkIndex_df160 := ⟨px_i4 44 rfl rfl, px_i4 45 rfl rfl, px_i1 15 rfl rfl, px_i4 46 rfl rfl⟩
theorem lk_99_48 : px_lS RJ2 48 M_J2_length_9d52b := ⟨px_i4 58 rfl rfl, px_i4 59 rfl rfl, px_i1 18 rfl rfl, px_i4 60 rfl rfl⟩
theorem lk_99_67 : px_lS RJ2 67 M_J2_checkIndex_2214a := ⟨px_i4 55 rfl rfl, px_i4 56 rfl rfl, px_i1 18 rfl rfl, px_i4 57 rfl rfl⟩
theorem lk_99_71 : px_lS RJ2 71 M_J2_getChar_3b067 := ⟨px_i4 62 rfl rfl, px_i4 63 rfl rfl, px_i1 18 rfl rfl, px_i4 64 rfl rfl⟩
theorem lk_99_414 : px_lS RJ2 414 M_J0_checkIndex_df160 := ⟨px_i4 61 rfl rfl, px_i4 45 rfl rfl, px_i1 15 rfl rfl, px_i4 46 rfl rfl⟩
