section
-- ===== PART A: goes FIRST, ahead of the names: the tables' words, and 'selects' of the private methods out of them =====
/-- a private method of a class that the tables say can be made, by its rows of tables_1 -/
def lw_okq (q : MethodName × Nat) : Prop := (q.1.cls ≠ "java/lang/invoke/MethodHandle" ∧ q.1.cls ≠ "java/lang/invoke/VarHandle") ∧ Cond.instantiable q.1.cls q.2 ∈ tables_1 ∧ Cond.privateMethod q.1 ∈ tables_1 ∧ Cond.instanceMethod q.1 ∈ tables_1
theorem lw_p0 : lw_okq (⟨"TunnelBook$Survey", "shortenAll", "(III)Z"⟩, 9) := ⟨⟨by decide +kernel, by decide +kernel⟩, List.mem_of_getElem? (i := 28) (by decide +kernel), List.mem_of_getElem? (i := 514) (by decide +kernel), List.mem_of_getElem? (i := 515) (by decide +kernel)⟩
theorem lw_p1 : lw_okq (⟨"TunnelBook$Survey", "counts", "(III)Z"⟩, 9) := ⟨⟨by decide +kernel, by decide +kernel⟩, List.mem_of_getElem? (i := 28) (by decide +kernel), List.mem_of_getElem? (i := 518) (by decide +kernel), List.mem_of_getElem? (i := 519) (by decide +kernel)⟩
theorem lw_p2 : lw_okq (⟨"TunnelBook$Survey", "shorten", "(III)Z"⟩, 9) := ⟨⟨by decide +kernel, by decide +kernel⟩, List.mem_of_getElem? (i := 28) (by decide +kernel), List.mem_of_getElem? (i := 522) (by decide +kernel), List.mem_of_getElem? (i := 523) (by decide +kernel)⟩
theorem lw_p3 : lw_okq (⟨"TunnelBook", "galleryOf", "(I)LTunnelBook$Gallery;"⟩, 11) := ⟨⟨by decide +kernel, by decide +kernel⟩, List.mem_of_getElem? (i := 20) (by decide +kernel), List.mem_of_getElem? (i := 555) (by decide +kernel), List.mem_of_getElem? (i := 556) (by decide +kernel)⟩
theorem lw_p4 : lw_okq (⟨"TunnelBook$Gallery", "addPeg", "(I)V"⟩, 16) := ⟨⟨by decide +kernel, by decide +kernel⟩, List.mem_of_getElem? (i := 66) (by decide +kernel), List.mem_of_getElem? (i := 566) (by decide +kernel), List.mem_of_getElem? (i := 567) (by decide +kernel)⟩
theorem lw_p5 : lw_okq (⟨"TunnelBook", "marks", "()I"⟩, 11) := ⟨⟨by decide +kernel, by decide +kernel⟩, List.mem_of_getElem? (i := 20) (by decide +kernel), List.mem_of_getElem? (i := 582) (by decide +kernel), List.mem_of_getElem? (i := 583) (by decide +kernel)⟩
theorem lw_p6 : lw_okq (⟨"TunnelBook$Gallery", "dig", "()Z"⟩, 16) := ⟨⟨by decide +kernel, by decide +kernel⟩, List.mem_of_getElem? (i := 66) (by decide +kernel), List.mem_of_getElem? (i := 608) (by decide +kernel), List.mem_of_getElem? (i := 609) (by decide +kernel)⟩
theorem lw_p7 : lw_okq (⟨"TunnelBook$Tape", "goesOn", "(II)Z"⟩, 7) := ⟨⟨by decide +kernel, by decide +kernel⟩, List.mem_of_getElem? (i := 149) (by decide +kernel), List.mem_of_getElem? (i := 691) (by decide +kernel), List.mem_of_getElem? (i := 692) (by decide +kernel)⟩
theorem lw_p8 : lw_okq (⟨"TunnelBook$Tape", "addToken", "(II)V"⟩, 7) := ⟨⟨by decide +kernel, by decide +kernel⟩, List.mem_of_getElem? (i := 149) (by decide +kernel), List.mem_of_getElem? (i := 695) (by decide +kernel), List.mem_of_getElem? (i := 696) (by decide +kernel)⟩
theorem lw_p9 : lw_okq (⟨"TunnelBook$Tape", "lengthen", "(I)V"⟩, 7) := ⟨⟨by decide +kernel, by decide +kernel⟩, List.mem_of_getElem? (i := 149) (by decide +kernel), List.mem_of_getElem? (i := 699) (by decide +kernel), List.mem_of_getElem? (i := 700) (by decide +kernel)⟩
theorem lw_p10 : lw_okq (⟨"TunnelBook$Reader", "begin", "()V"⟩, 16) := ⟨⟨by decide +kernel, by decide +kernel⟩, List.mem_of_getElem? (i := 183) (by decide +kernel), List.mem_of_getElem? (i := 705) (by decide +kernel), List.mem_of_getElem? (i := 706) (by decide +kernel)⟩
theorem lw_p11 : lw_okq (⟨"TunnelBook$Reader", "nextToken", "()V"⟩, 16) := ⟨⟨by decide +kernel, by decide +kernel⟩, List.mem_of_getElem? (i := 183) (by decide +kernel), List.mem_of_getElem? (i := 709) (by decide +kernel), List.mem_of_getElem? (i := 710) (by decide +kernel)⟩
theorem lw_p12 : lw_okq (⟨"TunnelBook$Reader", "closeBlock", "()V"⟩, 16) := ⟨⟨by decide +kernel, by decide +kernel⟩, List.mem_of_getElem? (i := 183) (by decide +kernel), List.mem_of_getElem? (i := 713) (by decide +kernel), List.mem_of_getElem? (i := 714) (by decide +kernel)⟩
theorem lw_p13 : lw_okq (⟨"TunnelBook$Reader", "fail", "(I)V"⟩, 16) := ⟨⟨by decide +kernel, by decide +kernel⟩, List.mem_of_getElem? (i := 183) (by decide +kernel), List.mem_of_getElem? (i := 718) (by decide +kernel), List.mem_of_getElem? (i := 719) (by decide +kernel)⟩
theorem lw_p14 : lw_okq (⟨"TunnelBook$Reader", "closeDef", "(I)V"⟩, 16) := ⟨⟨by decide +kernel, by decide +kernel⟩, List.mem_of_getElem? (i := 183) (by decide +kernel), List.mem_of_getElem? (i := 722) (by decide +kernel), List.mem_of_getElem? (i := 723) (by decide +kernel)⟩
theorem lw_p15 : lw_okq (⟨"TunnelBook$Reader", "addSteps", "(I)V"⟩, 16) := ⟨⟨by decide +kernel, by decide +kernel⟩, List.mem_of_getElem? (i := 183) (by decide +kernel), List.mem_of_getElem? (i := 730) (by decide +kernel), List.mem_of_getElem? (i := 731) (by decide +kernel)⟩
def lw_privs_1 : List (MethodName × Nat) := [(⟨"TunnelBook$Survey", "shortenAll", "(III)Z"⟩, 9), (⟨"TunnelBook$Survey", "counts", "(III)Z"⟩, 9), (⟨"TunnelBook$Survey", "shorten", "(III)Z"⟩, 9), (⟨"TunnelBook", "galleryOf", "(I)LTunnelBook$Gallery;"⟩, 11), (⟨"TunnelBook$Gallery", "addPeg", "(I)V"⟩, 16), (⟨"TunnelBook", "marks", "()I"⟩, 11), (⟨"TunnelBook$Gallery", "dig", "()Z"⟩, 16), (⟨"TunnelBook$Tape", "goesOn", "(II)Z"⟩, 7), (⟨"TunnelBook$Tape", "addToken", "(II)V"⟩, 7), (⟨"TunnelBook$Tape", "lengthen", "(I)V"⟩, 7), (⟨"TunnelBook$Reader", "begin", "()V"⟩, 16), (⟨"TunnelBook$Reader", "nextToken", "()V"⟩, 16), (⟨"TunnelBook$Reader", "closeBlock", "()V"⟩, 16), (⟨"TunnelBook$Reader", "fail", "(I)V"⟩, 16), (⟨"TunnelBook$Reader", "closeDef", "(I)V"⟩, 16), (⟨"TunnelBook$Reader", "addSteps", "(I)V"⟩, 16)]
theorem lw_r1 : ∀ q ∈ lw_privs_1, lw_okq q := List.forall_mem_cons.mpr ⟨lw_p0, List.forall_mem_cons.mpr ⟨lw_p1, List.forall_mem_cons.mpr ⟨lw_p2, List.forall_mem_cons.mpr ⟨lw_p3, List.forall_mem_cons.mpr ⟨lw_p4, List.forall_mem_cons.mpr ⟨lw_p5, List.forall_mem_cons.mpr ⟨lw_p6, List.forall_mem_cons.mpr ⟨lw_p7, List.forall_mem_cons.mpr ⟨lw_p8, List.forall_mem_cons.mpr ⟨lw_p9, List.forall_mem_cons.mpr ⟨lw_p10, List.forall_mem_cons.mpr ⟨lw_p11, List.forall_mem_cons.mpr ⟨lw_p12, List.forall_mem_cons.mpr ⟨lw_p13, List.forall_mem_cons.mpr ⟨lw_p14, List.forall_mem_cons.mpr ⟨lw_p15, fun _ h => absurd h List.not_mem_nil⟩⟩⟩⟩⟩⟩⟩⟩⟩⟩⟩⟩⟩⟩⟩⟩
theorem lw_p16 : lw_okq (⟨"TunnelBook$Reader", "readPart", "()V"⟩, 16) := ⟨⟨by decide +kernel, by decide +kernel⟩, List.mem_of_getElem? (i := 183) (by decide +kernel), List.mem_of_getElem? (i := 735) (by decide +kernel), List.mem_of_getElem? (i := 736) (by decide +kernel)⟩
theorem lw_p17 : lw_okq (⟨"TunnelBook$Reader", "readStep", "(III)V"⟩, 16) := ⟨⟨by decide +kernel, by decide +kernel⟩, List.mem_of_getElem? (i := 183) (by decide +kernel), List.mem_of_getElem? (i := 792) (by decide +kernel), List.mem_of_getElem? (i := 793) (by decide +kernel)⟩
theorem lw_p18 : lw_okq (⟨"TunnelBook$Reader", "takeNumber", "(II)V"⟩, 16) := ⟨⟨by decide +kernel, by decide +kernel⟩, List.mem_of_getElem? (i := 183) (by decide +kernel), List.mem_of_getElem? (i := 796) (by decide +kernel), List.mem_of_getElem? (i := 797) (by decide +kernel)⟩
theorem lw_p19 : lw_okq (⟨"TunnelBook$Reader", "take", "(I)V"⟩, 16) := ⟨⟨by decide +kernel, by decide +kernel⟩, List.mem_of_getElem? (i := 183) (by decide +kernel), List.mem_of_getElem? (i := 800) (by decide +kernel), List.mem_of_getElem? (i := 801) (by decide +kernel)⟩
theorem lw_p20 : lw_okq (⟨"TunnelBook$Reader", "readBareStep", "(I)V"⟩, 16) := ⟨⟨by decide +kernel, by decide +kernel⟩, List.mem_of_getElem? (i := 183) (by decide +kernel), List.mem_of_getElem? (i := 809) (by decide +kernel), List.mem_of_getElem? (i := 810) (by decide +kernel)⟩
theorem lw_p21 : lw_okq (⟨"TunnelBook$Reader", "readDo", "()V"⟩, 16) := ⟨⟨by decide +kernel, by decide +kernel⟩, List.mem_of_getElem? (i := 183) (by decide +kernel), List.mem_of_getElem? (i := 815) (by decide +kernel), List.mem_of_getElem? (i := 816) (by decide +kernel)⟩
theorem lw_p22 : lw_okq (⟨"TunnelBook$Reader", "takeLetter", "(Z)I"⟩, 16) := ⟨⟨by decide +kernel, by decide +kernel⟩, List.mem_of_getElem? (i := 183) (by decide +kernel), List.mem_of_getElem? (i := 819) (by decide +kernel), List.mem_of_getElem? (i := 820) (by decide +kernel)⟩
theorem lw_p23 : lw_okq (⟨"TunnelBook$Reader", "letterHere", "()I"⟩, 16) := ⟨⟨by decide +kernel, by decide +kernel⟩, List.mem_of_getElem? (i := 183) (by decide +kernel), List.mem_of_getElem? (i := 823) (by decide +kernel), List.mem_of_getElem? (i := 824) (by decide +kernel)⟩
theorem lw_p24 : lw_okq (⟨"TunnelBook$Reader", "readRepeat", "()V"⟩, 16) := ⟨⟨by decide +kernel, by decide +kernel⟩, List.mem_of_getElem? (i := 183) (by decide +kernel), List.mem_of_getElem? (i := 829) (by decide +kernel), List.mem_of_getElem? (i := 830) (by decide +kernel)⟩
theorem lw_p25 : lw_okq (⟨"TunnelBook$Reader", "takeOpening", "()V"⟩, 16) := ⟨⟨by decide +kernel, by decide +kernel⟩, List.mem_of_getElem? (i := 183) (by decide +kernel), List.mem_of_getElem? (i := 833) (by decide +kernel), List.mem_of_getElem? (i := 834) (by decide +kernel)⟩
theorem lw_p26 : lw_okq (⟨"TunnelBook$Reader", "openBlock", "(I)V"⟩, 16) := ⟨⟨by decide +kernel, by decide +kernel⟩, List.mem_of_getElem? (i := 183) (by decide +kernel), List.mem_of_getElem? (i := 837) (by decide +kernel), List.mem_of_getElem? (i := 838) (by decide +kernel)⟩
theorem lw_p27 : lw_okq (⟨"TunnelBook$Reader", "readDef", "()V"⟩, 16) := ⟨⟨by decide +kernel, by decide +kernel⟩, List.mem_of_getElem? (i := 183) (by decide +kernel), List.mem_of_getElem? (i := 842) (by decide +kernel), List.mem_of_getElem? (i := 843) (by decide +kernel)⟩
theorem lw_p28 : lw_okq (⟨"TunnelBook$Walk", "begin", "(I)V"⟩, 18) := ⟨⟨by decide +kernel, by decide +kernel⟩, List.mem_of_getElem? (i := 274) (by decide +kernel), List.mem_of_getElem? (i := 888) (by decide +kernel), List.mem_of_getElem? (i := 889) (by decide +kernel)⟩
theorem lw_p29 : lw_okq (⟨"TunnelBook$Walk", "follow", "(III)I"⟩, 18) := ⟨⟨by decide +kernel, by decide +kernel⟩, List.mem_of_getElem? (i := 274) (by decide +kernel), List.mem_of_getElem? (i := 894) (by decide +kernel), List.mem_of_getElem? (i := 895) (by decide +kernel)⟩
theorem lw_p30 : lw_okq (⟨"TunnelBook$Walk", "push", "(II)V"⟩, 18) := ⟨⟨by decide +kernel, by decide +kernel⟩, List.mem_of_getElem? (i := 274) (by decide +kernel), List.mem_of_getElem? (i := 898) (by decide +kernel), List.mem_of_getElem? (i := 899) (by decide +kernel)⟩
theorem lw_p31 : lw_okq (⟨"TunnelBook$Walk", "turnBack", "(I)I"⟩, 18) := ⟨⟨by decide +kernel, by decide +kernel⟩, List.mem_of_getElem? (i := 274) (by decide +kernel), List.mem_of_getElem? (i := 902) (by decide +kernel), List.mem_of_getElem? (i := 903) (by decide +kernel)⟩
def lw_privs_2 : List (MethodName × Nat) := [(⟨"TunnelBook$Reader", "readPart", "()V"⟩, 16), (⟨"TunnelBook$Reader", "readStep", "(III)V"⟩, 16), (⟨"TunnelBook$Reader", "takeNumber", "(II)V"⟩, 16), (⟨"TunnelBook$Reader", "take", "(I)V"⟩, 16), (⟨"TunnelBook$Reader", "readBareStep", "(I)V"⟩, 16), (⟨"TunnelBook$Reader", "readDo", "()V"⟩, 16), (⟨"TunnelBook$Reader", "takeLetter", "(Z)I"⟩, 16), (⟨"TunnelBook$Reader", "letterHere", "()I"⟩, 16), (⟨"TunnelBook$Reader", "readRepeat", "()V"⟩, 16), (⟨"TunnelBook$Reader", "takeOpening", "()V"⟩, 16), (⟨"TunnelBook$Reader", "openBlock", "(I)V"⟩, 16), (⟨"TunnelBook$Reader", "readDef", "()V"⟩, 16), (⟨"TunnelBook$Walk", "begin", "(I)V"⟩, 18), (⟨"TunnelBook$Walk", "follow", "(III)I"⟩, 18), (⟨"TunnelBook$Walk", "push", "(II)V"⟩, 18), (⟨"TunnelBook$Walk", "turnBack", "(I)I"⟩, 18)]
theorem lw_r2 : ∀ q ∈ lw_privs_2, lw_okq q := List.forall_mem_cons.mpr ⟨lw_p16, List.forall_mem_cons.mpr ⟨lw_p17, List.forall_mem_cons.mpr ⟨lw_p18, List.forall_mem_cons.mpr ⟨lw_p19, List.forall_mem_cons.mpr ⟨lw_p20, List.forall_mem_cons.mpr ⟨lw_p21, List.forall_mem_cons.mpr ⟨lw_p22, List.forall_mem_cons.mpr ⟨lw_p23, List.forall_mem_cons.mpr ⟨lw_p24, List.forall_mem_cons.mpr ⟨lw_p25, List.forall_mem_cons.mpr ⟨lw_p26, List.forall_mem_cons.mpr ⟨lw_p27, List.forall_mem_cons.mpr ⟨lw_p28, List.forall_mem_cons.mpr ⟨lw_p29, List.forall_mem_cons.mpr ⟨lw_p30, List.forall_mem_cons.mpr ⟨lw_p31, fun _ h => absurd h List.not_mem_nil⟩⟩⟩⟩⟩⟩⟩⟩⟩⟩⟩⟩⟩⟩⟩⟩
theorem lw_p32 : lw_okq (⟨"TunnelBook$Walk", "pop", "(I)I"⟩, 18) := ⟨⟨by decide +kernel, by decide +kernel⟩, List.mem_of_getElem? (i := 274) (by decide +kernel), List.mem_of_getElem? (i := 906) (by decide +kernel), List.mem_of_getElem? (i := 907) (by decide +kernel)⟩
theorem lw_p33 : lw_okq (⟨"TunnelBook$Walk", "step", "(II)V"⟩, 18) := ⟨⟨by decide +kernel, by decide +kernel⟩, List.mem_of_getElem? (i := 274) (by decide +kernel), List.mem_of_getElem? (i := 910) (by decide +kernel), List.mem_of_getElem? (i := 911) (by decide +kernel)⟩
theorem lw_p34 : lw_okq (⟨"TunnelBook$Walk", "layLine", "(I)V"⟩, 18) := ⟨⟨by decide +kernel, by decide +kernel⟩, List.mem_of_getElem? (i := 274) (by decide +kernel), List.mem_of_getElem? (i := 914) (by decide +kernel), List.mem_of_getElem? (i := 915) (by decide +kernel)⟩
theorem lw_p35 : lw_okq (⟨"TunnelBook$Walk", "staysNear", "()Z"⟩, 18) := ⟨⟨by decide +kernel, by decide +kernel⟩, List.mem_of_getElem? (i := 274) (by decide +kernel), List.mem_of_getElem? (i := 932) (by decide +kernel), List.mem_of_getElem? (i := 933) (by decide +kernel)⟩
theorem lw_p36 : lw_okq (⟨"TunnelBook$Runs", "keep", "(I)V"⟩, 4) := ⟨⟨by decide +kernel, by decide +kernel⟩, List.mem_of_getElem? (i := 268) (by decide +kernel), List.mem_of_getElem? (i := 940) (by decide +kernel), List.mem_of_getElem? (i := 941) (by decide +kernel)⟩
theorem lw_p37 : lw_okq (⟨"TunnelBook", "canMeet", "(IIII)Z"⟩, 11) := ⟨⟨by decide +kernel, by decide +kernel⟩, List.mem_of_getElem? (i := 20) (by decide +kernel), List.mem_of_getElem? (i := 954) (by decide +kernel), List.mem_of_getElem? (i := 955) (by decide +kernel)⟩
theorem lw_p38 : lw_okq (⟨"TunnelBook$Search", "startAt", "(IJJ)V"⟩, 6) := ⟨⟨by decide +kernel, by decide +kernel⟩, List.mem_of_getElem? (i := 387) (by decide +kernel), List.mem_of_getElem? (i := 1018) (by decide +kernel), List.mem_of_getElem? (i := 1019) (by decide +kernel)⟩
theorem lw_p39 : lw_okq (⟨"TunnelBook$Search", "clearNext", "(J)V"⟩, 6) := ⟨⟨by decide +kernel, by decide +kernel⟩, List.mem_of_getElem? (i := 387) (by decide +kernel), List.mem_of_getElem? (i := 1022) (by decide +kernel), List.mem_of_getElem? (i := 1023) (by decide +kernel)⟩
theorem lw_p40 : lw_okq (⟨"TunnelBook$Search", "spread", "(II)V"⟩, 6) := ⟨⟨by decide +kernel, by decide +kernel⟩, List.mem_of_getElem? (i := 387) (by decide +kernel), List.mem_of_getElem? (i := 1026) (by decide +kernel), List.mem_of_getElem? (i := 1027) (by decide +kernel)⟩
theorem lw_p41 : lw_okq (⟨"TunnelBook$Search", "pulled", "(II)I"⟩, 6) := ⟨⟨by decide +kernel, by decide +kernel⟩, List.mem_of_getElem? (i := 387) (by decide +kernel), List.mem_of_getElem? (i := 1030) (by decide +kernel), List.mem_of_getElem? (i := 1031) (by decide +kernel)⟩
theorem lw_p42 : lw_okq (⟨"TunnelBook$Search", "swap", "()V"⟩, 6) := ⟨⟨by decide +kernel, by decide +kernel⟩, List.mem_of_getElem? (i := 387) (by decide +kernel), List.mem_of_getElem? (i := 1036) (by decide +kernel), List.mem_of_getElem? (i := 1037) (by decide +kernel)⟩
theorem lw_p43 : lw_okq (⟨"TunnelBook$Search", "misses", "(I)Z"⟩, 6) := ⟨⟨by decide +kernel, by decide +kernel⟩, List.mem_of_getElem? (i := 387) (by decide +kernel), List.mem_of_getElem? (i := 1040) (by decide +kernel), List.mem_of_getElem? (i := 1041) (by decide +kernel)⟩
theorem lw_p44 : lw_okq (⟨"TunnelBook$Search", "prolong", "(IIZ)V"⟩, 6) := ⟨⟨by decide +kernel, by decide +kernel⟩, List.mem_of_getElem? (i := 387) (by decide +kernel), List.mem_of_getElem? (i := 1057) (by decide +kernel), List.mem_of_getElem? (i := 1058) (by decide +kernel)⟩
theorem lw_p45 : lw_okq (⟨"TunnelBook", "repairs", "()I"⟩, 11) := ⟨⟨by decide +kernel, by decide +kernel⟩, List.mem_of_getElem? (i := 20) (by decide +kernel), List.mem_of_getElem? (i := 1081) (by decide +kernel), List.mem_of_getElem? (i := 1082) (by decide +kernel)⟩
theorem lw_p46 : lw_okq (⟨"TunnelBook$Channel", "letThrough", "(LTunnelBook$Gallery;IIIZ)I"⟩, 4) := ⟨⟨by decide +kernel, by decide +kernel⟩, List.mem_of_getElem? (i := 412) (by decide +kernel), List.mem_of_getElem? (i := 1101) (by decide +kernel), List.mem_of_getElem? (i := 1102) (by decide +kernel)⟩
theorem lw_p47 : lw_okq (⟨"TunnelBookModel", "isStation", "(I)Z"⟩, 77) := ⟨⟨by decide +kernel, by decide +kernel⟩, List.mem_of_getElem? (i := 1139) (by decide +kernel), List.mem_of_getElem? (i := 1397) (by decide +kernel), List.mem_of_getElem? (i := 1398) (by decide +kernel)⟩
def lw_privs_3 : List (MethodName × Nat) := [(⟨"TunnelBook$Walk", "pop", "(I)I"⟩, 18), (⟨"TunnelBook$Walk", "step", "(II)V"⟩, 18), (⟨"TunnelBook$Walk", "layLine", "(I)V"⟩, 18), (⟨"TunnelBook$Walk", "staysNear", "()Z"⟩, 18), (⟨"TunnelBook$Runs", "keep", "(I)V"⟩, 4), (⟨"TunnelBook", "canMeet", "(IIII)Z"⟩, 11), (⟨"TunnelBook$Search", "startAt", "(IJJ)V"⟩, 6), (⟨"TunnelBook$Search", "clearNext", "(J)V"⟩, 6), (⟨"TunnelBook$Search", "spread", "(II)V"⟩, 6), (⟨"TunnelBook$Search", "pulled", "(II)I"⟩, 6), (⟨"TunnelBook$Search", "swap", "()V"⟩, 6), (⟨"TunnelBook$Search", "misses", "(I)Z"⟩, 6), (⟨"TunnelBook$Search", "prolong", "(IIZ)V"⟩, 6), (⟨"TunnelBook", "repairs", "()I"⟩, 11), (⟨"TunnelBook$Channel", "letThrough", "(LTunnelBook$Gallery;IIIZ)I"⟩, 4), (⟨"TunnelBookModel", "isStation", "(I)Z"⟩, 77)]
theorem lw_r3 : ∀ q ∈ lw_privs_3, lw_okq q := List.forall_mem_cons.mpr ⟨lw_p32, List.forall_mem_cons.mpr ⟨lw_p33, List.forall_mem_cons.mpr ⟨lw_p34, List.forall_mem_cons.mpr ⟨lw_p35, List.forall_mem_cons.mpr ⟨lw_p36, List.forall_mem_cons.mpr ⟨lw_p37, List.forall_mem_cons.mpr ⟨lw_p38, List.forall_mem_cons.mpr ⟨lw_p39, List.forall_mem_cons.mpr ⟨lw_p40, List.forall_mem_cons.mpr ⟨lw_p41, List.forall_mem_cons.mpr ⟨lw_p42, List.forall_mem_cons.mpr ⟨lw_p43, List.forall_mem_cons.mpr ⟨lw_p44, List.forall_mem_cons.mpr ⟨lw_p45, List.forall_mem_cons.mpr ⟨lw_p46, List.forall_mem_cons.mpr ⟨lw_p47, fun _ h => absurd h List.not_mem_nil⟩⟩⟩⟩⟩⟩⟩⟩⟩⟩⟩⟩⟩⟩⟩⟩
theorem lw_p48 : lw_okq (⟨"TunnelBookModel", "isClosed", "(III)Z"⟩, 77) := ⟨⟨by decide +kernel, by decide +kernel⟩, List.mem_of_getElem? (i := 1139) (by decide +kernel), List.mem_of_getElem? (i := 1411) (by decide +kernel), List.mem_of_getElem? (i := 1412) (by decide +kernel)⟩
theorem lw_p49 : lw_okq (⟨"TunnelBookModel", "begins", "(I)V"⟩, 77) := ⟨⟨by decide +kernel, by decide +kernel⟩, List.mem_of_getElem? (i := 1139) (by decide +kernel), List.mem_of_getElem? (i := 1415) (by decide +kernel), List.mem_of_getElem? (i := 1416) (by decide +kernel)⟩
theorem lw_p50 : lw_okq (⟨"TunnelBookModel", "bounds", "(IIJ)V"⟩, 77) := ⟨⟨by decide +kernel, by decide +kernel⟩, List.mem_of_getElem? (i := 1139) (by decide +kernel), List.mem_of_getElem? (i := 1420) (by decide +kernel), List.mem_of_getElem? (i := 1421) (by decide +kernel)⟩
theorem lw_p51 : lw_okq (⟨"TunnelBookModel", "closes", "()Z"⟩, 77) := ⟨⟨by decide +kernel, by decide +kernel⟩, List.mem_of_getElem? (i := 1139) (by decide +kernel), List.mem_of_getElem? (i := 1424) (by decide +kernel), List.mem_of_getElem? (i := 1425) (by decide +kernel)⟩
theorem lw_p52 : lw_okq (⟨"TunnelBookModel", "gapOf", "(IIZ)I"⟩, 77) := ⟨⟨by decide +kernel, by decide +kernel⟩, List.mem_of_getElem? (i := 1139) (by decide +kernel), List.mem_of_getElem? (i := 1433) (by decide +kernel), List.mem_of_getElem? (i := 1434) (by decide +kernel)⟩
theorem lw_p53 : lw_okq (⟨"TunnelBookModel", "isPeg", "(II)Z"⟩, 77) := ⟨⟨by decide +kernel, by decide +kernel⟩, List.mem_of_getElem? (i := 1139) (by decide +kernel), List.mem_of_getElem? (i := 1461) (by decide +kernel), List.mem_of_getElem? (i := 1462) (by decide +kernel)⟩
theorem lw_p54 : lw_okq (⟨"TunnelBookModel", "isDug", "(I)Z"⟩, 77) := ⟨⟨by decide +kernel, by decide +kernel⟩, List.mem_of_getElem? (i := 1139) (by decide +kernel), List.mem_of_getElem? (i := 1470) (by decide +kernel), List.mem_of_getElem? (i := 1471) (by decide +kernel)⟩
theorem lw_p55 : lw_okq (⟨"TunnelBookModel", "put", "(I)V"⟩, 77) := ⟨⟨by decide +kernel, by decide +kernel⟩, List.mem_of_getElem? (i := 1139) (by decide +kernel), List.mem_of_getElem? (i := 1496) (by decide +kernel), List.mem_of_getElem? (i := 1497) (by decide +kernel)⟩
theorem lw_p56 : lw_okq (⟨"TunnelBookModel", "next", "()V"⟩, 77) := ⟨⟨by decide +kernel, by decide +kernel⟩, List.mem_of_getElem? (i := 1139) (by decide +kernel), List.mem_of_getElem? (i := 1509) (by decide +kernel), List.mem_of_getElem? (i := 1510) (by decide +kernel)⟩
theorem lw_p57 : lw_okq (⟨"TunnelBookModel", "isSign", "(I)Z"⟩, 77) := ⟨⟨by decide +kernel, by decide +kernel⟩, List.mem_of_getElem? (i := 1139) (by decide +kernel), List.mem_of_getElem? (i := 1537) (by decide +kernel), List.mem_of_getElem? (i := 1538) (by decide +kernel)⟩
theorem lw_p58 : lw_okq (⟨"TunnelBookModel", "closesBrace", "()V"⟩, 77) := ⟨⟨by decide +kernel, by decide +kernel⟩, List.mem_of_getElem? (i := 1139) (by decide +kernel), List.mem_of_getElem? (i := 1541) (by decide +kernel), List.mem_of_getElem? (i := 1542) (by decide +kernel)⟩
theorem lw_p59 : lw_okq (⟨"TunnelBookModel", "emits", "(II)I"⟩, 77) := ⟨⟨by decide +kernel, by decide +kernel⟩, List.mem_of_getElem? (i := 1139) (by decide +kernel), List.mem_of_getElem? (i := 1545) (by decide +kernel), List.mem_of_getElem? (i := 1546) (by decide +kernel)⟩
theorem lw_p60 : lw_okq (⟨"TunnelBookModel", "errs", "(I)V"⟩, 77) := ⟨⟨by decide +kernel, by decide +kernel⟩, List.mem_of_getElem? (i := 1139) (by decide +kernel), List.mem_of_getElem? (i := 1549) (by decide +kernel), List.mem_of_getElem? (i := 1550) (by decide +kernel)⟩
theorem lw_p61 : lw_okq (⟨"TunnelBookModel", "def", "()V"⟩, 77) := ⟨⟨by decide +kernel, by decide +kernel⟩, List.mem_of_getElem? (i := 1139) (by decide +kernel), List.mem_of_getElem? (i := 1553) (by decide +kernel), List.mem_of_getElem? (i := 1554) (by decide +kernel)⟩
theorem lw_p62 : lw_okq (⟨"TunnelBookModel", "opens", "(ZI)V"⟩, 77) := ⟨⟨by decide +kernel, by decide +kernel⟩, List.mem_of_getElem? (i := 1139) (by decide +kernel), List.mem_of_getElem? (i := 1557) (by decide +kernel), List.mem_of_getElem? (i := 1558) (by decide +kernel)⟩
theorem lw_p63 : lw_okq (⟨"TunnelBookModel", "step", "()V"⟩, 77) := ⟨⟨by decide +kernel, by decide +kernel⟩, List.mem_of_getElem? (i := 1139) (by decide +kernel), List.mem_of_getElem? (i := 1561) (by decide +kernel), List.mem_of_getElem? (i := 1562) (by decide +kernel)⟩
def lw_privs_4 : List (MethodName × Nat) := [(⟨"TunnelBookModel", "isClosed", "(III)Z"⟩, 77), (⟨"TunnelBookModel", "begins", "(I)V"⟩, 77), (⟨"TunnelBookModel", "bounds", "(IIJ)V"⟩, 77), (⟨"TunnelBookModel", "closes", "()Z"⟩, 77), (⟨"TunnelBookModel", "gapOf", "(IIZ)I"⟩, 77), (⟨"TunnelBookModel", "isPeg", "(II)Z"⟩, 77), (⟨"TunnelBookModel", "isDug", "(I)Z"⟩, 77), (⟨"TunnelBookModel", "put", "(I)V"⟩, 77), (⟨"TunnelBookModel", "next", "()V"⟩, 77), (⟨"TunnelBookModel", "isSign", "(I)Z"⟩, 77), (⟨"TunnelBookModel", "closesBrace", "()V"⟩, 77), (⟨"TunnelBookModel", "emits", "(II)I"⟩, 77), (⟨"TunnelBookModel", "errs", "(I)V"⟩, 77), (⟨"TunnelBookModel", "def", "()V"⟩, 77), (⟨"TunnelBookModel", "opens", "(ZI)V"⟩, 77), (⟨"TunnelBookModel", "step", "()V"⟩, 77)]
theorem lw_r4 : ∀ q ∈ lw_privs_4, lw_okq q := List.forall_mem_cons.mpr ⟨lw_p48, List.forall_mem_cons.mpr ⟨lw_p49, List.forall_mem_cons.mpr ⟨lw_p50, List.forall_mem_cons.mpr ⟨lw_p51, List.forall_mem_cons.mpr ⟨lw_p52, List.forall_mem_cons.mpr ⟨lw_p53, List.forall_mem_cons.mpr ⟨lw_p54, List.forall_mem_cons.mpr ⟨lw_p55, List.forall_mem_cons.mpr ⟨lw_p56, List.forall_mem_cons.mpr ⟨lw_p57, List.forall_mem_cons.mpr ⟨lw_p58, List.forall_mem_cons.mpr ⟨lw_p59, List.forall_mem_cons.mpr ⟨lw_p60, List.forall_mem_cons.mpr ⟨lw_p61, List.forall_mem_cons.mpr ⟨lw_p62, List.forall_mem_cons.mpr ⟨lw_p63, fun _ h => absurd h List.not_mem_nil⟩⟩⟩⟩⟩⟩⟩⟩⟩⟩⟩⟩⟩⟩⟩⟩
theorem lw_p64 : lw_okq (⟨"TunnelBookModel", "stepIsOver", "()V"⟩, 77) := ⟨⟨by decide +kernel, by decide +kernel⟩, List.mem_of_getElem? (i := 1139) (by decide +kernel), List.mem_of_getElem? (i := 1565) (by decide +kernel), List.mem_of_getElem? (i := 1566) (by decide +kernel)⟩
theorem lw_p65 : lw_okq (⟨"TunnelBookModel", "numbered", "(I)V"⟩, 77) := ⟨⟨by decide +kernel, by decide +kernel⟩, List.mem_of_getElem? (i := 1139) (by decide +kernel), List.mem_of_getElem? (i := 1569) (by decide +kernel), List.mem_of_getElem? (i := 1570) (by decide +kernel)⟩
theorem lw_p66 : lw_okq (⟨"TunnelBookModel", "isWay", "(I)Z"⟩, 77) := ⟨⟨by decide +kernel, by decide +kernel⟩, List.mem_of_getElem? (i := 1139) (by decide +kernel), List.mem_of_getElem? (i := 1586) (by decide +kernel), List.mem_of_getElem? (i := 1587) (by decide +kernel)⟩
theorem lw_p67 : lw_okq (⟨"TunnelBookModel", "runs", "(II)Z"⟩, 77) := ⟨⟨by decide +kernel, by decide +kernel⟩, List.mem_of_getElem? (i := 1139) (by decide +kernel), List.mem_of_getElem? (i := 1592) (by decide +kernel), List.mem_of_getElem? (i := 1593) (by decide +kernel)⟩
theorem lw_p68 : lw_okq (⟨"TunnelBookModel", "does", "(II)V"⟩, 77) := ⟨⟨by decide +kernel, by decide +kernel⟩, List.mem_of_getElem? (i := 1139) (by decide +kernel), List.mem_of_getElem? (i := 1596) (by decide +kernel), List.mem_of_getElem? (i := 1597) (by decide +kernel)⟩
theorem lw_p69 : lw_okq (⟨"TunnelBookModel", "goesOn", "(I)V"⟩, 77) := ⟨⟨by decide +kernel, by decide +kernel⟩, List.mem_of_getElem? (i := 1139) (by decide +kernel), List.mem_of_getElem? (i := 1600) (by decide +kernel), List.mem_of_getElem? (i := 1601) (by decide +kernel)⟩
theorem lw_p70 : lw_okq (⟨"TunnelBookModel", "isBeyond", "()Z"⟩, 77) := ⟨⟨by decide +kernel, by decide +kernel⟩, List.mem_of_getElem? (i := 1139) (by decide +kernel), List.mem_of_getElem? (i := 1615) (by decide +kernel), List.mem_of_getElem? (i := 1616) (by decide +kernel)⟩
theorem lw_p71 : lw_okq (⟨"TunnelBookModel", "areAsked", "(IIII)Z"⟩, 77) := ⟨⟨by decide +kernel, by decide +kernel⟩, List.mem_of_getElem? (i := 1139) (by decide +kernel), List.mem_of_getElem? (i := 1625) (by decide +kernel), List.mem_of_getElem? (i := 1626) (by decide +kernel)⟩
theorem lw_p72 : lw_okq (⟨"TunnelBookModel", "runsBoth", "(II)V"⟩, 77) := ⟨⟨by decide +kernel, by decide +kernel⟩, List.mem_of_getElem? (i := 1139) (by decide +kernel), List.mem_of_getElem? (i := 1633) (by decide +kernel), List.mem_of_getElem? (i := 1634) (by decide +kernel)⟩
theorem lw_p73 : lw_okq (⟨"TunnelBookModel", "meets", "(IIIZ)J"⟩, 77) := ⟨⟨by decide +kernel, by decide +kernel⟩, List.mem_of_getElem? (i := 1139) (by decide +kernel), List.mem_of_getElem? (i := 1637) (by decide +kernel), List.mem_of_getElem? (i := 1638) (by decide +kernel)⟩
theorem lw_p74 : lw_okq (⟨"TunnelBookModel", "off", "(III)I"⟩, 77) := ⟨⟨by decide +kernel, by decide +kernel⟩, List.mem_of_getElem? (i := 1139) (by decide +kernel), List.mem_of_getElem? (i := 1670) (by decide +kernel), List.mem_of_getElem? (i := 1671) (by decide +kernel)⟩
theorem lw_p75 : lw_okq (⟨"TunnelBookModel", "isFlow", "(III)Z"⟩, 77) := ⟨⟨by decide +kernel, by decide +kernel⟩, List.mem_of_getElem? (i := 1139) (by decide +kernel), List.mem_of_getElem? (i := 1694) (by decide +kernel), List.mem_of_getElem? (i := 1695) (by decide +kernel)⟩
theorem lw_p76 : lw_okq (⟨"TunnelBookModel", "narrowest", "(IIIZ)I"⟩, 77) := ⟨⟨by decide +kernel, by decide +kernel⟩, List.mem_of_getElem? (i := 1139) (by decide +kernel), List.mem_of_getElem? (i := 1698) (by decide +kernel), List.mem_of_getElem? (i := 1699) (by decide +kernel)⟩
theorem lw_p77 : lw_okq (⟨"TunnelBookModel", "letsBy", "(IIIIZ)I"⟩, 77) := ⟨⟨by decide +kernel, by decide +kernel⟩, List.mem_of_getElem? (i := 1139) (by decide +kernel), List.mem_of_getElem? (i := 1702) (by decide +kernel), List.mem_of_getElem? (i := 1703) (by decide +kernel)⟩
theorem lw_p78 : lw_okq (⟨"TunnelBookModel", "widthOf", "(IIII)I"⟩, 77) := ⟨⟨by decide +kernel, by decide +kernel⟩, List.mem_of_getElem? (i := 1139) (by decide +kernel), List.mem_of_getElem? (i := 1709) (by decide +kernel), List.mem_of_getElem? (i := 1710) (by decide +kernel)⟩
theorem lw_p79 : lw_okq (⟨"TunnelBookModel", "lets", "(JI)I"⟩, 77) := ⟨⟨by decide +kernel, by decide +kernel⟩, List.mem_of_getElem? (i := 1139) (by decide +kernel), List.mem_of_getElem? (i := 1713) (by decide +kernel), List.mem_of_getElem? (i := 1714) (by decide +kernel)⟩
def lw_privs_5 : List (MethodName × Nat) := [(⟨"TunnelBookModel", "stepIsOver", "()V"⟩, 77), (⟨"TunnelBookModel", "numbered", "(I)V"⟩, 77), (⟨"TunnelBookModel", "isWay", "(I)Z"⟩, 77), (⟨"TunnelBookModel", "runs", "(II)Z"⟩, 77), (⟨"TunnelBookModel", "does", "(II)V"⟩, 77), (⟨"TunnelBookModel", "goesOn", "(I)V"⟩, 77), (⟨"TunnelBookModel", "isBeyond", "()Z"⟩, 77), (⟨"TunnelBookModel", "areAsked", "(IIII)Z"⟩, 77), (⟨"TunnelBookModel", "runsBoth", "(II)V"⟩, 77), (⟨"TunnelBookModel", "meets", "(IIIZ)J"⟩, 77), (⟨"TunnelBookModel", "off", "(III)I"⟩, 77), (⟨"TunnelBookModel", "isFlow", "(III)Z"⟩, 77), (⟨"TunnelBookModel", "narrowest", "(IIIZ)I"⟩, 77), (⟨"TunnelBookModel", "letsBy", "(IIIIZ)I"⟩, 77), (⟨"TunnelBookModel", "widthOf", "(IIII)I"⟩, 77), (⟨"TunnelBookModel", "lets", "(JI)I"⟩, 77)]
theorem lw_r5 : ∀ q ∈ lw_privs_5, lw_okq q := List.forall_mem_cons.mpr ⟨lw_p64, List.forall_mem_cons.mpr ⟨lw_p65, List.forall_mem_cons.mpr ⟨lw_p66, List.forall_mem_cons.mpr ⟨lw_p67, List.forall_mem_cons.mpr ⟨lw_p68, List.forall_mem_cons.mpr ⟨lw_p69, List.forall_mem_cons.mpr ⟨lw_p70, List.forall_mem_cons.mpr ⟨lw_p71, List.forall_mem_cons.mpr ⟨lw_p72, List.forall_mem_cons.mpr ⟨lw_p73, List.forall_mem_cons.mpr ⟨lw_p74, List.forall_mem_cons.mpr ⟨lw_p75, List.forall_mem_cons.mpr ⟨lw_p76, List.forall_mem_cons.mpr ⟨lw_p77, List.forall_mem_cons.mpr ⟨lw_p78, List.forall_mem_cons.mpr ⟨lw_p79, fun _ h => absurd h List.not_mem_nil⟩⟩⟩⟩⟩⟩⟩⟩⟩⟩⟩⟩⟩⟩⟩⟩
def lw_privs : List (MethodName × Nat) := lw_privs_1 ++ (lw_privs_2 ++ (lw_privs_3 ++ (lw_privs_4 ++ (lw_privs_5))))
def lw_tbl : List Cond := k2_sels lw_privs ++ tables_1
theorem lw_privs_ok : ∀ q ∈ lw_privs, lw_okq q := by
  show ∀ q ∈ lw_privs_1 ++ (lw_privs_2 ++ (lw_privs_3 ++ (lw_privs_4 ++ (lw_privs_5)))), lw_okq q
  exact List.forall_mem_append.mpr ⟨lw_r1, List.forall_mem_append.mpr ⟨lw_r2, List.forall_mem_append.mpr ⟨lw_r3, List.forall_mem_append.mpr ⟨lw_r4, lw_r5⟩⟩⟩⟩

def RX0 : String := "TunnelBook$Channel"
def TX0 : u_T := fun k => match k with
  | 0 => ("TunnelBook$Channel", "survey", "LTunnelBook$Survey;", true)
  | 1 => ("TunnelBook$Channel", "rowOfClass", "[I", true)
  | 2 => ("TunnelBook$Channel", "growth", "I", false)
  | _ => ("TunnelBook$Channel", "leastLet", "I", false)
def tyX0 : Nat → FieldType := fun k => match k with
  | 0 => .object "TunnelBook$Survey"
  | 1 => .array .int
  | 2 => .int
  | _ => .int
theorem nmX0 : ∀ a, a < 4 → ∀ b, b < 4 → a ≠ b → (TX0 a).2.1 ≠ (TX0 b).2.1 := by decide +kernel
theorem tyX0_ok : ∀ k, k < 4 → parseFieldDescriptor (TX0 k).2.2.1 = some (tyX0 k) := by decide +kernel
abbrev cX0_init : ByteArray := prog_2_method_1_code
def yX0_init : MethodName := ⟨RX0, "<init>", "(LTunnelBook$Survey;)V"⟩
abbrev cX0_setRow : ByteArray := prog_2_method_2_code
def yX0_setRow : MethodName := ⟨RX0, "setRow", "(II)Z"⟩
abbrev cX0_rowOf : ByteArray := prog_2_method_3_code
def yX0_rowOf : MethodName := ⟨RX0, "rowOf", "(I)I"⟩
abbrev cX0_tightest : ByteArray := prog_2_method_4_code
def yX0_tightest : MethodName := ⟨RX0, "tightest", "(LTunnelBook$Gallery;IIZ)I"⟩
abbrev cX0_letThrough : ByteArray := prog_2_method_5_code
def yX0_letThrough : MethodName := ⟨RX0, "letThrough", "(LTunnelBook$Gallery;IIIZ)I"⟩
abbrev cX0_classOf : ByteArray := prog_2_method_6_code
def yX0_classOf : MethodName := ⟨RX0, "classOf", "(J)I"⟩
def RX1 : String := "TunnelBook$Gallery"
def TX1 : u_T := fun k => match k with
  | 0 => ("TunnelBook$Gallery", "stationOf", "[I", true)
  | 1 => ("TunnelBook$Gallery", "low", "[I", true)
  | 2 => ("TunnelBook$Gallery", "high", "[I", true)
  | 3 => ("TunnelBook$Gallery", "fewestDays", "[I", true)
  | 4 => ("TunnelBook$Gallery", "mostDays", "[I", true)
  | 5 => ("TunnelBook$Gallery", "width", "[I", true)
  | 6 => ("TunnelBook$Gallery", "markedFrom", "[I", true)
  | 7 => ("TunnelBook$Gallery", "markedTo", "[I", true)
  | 8 => ("TunnelBook$Gallery", "earliest", "[I", true)
  | 9 => ("TunnelBook$Gallery", "latest", "[I", true)
  | 10 => ("TunnelBook$Gallery", "repairPeg", "[I", true)
  | 11 => ("TunnelBook$Gallery", "repairYear", "[I", true)
  | 12 => ("TunnelBook$Gallery", "repairTold", "[I", true)
  | 13 => ("TunnelBook$Gallery", "pegs", "I", false)
  | 14 => ("TunnelBook$Gallery", "marks", "I", false)
  | _ => ("TunnelBook$Gallery", "repairs", "I", false)
def tyX1 : Nat → FieldType := fun k => match k with
  | 0 => .array .int
  | 1 => .array .int
  | 2 => .array .int
  | 3 => .array .int
  | 4 => .array .int
  | 5 => .array .int
  | 6 => .array .int
  | 7 => .array .int
  | 8 => .array .int
  | 9 => .array .int
  | 10 => .array .int
  | 11 => .array .int
  | 12 => .array .int
  | 13 => .int
  | 14 => .int
  | _ => .int
theorem nmX1 : ∀ a, a < 16 → ∀ b, b < 16 → a ≠ b → (TX1 a).2.1 ≠ (TX1 b).2.1 := by decide +kernel
theorem tyX1_ok : ∀ k, k < 16 → parseFieldDescriptor (TX1 k).2.2.1 = some (tyX1 k) := by decide +kernel
abbrev cX1_init : ByteArray := prog_3_method_1_code
def yX1_init : MethodName := ⟨RX1, "<init>", "()V"⟩
abbrev cX1_hasPeg : ByteArray := prog_3_method_2_code
def yX1_hasPeg : MethodName := ⟨RX1, "hasPeg", "(I)Z"⟩
abbrev cX1_hasReach : ByteArray := prog_3_method_3_code
def yX1_hasReach : MethodName := ⟨RX1, "hasReach", "(I)Z"⟩
abbrev cX1_addReach : ByteArray := prog_3_method_4_code
def yX1_addReach : MethodName := ⟨RX1, "addReach", "(IIIIII)I"⟩
abbrev cX1_addPeg : ByteArray := prog_3_method_5_code
def yX1_addPeg : MethodName := ⟨RX1, "addPeg", "(I)V"⟩
abbrev cX1_openAt : ByteArray := prog_3_method_6_code
def yX1_openAt : MethodName := ⟨RX1, "openAt", "(I)Z"⟩
abbrev cX1_addMark : ByteArray := prog_3_method_7_code
def yX1_addMark : MethodName := ⟨RX1, "addMark", "(III)Z"⟩
abbrev cX1_dayOf : ByteArray := prog_3_method_8_code
def yX1_dayOf : MethodName := ⟨RX1, "dayOf", "(IZ)I"⟩
abbrev cX1_daysFrom : ByteArray := prog_3_method_9_code
def yX1_daysFrom : MethodName := ⟨RX1, "daysFrom", "(IIZ)I"⟩
abbrev cX1_dig : ByteArray := prog_3_method_10_code
def yX1_dig : MethodName := ⟨RX1, "dig", "()Z"⟩
abbrev cX1_holesAgree : ByteArray := prog_3_method_11_code
def yX1_holesAgree : MethodName := ⟨RX1, "holesAgree", "(IIII)Z"⟩
abbrev cX1_addRepair : ByteArray := prog_3_method_12_code
def yX1_addRepair : MethodName := ⟨RX1, "addRepair", "(III)Z"⟩
abbrev cX1_limeYears : ByteArray := prog_3_method_13_code
def yX1_limeYears : MethodName := ⟨RX1, "limeYears", "(III)I"⟩
def RX2 : String := "TunnelBook$Measure"
def TX2 : u_T := fun k => match k with
  | 0 => ("TunnelBook$Measure", "counts", "I", false)
  | 1 => ("TunnelBook$Measure", "least", "I", false)
  | _ => ("TunnelBook$Measure", "greatest", "I", false)
def tyX2 : Nat → FieldType := fun k => match k with
  | 0 => .int
  | 1 => .int
  | _ => .int
theorem nmX2 : ∀ a, a < 3 → ∀ b, b < 3 → a ≠ b → (TX2 a).2.1 ≠ (TX2 b).2.1 := by decide +kernel
theorem tyX2_ok : ∀ k, k < 3 → parseFieldDescriptor (TX2 k).2.2.1 = some (tyX2 k) := by decide +kernel
abbrev cX2_init : ByteArray := prog_4_method_1_code
def yX2_init : MethodName := ⟨RX2, "<init>", "()V"⟩
abbrev cX2_addCount : ByteArray := prog_4_method_2_code
def yX2_addCount : MethodName := ⟨RX2, "addCount", "(III)I"⟩
def RX3 : String := "TunnelBook$Meetings"
def TX3 : u_T := fun k => match k with
  | 0 => ("TunnelBook$Meetings", "survey", "LTunnelBook$Survey;", true)
  | 1 => ("TunnelBook$Meetings", "runs", "LTunnelBook$Runs;", true)
  | 2 => ("TunnelBook$Meetings", "thereLow", "[I", true)
  | 3 => ("TunnelBook$Meetings", "thereHigh", "[I", true)
  | 4 => ("TunnelBook$Meetings", "gapLow", "[I", true)
  | _ => ("TunnelBook$Meetings", "gapHigh", "[I", true)
def tyX3 : Nat → FieldType := fun k => match k with
  | 0 => .object "TunnelBook$Survey"
  | 1 => .object "TunnelBook$Runs"
  | 2 => .array .int
  | 3 => .array .int
  | 4 => .array .int
  | _ => .array .int
theorem nmX3 : ∀ a, a < 6 → ∀ b, b < 6 → a ≠ b → (TX3 a).2.1 ≠ (TX3 b).2.1 := by decide +kernel
theorem tyX3_ok : ∀ k, k < 6 → parseFieldDescriptor (TX3 k).2.2.1 = some (tyX3 k) := by decide +kernel
abbrev cX3_init : ByteArray := prog_5_method_1_code
def yX3_init : MethodName := ⟨RX3, "<init>", "(LTunnelBook$Survey;LTunnelBook$Runs;)V"⟩
abbrev cX3_seen : ByteArray := prog_5_method_2_code
def yX3_seen : MethodName := ⟨RX3, "seen", "(III)V"⟩
abbrev cX3_look : ByteArray := prog_5_method_3_code
def yX3_look : MethodName := ⟨RX3, "look", "(III)V"⟩
abbrev cX3_bound : ByteArray := prog_5_method_4_code
def yX3_bound : MethodName := ⟨RX3, "bound", "(IIIZ)I"⟩
abbrev cX3_judge : ByteArray := prog_5_method_5_code
def yX3_judge : MethodName := ⟨RX3, "judge", "(II)I"⟩
abbrev cX3_pairs : ByteArray := prog_5_method_6_code
def yX3_pairs : MethodName := ⟨RX3, "pairs", "(III)I"⟩
def RX4 : String := "TunnelBook$Reader"
def TX4 : u_T := fun k => match k with
  | 0 => ("TunnelBook$Reader", "tape", "LTunnelBook$Tape;", true)
  | 1 => ("TunnelBook$Reader", "draft", "LTunnelBook$Way;", false)
  | 2 => ("TunnelBook$Reader", "blockStart", "[I", true)
  | 3 => ("TunnelBook$Reader", "blockTimes", "[I", true)
  | 4 => ("TunnelBook$Reader", "blockSteps", "[I", true)
  | 5 => ("TunnelBook$Reader", "bodyStart", "[I", true)
  | 6 => ("TunnelBook$Reader", "bodySteps", "[I", true)
  | 7 => ("TunnelBook$Reader", "depth", "I", false)
  | 8 => ("TunnelBook$Reader", "openLetter", "I", false)
  | 9 => ("TunnelBook$Reader", "token", "I", false)
  | 10 => ("TunnelBook$Reader", "kind", "I", false)
  | 11 => ("TunnelBook$Reader", "place", "I", false)
  | 12 => ("TunnelBook$Reader", "number", "I", false)
  | 13 => ("TunnelBook$Reader", "parts", "I", false)
  | 14 => ("TunnelBook$Reader", "fault", "I", false)
  | _ => ("TunnelBook$Reader", "faultPlace", "I", false)
def tyX4 : Nat → FieldType := fun k => match k with
  | 0 => .object "TunnelBook$Tape"
  | 1 => .object "TunnelBook$Way"
  | 2 => .array .int
  | 3 => .array .int
  | 4 => .array .int
  | 5 => .array .int
  | 6 => .array .int
  | 7 => .int
  | 8 => .int
  | 9 => .int
  | 10 => .int
  | 11 => .int
  | 12 => .int
  | 13 => .int
  | 14 => .int
  | _ => .int
theorem nmX4 : ∀ a, a < 16 → ∀ b, b < 16 → a ≠ b → (TX4 a).2.1 ≠ (TX4 b).2.1 := by decide +kernel
theorem tyX4_ok : ∀ k, k < 16 → parseFieldDescriptor (TX4 k).2.2.1 = some (tyX4 k) := by decide +kernel
abbrev cX4_init : ByteArray := prog_6_method_1_code
def yX4_init : MethodName := ⟨RX4, "<init>", "(LTunnelBook$Tape;)V"⟩
abbrev cX4_read : ByteArray := prog_6_method_2_code
def yX4_read : MethodName := ⟨RX4, "read", "()Z"⟩
abbrev cX4_begin : ByteArray := prog_6_method_3_code
def yX4_begin : MethodName := ⟨RX4, "begin", "()V"⟩
abbrev cX4_fail : ByteArray := prog_6_method_4_code
def yX4_fail : MethodName := ⟨RX4, "fail", "(I)V"⟩
abbrev cX4_readPart : ByteArray := prog_6_method_5_code
def yX4_readPart : MethodName := ⟨RX4, "readPart", "()V"⟩
abbrev cX4_readStep : ByteArray := prog_6_method_6_code
def yX4_readStep : MethodName := ⟨RX4, "readStep", "(III)V"⟩
abbrev cX4_readBareStep : ByteArray := prog_6_method_7_code
def yX4_readBareStep : MethodName := ⟨RX4, "readBareStep", "(I)V"⟩
abbrev cX4_readDo : ByteArray := prog_6_method_8_code
def yX4_readDo : MethodName := ⟨RX4, "readDo", "()V"⟩
abbrev cX4_readRepeat : ByteArray := prog_6_method_9_code
def yX4_readRepeat : MethodName := ⟨RX4, "readRepeat", "()V"⟩
abbrev cX4_readDef : ByteArray := prog_6_method_10_code
def yX4_readDef : MethodName := ⟨RX4, "readDef", "()V"⟩
abbrev cX4_openBlock : ByteArray := prog_6_method_11_code
def yX4_openBlock : MethodName := ⟨RX4, "openBlock", "(I)V"⟩
abbrev cX4_closeBlock : ByteArray := prog_6_method_12_code
def yX4_closeBlock : MethodName := ⟨RX4, "closeBlock", "()V"⟩
abbrev cX4_closeDef : ByteArray := prog_6_method_13_code
def yX4_closeDef : MethodName := ⟨RX4, "closeDef", "(I)V"⟩
abbrev cX4_addSteps : ByteArray := prog_6_method_14_code
def yX4_addSteps : MethodName := ⟨RX4, "addSteps", "(I)V"⟩
abbrev cX4_take : ByteArray := prog_6_method_15_code
def yX4_take : MethodName := ⟨RX4, "take", "(I)V"⟩
abbrev cX4_takeNumber : ByteArray := prog_6_method_16_code
def yX4_takeNumber : MethodName := ⟨RX4, "takeNumber", "(II)V"⟩
abbrev cX4_takeOpening : ByteArray := prog_6_method_17_code
def yX4_takeOpening : MethodName := ⟨RX4, "takeOpening", "()V"⟩
abbrev cX4_takeLetter : ByteArray := prog_6_method_18_code
def yX4_takeLetter : MethodName := ⟨RX4, "takeLetter", "(Z)I"⟩
abbrev cX4_letterHere : ByteArray := prog_6_method_19_code
def yX4_letterHere : MethodName := ⟨RX4, "letterHere", "()I"⟩
abbrev cX4_nextToken : ByteArray := prog_6_method_20_code
def yX4_nextToken : MethodName := ⟨RX4, "nextToken", "()V"⟩
def RX5 : String := "TunnelBook$Runs"
def TX5 : u_T := fun k => match k with
  | 0 => ("TunnelBook$Runs", "walk", "LTunnelBook$Walk;", true)
  | 1 => ("TunnelBook$Runs", "told", "[LTunnelBook$Way;", true)
  | 2 => ("TunnelBook$Runs", "kept", "[Z", true)
  | _ => ("TunnelBook$Runs", "answers", "[I", true)
def tyX5 : Nat → FieldType := fun k => match k with
  | 0 => .object "TunnelBook$Walk"
  | 1 => .array (.object "TunnelBook$Way")
  | 2 => .array .boolean
  | _ => .array .int
theorem nmX5 : ∀ a, a < 4 → ∀ b, b < 4 → a ≠ b → (TX5 a).2.1 ≠ (TX5 b).2.1 := by decide +kernel
theorem tyX5_ok : ∀ k, k < 4 → parseFieldDescriptor (TX5 k).2.2.1 = some (tyX5 k) := by decide +kernel
abbrev cX5_init : ByteArray := prog_7_method_1_code
def yX5_init : MethodName := ⟨RX5, "<init>", "()V"⟩
abbrev cX5_hasPlace : ByteArray := prog_7_method_2_code
def yX5_hasPlace : MethodName := ⟨RX5, "hasPlace", "(I)Z"⟩
abbrev cX5_isTold : ByteArray := prog_7_method_3_code
def yX5_isTold : MethodName := ⟨RX5, "isTold", "(I)Z"⟩
abbrev cX5_toldWays : ByteArray := prog_7_method_4_code
def yX5_toldWays : MethodName := ⟨RX5, "toldWays", "()I"⟩
abbrev cX5_replace : ByteArray := prog_7_method_5_code
def yX5_replace : MethodName := ⟨RX5, "replace", "(ILTunnelBook$Way;)LTunnelBook$Way;"⟩
abbrev cX5_forgetAll : ByteArray := prog_7_method_6_code
def yX5_forgetAll : MethodName := ⟨RX5, "forgetAll", "()V"⟩
abbrev cX5_make : ByteArray := prog_7_method_7_code
def yX5_make : MethodName := ⟨RX5, "make", "(I)Z"⟩
abbrev cX5_keep : ByteArray := prog_7_method_8_code
def yX5_keep : MethodName := ⟨RX5, "keep", "(I)V"⟩
abbrev cX5_answer : ByteArray := prog_7_method_9_code
def yX5_answer : MethodName := ⟨RX5, "answer", "(II)I"⟩
def RX6 : String := "TunnelBook$Search"
def TX6 : u_T := fun k => match k with
  | 0 => ("TunnelBook$Search", "weights", "[I", true)
  | 1 => ("TunnelBook$Search", "rows", "[J", false)
  | 2 => ("TunnelBook$Search", "nextRows", "[J", false)
  | 3 => ("TunnelBook$Search", "hearing", "I", false)
  | 4 => ("TunnelBook$Search", "pulling", "I", false)
  | _ => ("TunnelBook$Search", "width", "I", false)
def tyX6 : Nat → FieldType := fun k => match k with
  | 0 => .array .int
  | 1 => .array .long
  | 2 => .array .long
  | 3 => .int
  | 4 => .int
  | _ => .int
theorem nmX6 : ∀ a, a < 6 → ∀ b, b < 6 → a ≠ b → (TX6 a).2.1 ≠ (TX6 b).2.1 := by decide +kernel
theorem tyX6_ok : ∀ k, k < 6 → parseFieldDescriptor (TX6 k).2.2.1 = some (tyX6 k) := by decide +kernel
abbrev cX6_init : ByteArray := prog_8_method_1_code
def yX6_init : MethodName := ⟨RX6, "<init>", "()V"⟩
abbrev cX6_weigh : ByteArray := prog_8_method_2_code
def yX6_weigh : MethodName := ⟨RX6, "weigh", "(III)V"⟩
abbrev cX6_hear : ByteArray := prog_8_method_3_code
def yX6_hear : MethodName := ⟨RX6, "hear", "(III)V"⟩
abbrev cX6_share : ByteArray := prog_8_method_4_code
def yX6_share : MethodName := ⟨RX6, "share", "(IIZ)J"⟩
abbrev cX6_roundabout : ByteArray := prog_8_method_5_code
def yX6_roundabout : MethodName := ⟨RX6, "roundabout", "(IIZ)I"⟩
abbrev cX6_startAt : ByteArray := prog_8_method_6_code
def yX6_startAt : MethodName := ⟨RX6, "startAt", "(IJJ)V"⟩
abbrev cX6_clearNext : ByteArray := prog_8_method_7_code
def yX6_clearNext : MethodName := ⟨RX6, "clearNext", "(J)V"⟩
abbrev cX6_swap : ByteArray := prog_8_method_8_code
def yX6_swap : MethodName := ⟨RX6, "swap", "()V"⟩
abbrev cX6_spread : ByteArray := prog_8_method_9_code
def yX6_spread : MethodName := ⟨RX6, "spread", "(II)V"⟩
abbrev cX6_prolong : ByteArray := prog_8_method_10_code
def yX6_prolong : MethodName := ⟨RX6, "prolong", "(IIZ)V"⟩
abbrev cX6_better : ByteArray := prog_8_method_11_code
def yX6_better : MethodName := ⟨RX6, "better", "(JJZ)J"⟩
abbrev cX6_pulled : ByteArray := prog_8_method_12_code
def yX6_pulled : MethodName := ⟨RX6, "pulled", "(II)I"⟩
abbrev cX6_misses : ByteArray := prog_8_method_13_code
def yX6_misses : MethodName := ⟨RX6, "misses", "(I)Z"⟩
abbrev cX6_commonDivisor : ByteArray := prog_8_method_14_code
def yX6_commonDivisor : MethodName := ⟨RX6, "commonDivisor", "(JJ)J"⟩
def RX7 : String := "TunnelBook$Survey"
def TX7 : u_T := fun k => match k with
  | 0 => ("TunnelBook$Survey", "axisOf", "[I", true)
  | 1 => ("TunnelBook$Survey", "from", "[I", true)
  | 2 => ("TunnelBook$Survey", "to", "[I", true)
  | 3 => ("TunnelBook$Survey", "low", "[I", true)
  | 4 => ("TunnelBook$Survey", "high", "[I", true)
  | 5 => ("TunnelBook$Survey", "told", "[I", true)
  | 6 => ("TunnelBook$Survey", "distance", "[J", true)
  | 7 => ("TunnelBook$Survey", "stations", "I", false)
  | _ => ("TunnelBook$Survey", "sights", "I", false)
def tyX7 : Nat → FieldType := fun k => match k with
  | 0 => .array .int
  | 1 => .array .int
  | 2 => .array .int
  | 3 => .array .int
  | 4 => .array .int
  | 5 => .array .int
  | 6 => .array .long
  | 7 => .int
  | _ => .int
theorem nmX7 : ∀ a, a < 9 → ∀ b, b < 9 → a ≠ b → (TX7 a).2.1 ≠ (TX7 b).2.1 := by decide +kernel
theorem tyX7_ok : ∀ k, k < 9 → parseFieldDescriptor (TX7 k).2.2.1 = some (tyX7 k) := by decide +kernel
abbrev cX7_init : ByteArray := prog_9_method_1_code
def yX7_init : MethodName := ⟨RX7, "<init>", "()V"⟩
abbrev cX7_addStation : ByteArray := prog_9_method_2_code
def yX7_addStation : MethodName := ⟨RX7, "addStation", "()I"⟩
abbrev cX7_has : ByteArray := prog_9_method_3_code
def yX7_has : MethodName := ⟨RX7, "has", "(I)Z"⟩
abbrev cX7_addSight : ByteArray := prog_9_method_4_code
def yX7_addSight : MethodName := ⟨RX7, "addSight", "(IIIIII)I"⟩
abbrev cX7_bound : ByteArray := prog_9_method_5_code
def yX7_bound : MethodName := ⟨RX7, "bound", "(IIIIZ)I"⟩
abbrev cX7_culprit : ByteArray := prog_9_method_6_code
def yX7_culprit : MethodName := ⟨RX7, "culprit", "(III)I"⟩
abbrev cX7_counts : ByteArray := prog_9_method_7_code
def yX7_counts : MethodName := ⟨RX7, "counts", "(III)Z"⟩
abbrev cX7_settle : ByteArray := prog_9_method_8_code
def yX7_settle : MethodName := ⟨RX7, "settle", "(IIII)Z"⟩
abbrev cX7_shortenAll : ByteArray := prog_9_method_9_code
def yX7_shortenAll : MethodName := ⟨RX7, "shortenAll", "(III)Z"⟩
abbrev cX7_shorten : ByteArray := prog_9_method_10_code
def yX7_shorten : MethodName := ⟨RX7, "shorten", "(III)Z"⟩
def RX8 : String := "TunnelBook$Tape"
def TX8 : u_T := fun k => match k with
  | 0 => ("TunnelBook$Tape", "bytes", "[I", true)
  | 1 => ("TunnelBook$Tape", "kind", "[I", true)
  | 2 => ("TunnelBook$Tape", "place", "[I", true)
  | 3 => ("TunnelBook$Tape", "size", "[I", true)
  | 4 => ("TunnelBook$Tape", "number", "[I", true)
  | 5 => ("TunnelBook$Tape", "length", "I", false)
  | _ => ("TunnelBook$Tape", "tokens", "I", false)
def tyX8 : Nat → FieldType := fun k => match k with
  | 0 => .array .int
  | 1 => .array .int
  | 2 => .array .int
  | 3 => .array .int
  | 4 => .array .int
  | 5 => .int
  | _ => .int
theorem nmX8 : ∀ a, a < 7 → ∀ b, b < 7 → a ≠ b → (TX8 a).2.1 ≠ (TX8 b).2.1 := by decide +kernel
theorem tyX8_ok : ∀ k, k < 7 → parseFieldDescriptor (TX8 k).2.2.1 = some (tyX8 k) := by decide +kernel
abbrev cX8_init : ByteArray := prog_10_method_1_code
def yX8_init : MethodName := ⟨RX8, "<init>", "()V"⟩
abbrev cX8_hasRoom : ByteArray := prog_10_method_2_code
def yX8_hasRoom : MethodName := ⟨RX8, "hasRoom", "(I)Z"⟩
abbrev cX8_append : ByteArray := prog_10_method_3_code
def yX8_append : MethodName := ⟨RX8, "append", "(I)V"⟩
abbrev cX8_cut : ByteArray := prog_10_method_4_code
def yX8_cut : MethodName := ⟨RX8, "cut", "()V"⟩
abbrev cX8_goesOn : ByteArray := prog_10_method_5_code
def yX8_goesOn : MethodName := ⟨RX8, "goesOn", "(II)Z"⟩
abbrev cX8_addToken : ByteArray := prog_10_method_6_code
def yX8_addToken : MethodName := ⟨RX8, "addToken", "(II)V"⟩
abbrev cX8_lengthen : ByteArray := prog_10_method_7_code
def yX8_lengthen : MethodName := ⟨RX8, "lengthen", "(I)V"⟩
abbrev cX8_byteAt : ByteArray := prog_10_method_8_code
def yX8_byteAt : MethodName := ⟨RX8, "byteAt", "(I)I"⟩
abbrev cX8_isWord : ByteArray := prog_10_method_9_code
def yX8_isWord : MethodName := ⟨RX8, "isWord", "(ILjava/lang/String;)Z"⟩
abbrev cX8_kindOf : ByteArray := prog_10_method_10_code
def yX8_kindOf : MethodName := ⟨RX8, "kindOf", "(I)I"⟩
def RX9 : String := "TunnelBook$Walk"
def TX9 : u_T := fun k => match k with
  | 0 => ("TunnelBook$Walk", "openPlace", "[I", true)
  | 1 => ("TunnelBook$Walk", "openTimes", "[I", true)
  | 2 => ("TunnelBook$Walk", "open", "I", false)
  | 3 => ("TunnelBook$Walk", "line", "I", false)
  | 4 => ("TunnelBook$Walk", "level", "I", false)
  | 5 => ("TunnelBook$Walk", "turn", "I", false)
  | 6 => ("TunnelBook$Walk", "shaft", "I", false)
  | 7 => ("TunnelBook$Walk", "poles", "I", false)
  | 8 => ("TunnelBook$Walk", "x", "J", false)
  | 9 => ("TunnelBook$Walk", "y", "J", false)
  | 10 => ("TunnelBook$Walk", "z", "J", false)
  | 11 => ("TunnelBook$Walk", "errorX", "J", false)
  | 12 => ("TunnelBook$Walk", "errorY", "J", false)
  | 13 => ("TunnelBook$Walk", "errorZ", "J", false)
  | 14 => ("TunnelBook$Walk", "askew", "J", false)
  | 15 => ("TunnelBook$Walk", "heading", "I", false)
  | 16 => ("TunnelBook$Walk", "steps", "I", false)
  | _ => ("TunnelBook$Walk", "done", "Z", false)
def tyX9 : Nat → FieldType := fun k => match k with
  | 0 => .array .int
  | 1 => .array .int
  | 2 => .int
  | 3 => .int
  | 4 => .int
  | 5 => .int
  | 6 => .int
  | 7 => .int
  | 8 => .long
  | 9 => .long
  | 10 => .long
  | 11 => .long
  | 12 => .long
  | 13 => .long
  | 14 => .long
  | 15 => .int
  | 16 => .int
  | _ => .boolean
theorem nmX9 : ∀ a, a < 18 → ∀ b, b < 18 → a ≠ b → (TX9 a).2.1 ≠ (TX9 b).2.1 := by decide +kernel
theorem tyX9_ok : ∀ k, k < 18 → parseFieldDescriptor (TX9 k).2.2.1 = some (tyX9 k) := by decide +kernel
abbrev cX9_init : ByteArray := prog_11_method_1_code
def yX9_init : MethodName := ⟨RX9, "<init>", "()V"⟩
abbrev cX9_take : ByteArray := prog_11_method_2_code
def yX9_take : MethodName := ⟨RX9, "take", "(IIIII)V"⟩
abbrev cX9_go : ByteArray := prog_11_method_3_code
def yX9_go : MethodName := ⟨RX9, "go", "(LTunnelBook$Way;I)V"⟩
abbrev cX9_begin : ByteArray := prog_11_method_4_code
def yX9_begin : MethodName := ⟨RX9, "begin", "(I)V"⟩
abbrev cX9_follow : ByteArray := prog_11_method_5_code
def yX9_follow : MethodName := ⟨RX9, "follow", "(III)I"⟩
abbrev cX9_push : ByteArray := prog_11_method_6_code
def yX9_push : MethodName := ⟨RX9, "push", "(II)V"⟩
abbrev cX9_turnBack : ByteArray := prog_11_method_7_code
def yX9_turnBack : MethodName := ⟨RX9, "turnBack", "(I)I"⟩
abbrev cX9_pop : ByteArray := prog_11_method_8_code
def yX9_pop : MethodName := ⟨RX9, "pop", "(I)I"⟩
abbrev cX9_step : ByteArray := prog_11_method_9_code
def yX9_step : MethodName := ⟨RX9, "step", "(II)V"⟩
abbrev cX9_layLine : ByteArray := prog_11_method_10_code
def yX9_layLine : MethodName := ⟨RX9, "layLine", "(I)V"⟩
abbrev cX9_staysNear : ByteArray := prog_11_method_11_code
def yX9_staysNear : MethodName := ⟨RX9, "staysNear", "()Z"⟩
def RX10 : String := "TunnelBook$Way"
def TX10 : u_T := fun k => match k with
  | 0 => ("TunnelBook$Way", "kind", "[I", true)
  | 1 => ("TunnelBook$Way", "value", "[I", true)
  | 2 => ("TunnelBook$Way", "size", "I", false)
  | _ => ("TunnelBook$Way", "steps", "I", false)
def tyX10 : Nat → FieldType := fun k => match k with
  | 0 => .array .int
  | 1 => .array .int
  | 2 => .int
  | _ => .int
theorem nmX10 : ∀ a, a < 4 → ∀ b, b < 4 → a ≠ b → (TX10 a).2.1 ≠ (TX10 b).2.1 := by decide +kernel
theorem tyX10_ok : ∀ k, k < 4 → parseFieldDescriptor (TX10 k).2.2.1 = some (tyX10 k) := by decide +kernel
abbrev cX10_init : ByteArray := prog_12_method_1_code
def yX10_init : MethodName := ⟨RX10, "<init>", "()V"⟩
abbrev cX10_add : ByteArray := prog_12_method_2_code
def yX10_add : MethodName := ⟨RX10, "add", "(II)V"⟩
def RX11 : String := "TunnelBook"
def TX11 : u_T := fun k => match k with
  | 0 => ("TunnelBook", "survey", "LTunnelBook$Survey;", true)
  | 1 => ("TunnelBook", "nearGallery", "LTunnelBook$Gallery;", true)
  | 2 => ("TunnelBook", "farGallery", "LTunnelBook$Gallery;", true)
  | 3 => ("TunnelBook", "measure", "LTunnelBook$Measure;", true)
  | 4 => ("TunnelBook", "tape", "LTunnelBook$Tape;", true)
  | 5 => ("TunnelBook", "reader", "LTunnelBook$Reader;", true)
  | 6 => ("TunnelBook", "runs", "LTunnelBook$Runs;", true)
  | 7 => ("TunnelBook", "meetings", "LTunnelBook$Meetings;", true)
  | 8 => ("TunnelBook", "search", "LTunnelBook$Search;", true)
  | 9 => ("TunnelBook", "channel", "LTunnelBook$Channel;", true)
  | _ => ("TunnelBook", "day", "I", false)
def tyX11 : Nat → FieldType := fun k => match k with
  | 0 => .object "TunnelBook$Survey"
  | 1 => .object "TunnelBook$Gallery"
  | 2 => .object "TunnelBook$Gallery"
  | 3 => .object "TunnelBook$Measure"
  | 4 => .object "TunnelBook$Tape"
  | 5 => .object "TunnelBook$Reader"
  | 6 => .object "TunnelBook$Runs"
  | 7 => .object "TunnelBook$Meetings"
  | 8 => .object "TunnelBook$Search"
  | 9 => .object "TunnelBook$Channel"
  | _ => .int
theorem nmX11 : ∀ a, a < 11 → ∀ b, b < 11 → a ≠ b → (TX11 a).2.1 ≠ (TX11 b).2.1 := by decide +kernel
theorem tyX11_ok : ∀ k, k < 11 → parseFieldDescriptor (TX11 k).2.2.1 = some (tyX11 k) := by decide +kernel
abbrev cX11_init : ByteArray := prog_1_method_1_code
def yX11_init : MethodName := ⟨RX11, "<init>", "()V"⟩
abbrev cX11_days : ByteArray := prog_1_method_2_code
def yX11_days : MethodName := ⟨RX11, "days", "(I)I"⟩
abbrev cX11_station : ByteArray := prog_1_method_3_code
def yX11_station : MethodName := ⟨RX11, "station", "()I"⟩
abbrev cX11_sight : ByteArray := prog_1_method_4_code
def yX11_sight : MethodName := ⟨RX11, "sight", "(IIIII)I"⟩
abbrev cX11_closed : ByteArray := prog_1_method_5_code
def yX11_closed : MethodName := ⟨RX11, "closed", "(II)I"⟩
abbrev cX11_span : ByteArray := prog_1_method_6_code
def yX11_span : MethodName := ⟨RX11, "span", "(IIIZ)I"⟩
abbrev cX11_gap : ByteArray := prog_1_method_7_code
def yX11_gap : MethodName := ⟨RX11, "gap", "(IIIIZ)I"⟩
abbrev cX11_blamed : ByteArray := prog_1_method_8_code
def yX11_blamed : MethodName := ⟨RX11, "blamed", "(III)I"⟩
abbrev cX11_reach : ByteArray := prog_1_method_9_code
def yX11_reach : MethodName := ⟨RX11, "reach", "(IIIIIII)I"⟩
abbrev cX11_mouth : ByteArray := prog_1_method_10_code
def yX11_mouth : MethodName := ⟨RX11, "mouth", "(II)Z"⟩
abbrev cX11_mark : ByteArray := prog_1_method_11_code
def yX11_mark : MethodName := ⟨RX11, "mark", "(IIII)I"⟩
abbrev cX11_when : ByteArray := prog_1_method_12_code
def yX11_when : MethodName := ⟨RX11, "when", "(IIZ)I"⟩
abbrev cX11_between : ByteArray := prog_1_method_13_code
def yX11_between : MethodName := ⟨RX11, "between", "(IIIZ)I"⟩
abbrev cX11_lamps : ByteArray := prog_1_method_14_code
def yX11_lamps : MethodName := ⟨RX11, "lamps", "(IIIII)I"⟩
abbrev cX11_count : ByteArray := prog_1_method_15_code
def yX11_count : MethodName := ⟨RX11, "count", "(III)I"⟩
abbrev cX11_unit : ByteArray := prog_1_method_16_code
def yX11_unit : MethodName := ⟨RX11, "unit", "(Z)I"⟩
abbrev cX11_feed : ByteArray := prog_1_method_17_code
def yX11_feed : MethodName := ⟨RX11, "feed", "(IIIII)I"⟩
abbrev cX11_end : ByteArray := prog_1_method_18_code
def yX11_end : MethodName := ⟨RX11, "end", "(I)I"⟩
abbrev cX11_way : ByteArray := prog_1_method_19_code
def yX11_way : MethodName := ⟨RX11, "way", "(I)I"⟩
abbrev cX11_fault : ByteArray := prog_1_method_20_code
def yX11_fault : MethodName := ⟨RX11, "fault", "(I)I"⟩
abbrev cX11_tools : ByteArray := prog_1_method_21_code
def yX11_tools : MethodName := ⟨RX11, "tools", "(IIIII)Z"⟩
abbrev cX11_run : ByteArray := prog_1_method_22_code
def yX11_run : MethodName := ⟨RX11, "run", "(III)I"⟩
abbrev cX11_meeting : ByteArray := prog_1_method_23_code
def yX11_meeting : MethodName := ⟨RX11, "meeting", "(IIIIIZ)I"⟩
abbrev cX11_there : ByteArray := prog_1_method_24_code
def yX11_there : MethodName := ⟨RX11, "there", "(III)Z"⟩
abbrev cX11_fits : ByteArray := prog_1_method_25_code
def yX11_fits : MethodName := ⟨RX11, "fits", "(IIII)I"⟩
abbrev cX11_ways : ByteArray := prog_1_method_26_code
def yX11_ways : MethodName := ⟨RX11, "ways", "(IIIII)I"⟩
abbrev cX11_seek : ByteArray := prog_1_method_27_code
def yX11_seek : MethodName := ⟨RX11, "seek", "(IIIIII)Z"⟩
abbrev cX11_chance : ByteArray := prog_1_method_28_code
def yX11_chance : MethodName := ⟨RX11, "chance", "(IIZ)J"⟩
abbrev cX11_detour : ByteArray := prog_1_method_29_code
def yX11_detour : MethodName := ⟨RX11, "detour", "(IIZ)I"⟩
abbrev cX11_table : ByteArray := prog_1_method_30_code
def yX11_table : MethodName := ⟨RX11, "table", "(II)Z"⟩
abbrev cX11_repair : ByteArray := prog_1_method_31_code
def yX11_repair : MethodName := ⟨RX11, "repair", "(III)I"⟩
abbrev cX11_lime : ByteArray := prog_1_method_32_code
def yX11_lime : MethodName := ⟨RX11, "lime", "(I)Z"⟩
abbrev cX11_flow : ByteArray := prog_1_method_33_code
def yX11_flow : MethodName := ⟨RX11, "flow", "(IIIZ)I"⟩
abbrev cX11_narrow : ByteArray := prog_1_method_34_code
def yX11_narrow : MethodName := ⟨RX11, "narrow", "(III)I"⟩
abbrev cX11_about : ByteArray := prog_1_method_35_code
def yX11_about : MethodName := ⟨RX11, "about", "(I)I"⟩
abbrev cX11_galleryOf : ByteArray := prog_1_method_36_code
def yX11_galleryOf : MethodName := ⟨RX11, "galleryOf", "(I)LTunnelBook$Gallery;"⟩
abbrev cX11_marks : ByteArray := prog_1_method_37_code
def yX11_marks : MethodName := ⟨RX11, "marks", "()I"⟩
abbrev cX11_repairs : ByteArray := prog_1_method_38_code
def yX11_repairs : MethodName := ⟨RX11, "repairs", "()I"⟩
abbrev cX11_canMeet : ByteArray := prog_1_method_39_code
def yX11_canMeet : MethodName := ⟨RX11, "canMeet", "(IIII)Z"⟩
abbrev cX11_within : ByteArray := prog_1_method_40_code
def yX11_within : MethodName := ⟨RX11, "within", "(III)Z"⟩
abbrev cX11_ordered : ByteArray := prog_1_method_41_code
def yX11_ordered : MethodName := ⟨RX11, "ordered", "(IIII)Z"⟩
abbrev cX11_isAxis : ByteArray := prog_1_method_42_code
def yX11_isAxis : MethodName := ⟨RX11, "isAxis", "(I)Z"⟩
abbrev cX11_isDay : ByteArray := prog_1_method_43_code
def yX11_isDay : MethodName := ⟨RX11, "isDay", "(I)Z"⟩
abbrev cX11_isHeading : ByteArray := prog_1_method_44_code
def yX11_isHeading : MethodName := ⟨RX11, "isHeading", "(I)Z"⟩
def RX12 : String := "TunnelBookModel"
def TX12 : u_T := fun k => match k with
  | 0 => ("TunnelBookModel", "clock", "I", false)
  | 1 => ("TunnelBookModel", "stations", "I", false)
  | 2 => ("TunnelBookModel", "sights", "I", false)
  | 3 => ("TunnelBookModel", "sightAxis", "[I", true)
  | 4 => ("TunnelBookModel", "sightFrom", "[I", true)
  | 5 => ("TunnelBookModel", "sightTo", "[I", true)
  | 6 => ("TunnelBookModel", "sightLow", "[I", true)
  | 7 => ("TunnelBookModel", "sightHigh", "[I", true)
  | 8 => ("TunnelBookModel", "sightTold", "[I", true)
  | 9 => ("TunnelBookModel", "pegs", "[I", true)
  | 10 => ("TunnelBookModel", "reachLow", "[I", true)
  | 11 => ("TunnelBookModel", "reachHigh", "[I", true)
  | 12 => ("TunnelBookModel", "rateLow", "[I", true)
  | 13 => ("TunnelBookModel", "rateHigh", "[I", true)
  | 14 => ("TunnelBookModel", "width", "[I", true)
  | 15 => ("TunnelBookModel", "pegStation", "[I", true)
  | 16 => ("TunnelBookModel", "marks", "I", false)
  | 17 => ("TunnelBookModel", "markGallery", "[I", true)
  | 18 => ("TunnelBookModel", "markPeg", "[I", true)
  | 19 => ("TunnelBookModel", "markFrom", "[I", true)
  | 20 => ("TunnelBookModel", "markTo", "[I", true)
  | 21 => ("TunnelBookModel", "counts", "I", false)
  | 22 => ("TunnelBookModel", "unitLow", "J", false)
  | 23 => ("TunnelBookModel", "unitHigh", "J", false)
  | 24 => ("TunnelBookModel", "tape", "[B", true)
  | 25 => ("TunnelBookModel", "taped", "I", false)
  | 26 => ("TunnelBookModel", "length", "I", false)
  | 27 => ("TunnelBookModel", "at", "I", false)
  | 28 => ("TunnelBookModel", "token", "I", false)
  | 29 => ("TunnelBookModel", "sort", "I", false)
  | 30 => ("TunnelBookModel", "told", "I", false)
  | 31 => ("TunnelBookModel", "wrong", "I", false)
  | 32 => ("TunnelBookModel", "wrongAt", "I", false)
  | 33 => ("TunnelBookModel", "fault", "I", false)
  | 34 => ("TunnelBookModel", "faultAt", "I", false)
  | 35 => ("TunnelBookModel", "newOrders", "I", false)
  | 36 => ("TunnelBookModel", "newOrder", "[I", true)
  | 37 => ("TunnelBookModel", "newValue", "[I", true)
  | 38 => ("TunnelBookModel", "defAt", "[I", true)
  | 39 => ("TunnelBookModel", "open", "I", false)
  | 40 => ("TunnelBookModel", "openIsDef", "[I", true)
  | 41 => ("TunnelBookModel", "openAt", "[I", true)
  | 42 => ("TunnelBookModel", "stands", "[Z", true)
  | 43 => ("TunnelBookModel", "defStands", "[Z", true)
  | 44 => ("TunnelBookModel", "ways", "[I", true)
  | 45 => ("TunnelBookModel", "order", "[I", true)
  | 46 => ("TunnelBookModel", "value", "[I", true)
  | 47 => ("TunnelBookModel", "wayLine", "I", false)
  | 48 => ("TunnelBookModel", "wayLevel", "I", false)
  | 49 => ("TunnelBookModel", "wayTurn", "I", false)
  | 50 => ("TunnelBookModel", "wayShaft", "I", false)
  | 51 => ("TunnelBookModel", "wayPoles", "I", false)
  | 52 => ("TunnelBookModel", "run", "[J", true)
  | 53 => ("TunnelBookModel", "returns", "I", false)
  | 54 => ("TunnelBookModel", "returnTo", "[I", true)
  | 55 => ("TunnelBookModel", "rounds", "[I", true)
  | 56 => ("TunnelBookModel", "thereLow", "[I", true)
  | 57 => ("TunnelBookModel", "thereHigh", "[I", true)
  | 58 => ("TunnelBookModel", "weight", "[I", true)
  | 59 => ("TunnelBookModel", "hear", "I", false)
  | 60 => ("TunnelBookModel", "pull", "I", false)
  | 61 => ("TunnelBookModel", "wideOff", "I", false)
  | 62 => ("TunnelBookModel", "table", "[I", true)
  | 63 => ("TunnelBookModel", "repairs", "I", false)
  | 64 => ("TunnelBookModel", "repairGallery", "[I", true)
  | 65 => ("TunnelBookModel", "repairPeg", "[I", true)
  | 66 => ("TunnelBookModel", "repairYear", "[I", true)
  | 67 => ("TunnelBookModel", "repairTold", "[I", true)
  | 68 => ("TunnelBookModel", "lime", "I", false)
  | 69 => ("TunnelBookModel", "apart", "[J", true)
  | 70 => ("TunnelBookModel", "size", "I", false)
  | 71 => ("TunnelBookModel", "letter", "I", false)
  | 72 => ("TunnelBookModel", "parts", "I", false)
  | 73 => ("TunnelBookModel", "firstEnd", "[J", true)
  | 74 => ("TunnelBookModel", "isDone", "Z", false)
  | 75 => ("TunnelBookModel", "now", "[J", true)
  | _ => ("TunnelBookModel", "then", "[J", true)
def tyX12 : Nat → FieldType := fun k => match k with
  | 0 => .int
  | 1 => .int
  | 2 => .int
  | 3 => .array .int
  | 4 => .array .int
  | 5 => .array .int
  | 6 => .array .int
  | 7 => .array .int
  | 8 => .array .int
  | 9 => .array .int
  | 10 => .array .int
  | 11 => .array .int
  | 12 => .array .int
  | 13 => .array .int
  | 14 => .array .int
  | 15 => .array .int
  | 16 => .int
  | 17 => .array .int
  | 18 => .array .int
  | 19 => .array .int
  | 20 => .array .int
  | 21 => .int
  | 22 => .long
  | 23 => .long
  | 24 => .array .byte
  | 25 => .int
  | 26 => .int
  | 27 => .int
  | 28 => .int
  | 29 => .int
  | 30 => .int
  | 31 => .int
  | 32 => .int
  | 33 => .int
  | 34 => .int
  | 35 => .int
  | 36 => .array .int
  | 37 => .array .int
  | 38 => .array .int
  | 39 => .int
  | 40 => .array .int
  | 41 => .array .int
  | 42 => .array .boolean
  | 43 => .array .boolean
  | 44 => .array .int
  | 45 => .array .int
  | 46 => .array .int
  | 47 => .int
  | 48 => .int
  | 49 => .int
  | 50 => .int
  | 51 => .int
  | 52 => .array .long
  | 53 => .int
  | 54 => .array .int
  | 55 => .array .int
  | 56 => .array .int
  | 57 => .array .int
  | 58 => .array .int
  | 59 => .int
  | 60 => .int
  | 61 => .int
  | 62 => .array .int
  | 63 => .int
  | 64 => .array .int
  | 65 => .array .int
  | 66 => .array .int
  | 67 => .array .int
  | 68 => .int
  | 69 => .array .long
  | 70 => .int
  | 71 => .int
  | 72 => .int
  | 73 => .array .long
  | 74 => .boolean
  | 75 => .array .long
  | _ => .array .long
theorem nmX12 : ∀ a, a < 77 → ∀ b, b < 77 → a ≠ b → (TX12 a).2.1 ≠ (TX12 b).2.1 := by decide +kernel
theorem tyX12_ok : ∀ k, k < 77 → parseFieldDescriptor (TX12 k).2.2.1 = some (tyX12 k) := by decide +kernel
abbrev cX12_init : ByteArray := prog_14_method_1_code
def yX12_init : MethodName := ⟨RX12, "<init>", "()V"⟩
abbrev cX12_in : ByteArray := prog_14_method_2_code
def yX12_in : MethodName := ⟨RX12, "in", "(JJJ)Z"⟩
abbrev cX12_isStation : ByteArray := prog_14_method_3_code
def yX12_isStation : MethodName := ⟨RX12, "isStation", "(I)Z"⟩
abbrev cX12_isAxis : ByteArray := prog_14_method_4_code
def yX12_isAxis : MethodName := ⟨RX12, "isAxis", "(I)Z"⟩
abbrev cX12_isKnown : ByteArray := prog_14_method_5_code
def yX12_isKnown : MethodName := ⟨RX12, "isKnown", "(I)Z"⟩
abbrev cX12_isPeg : ByteArray := prog_14_method_6_code
def yX12_isPeg : MethodName := ⟨RX12, "isPeg", "(II)Z"⟩
abbrev cX12_days : ByteArray := prog_14_method_7_code
def yX12_days : MethodName := ⟨RX12, "days", "(I)I"⟩
abbrev cX12_station : ByteArray := prog_14_method_8_code
def yX12_station : MethodName := ⟨RX12, "station", "()I"⟩
abbrev cX12_sight : ByteArray := prog_14_method_9_code
def yX12_sight : MethodName := ⟨RX12, "sight", "(IIIII)I"⟩
abbrev cX12_begins : ByteArray := prog_14_method_10_code
def yX12_begins : MethodName := ⟨RX12, "begins", "(I)V"⟩
abbrev cX12_bounds : ByteArray := prog_14_method_11_code
def yX12_bounds : MethodName := ⟨RX12, "bounds", "(IIJ)V"⟩
abbrev cX12_closes : ByteArray := prog_14_method_12_code
def yX12_closes : MethodName := ⟨RX12, "closes", "()Z"⟩
abbrev cX12_isClosed : ByteArray := prog_14_method_13_code
def yX12_isClosed : MethodName := ⟨RX12, "isClosed", "(III)Z"⟩
abbrev cX12_closed : ByteArray := prog_14_method_14_code
def yX12_closed : MethodName := ⟨RX12, "closed", "(II)I"⟩
abbrev cX12_gapOf : ByteArray := prog_14_method_15_code
def yX12_gapOf : MethodName := ⟨RX12, "gapOf", "(IIZ)I"⟩
abbrev cX12_gap : ByteArray := prog_14_method_16_code
def yX12_gap : MethodName := ⟨RX12, "gap", "(IIIIZ)I"⟩
abbrev cX12_span : ByteArray := prog_14_method_17_code
def yX12_span : MethodName := ⟨RX12, "span", "(IIIZ)I"⟩
abbrev cX12_blamed : ByteArray := prog_14_method_18_code
def yX12_blamed : MethodName := ⟨RX12, "blamed", "(III)I"⟩
abbrev cX12_reach : ByteArray := prog_14_method_19_code
def yX12_reach : MethodName := ⟨RX12, "reach", "(IIIIIII)I"⟩
abbrev cX12_mouth : ByteArray := prog_14_method_20_code
def yX12_mouth : MethodName := ⟨RX12, "mouth", "(II)Z"⟩
abbrev cX12_mark : ByteArray := prog_14_method_21_code
def yX12_mark : MethodName := ⟨RX12, "mark", "(IIII)I"⟩
abbrev cX12_isDug : ByteArray := prog_14_method_22_code
def yX12_isDug : MethodName := ⟨RX12, "isDug", "(I)Z"⟩
abbrev cX12_when : ByteArray := prog_14_method_23_code
def yX12_when : MethodName := ⟨RX12, "when", "(IIZ)I"⟩
abbrev cX12_between : ByteArray := prog_14_method_24_code
def yX12_between : MethodName := ⟨RX12, "between", "(IIIZ)I"⟩
abbrev cX12_lamps : ByteArray := prog_14_method_25_code
def yX12_lamps : MethodName := ⟨RX12, "lamps", "(IIIII)I"⟩
abbrev cX12_count : ByteArray := prog_14_method_26_code
def yX12_count : MethodName := ⟨RX12, "count", "(III)I"⟩
abbrev cX12_unit : ByteArray := prog_14_method_27_code
def yX12_unit : MethodName := ⟨RX12, "unit", "(Z)I"⟩
abbrev cX12_put : ByteArray := prog_14_method_28_code
def yX12_put : MethodName := ⟨RX12, "put", "(I)V"⟩
abbrev cX12_feed : ByteArray := prog_14_method_29_code
def yX12_feed : MethodName := ⟨RX12, "feed", "(IIIII)I"⟩
abbrev cX12_end : ByteArray := prog_14_method_30_code
def yX12_end : MethodName := ⟨RX12, "end", "(I)I"⟩
abbrev cX12_isLetter : ByteArray := prog_14_method_31_code
def yX12_isLetter : MethodName := ⟨RX12, "isLetter", "(I)Z"⟩
abbrev cX12_wordOf : ByteArray := prog_14_method_32_code
def yX12_wordOf : MethodName := ⟨RX12, "wordOf", "(J)I"⟩
abbrev cX12_next : ByteArray := prog_14_method_33_code
def yX12_next : MethodName := ⟨RX12, "next", "()V"⟩
abbrev cX12_isSign : ByteArray := prog_14_method_34_code
def yX12_isSign : MethodName := ⟨RX12, "isSign", "(I)Z"⟩
abbrev cX12_errs : ByteArray := prog_14_method_35_code
def yX12_errs : MethodName := ⟨RX12, "errs", "(I)V"⟩
abbrev cX12_emits : ByteArray := prog_14_method_36_code
def yX12_emits : MethodName := ⟨RX12, "emits", "(II)I"⟩
abbrev cX12_opens : ByteArray := prog_14_method_37_code
def yX12_opens : MethodName := ⟨RX12, "opens", "(ZI)V"⟩
abbrev cX12_def : ByteArray := prog_14_method_38_code
def yX12_def : MethodName := ⟨RX12, "def", "()V"⟩
abbrev cX12_closesBrace : ByteArray := prog_14_method_39_code
def yX12_closesBrace : MethodName := ⟨RX12, "closesBrace", "()V"⟩
abbrev cX12_stepIsOver : ByteArray := prog_14_method_40_code
def yX12_stepIsOver : MethodName := ⟨RX12, "stepIsOver", "()V"⟩
abbrev cX12_numbered : ByteArray := prog_14_method_41_code
def yX12_numbered : MethodName := ⟨RX12, "numbered", "(I)V"⟩
abbrev cX12_step : ByteArray := prog_14_method_42_code
def yX12_step : MethodName := ⟨RX12, "step", "()V"⟩
abbrev cX12_way : ByteArray := prog_14_method_43_code
def yX12_way : MethodName := ⟨RX12, "way", "(I)I"⟩
abbrev cX12_fault : ByteArray := prog_14_method_44_code
def yX12_fault : MethodName := ⟨RX12, "fault", "(I)I"⟩
abbrev cX12_tools : ByteArray := prog_14_method_45_code
def yX12_tools : MethodName := ⟨RX12, "tools", "(IIIII)Z"⟩
abbrev cX12_along : ByteArray := prog_14_method_46_code
def yX12_along : MethodName := ⟨RX12, "along", "(I)I"⟩
abbrev cX12_up : ByteArray := prog_14_method_47_code
def yX12_up : MethodName := ⟨RX12, "up", "(JJ)J"⟩
abbrev cX12_size : ByteArray := prog_14_method_48_code
def yX12_size : MethodName := ⟨RX12, "size", "(I)I"⟩
abbrev cX12_goesOn : ByteArray := prog_14_method_49_code
def yX12_goesOn : MethodName := ⟨RX12, "goesOn", "(I)V"⟩
abbrev cX12_does : ByteArray := prog_14_method_50_code
def yX12_does : MethodName := ⟨RX12, "does", "(II)V"⟩
abbrev cX12_isBeyond : ByteArray := prog_14_method_51_code
def yX12_isBeyond : MethodName := ⟨RX12, "isBeyond", "()Z"⟩
abbrev cX12_runs : ByteArray := prog_14_method_52_code
def yX12_runs : MethodName := ⟨RX12, "runs", "(II)Z"⟩
abbrev cX12_isWay : ByteArray := prog_14_method_53_code
def yX12_isWay : MethodName := ⟨RX12, "isWay", "(I)Z"⟩
abbrev cX12_run : ByteArray := prog_14_method_54_code
def yX12_run : MethodName := ⟨RX12, "run", "(III)I"⟩
abbrev cX12_isFirst : ByteArray := prog_14_method_55_code
def yX12_isFirst : MethodName := ⟨RX12, "isFirst", "(I)Z"⟩
abbrev cX12_runsBoth : ByteArray := prog_14_method_56_code
def yX12_runsBoth : MethodName := ⟨RX12, "runsBoth", "(II)V"⟩
abbrev cX12_meets : ByteArray := prog_14_method_57_code
def yX12_meets : MethodName := ⟨RX12, "meets", "(IIIZ)J"⟩
abbrev cX12_areAsked : ByteArray := prog_14_method_58_code
def yX12_areAsked : MethodName := ⟨RX12, "areAsked", "(IIII)Z"⟩
abbrev cX12_meeting : ByteArray := prog_14_method_59_code
def yX12_meeting : MethodName := ⟨RX12, "meeting", "(IIIIIZ)I"⟩
abbrev cX12_there : ByteArray := prog_14_method_60_code
def yX12_there : MethodName := ⟨RX12, "there", "(III)Z"⟩
abbrev cX12_fits : ByteArray := prog_14_method_61_code
def yX12_fits : MethodName := ⟨RX12, "fits", "(IIII)I"⟩
abbrev cX12_ways : ByteArray := prog_14_method_62_code
def yX12_ways : MethodName := ⟨RX12, "ways", "(IIIII)I"⟩
abbrev cX12_seek : ByteArray := prog_14_method_63_code
def yX12_seek : MethodName := ⟨RX12, "seek", "(IIIIII)Z"⟩
abbrev cX12_off : ByteArray := prog_14_method_64_code
def yX12_off : MethodName := ⟨RX12, "off", "(III)I"⟩
abbrev cX12_chance : ByteArray := prog_14_method_65_code
def yX12_chance : MethodName := ⟨RX12, "chance", "(IIZ)J"⟩
abbrev cX12_detour : ByteArray := prog_14_method_66_code
def yX12_detour : MethodName := ⟨RX12, "detour", "(IIZ)I"⟩
abbrev cX12_table : ByteArray := prog_14_method_67_code
def yX12_table : MethodName := ⟨RX12, "table", "(II)Z"⟩
abbrev cX12_repair : ByteArray := prog_14_method_68_code
def yX12_repair : MethodName := ⟨RX12, "repair", "(III)I"⟩
abbrev cX12_lime : ByteArray := prog_14_method_69_code
def yX12_lime : MethodName := ⟨RX12, "lime", "(I)Z"⟩
abbrev cX12_widthOf : ByteArray := prog_14_method_70_code
def yX12_widthOf : MethodName := ⟨RX12, "widthOf", "(IIII)I"⟩
abbrev cX12_down : ByteArray := prog_14_method_71_code
def yX12_down : MethodName := ⟨RX12, "down", "(JJ)J"⟩
abbrev cX12_lets : ByteArray := prog_14_method_72_code
def yX12_lets : MethodName := ⟨RX12, "lets", "(JI)I"⟩
abbrev cX12_isFlow : ByteArray := prog_14_method_73_code
def yX12_isFlow : MethodName := ⟨RX12, "isFlow", "(III)Z"⟩
abbrev cX12_letsBy : ByteArray := prog_14_method_74_code
def yX12_letsBy : MethodName := ⟨RX12, "letsBy", "(IIIIZ)I"⟩
abbrev cX12_narrowest : ByteArray := prog_14_method_75_code
def yX12_narrowest : MethodName := ⟨RX12, "narrowest", "(IIIZ)I"⟩
abbrev cX12_flow : ByteArray := prog_14_method_76_code
def yX12_flow : MethodName := ⟨RX12, "flow", "(IIIZ)I"⟩
abbrev cX12_narrow : ByteArray := prog_14_method_77_code
def yX12_narrow : MethodName := ⟨RX12, "narrow", "(III)I"⟩
abbrev cX12_about : ByteArray := prog_14_method_78_code
def yX12_about : MethodName := ⟨RX12, "about", "(I)I"⟩
def RJ9 : String := "java/lang/Math"
abbrev cJ9_floorDiv_f86c9 : ByteArray := prog_15_method_49_code
def yJ9_floorDiv_f86c9 : MethodName := ⟨RJ9, "floorDiv", "(JJ)J"⟩
abbrev cJ9_abs_0f7a4 : ByteArray := prog_15_method_59_code
def yJ9_abs_0f7a4 : MethodName := ⟨RJ9, "abs", "(I)I"⟩
abbrev cJ9_abs_067f4 : ByteArray := prog_15_method_61_code
def yJ9_abs_067f4 : MethodName := ⟨RJ9, "abs", "(J)J"⟩
abbrev cJ9_max_7cf53 : ByteArray := prog_15_method_65_code
def yJ9_max_7cf53 : MethodName := ⟨RJ9, "max", "(II)I"⟩
abbrev cJ9_max_f86c9 : ByteArray := prog_15_method_66_code
def yJ9_max_f86c9 : MethodName := ⟨RJ9, "max", "(JJ)J"⟩
abbrev cJ9_min_7cf53 : ByteArray := prog_15_method_69_code
def yJ9_min_7cf53 : MethodName := ⟨RJ9, "min", "(II)I"⟩
abbrev cJ9_min_f86c9 : ByteArray := prog_15_method_70_code
def yJ9_min_f86c9 : MethodName := ⟨RJ9, "min", "(JJ)J"⟩
def RJ0 : String := "java/lang/String"
abbrev cJ0_length_8abf5 : ByteArray := prog_16_method_54_code
def yJ0_length_8abf5 : MethodName := ⟨RJ0, "length", "()I"⟩
abbrev cJ0_charAt_5068e : ByteArray := prog_16_method_56_code
def yJ0_charAt_5068e : MethodName := ⟨RJ0, "charAt", "(I)C"⟩
abbrev cJ0_coder_7d493 : ByteArray := prog_16_method_152_code
def yJ0_coder_7d493 : MethodName := ⟨RJ0, "coder", "()B"⟩
abbrev cJ0_isLatin1_aae02 : ByteArray := prog_16_method_154_code
def yJ0_isLatin1_aae02 : MethodName := ⟨RJ0, "isLatin1", "()Z"⟩
abbrev cJ0_checkIndex_df160 : ByteArray := prog_16_method_155_code
def yJ0_checkIndex_df160 : MethodName := ⟨RJ0, "checkIndex", "(II)V"⟩
def RJ1 : String := "java/lang/StringLatin1"
abbrev cJ1_charAt_3b067 : ByteArray := prog_17_method_2_code
def yJ1_charAt_3b067 : MethodName := ⟨RJ1, "charAt", "([BI)C"⟩
def RJ2 : String := "java/lang/StringUTF16"
abbrev cJ2_getChar_3b067 : ByteArray := prog_18_method_5_code
def yJ2_getChar_3b067 : MethodName := ⟨RJ2, "getChar", "([BI)C"⟩
abbrev cJ2_length_9d52b : ByteArray := prog_18_method_6_code
def yJ2_length_9d52b : MethodName := ⟨RJ2, "length", "([B)I"⟩
abbrev cJ2_charAt_3b067 : ByteArray := prog_18_method_83_code
def yJ2_charAt_3b067 : MethodName := ⟨RJ2, "charAt", "([BI)C"⟩
abbrev cJ2_checkIndex_2214a : ByteArray := prog_18_method_91_code
def yJ2_checkIndex_2214a : MethodName := ⟨RJ2, "checkIndex", "(I[B)V"⟩
def RJ3 : String := "jdk/internal/util/Preconditions"
abbrev cJ3_checkIndex_8e157 : ByteArray := prog_19_method_11_code
def yJ3_checkIndex_8e157 : MethodName := ⟨RJ3, "checkIndex", "(IILjava/util/function/BiFunction;)I"⟩
def RL : String := "TunnelBookLaw"
abbrev cL_law : ByteArray := code
def yL_law : MethodName := ⟨RL, "law", "([I)Z"⟩
abbrev vwCl : List vw_C := [(RX0, TX0, 4), (RX1, TX1, 16), (RX2, TX2, 3), (RX3, TX3, 6), (RX4, TX4, 16), (RX5, TX5, 4), (RX6, TX6, 6), (RX7, TX7, 9), (RX8, TX8, 7), (RX9, TX9, 18), (RX10, TX10, 4), (RX11, TX11, 11), (RX12, TX12, 77)]
end
section
/-! the words that every method is given; what the numbers 32.. stand for; which instruction links what -/
def px_T : List Cond := lw_tbl.filter goodWord
abbrev px_Rn (ci : Nat) : String := [RX0, RX1, RX2, RX3, RX4, RX5, RX6, RX7, RX8, RX9, RX10, RX11, RX12, RL, RJ9, RJ0, RJ1, RJ3].getD ci RX0
abbrev px_Tf (ci : Nat) : u_T := (vwCl.getD ci (RX0, TX0, 4)).2.1
abbrev px_Nf (ci : Nat) : Nat := (vwCl.getD ci (RX0, TX0, 4)).2.2
def px_ty (ci : Nat) : Nat → FieldType := [tyX0, tyX1, tyX2, tyX3, tyX4, tyX5, tyX6, tyX7, tyX8, tyX9, tyX10, tyX11, tyX12].getD ci tyX0
def px_fc : FieldType → Nat
  | .int => 0
  | .long => 1
  | .boolean => 3
  | _ => 2
def px_ft (ci k : Nat) : Nat := px_fc (px_ty ci k)
def px_nth {α : Type} : List α → Nat → α → α
  | [], _, d => d
  | a :: _, 0, _ => a
  | _ :: l, k + 1, d => px_nth l k d
def px_shL : List (List (Nat × Nat × Int32)) := [
  [(0, 0, 0), (0, 0, 0), (0, 0, 0), (0, 0, 0), (0, 0, 0), (0, 0, 0), (0, 0, 0), (0, 0, 0), (0, 0, 0), (0, 0, 0), (0, 0, 0), (0, 0, 0), (0, 0, 0), (0, 0, 0), (0, 0, 0), (0, 0, 0)],
  [(0, 0, 0), (0, 0, 0), (0, 0, 0), (0, 0, 0), (0, 0, 0), (0, 0, 0), (0, 0, 0), (0, 0, 0), (0, 0, 0), (0, 0, 0), (0, 0, 0), (0, 0, 0), (0, 0, 0), (0, 0, 0), (0, 0, 0), (0, 0, 0)],
  [(11, 11, 11), (7, 9, 9), (20, 80, 80), (20, 80, 80), (20, 80, 80), (20, 80, 80), (20, 80, 80), (20, 80, 80), (21, 24, 24), (1, 16, 16), (20, 20, 20), (20, 20, 20), (20, 20, 20), (20, 20, 20), (20, 20, 20), (20, 20, 20)],
  [(20, 20, 20), (20, 20, 20), (20, 20, 20), (20, 20, 20), (20, 30, 30), (20, 30, 30), (20, 30, 30), (1, 16, 16), (20, 20, 20), (20, 20, 20), (20, 20, 20), (20, 20, 20), (20, 20, 20), (20, 20, 20), (20, 20, 20), (20, 20, 20)],
  [(20, 20, 20), (20, 20, 20), (20, 30, 30), (20, 30, 30), (20, 30, 30), (2, 3, 3), (8, 7, 7), (20, 400, 400), (20, 401, 401), (20, 401, 401), (20, 401, 401), (20, 401, 401), (4, 16, 16), (10, 4, 4), (20, 200, 200), (20, 200, 200)],
  [(20, 9, 9), (20, 9, 9), (20, 9, 9), (20, 8, 8), (20, 8, 8), (5, 4, 4), (9, 18, 18), (20, 80, 80), (20, 80, 80), (24, 6, 6), (23, 96, 96), (20, 864, 864), (3, 6, 6), (20, 3, 3), (20, 3, 3), (20, 3, 3)],
  [(20, 3, 3), (6, 6, 6), (20, 3, 3), (21, 123, 123), (21, 123, 123), (0, 4, 4), (20, 10, 10), (12, 77, 77), (20, 80, 80), (20, 80, 80), (20, 80, 80), (20, 80, 80), (20, 80, 80), (20, 80, 80), (20, 2, 2), (20, 40, 40)],
  [(20, 40, 40), (20, 40, 40), (20, 40, 40), (20, 40, 40), (20, 40, 40), (20, 40, 40), (20, 40, 40), (20, 40, 40), (20, 40, 40), (22, 400, 400), (20, 220, 220), (20, 220, 220), (20, 8, 8), (20, 9, 9), (20, 9, 9), (23, 10, 10)],
  [(23, 8, 8), (20, 6, 6), (20, 1320, 1320), (20, 1320, 1320), (21, 9, 9), (20, 90, 90), (20, 90, 90), (20, 3, 3), (20, 3, 3), (20, 3, 3), (20, 10, 10), (20, 30, 30), (20, 30, 30), (20, 30, 30), (20, 30, 30), (21, 576, 576)],
  [(21, 6, 6), (21, 129, 129), (21, 129, 129), (10, 4, 4), (20, 200, 200), (20, 200, 200), (10, 4, 4), (20, 200, 200), (20, 200, 200), (10, 4, 4), (20, 200, 200), (20, 200, 200), (10, 4, 4), (20, 200, 200), (20, 200, 200), (10, 4, 4)]]
/-- of a number: what it is (0 .. 12 an object of that kind, 20 ints, 21 longs, 22 bytes, 23 booleans, 24 Ways), how many places -/
def px_sh (k : Nat) : Nat × Nat × Int32 := px_nth (px_nth px_shL (k / 16) []) (k % 16) (bif Nat.beq ((k - 147) % 3) 0 then (10, 4, 4) else (20, 200, 200))
abbrev px_nb : Nat := 147
def px_tgL : List (List Nat) := [
  [33, 41, 55, 69, 70, 76, 85, 92, 97, 101],
  [34, 35, 36, 37, 38, 39, 40],
  [],
  [],
  [],
  [],
  [],
  [],
  [],
  [42, 43, 44, 45, 46, 47, 48, 49, 50, 51, 52, 53, 54],
  [],
  [],
  [],
  [],
  [],
  [],
  [],
  [],
  [],
  [],
  [],
  [],
  [],
  [56, 57, 58, 59, 60, 61, 62, 63, 64, 65, 66, 67, 68],
  [],
  [],
  [],
  [],
  [],
  [],
  [],
  [],
  [],
  [],
  [],
  [],
  [],
  [],
  [71, 72, 73, 74, 75],
  [],
  [],
  [],
  [],
  [],
  [70, 0, 80, 81, 82, 83, 84],
  [],
  [],
  [],
  [],
  [],
  [],
  [],
  [],
  [86, 89, 90, 91],
  [87, 88],
  [],
  [],
  [],
  [],
  [],
  [33, 85, 93, 94, 95, 96],
  [],
  [],
  [],
  [],
  [98],
  [],
  [],
  [],
  [33, 102],
  [],
  [0, 0, 0, 104, 105, 106, 107, 108, 109, 110, 111, 112, 113, 114, 115, 116, 0, 117, 118, 119, 120, 0, 0, 0, 121, 0, 0, 0, 0, 0, 0, 0, 0, 0, 0, 0, 122, 123, 124, 0, 125, 126, 127, 128, 129, 130, 131, 0, 0, 0, 0, 0, 132, 0, 133, 134, 135, 136, 137, 0, 0, 0, 138, 0, 139, 140, 141, 142, 0, 143, 0, 0, 0, 144, 0, 145, 146],
  [],
  [],
  [],
  [],
  [],
  [],
  [],
  [],
  [],
  [],
  [],
  [],
  [],
  [],
  [],
  [],
  [],
  [],
  [],
  [],
  [],
  [],
  [],
  [],
  [],
  [],
  [],
  [],
  [],
  [],
  [],
  [],
  [],
  [],
  [],
  [],
  [],
  [],
  [],
  [],
  [],
  [],
  []]
/-- what an object holds for good in a field (0: nothing) -/
def px_tg (o k : Nat) : Nat := px_nth (px_nth px_tgL (o - 32) []) k 0
def px_tf : List (Nat × Nat × Nat × Nat) := [
  (0, 11, 0, 1),
  (0, 15, 0, 2),
  (0, 19, 0, 3),
  (0, 22, 0, 0),
  (0, 30, 1, 13),
  (0, 43, 1, 0),
  (0, 46, 1, 1),
  (0, 49, 1, 2),
  (0, 71, 1, 5),
  (1, 11, 1, 0),
  (1, 15, 1, 1),
  (1, 18, 1, 2),
  (1, 21, 1, 3),
  (1, 24, 1, 4),
  (1, 27, 1, 5),
  (1, 30, 1, 6),
  (1, 33, 1, 7),
  (1, 36, 1, 8),
  (1, 39, 1, 9),
  (1, 42, 1, 10),
  (1, 45, 1, 11),
  (1, 48, 1, 12),
  (1, 51, 1, 13),
  (1, 55, 1, 14),
  (1, 58, 1, 15),
  (2, 9, 2, 0),
  (2, 15, 2, 1),
  (2, 19, 2, 2),
  (3, 9, 3, 2),
  (3, 15, 3, 3),
  (3, 18, 3, 4),
  (3, 21, 3, 5),
  (3, 24, 3, 0),
  (3, 28, 3, 1),
  (4, 12, 4, 1),
  (4, 18, 4, 2),
  (4, 22, 4, 3),
  (4, 25, 4, 4),
  (4, 28, 4, 5),
  (4, 31, 4, 6),
  (4, 34, 4, 7),
  (4, 38, 4, 8),
  (4, 41, 4, 9),
  (4, 46, 4, 10),
  (4, 49, 4, 11),
  (4, 52, 4, 12),
  (4, 55, 4, 13),
  (4, 58, 4, 14),
  (4, 61, 4, 15),
  (4, 64, 4, 0),
  (4, 74, 8, 6),
  (4, 90, 10, 3),
  (4, 93, 10, 2),
  (4, 165, 10, 1),
  (4, 178, 8, 3),
  (4, 184, 8, 1),
  (4, 186, 8, 2),
  (4, 188, 8, 4),
  (5, 12, 5, 0),
  (5, 20, 5, 1),
  (5, 24, 5, 2),
  (5, 28, 5, 3),
  (5, 48, 9, 17),
  (5, 53, 9, 8),
  (5, 57, 9, 9),
  (5, 60, 9, 10),
  (5, 63, 9, 11),
  (5, 66, 9, 12),
  (5, 69, 9, 13),
  (5, 72, 9, 14),
  (5, 75, 9, 15),
  (5, 79, 9, 16),
  (6, 11, 6, 0),
  (6, 15, 6, 1),
  (6, 19, 6, 2),
  (6, 22, 6, 3),
  (6, 26, 6, 4),
  (6, 29, 6, 5),
  (7, 11, 7, 0),
  (7, 15, 7, 1),
  (7, 18, 7, 2),
  (7, 21, 7, 3),
  (7, 24, 7, 4),
  (7, 27, 7, 5),
  (7, 30, 7, 6),
  (7, 34, 7, 7),
  (7, 38, 7, 8),
  (8, 9, 8, 0),
  (8, 13, 8, 1),
  (8, 16, 8, 2),
  (8, 19, 8, 3),
  (8, 22, 8, 4),
  (8, 25, 8, 5),
  (8, 29, 8, 6),
  (9, 9, 9, 0),
  (9, 13, 9, 1),
  (9, 16, 9, 2),
  (9, 20, 9, 3),
  (9, 23, 9, 4),
  (9, 26, 9, 5),
  (9, 29, 9, 6),
  (9, 32, 9, 7),
  (9, 35, 9, 8),
  (9, 39, 9, 9),
  (9, 42, 9, 10),
  (9, 45, 9, 11),
  (9, 48, 9, 12),
  (9, 51, 9, 13),
  (9, 54, 9, 14),
  (9, 57, 9, 15),
  (9, 60, 9, 16),
  (9, 63, 9, 17),
  (9, 71, 10, 3),
  (9, 75, 10, 2),
  (9, 84, 10, 0),
  (9, 87, 10, 1),
  (10, 11, 10, 0),
  (10, 15, 10, 1),
  (10, 18, 10, 2),
  (10, 22, 10, 3),
  (11, 10, 11, 0),
  (11, 19, 11, 1),
  (11, 23, 11, 2),
  (11, 29, 11, 3),
  (11, 36, 11, 4),
  (11, 45, 11, 5),
  (11, 52, 11, 6),
  (11, 61, 11, 7),
  (11, 68, 11, 8),
  (11, 77, 11, 9),
  (11, 81, 11, 10),
  (11, 162, 2, 0),
  (11, 165, 2, 2),
  (11, 168, 2, 1),
  (11, 178, 8, 5),
  (11, 188, 4, 1),
  (11, 196, 4, 13),
  (11, 199, 4, 14),
  (11, 202, 4, 15),
  (11, 205, 5, 0),
  (11, 272, 0, 2),
  (11, 279, 0, 3),
  (11, 282, 7, 7),
  (11, 285, 7, 8),
  (11, 288, 1, 13),
  (11, 298, 1, 14),
  (11, 300, 1, 15),
  (12, 7, 12, 1),
  (12, 13, 12, 3),
  (12, 17, 12, 4),
  (12, 20, 12, 5),
  (12, 23, 12, 6),
  (12, 26, 12, 7),
  (12, 29, 12, 8),
  (12, 32, 12, 9),
  (12, 35, 12, 10),
  (12, 38, 12, 11),
  (12, 41, 12, 12),
  (12, 44, 12, 13),
  (12, 47, 12, 14),
  (12, 50, 12, 15),
  (12, 53, 12, 17),
  (12, 56, 12, 18),
  (12, 59, 12, 19),
  (12, 62, 12, 20),
  (12, 65, 12, 24),
  (12, 69, 12, 33),
  (12, 72, 12, 34),
  (12, 75, 12, 36),
  (12, 78, 12, 37),
  (12, 81, 12, 38),
  (12, 84, 12, 40),
  (12, 87, 12, 41),
  (12, 90, 12, 42),
  (12, 94, 12, 43),
  (12, 97, 12, 44),
  (12, 100, 12, 45),
  (12, 103, 12, 46),
  (12, 106, 12, 47),
  (12, 109, 12, 48),
  (12, 112, 12, 49),
  (12, 115, 12, 50),
  (12, 118, 12, 51),
  (12, 121, 12, 52),
  (12, 125, 12, 54),
  (12, 128, 12, 55),
  (12, 131, 12, 56),
  (12, 134, 12, 57),
  (12, 137, 12, 58),
  (12, 140, 12, 62),
  (12, 143, 12, 64),
  (12, 146, 12, 65),
  (12, 149, 12, 66),
  (12, 152, 12, 67),
  (12, 155, 12, 69),
  (12, 158, 12, 73),
  (12, 161, 12, 75),
  (12, 164, 12, 76),
  (12, 177, 12, 0),
  (12, 191, 12, 2),
  (12, 194, 12, 70),
  (12, 239, 12, 16),
  (12, 249, 12, 21),
  (12, 252, 12, 22),
  (12, 256, 12, 23),
  (12, 259, 12, 25),
  (12, 291, 12, 27),
  (12, 294, 12, 26),
  (12, 297, 12, 28),
  (12, 300, 12, 29),
  (12, 310, 12, 30),
  (12, 322, 12, 31),
  (12, 325, 12, 32),
  (12, 328, 12, 35),
  (12, 337, 12, 39),
  (12, 343, 12, 71),
  (12, 354, 12, 72),
  (12, 396, 12, 53),
  (12, 418, 12, 74),
  (12, 450, 12, 59),
  (12, 453, 12, 60),
  (12, 456, 12, 61),
  (12, 469, 12, 63),
  (12, 472, 12, 68)]
def px_tc : List (Nat × Nat × Int32) := [(11, 97, -1000000), (11, 98, 1000000), (11, 120, -2000000000), (11, 155, 100000), (0, 58, -2000000000), (1, 61, 1000000), (2, 18, 2000000000), (2, 26, 2000000), (3, 42, -2000000000), (4, 110, 100000), (5, 52, -2000000000), (7, 45, -2000000000), (8, 57, 1000000), (9, 74, 1000000), (12, 218, -2000000000), (12, 321, 999999), (12, 357, 100000)]
def px_tl : List (Nat × Nat × Int64) := [(11, 253, -1), (0, 59, 1000), (0, 82, 9), (0, 84, 2), (6, 55, -1), (7, 50, 1000000000000), (9, 132, 9), (9, 134, 10), (9, 136, 999), (9, 138, 1000), (9, 143, 100000000), (12, 171, 2), (12, 173, 9999), (12, 175, 1000), (12, 187, -1000000), (12, 189, 1000000), (12, 197, 1000000000000), (12, 227, 10000), (12, 229, 100), (12, 231, 5000), (12, 237, 20000), (12, 245, 100000), (12, 247, 2000000), (12, 265, 97), (12, 267, 122), (12, 269, 65), (12, 271, 90), (12, 273, 149862), (12, 275, 11705253), (12, 277, 13851822), (12, 279, 13278437), (12, 281, 10099500), (12, 283, 866261428), (12, 285, 817809779), (12, 287, 2351), (12, 289, 54320584820), (12, 306, 64), (12, 308, 104), (12, 317, 48), (12, 319, 57), (12, 364, 5), (12, 379, 10), (12, 390, 16), (12, 392, 100000000), (12, 394, -100000000), (12, 409, 15), (12, 411, 8), (12, 416, 95), (12, 422, -2000000000), (12, 442, 9), (12, 444, 40), (12, 446, 3), (12, 448, 20), (12, 459, 12), (12, 461, -20), (12, 463, -1), (12, 495, 29)]
def px_fw (e : Nat × Nat × Nat × Nat) : Cond := .fieldLink (px_Rn e.1) e.2.1 (px_Tf e.2.2.1 e.2.2.2).1 (px_Tf e.2.2.1 e.2.2.2).2.1 (px_Tf e.2.2.1 e.2.2.2).2.2.1
theorem px_i1 (i : Nat) {w : Cond} (h : tables_1_1[i]? = some w) (g : goodWord w = true) : w ∈ px_T := List.mem_filter.mpr ⟨List.mem_append_right _ (List.mem_append_left _ (List.mem_of_getElem? h)), g⟩
theorem px_i2 (i : Nat) {w : Cond} (h : tables_1_2[i]? = some w) (g : goodWord w = true) : w ∈ px_T := List.mem_filter.mpr ⟨List.mem_append_right _ (List.mem_append_right _ (List.mem_append_left _ (List.mem_of_getElem? h))), g⟩
theorem px_i3 (i : Nat) {w : Cond} (h : tables_1_3[i]? = some w) (g : goodWord w = true) : w ∈ px_T := List.mem_filter.mpr ⟨List.mem_append_right _ (List.mem_append_right _ (List.mem_append_right _ (List.mem_append_left _ (List.mem_of_getElem? h)))), g⟩
theorem px_i4 (i : Nat) {w : Cond} (h : tables_1_4[i]? = some w) (g : goodWord w = true) : w ∈ px_T := List.mem_filter.mpr ⟨List.mem_append_right _ (List.mem_append_right _ (List.mem_append_right _ (List.mem_append_right _ (List.mem_append_left _ (List.mem_of_getElem? h))))), g⟩
theorem px_i5 (i : Nat) {w : Cond} (h : tables_1_5[i]? = some w) (g : goodWord w = true) : w ∈ px_T := List.mem_filter.mpr ⟨List.mem_append_right _ (List.mem_append_right _ (List.mem_append_right _ (List.mem_append_right _ (List.mem_append_right _ (List.mem_append_left _ (List.mem_of_getElem? h)))))), g⟩
theorem px_i6 (i : Nat) {w : Cond} (h : tables_1_6[i]? = some w) (g : goodWord w = true) : w ∈ px_T := List.mem_filter.mpr ⟨List.mem_append_right _ (List.mem_append_right _ (List.mem_append_right _ (List.mem_append_right _ (List.mem_append_right _ (List.mem_append_right _ (List.mem_append_left _ (List.mem_of_getElem? h))))))), g⟩
theorem px_i7 (i : Nat) {w : Cond} (h : tables_1_7[i]? = some w) (g : goodWord w = true) : w ∈ px_T := List.mem_filter.mpr ⟨List.mem_append_right _ (List.mem_append_right _ (List.mem_append_right _ (List.mem_append_right _ (List.mem_append_right _ (List.mem_append_right _ (List.mem_append_right _ (List.mem_append_left _ (List.mem_of_getElem? h)))))))), g⟩
theorem px_i8 (i : Nat) {w : Cond} (h : tables_1_8[i]? = some w) (g : goodWord w = true) : w ∈ px_T := List.mem_filter.mpr ⟨List.mem_append_right _ (List.mem_append_right _ (List.mem_append_right _ (List.mem_append_right _ (List.mem_append_right _ (List.mem_append_right _ (List.mem_append_right _ (List.mem_append_right _ (List.mem_of_getElem? h)))))))), g⟩
set_option maxRecDepth 100000 in
theorem px_tf_in_0 : ∀ e ∈ (px_tf.drop 0).take 20, px_fw e ∈ px_T := List.forall_mem_cons.mpr ⟨px_i2 178 rfl rfl, List.forall_mem_cons.mpr ⟨px_i2 179 rfl rfl, List.forall_mem_cons.mpr ⟨px_i2 181 rfl rfl, List.forall_mem_cons.mpr ⟨px_i2 177 rfl rfl, List.forall_mem_cons.mpr ⟨px_i1 89 rfl rfl, List.forall_mem_cons.mpr ⟨px_i1 72 rfl rfl, List.forall_mem_cons.mpr ⟨px_i1 74 rfl rfl, List.forall_mem_cons.mpr ⟨px_i1 76 rfl rfl, List.forall_mem_cons.mpr ⟨px_i1 80 rfl rfl, List.forall_mem_cons.mpr ⟨px_i1 71 rfl rfl, List.forall_mem_cons.mpr ⟨px_i1 73 rfl rfl, List.forall_mem_cons.mpr ⟨px_i1 75 rfl rfl, List.forall_mem_cons.mpr ⟨px_i1 77 rfl rfl, List.forall_mem_cons.mpr ⟨px_i1 78 rfl rfl, List.forall_mem_cons.mpr ⟨px_i1 79 rfl rfl, List.forall_mem_cons.mpr ⟨px_i1 81 rfl rfl, List.forall_mem_cons.mpr ⟨px_i1 82 rfl rfl, List.forall_mem_cons.mpr ⟨px_i1 83 rfl rfl, List.forall_mem_cons.mpr ⟨px_i1 84 rfl rfl, List.forall_mem_cons.mpr ⟨px_i1 85 rfl rfl, fun _ h => absurd h List.not_mem_nil⟩⟩⟩⟩⟩⟩⟩⟩⟩⟩⟩⟩⟩⟩⟩⟩⟩⟩⟩⟩
set_option maxRecDepth 100000 in
theorem px_tf_in_1 : ∀ e ∈ (px_tf.drop 20).take 20, px_fw e ∈ px_T := List.forall_mem_cons.mpr ⟨px_i1 86 rfl rfl, List.forall_mem_cons.mpr ⟨px_i1 87 rfl rfl, List.forall_mem_cons.mpr ⟨px_i1 88 rfl rfl, List.forall_mem_cons.mpr ⟨px_i1 91 rfl rfl, List.forall_mem_cons.mpr ⟨px_i1 93 rfl rfl, List.forall_mem_cons.mpr ⟨px_i1 135 rfl rfl, List.forall_mem_cons.mpr ⟨px_i1 137 rfl rfl, List.forall_mem_cons.mpr ⟨px_i1 139 rfl rfl, List.forall_mem_cons.mpr ⟨px_i2 129 rfl rfl, List.forall_mem_cons.mpr ⟨px_i2 130 rfl rfl, List.forall_mem_cons.mpr ⟨px_i2 131 rfl rfl, List.forall_mem_cons.mpr ⟨px_i2 132 rfl rfl, List.forall_mem_cons.mpr ⟨px_i2 127 rfl rfl, List.forall_mem_cons.mpr ⟨px_i2 128 rfl rfl, List.forall_mem_cons.mpr ⟨px_i1 215 rfl rfl, List.forall_mem_cons.mpr ⟨px_i1 217 rfl rfl, List.forall_mem_cons.mpr ⟨px_i1 218 rfl rfl, List.forall_mem_cons.mpr ⟨px_i1 219 rfl rfl, List.forall_mem_cons.mpr ⟨px_i1 220 rfl rfl, List.forall_mem_cons.mpr ⟨px_i1 221 rfl rfl, fun _ h => absurd h List.not_mem_nil⟩⟩⟩⟩⟩⟩⟩⟩⟩⟩⟩⟩⟩⟩⟩⟩⟩⟩⟩⟩
set_option maxRecDepth 100000 in
theorem px_tf_in_2 : ∀ e ∈ (px_tf.drop 40).take 20, px_fw e ∈ px_T := List.forall_mem_cons.mpr ⟨px_i1 222 rfl rfl, List.forall_mem_cons.mpr ⟨px_i1 223 rfl rfl, List.forall_mem_cons.mpr ⟨px_i1 224 rfl rfl, List.forall_mem_cons.mpr ⟨px_i1 225 rfl rfl, List.forall_mem_cons.mpr ⟨px_i1 226 rfl rfl, List.forall_mem_cons.mpr ⟨px_i1 227 rfl rfl, List.forall_mem_cons.mpr ⟨px_i1 228 rfl rfl, List.forall_mem_cons.mpr ⟨px_i1 230 rfl rfl, List.forall_mem_cons.mpr ⟨px_i1 232 rfl rfl, List.forall_mem_cons.mpr ⟨px_i1 214 rfl rfl, List.forall_mem_cons.mpr ⟨px_i1 166 rfl rfl, List.forall_mem_cons.mpr ⟨px_i1 203 rfl rfl, List.forall_mem_cons.mpr ⟨px_i1 200 rfl rfl, List.forall_mem_cons.mpr ⟨px_i1 198 rfl rfl, List.forall_mem_cons.mpr ⟨px_i1 160 rfl rfl, List.forall_mem_cons.mpr ⟨px_i1 156 rfl rfl, List.forall_mem_cons.mpr ⟨px_i1 158 rfl rfl, List.forall_mem_cons.mpr ⟨px_i1 162 rfl rfl, List.forall_mem_cons.mpr ⟨px_i2 106 rfl rfl, List.forall_mem_cons.mpr ⟨px_i2 108 rfl rfl, fun _ h => absurd h List.not_mem_nil⟩⟩⟩⟩⟩⟩⟩⟩⟩⟩⟩⟩⟩⟩⟩⟩⟩⟩⟩⟩
set_option maxRecDepth 100000 in
theorem px_tf_in_3 : ∀ e ∈ (px_tf.drop 60).take 20, px_fw e ∈ px_T := List.forall_mem_cons.mpr ⟨px_i2 109 rfl rfl, List.forall_mem_cons.mpr ⟨px_i2 110 rfl rfl, List.forall_mem_cons.mpr ⟨px_i2 66 rfl rfl, List.forall_mem_cons.mpr ⟨px_i2 48 rfl rfl, List.forall_mem_cons.mpr ⟨px_i2 50 rfl rfl, List.forall_mem_cons.mpr ⟨px_i2 52 rfl rfl, List.forall_mem_cons.mpr ⟨px_i2 54 rfl rfl, List.forall_mem_cons.mpr ⟨px_i2 56 rfl rfl, List.forall_mem_cons.mpr ⟨px_i2 58 rfl rfl, List.forall_mem_cons.mpr ⟨px_i2 60 rfl rfl, List.forall_mem_cons.mpr ⟨px_i2 62 rfl rfl, List.forall_mem_cons.mpr ⟨px_i2 64 rfl rfl, List.forall_mem_cons.mpr ⟨px_i2 152 rfl rfl, List.forall_mem_cons.mpr ⟨px_i2 153 rfl rfl, List.forall_mem_cons.mpr ⟨px_i2 154 rfl rfl, List.forall_mem_cons.mpr ⟨px_i2 155 rfl rfl, List.forall_mem_cons.mpr ⟨px_i2 156 rfl rfl, List.forall_mem_cons.mpr ⟨px_i2 157 rfl rfl, List.forall_mem_cons.mpr ⟨px_i1 33 rfl rfl, List.forall_mem_cons.mpr ⟨px_i1 34 rfl rfl, fun _ h => absurd h List.not_mem_nil⟩⟩⟩⟩⟩⟩⟩⟩⟩⟩⟩⟩⟩⟩⟩⟩⟩⟩⟩⟩
set_option maxRecDepth 100000 in
theorem px_tf_in_4 : ∀ e ∈ (px_tf.drop 80).take 20, px_fw e ∈ px_T := List.forall_mem_cons.mpr ⟨px_i1 35 rfl rfl, List.forall_mem_cons.mpr ⟨px_i1 36 rfl rfl, List.forall_mem_cons.mpr ⟨px_i1 37 rfl rfl, List.forall_mem_cons.mpr ⟨px_i1 38 rfl rfl, List.forall_mem_cons.mpr ⟨px_i1 39 rfl rfl, List.forall_mem_cons.mpr ⟨px_i1 40 rfl rfl, List.forall_mem_cons.mpr ⟨px_i1 42 rfl rfl, List.forall_mem_cons.mpr ⟨px_i1 154 rfl rfl, List.forall_mem_cons.mpr ⟨px_i1 155 rfl rfl, List.forall_mem_cons.mpr ⟨px_i1 157 rfl rfl, List.forall_mem_cons.mpr ⟨px_i1 159 rfl rfl, List.forall_mem_cons.mpr ⟨px_i1 161 rfl rfl, List.forall_mem_cons.mpr ⟨px_i1 163 rfl rfl, List.forall_mem_cons.mpr ⟨px_i1 165 rfl rfl, List.forall_mem_cons.mpr ⟨px_i2 39 rfl rfl, List.forall_mem_cons.mpr ⟨px_i2 40 rfl rfl, List.forall_mem_cons.mpr ⟨px_i2 41 rfl rfl, List.forall_mem_cons.mpr ⟨px_i2 42 rfl rfl, List.forall_mem_cons.mpr ⟨px_i2 43 rfl rfl, List.forall_mem_cons.mpr ⟨px_i2 44 rfl rfl, fun _ h => absurd h List.not_mem_nil⟩⟩⟩⟩⟩⟩⟩⟩⟩⟩⟩⟩⟩⟩⟩⟩⟩⟩⟩⟩
set_option maxRecDepth 100000 in
theorem px_tf_in_5 : ∀ e ∈ (px_tf.drop 100).take 20, px_fw e ∈ px_T := List.forall_mem_cons.mpr ⟨px_i2 45 rfl rfl, List.forall_mem_cons.mpr ⟨px_i2 46 rfl rfl, List.forall_mem_cons.mpr ⟨px_i2 47 rfl rfl, List.forall_mem_cons.mpr ⟨px_i2 49 rfl rfl, List.forall_mem_cons.mpr ⟨px_i2 51 rfl rfl, List.forall_mem_cons.mpr ⟨px_i2 53 rfl rfl, List.forall_mem_cons.mpr ⟨px_i2 55 rfl rfl, List.forall_mem_cons.mpr ⟨px_i2 57 rfl rfl, List.forall_mem_cons.mpr ⟨px_i2 59 rfl rfl, List.forall_mem_cons.mpr ⟨px_i2 61 rfl rfl, List.forall_mem_cons.mpr ⟨px_i2 63 rfl rfl, List.forall_mem_cons.mpr ⟨px_i2 65 rfl rfl, List.forall_mem_cons.mpr ⟨px_i1 204 rfl rfl, List.forall_mem_cons.mpr ⟨px_i1 201 rfl rfl, List.forall_mem_cons.mpr ⟨px_i1 195 rfl rfl, List.forall_mem_cons.mpr ⟨px_i1 197 rfl rfl, List.forall_mem_cons.mpr ⟨px_i1 194 rfl rfl, List.forall_mem_cons.mpr ⟨px_i1 196 rfl rfl, List.forall_mem_cons.mpr ⟨px_i1 199 rfl rfl, List.forall_mem_cons.mpr ⟨px_i1 202 rfl rfl, fun _ h => absurd h List.not_mem_nil⟩⟩⟩⟩⟩⟩⟩⟩⟩⟩⟩⟩⟩⟩⟩⟩⟩⟩⟩⟩
set_option maxRecDepth 100000 in
theorem px_tf_in_6 : ∀ e ∈ (px_tf.drop 120).take 20, px_fw e ∈ px_T := List.forall_mem_cons.mpr ⟨px_i2 192 rfl rfl, List.forall_mem_cons.mpr ⟨px_i2 193 rfl rfl, List.forall_mem_cons.mpr ⟨px_i2 194 rfl rfl, List.forall_mem_cons.mpr ⟨px_i2 195 rfl rfl, List.forall_mem_cons.mpr ⟨px_i2 196 rfl rfl, List.forall_mem_cons.mpr ⟨px_i2 197 rfl rfl, List.forall_mem_cons.mpr ⟨px_i2 198 rfl rfl, List.forall_mem_cons.mpr ⟨px_i2 199 rfl rfl, List.forall_mem_cons.mpr ⟨px_i2 200 rfl rfl, List.forall_mem_cons.mpr ⟨px_i2 201 rfl rfl, List.forall_mem_cons.mpr ⟨px_i2 202 rfl rfl, List.forall_mem_cons.mpr ⟨px_i1 136 rfl rfl, List.forall_mem_cons.mpr ⟨px_i1 140 rfl rfl, List.forall_mem_cons.mpr ⟨px_i1 138 rfl rfl, List.forall_mem_cons.mpr ⟨px_i1 164 rfl rfl, List.forall_mem_cons.mpr ⟨px_i1 216 rfl rfl, List.forall_mem_cons.mpr ⟨px_i1 229 rfl rfl, List.forall_mem_cons.mpr ⟨px_i1 231 rfl rfl, List.forall_mem_cons.mpr ⟨px_i1 233 rfl rfl, List.forall_mem_cons.mpr ⟨px_i2 107 rfl rfl, fun _ h => absurd h List.not_mem_nil⟩⟩⟩⟩⟩⟩⟩⟩⟩⟩⟩⟩⟩⟩⟩⟩⟩⟩⟩⟩
set_option maxRecDepth 100000 in
theorem px_tf_in_7 : ∀ e ∈ (px_tf.drop 140).take 20, px_fw e ∈ px_T := List.forall_mem_cons.mpr ⟨px_i2 180 rfl rfl, List.forall_mem_cons.mpr ⟨px_i2 182 rfl rfl, List.forall_mem_cons.mpr ⟨px_i1 41 rfl rfl, List.forall_mem_cons.mpr ⟨px_i1 43 rfl rfl, List.forall_mem_cons.mpr ⟨px_i1 90 rfl rfl, List.forall_mem_cons.mpr ⟨px_i1 92 rfl rfl, List.forall_mem_cons.mpr ⟨px_i1 94 rfl rfl, List.forall_mem_cons.mpr ⟨px_i5 185 rfl rfl, List.forall_mem_cons.mpr ⟨px_i5 187 rfl rfl, List.forall_mem_cons.mpr ⟨px_i5 188 rfl rfl, List.forall_mem_cons.mpr ⟨px_i5 189 rfl rfl, List.forall_mem_cons.mpr ⟨px_i5 190 rfl rfl, List.forall_mem_cons.mpr ⟨px_i5 191 rfl rfl, List.forall_mem_cons.mpr ⟨px_i5 192 rfl rfl, List.forall_mem_cons.mpr ⟨px_i5 193 rfl rfl, List.forall_mem_cons.mpr ⟨px_i5 194 rfl rfl, List.forall_mem_cons.mpr ⟨px_i5 195 rfl rfl, List.forall_mem_cons.mpr ⟨px_i5 196 rfl rfl, List.forall_mem_cons.mpr ⟨px_i5 197 rfl rfl, List.forall_mem_cons.mpr ⟨px_i5 198 rfl rfl, fun _ h => absurd h List.not_mem_nil⟩⟩⟩⟩⟩⟩⟩⟩⟩⟩⟩⟩⟩⟩⟩⟩⟩⟩⟩⟩
set_option maxRecDepth 100000 in
theorem px_tf_in_8 : ∀ e ∈ (px_tf.drop 160).take 20, px_fw e ∈ px_T := List.forall_mem_cons.mpr ⟨px_i5 199 rfl rfl, List.forall_mem_cons.mpr ⟨px_i5 201 rfl rfl, List.forall_mem_cons.mpr ⟨px_i5 202 rfl rfl, List.forall_mem_cons.mpr ⟨px_i5 203 rfl rfl, List.forall_mem_cons.mpr ⟨px_i5 204 rfl rfl, List.forall_mem_cons.mpr ⟨px_i5 208 rfl rfl, List.forall_mem_cons.mpr ⟨px_i5 217 rfl rfl, List.forall_mem_cons.mpr ⟨px_i5 218 rfl rfl, List.forall_mem_cons.mpr ⟨px_i5 220 rfl rfl, List.forall_mem_cons.mpr ⟨px_i5 221 rfl rfl, List.forall_mem_cons.mpr ⟨px_i5 222 rfl rfl, List.forall_mem_cons.mpr ⟨px_i5 224 rfl rfl, List.forall_mem_cons.mpr ⟨px_i5 225 rfl rfl, List.forall_mem_cons.mpr ⟨px_i5 226 rfl rfl, List.forall_mem_cons.mpr ⟨px_i5 227 rfl rfl, List.forall_mem_cons.mpr ⟨px_i5 228 rfl rfl, List.forall_mem_cons.mpr ⟨px_i5 229 rfl rfl, List.forall_mem_cons.mpr ⟨px_i5 230 rfl rfl, List.forall_mem_cons.mpr ⟨px_i5 231 rfl rfl, List.forall_mem_cons.mpr ⟨px_i5 232 rfl rfl, fun _ h => absurd h List.not_mem_nil⟩⟩⟩⟩⟩⟩⟩⟩⟩⟩⟩⟩⟩⟩⟩⟩⟩⟩⟩⟩
set_option maxRecDepth 100000 in
theorem px_tf_in_9 : ∀ e ∈ (px_tf.drop 180).take 20, px_fw e ∈ px_T := List.forall_mem_cons.mpr ⟨px_i5 233 rfl rfl, List.forall_mem_cons.mpr ⟨px_i5 234 rfl rfl, List.forall_mem_cons.mpr ⟨px_i5 235 rfl rfl, List.forall_mem_cons.mpr ⟨px_i5 236 rfl rfl, List.forall_mem_cons.mpr ⟨px_i5 238 rfl rfl, List.forall_mem_cons.mpr ⟨px_i5 239 rfl rfl, List.forall_mem_cons.mpr ⟨px_i6 0 rfl rfl, List.forall_mem_cons.mpr ⟨px_i6 1 rfl rfl, List.forall_mem_cons.mpr ⟨px_i6 2 rfl rfl, List.forall_mem_cons.mpr ⟨px_i6 6 rfl rfl, List.forall_mem_cons.mpr ⟨px_i6 8 rfl rfl, List.forall_mem_cons.mpr ⟨px_i6 9 rfl rfl, List.forall_mem_cons.mpr ⟨px_i6 10 rfl rfl, List.forall_mem_cons.mpr ⟨px_i6 11 rfl rfl, List.forall_mem_cons.mpr ⟨px_i6 13 rfl rfl, List.forall_mem_cons.mpr ⟨px_i6 17 rfl rfl, List.forall_mem_cons.mpr ⟨px_i6 19 rfl rfl, List.forall_mem_cons.mpr ⟨px_i6 20 rfl rfl, List.forall_mem_cons.mpr ⟨px_i5 184 rfl rfl, List.forall_mem_cons.mpr ⟨px_i5 186 rfl rfl, fun _ h => absurd h List.not_mem_nil⟩⟩⟩⟩⟩⟩⟩⟩⟩⟩⟩⟩⟩⟩⟩⟩⟩⟩⟩⟩
set_option maxRecDepth 100000 in
theorem px_tf_in_10 : ∀ e ∈ (px_tf.drop 200).take 20, px_fw e ∈ px_T := List.forall_mem_cons.mpr ⟨px_i6 14 rfl rfl, List.forall_mem_cons.mpr ⟨px_i5 200 rfl rfl, List.forall_mem_cons.mpr ⟨px_i5 205 rfl rfl, List.forall_mem_cons.mpr ⟨px_i5 206 rfl rfl, List.forall_mem_cons.mpr ⟨px_i5 207 rfl rfl, List.forall_mem_cons.mpr ⟨px_i5 209 rfl rfl, List.forall_mem_cons.mpr ⟨px_i5 211 rfl rfl, List.forall_mem_cons.mpr ⟨px_i5 210 rfl rfl, List.forall_mem_cons.mpr ⟨px_i5 212 rfl rfl, List.forall_mem_cons.mpr ⟨px_i5 213 rfl rfl, List.forall_mem_cons.mpr ⟨px_i5 214 rfl rfl, List.forall_mem_cons.mpr ⟨px_i5 215 rfl rfl, List.forall_mem_cons.mpr ⟨px_i5 216 rfl rfl, List.forall_mem_cons.mpr ⟨px_i5 219 rfl rfl, List.forall_mem_cons.mpr ⟨px_i5 223 rfl rfl, List.forall_mem_cons.mpr ⟨px_i6 15 rfl rfl, List.forall_mem_cons.mpr ⟨px_i6 16 rfl rfl, List.forall_mem_cons.mpr ⟨px_i5 237 rfl rfl, List.forall_mem_cons.mpr ⟨px_i6 18 rfl rfl, List.forall_mem_cons.mpr ⟨px_i6 3 rfl rfl, fun _ h => absurd h List.not_mem_nil⟩⟩⟩⟩⟩⟩⟩⟩⟩⟩⟩⟩⟩⟩⟩⟩⟩⟩⟩⟩
set_option maxRecDepth 100000 in
theorem px_tf_in_11 : ∀ e ∈ (px_tf.drop 220).take 20, px_fw e ∈ px_T := List.forall_mem_cons.mpr ⟨px_i6 4 rfl rfl, List.forall_mem_cons.mpr ⟨px_i6 5 rfl rfl, List.forall_mem_cons.mpr ⟨px_i6 7 rfl rfl, List.forall_mem_cons.mpr ⟨px_i6 12 rfl rfl, fun _ h => absurd h List.not_mem_nil⟩⟩⟩⟩
theorem px_dt {α : Type} {P : α → Prop} (l : List α) (i : Nat) (h : ∀ e ∈ (l.drop i).take 20, P e) (h2 : ∀ e ∈ l.drop (i + 20), P e) : ∀ e ∈ l.drop i, P e := by
  intro e he
  rw [← List.take_append_drop 20 (l.drop i), List.mem_append, List.drop_drop] at he
  exact he.elim (h e) (h2 e)
set_option maxRecDepth 100000 in
theorem px_tf_in : ∀ e ∈ px_tf, px_fw e ∈ px_T := (px_dt _ 0 px_tf_in_0 (px_dt _ 20 px_tf_in_1 (px_dt _ 40 px_tf_in_2 (px_dt _ 60 px_tf_in_3 (px_dt _ 80 px_tf_in_4 (px_dt _ 100 px_tf_in_5 (px_dt _ 120 px_tf_in_6 (px_dt _ 140 px_tf_in_7 (px_dt _ 160 px_tf_in_8 (px_dt _ 180 px_tf_in_9 (px_dt _ 200 px_tf_in_10 (px_dt _ 220 px_tf_in_11 (fun e he => absurd he (by rw [List.drop_eq_nil_of_le (Nat.le_of_ble_eq_true rfl)]; exact List.not_mem_nil))))))))))))))
theorem px_tf_lt : ∀ e ∈ px_tf, e.2.2.1 < 13 ∧ e.2.2.2 < px_Nf e.2.2.1 := by decide +kernel
set_option maxRecDepth 100000 in
theorem px_tc_in_0 : ∀ e ∈ (px_tc.drop 0).take 20, Cond.constant (px_Rn e.1) e.2.1 e.2.2 ∈ px_T := List.forall_mem_cons.mpr ⟨px_i3 8 rfl rfl, List.forall_mem_cons.mpr ⟨px_i3 9 rfl rfl, List.forall_mem_cons.mpr ⟨px_i3 53 rfl rfl, List.forall_mem_cons.mpr ⟨px_i3 147 rfl rfl, List.forall_mem_cons.mpr ⟨px_i5 146 rfl rfl, List.forall_mem_cons.mpr ⟨px_i3 82 rfl rfl, List.forall_mem_cons.mpr ⟨px_i1 134 rfl rfl, List.forall_mem_cons.mpr ⟨px_i3 162 rfl rfl, List.forall_mem_cons.mpr ⟨px_i5 7 rfl rfl, List.forall_mem_cons.mpr ⟨px_i4 85 rfl rfl, List.forall_mem_cons.mpr ⟨px_i4 223 rfl rfl, List.forall_mem_cons.mpr ⟨px_i3 59 rfl rfl, List.forall_mem_cons.mpr ⟨px_i3 222 rfl rfl, List.forall_mem_cons.mpr ⟨px_i4 171 rfl rfl, List.forall_mem_cons.mpr ⟨px_i6 231 rfl rfl, List.forall_mem_cons.mpr ⟨px_i7 95 rfl rfl, List.forall_mem_cons.mpr ⟨px_i7 132 rfl rfl, fun _ h => absurd h List.not_mem_nil⟩⟩⟩⟩⟩⟩⟩⟩⟩⟩⟩⟩⟩⟩⟩⟩⟩
set_option maxRecDepth 100000 in
theorem px_tc_in : ∀ e ∈ px_tc, Cond.constant (px_Rn e.1) e.2.1 e.2.2 ∈ px_T := (px_dt _ 0 px_tc_in_0 (fun e he => absurd he (by rw [List.drop_eq_nil_of_le (Nat.le_of_ble_eq_true rfl)]; exact List.not_mem_nil)))
set_option maxRecDepth 100000 in
theorem px_tl_in_0 : ∀ e ∈ (px_tl.drop 0).take 20, Cond.constantLong (px_Rn e.1) e.2.1 e.2.2 ∈ px_T := List.forall_mem_cons.mpr ⟨px_i5 52 rfl rfl, List.forall_mem_cons.mpr ⟨px_i5 147 rfl rfl, List.forall_mem_cons.mpr ⟨px_i5 159 rfl rfl, List.forall_mem_cons.mpr ⟨px_i5 160 rfl rfl, List.forall_mem_cons.mpr ⟨px_i5 87 rfl rfl, List.forall_mem_cons.mpr ⟨px_i3 32 rfl rfl, List.forall_mem_cons.mpr ⟨px_i4 204 rfl rfl, List.forall_mem_cons.mpr ⟨px_i4 205 rfl rfl, List.forall_mem_cons.mpr ⟨px_i4 206 rfl rfl, List.forall_mem_cons.mpr ⟨px_i4 207 rfl rfl, List.forall_mem_cons.mpr ⟨px_i4 218 rfl rfl, List.forall_mem_cons.mpr ⟨px_i6 195 rfl rfl, List.forall_mem_cons.mpr ⟨px_i6 209 rfl rfl, List.forall_mem_cons.mpr ⟨px_i6 180 rfl rfl, List.forall_mem_cons.mpr ⟨px_i6 200 rfl rfl, List.forall_mem_cons.mpr ⟨px_i6 201 rfl rfl, List.forall_mem_cons.mpr ⟨px_i6 218 rfl rfl, List.forall_mem_cons.mpr ⟨px_i7 9 rfl rfl, List.forall_mem_cons.mpr ⟨px_i7 10 rfl rfl, List.forall_mem_cons.mpr ⟨px_i7 11 rfl rfl, fun _ h => absurd h List.not_mem_nil⟩⟩⟩⟩⟩⟩⟩⟩⟩⟩⟩⟩⟩⟩⟩⟩⟩⟩⟩⟩
set_option maxRecDepth 100000 in
theorem px_tl_in_1 : ∀ e ∈ (px_tl.drop 20).take 20, Cond.constantLong (px_Rn e.1) e.2.1 e.2.2 ∈ px_T := List.forall_mem_cons.mpr ⟨px_i7 24 rfl rfl, List.forall_mem_cons.mpr ⟨px_i7 41 rfl rfl, List.forall_mem_cons.mpr ⟨px_i7 46 rfl rfl, List.forall_mem_cons.mpr ⟨px_i7 75 rfl rfl, List.forall_mem_cons.mpr ⟨px_i7 76 rfl rfl, List.forall_mem_cons.mpr ⟨px_i7 77 rfl rfl, List.forall_mem_cons.mpr ⟨px_i7 78 rfl rfl, List.forall_mem_cons.mpr ⟨px_i7 84 rfl rfl, List.forall_mem_cons.mpr ⟨px_i7 85 rfl rfl, List.forall_mem_cons.mpr ⟨px_i7 86 rfl rfl, List.forall_mem_cons.mpr ⟨px_i7 87 rfl rfl, List.forall_mem_cons.mpr ⟨px_i7 88 rfl rfl, List.forall_mem_cons.mpr ⟨px_i7 89 rfl rfl, List.forall_mem_cons.mpr ⟨px_i7 90 rfl rfl, List.forall_mem_cons.mpr ⟨px_i7 91 rfl rfl, List.forall_mem_cons.mpr ⟨px_i7 92 rfl rfl, List.forall_mem_cons.mpr ⟨px_i7 79 rfl rfl, List.forall_mem_cons.mpr ⟨px_i7 80 rfl rfl, List.forall_mem_cons.mpr ⟨px_i7 93 rfl rfl, List.forall_mem_cons.mpr ⟨px_i7 94 rfl rfl, fun _ h => absurd h List.not_mem_nil⟩⟩⟩⟩⟩⟩⟩⟩⟩⟩⟩⟩⟩⟩⟩⟩⟩⟩⟩⟩
set_option maxRecDepth 100000 in
theorem px_tl_in_2 : ∀ e ∈ (px_tl.drop 40).take 20, Cond.constantLong (px_Rn e.1) e.2.1 e.2.2 ∈ px_T := List.forall_mem_cons.mpr ⟨px_i7 67 rfl rfl, List.forall_mem_cons.mpr ⟨px_i7 166 rfl rfl, List.forall_mem_cons.mpr ⟨px_i7 173 rfl rfl, List.forall_mem_cons.mpr ⟨px_i7 178 rfl rfl, List.forall_mem_cons.mpr ⟨px_i7 179 rfl rfl, List.forall_mem_cons.mpr ⟨px_i7 149 rfl rfl, List.forall_mem_cons.mpr ⟨px_i7 150 rfl rfl, List.forall_mem_cons.mpr ⟨px_i7 191 rfl rfl, List.forall_mem_cons.mpr ⟨px_i7 200 rfl rfl, List.forall_mem_cons.mpr ⟨px_i7 218 rfl rfl, List.forall_mem_cons.mpr ⟨px_i7 219 rfl rfl, List.forall_mem_cons.mpr ⟨px_i7 220 rfl rfl, List.forall_mem_cons.mpr ⟨px_i7 221 rfl rfl, List.forall_mem_cons.mpr ⟨px_i7 226 rfl rfl, List.forall_mem_cons.mpr ⟨px_i7 227 rfl rfl, List.forall_mem_cons.mpr ⟨px_i7 228 rfl rfl, List.forall_mem_cons.mpr ⟨px_i8 44 rfl rfl, fun _ h => absurd h List.not_mem_nil⟩⟩⟩⟩⟩⟩⟩⟩⟩⟩⟩⟩⟩⟩⟩⟩⟩
set_option maxRecDepth 100000 in
theorem px_tl_in : ∀ e ∈ px_tl, Cond.constantLong (px_Rn e.1) e.2.1 e.2.2 ∈ px_T := (px_dt _ 0 px_tl_in_0 (px_dt _ 20 px_tl_in_1 (px_dt _ 40 px_tl_in_2 (fun e he => absurd he (by rw [List.drop_eq_nil_of_le (Nat.le_of_ble_eq_true rfl)]; exact List.not_mem_nil)))))
theorem px_li_0 : ∀ k, k < 4 → u_lay RX0 TX0 k ∈ px_T := fun k h => match k, h with
  | 0, _ => px_i2 183 rfl rfl
  | 1, _ => px_i2 185 rfl rfl
  | 2, _ => px_i2 187 rfl rfl
  | 3, _ => px_i2 189 rfl rfl
  | k + 4, h => absurd h (by omega)
theorem px_li_1 : ∀ k, k < 16 → u_lay RX1 TX1 k ∈ px_T := fun k h => match k, h with
  | 0, _ => px_i1 95 rfl rfl
  | 1, _ => px_i1 97 rfl rfl
  | 2, _ => px_i1 99 rfl rfl
  | 3, _ => px_i1 101 rfl rfl
  | 4, _ => px_i1 103 rfl rfl
  | 5, _ => px_i1 105 rfl rfl
  | 6, _ => px_i1 107 rfl rfl
  | 7, _ => px_i1 109 rfl rfl
  | 8, _ => px_i1 111 rfl rfl
  | 9, _ => px_i1 113 rfl rfl
  | 10, _ => px_i1 115 rfl rfl
  | 11, _ => px_i1 117 rfl rfl
  | 12, _ => px_i1 119 rfl rfl
  | 13, _ => px_i1 121 rfl rfl
  | 14, _ => px_i1 123 rfl rfl
  | 15, _ => px_i1 125 rfl rfl
  | k + 16, h => absurd h (by omega)
theorem px_li_2 : ∀ k, k < 3 → u_lay RX2 TX2 k ∈ px_T := fun k h => match k, h with
  | 0, _ => px_i1 141 rfl rfl
  | 1, _ => px_i1 143 rfl rfl
  | 2, _ => px_i1 145 rfl rfl
  | k + 3, h => absurd h (by omega)
theorem px_li_3 : ∀ k, k < 6 → u_lay RX3 TX3 k ∈ px_T := fun k h => match k, h with
  | 0, _ => px_i2 133 rfl rfl
  | 1, _ => px_i2 135 rfl rfl
  | 2, _ => px_i2 137 rfl rfl
  | 3, _ => px_i2 139 rfl rfl
  | 4, _ => px_i2 141 rfl rfl
  | 5, _ => px_i2 143 rfl rfl
  | k + 6, h => absurd h (by omega)
theorem px_li_4 : ∀ k, k < 16 → u_lay RX4 TX4 k ∈ px_T := fun k h => match k, h with
  | 0, _ => px_i1 234 rfl rfl
  | 1, _ => px_i1 236 rfl rfl
  | 2, _ => px_i1 238 rfl rfl
  | 3, _ => px_i2 0 rfl rfl
  | 4, _ => px_i2 2 rfl rfl
  | 5, _ => px_i2 4 rfl rfl
  | 6, _ => px_i2 6 rfl rfl
  | 7, _ => px_i2 8 rfl rfl
  | 8, _ => px_i2 10 rfl rfl
  | 9, _ => px_i2 12 rfl rfl
  | 10, _ => px_i2 14 rfl rfl
  | 11, _ => px_i2 16 rfl rfl
  | 12, _ => px_i2 18 rfl rfl
  | 13, _ => px_i2 20 rfl rfl
  | 14, _ => px_i2 22 rfl rfl
  | 15, _ => px_i2 24 rfl rfl
  | k + 16, h => absurd h (by omega)
theorem px_li_5 : ∀ k, k < 4 → u_lay RX5 TX5 k ∈ px_T := fun k h => match k, h with
  | 0, _ => px_i2 111 rfl rfl
  | 1, _ => px_i2 113 rfl rfl
  | 2, _ => px_i2 115 rfl rfl
  | 3, _ => px_i2 117 rfl rfl
  | k + 4, h => absurd h (by omega)
theorem px_li_6 : ∀ k, k < 6 → u_lay RX6 TX6 k ∈ px_T := fun k h => match k, h with
  | 0, _ => px_i2 158 rfl rfl
  | 1, _ => px_i2 160 rfl rfl
  | 2, _ => px_i2 162 rfl rfl
  | 3, _ => px_i2 164 rfl rfl
  | 4, _ => px_i2 166 rfl rfl
  | 5, _ => px_i2 168 rfl rfl
  | k + 6, h => absurd h (by omega)
theorem px_li_7 : ∀ k, k < 9 → u_lay RX7 TX7 k ∈ px_T := fun k h => match k, h with
  | 0, _ => px_i1 44 rfl rfl
  | 1, _ => px_i1 46 rfl rfl
  | 2, _ => px_i1 48 rfl rfl
  | 3, _ => px_i1 50 rfl rfl
  | 4, _ => px_i1 52 rfl rfl
  | 5, _ => px_i1 54 rfl rfl
  | 6, _ => px_i1 56 rfl rfl
  | 7, _ => px_i1 58 rfl rfl
  | 8, _ => px_i1 60 rfl rfl
  | k + 9, h => absurd h (by omega)
theorem px_li_8 : ∀ k, k < 7 → u_lay RX8 TX8 k ∈ px_T := fun k h => match k, h with
  | 0, _ => px_i1 167 rfl rfl
  | 1, _ => px_i1 169 rfl rfl
  | 2, _ => px_i1 171 rfl rfl
  | 3, _ => px_i1 173 rfl rfl
  | 4, _ => px_i1 175 rfl rfl
  | 5, _ => px_i1 177 rfl rfl
  | 6, _ => px_i1 179 rfl rfl
  | k + 7, h => absurd h (by omega)
theorem px_li_9 : ∀ k, k < 18 → u_lay RX9 TX9 k ∈ px_T := fun k h => match k, h with
  | 0, _ => px_i2 67 rfl rfl
  | 1, _ => px_i2 69 rfl rfl
  | 2, _ => px_i2 71 rfl rfl
  | 3, _ => px_i2 73 rfl rfl
  | 4, _ => px_i2 75 rfl rfl
  | 5, _ => px_i2 77 rfl rfl
  | 6, _ => px_i2 79 rfl rfl
  | 7, _ => px_i2 81 rfl rfl
  | 8, _ => px_i2 83 rfl rfl
  | 9, _ => px_i2 85 rfl rfl
  | 10, _ => px_i2 87 rfl rfl
  | 11, _ => px_i2 89 rfl rfl
  | 12, _ => px_i2 91 rfl rfl
  | 13, _ => px_i2 93 rfl rfl
  | 14, _ => px_i2 95 rfl rfl
  | 15, _ => px_i2 97 rfl rfl
  | 16, _ => px_i2 99 rfl rfl
  | 17, _ => px_i2 101 rfl rfl
  | k + 18, h => absurd h (by omega)
theorem px_li_10 : ∀ k, k < 4 → u_lay RX10 TX10 k ∈ px_T := fun k h => match k, h with
  | 0, _ => px_i1 205 rfl rfl
  | 1, _ => px_i1 207 rfl rfl
  | 2, _ => px_i1 209 rfl rfl
  | 3, _ => px_i1 211 rfl rfl
  | k + 4, h => absurd h (by omega)
theorem px_li_11 : ∀ k, k < 11 → u_lay RX11 TX11 k ∈ px_T := fun k h => match k, h with
  | 0, _ => px_i2 203 rfl rfl
  | 1, _ => px_i2 205 rfl rfl
  | 2, _ => px_i2 207 rfl rfl
  | 3, _ => px_i2 209 rfl rfl
  | 4, _ => px_i2 211 rfl rfl
  | 5, _ => px_i2 213 rfl rfl
  | 6, _ => px_i2 215 rfl rfl
  | 7, _ => px_i2 217 rfl rfl
  | 8, _ => px_i2 219 rfl rfl
  | 9, _ => px_i2 221 rfl rfl
  | 10, _ => px_i2 223 rfl rfl
  | k + 11, h => absurd h (by omega)
theorem px_li_12 : ∀ k, k < 77 → u_lay RX12 TX12 k ∈ px_T := fun k h => match k, h with
  | 0, _ => px_i6 21 rfl rfl
  | 1, _ => px_i6 23 rfl rfl
  | 2, _ => px_i6 25 rfl rfl
  | 3, _ => px_i6 27 rfl rfl
  | 4, _ => px_i6 29 rfl rfl
  | 5, _ => px_i6 31 rfl rfl
  | 6, _ => px_i6 33 rfl rfl
  | 7, _ => px_i6 35 rfl rfl
  | 8, _ => px_i6 37 rfl rfl
  | 9, _ => px_i6 39 rfl rfl
  | 10, _ => px_i6 41 rfl rfl
  | 11, _ => px_i6 43 rfl rfl
  | 12, _ => px_i6 45 rfl rfl
  | 13, _ => px_i6 47 rfl rfl
  | 14, _ => px_i6 49 rfl rfl
  | 15, _ => px_i6 51 rfl rfl
  | 16, _ => px_i6 53 rfl rfl
  | 17, _ => px_i6 55 rfl rfl
  | 18, _ => px_i6 57 rfl rfl
  | 19, _ => px_i6 59 rfl rfl
  | 20, _ => px_i6 61 rfl rfl
  | 21, _ => px_i6 63 rfl rfl
  | 22, _ => px_i6 65 rfl rfl
  | 23, _ => px_i6 67 rfl rfl
  | 24, _ => px_i6 69 rfl rfl
  | 25, _ => px_i6 71 rfl rfl
  | 26, _ => px_i6 73 rfl rfl
  | 27, _ => px_i6 75 rfl rfl
  | 28, _ => px_i6 77 rfl rfl
  | 29, _ => px_i6 79 rfl rfl
  | 30, _ => px_i6 81 rfl rfl
  | 31, _ => px_i6 83 rfl rfl
  | 32, _ => px_i6 85 rfl rfl
  | 33, _ => px_i6 87 rfl rfl
  | 34, _ => px_i6 89 rfl rfl
  | 35, _ => px_i6 91 rfl rfl
  | 36, _ => px_i6 93 rfl rfl
  | 37, _ => px_i6 95 rfl rfl
  | 38, _ => px_i6 97 rfl rfl
  | 39, _ => px_i6 99 rfl rfl
  | 40, _ => px_i6 101 rfl rfl
  | 41, _ => px_i6 103 rfl rfl
  | 42, _ => px_i6 105 rfl rfl
  | 43, _ => px_i6 107 rfl rfl
  | 44, _ => px_i6 109 rfl rfl
  | 45, _ => px_i6 111 rfl rfl
  | 46, _ => px_i6 113 rfl rfl
  | 47, _ => px_i6 115 rfl rfl
  | 48, _ => px_i6 117 rfl rfl
  | 49, _ => px_i6 119 rfl rfl
  | 50, _ => px_i6 121 rfl rfl
  | 51, _ => px_i6 123 rfl rfl
  | 52, _ => px_i6 125 rfl rfl
  | 53, _ => px_i6 127 rfl rfl
  | 54, _ => px_i6 129 rfl rfl
  | 55, _ => px_i6 131 rfl rfl
  | 56, _ => px_i6 133 rfl rfl
  | 57, _ => px_i6 135 rfl rfl
  | 58, _ => px_i6 137 rfl rfl
  | 59, _ => px_i6 139 rfl rfl
  | 60, _ => px_i6 141 rfl rfl
  | 61, _ => px_i6 143 rfl rfl
  | 62, _ => px_i6 145 rfl rfl
  | 63, _ => px_i6 147 rfl rfl
  | 64, _ => px_i6 149 rfl rfl
  | 65, _ => px_i6 151 rfl rfl
  | 66, _ => px_i6 153 rfl rfl
  | 67, _ => px_i6 155 rfl rfl
  | 68, _ => px_i6 157 rfl rfl
  | 69, _ => px_i6 159 rfl rfl
  | 70, _ => px_i6 161 rfl rfl
  | 71, _ => px_i6 163 rfl rfl
  | 72, _ => px_i6 165 rfl rfl
  | 73, _ => px_i6 167 rfl rfl
  | 74, _ => px_i6 169 rfl rfl
  | 75, _ => px_i6 171 rfl rfl
  | 76, _ => px_i6 173 rfl rfl
  | k + 77, h => absurd h (by omega)
theorem px_cl_in : ∀ ci, ci < 13 → ∀ w ∈ u_ws (px_Rn ci) (px_Tf ci) (px_Nf ci), w ∈ px_T := by
  intro ci h w hw
  obtain ⟨k, hk, rfl⟩ := List.mem_map.mp hw
  have hk := List.mem_range.mp hk
  match ci, h with
  | 0, _ => exact px_li_0 k hk
  | 1, _ => exact px_li_1 k hk
  | 2, _ => exact px_li_2 k hk
  | 3, _ => exact px_li_3 k hk
  | 4, _ => exact px_li_4 k hk
  | 5, _ => exact px_li_5 k hk
  | 6, _ => exact px_li_6 k hk
  | 7, _ => exact px_li_7 k hk
  | 8, _ => exact px_li_8 k hk
  | 9, _ => exact px_li_9 k hk
  | 10, _ => exact px_li_10 k hk
  | 11, _ => exact px_li_11 k hk
  | 12, _ => exact px_li_12 k hk
  | n + 13, h => exact absurd h (by omega)
theorem px_cl_ty : ∀ ci, ci < 13 → ∀ k, k < px_Nf ci → parseFieldDescriptor (px_Tf ci k).2.2.1 = some (px_ty ci k) := by decide +kernel
theorem px_cl_nm : ∀ ci, ci < 13 → ∀ a, a < px_Nf ci → ∀ b, b < px_Nf ci → a ≠ b → (px_Tf ci a).2.1 ≠ (px_Tf ci b).2.1 := by decide +kernel
theorem px_cl_at : ∀ ci, ci < 13 → vwCl[ci]? = some (px_Rn ci, px_Tf ci, px_Nf ci) := by
  intro ci h
  match ci, h with
  | 0, _ => rfl
  | 1, _ => rfl
  | 2, _ => rfl
  | 3, _ => rfl
  | 4, _ => rfl
  | 5, _ => rfl
  | 6, _ => rfl
  | 7, _ => rfl
  | 8, _ => rfl
  | 9, _ => rfl
  | 10, _ => rfl
  | 11, _ => rfl
  | 12, _ => rfl
  | n + 13, h => exact absurd h (by omega)
def px_tn : List (String × Nat × Nat) := [("TunnelBook", 7, 7), ("TunnelBook", 16, 1), ("TunnelBook", 26, 2), ("TunnelBook", 33, 8), ("TunnelBook", 40, 4), ("TunnelBook", 49, 5), ("TunnelBook", 56, 3), ("TunnelBook", 65, 6), ("TunnelBook", 72, 0), ("TunnelBook$Reader", 9, 10), ("TunnelBook$Runs", 9, 9), ("TunnelBook$Runs", 18, 10), ("TunnelBookLaw", 7, 11), ("TunnelBookLaw", 10, 12)]
set_option maxRecDepth 100000 in
theorem px_tn_in_0 : ∀ e ∈ (px_tn.drop 0).take 20, Cond.classLink e.1 e.2.1 (px_Rn e.2.2) ∈ px_T := List.forall_mem_cons.mpr ⟨px_i1 27 rfl rfl, List.forall_mem_cons.mpr ⟨px_i1 65 rfl rfl, List.forall_mem_cons.mpr ⟨px_i1 128 rfl rfl, List.forall_mem_cons.mpr ⟨px_i1 148 rfl rfl, List.forall_mem_cons.mpr ⟨px_i1 182 rfl rfl, List.forall_mem_cons.mpr ⟨px_i2 27 rfl rfl, List.forall_mem_cons.mpr ⟨px_i2 121 rfl rfl, List.forall_mem_cons.mpr ⟨px_i2 146 rfl rfl, List.forall_mem_cons.mpr ⟨px_i2 171 rfl rfl, List.forall_mem_cons.mpr ⟨px_i1 188 rfl rfl, List.forall_mem_cons.mpr ⟨px_i2 33 rfl rfl, List.forall_mem_cons.mpr ⟨px_i2 104 rfl rfl, List.forall_mem_cons.mpr ⟨px_i1 19 rfl rfl, List.forall_mem_cons.mpr ⟨px_i5 178 rfl rfl, fun _ h => absurd h List.not_mem_nil⟩⟩⟩⟩⟩⟩⟩⟩⟩⟩⟩⟩⟩⟩
set_option maxRecDepth 100000 in
theorem px_tn_in : ∀ e ∈ px_tn, Cond.classLink e.1 e.2.1 (px_Rn e.2.2) ∈ px_T := (px_dt _ 0 px_tn_in_0 (fun e he => absurd he (by rw [List.drop_eq_nil_of_le (Nat.le_of_ble_eq_true rfl)]; exact List.not_mem_nil)))
theorem px_tn_lt : ∀ e ∈ px_tn, e.2.2 < 13 := by decide +kernel
theorem px_in_ok : ∀ ci, ci < 13 → Cond.instantiable (px_Rn ci) (px_Nf ci) ∈ px_T ∧ Cond.initialized (px_Rn ci) ∈ px_T := by
  intro ci h
  match ci, h with
  | 0, _ => exact ⟨px_i2 172 rfl rfl, px_i1 12 rfl rfl⟩
  | 1, _ => exact ⟨px_i1 66 rfl rfl, px_i1 3 rfl rfl⟩
  | 2, _ => exact ⟨px_i1 129 rfl rfl, px_i1 4 rfl rfl⟩
  | 3, _ => exact ⟨px_i2 122 rfl rfl, px_i1 10 rfl rfl⟩
  | 4, _ => exact ⟨px_i1 183 rfl rfl, px_i1 6 rfl rfl⟩
  | 5, _ => exact ⟨px_i2 28 rfl rfl, px_i1 8 rfl rfl⟩
  | 6, _ => exact ⟨px_i2 147 rfl rfl, px_i1 11 rfl rfl⟩
  | 7, _ => exact ⟨px_i1 28 rfl rfl, px_i1 2 rfl rfl⟩
  | 8, _ => exact ⟨px_i1 149 rfl rfl, px_i1 5 rfl rfl⟩
  | 9, _ => exact ⟨px_i2 34 rfl rfl, px_i1 9 rfl rfl⟩
  | 10, _ => exact ⟨px_i1 189 rfl rfl, px_i1 7 rfl rfl⟩
  | 11, _ => exact ⟨px_i1 20 rfl rfl, px_i1 1 rfl rfl⟩
  | 12, _ => exact ⟨px_i5 179 rfl rfl, px_i1 13 rfl rfl⟩
  | n + 13, h => exact absurd h (by omega)
theorem px_ac_int : Cond.arrayClass .int ∈ px_T := px_i1 63 rfl rfl
theorem px_ac_long : Cond.arrayClass .long ∈ px_T := px_i1 64 rfl rfl
theorem px_ac_byte : Cond.arrayClass .byte ∈ px_T := px_i4 131 rfl rfl
theorem px_ac_boolean : Cond.arrayClass .boolean ∈ px_T := px_i2 120 rfl rfl
def px_nest : List (String × Nat × MethodName × String) := [(RX11, 9, yX7_init, "TunnelBook"), (RX11, 18, yX1_init, "TunnelBook"), (RX11, 28, yX2_init, "TunnelBook"), (RX11, 35, yX8_init, "TunnelBook"), (RX11, 51, yX5_init, "TunnelBook"), (RX11, 67, yX6_init, "TunnelBook"), (RX0, 26, yX11_within, "TunnelBook"), (RX1, 62, yX11_ordered, "TunnelBook"), (RX1, 66, yX11_within, "TunnelBook"), (RX2, 22, yX11_within, "TunnelBook"), (RX2, 27, yX11_ordered, "TunnelBook"), (RX3, 32, yX11_isAxis, "TunnelBook"), (RX4, 11, yX10_init, "TunnelBook"), (RX4, 158, yX11_within, "TunnelBook"), (RX5, 11, yX9_init, "TunnelBook"), (RX5, 39, yX10_init, "TunnelBook"), (RX5, 82, yX11_within, "TunnelBook"), (RX8, 51, yX11_within, "TunnelBook"), (RX9, 78, yX11_within, "TunnelBook")]
end
section
/-! A machine without addresses: objects and arrays by number, ints, longs and references apart; what it does the real one does (px, px_K); rules for straight stretches of code. -/
abbrev px_I : Type := Nat → Nat → Int32
abbrev px_L : Type := Nat → Nat → Int64
abbrev px_R : Type := Nat → Nat → Option Nat
abbrev px_Ls : Type := List (Nat × Value)
abbrev px_Q : Type := Option Value → Nat → px_I → px_L → px_R → Prop
/-- a method: name, code, locals, what it answers; frames, words, cells, slots that it may take; what else is known at its start -/
abbrev px_M : Type := MethodName × ByteArray × Nat × Option FieldType × Nat × Nat × Nat × Nat × ((Nat → Nat) → Nat → State → Prop)
def px_room (M : px_M) : Room := { frames := M.2.2.2.2.1, cells := M.2.2.2.2.2.2.1, slots := M.2.2.2.2.2.2.2.1, locals := M.2.2.2.2.2.1 }
def px_ws (M : px_M) : List Cond := Cond.code M.1 M.2.1 M.2.2.1 M.2.2.2.1 :: px_T
def px_ad (base : Nat) (cst : Nat → Nat) (k : Nat) : Nat := if k < 32 then cst k else base + (k - 32)
def px_v (ad : Nat → Nat) : Value → Value
  | .ref k => .ref (ad k)
  | v => v
theorem px_v_cat (ad : Nat → Nat) (v : Value) : (px_v ad v).category = v.category := by cases v <;> rfl
def px_fv (ad : Nat → Nat) (c : Nat) (i : Int32) (l : Int64) (r : Option Nat) : Value := if c = 1 then .long l else if c = 2 then va_rf (r.map ad) else .int i
def px_fs (ad : Nat → Nat) (ci : Nat) (I : Nat → Int32) (L : Nat → Int64) (R : Nat → Option Nat) : List Value := (List.range (px_Nf ci)).map fun k => px_fv ad (px_ft ci k) (I k) (L k) (R k)
def px_e (ad : Nat → Nat) (cid : Nat → ClassId) (sh : Nat × Nat × Int32) (I : Nat → Int32) (L : Nat → Int64) (R : Nat → Option Nat) : va_E :=
  if sh.1 = 20 then .inl (cid 0, sh.2.1, .inl I) else if sh.1 = 21 then .inl (cid 1, sh.2.1, .inr (.inl L)) else if sh.1 = 22 then .inl (cid 2, sh.2.1, .inl I) else if sh.1 = 23 then .inl (cid 3, sh.2.1, .inl I)
  else if sh.1 = 24 then .inl (cid 4, sh.2.1, .inr (.inr (.inr (.inr fun i => (R i).map ad)))) else .inr (sh.1, px_fs ad sh.1 I L R)
/-- the real heap holds the numbers' contents -/
def px_W (base : Nat) (cst : Nat → Nat) (D : va_G) (cid : Nat → ClassId) (n : Nat) (I : px_I) (L : px_L) (R : px_R) (H : Heap) : Prop :=
  H.size + 32 = base + n ∧ 32 ≤ n ∧ ∀ k, 32 ≤ k → k < n → va_at D vwCl (px_ad base cst k, px_e (px_ad base cst) cid (px_sh k) (I k) (L k) (R k)) H
def px_tys (cid : Nat → ClassId) : List (ClassId × FieldType) := [(cid 0, .int), (cid 1, .long), (cid 2, .byte), (cid 3, .boolean), (cid 4, .object RX10)]
def px_A (base : Nat) : Nat → Prop := fun q => base ≤ q
def px_txt : List (Nat × String) := [(96, "line"), (106, "turn"), (108, "rise"), (111, "fall"), (113, "shaft"), (118, "poles"), (120, "do"), (125, "repeat"), (130, "def")]
def px_len : List Nat := [4, 4, 4, 4, 5, 5, 2, 6, 3]
def px_byt : List (List Int32) := [[108, 105, 110, 101], [116, 117, 114, 110], [114, 105, 115, 101], [102, 97, 108, 108], [115, 104, 97, 102, 116], [112, 111, 108, 101, 115], [100, 111], [114, 101, 112, 101, 97, 116], [100, 101, 102]]
def px_east : List Int32 := [1000, 924, 707, 383]
def px_nort : List Int32 := [0, 383, 707, 924]
/-- what stands outside: texts (0 .. 8, their bytes 9 .. 17), two tables (18, 19), two numbers of the JDK's -/
def px_C (base : Nat) (cst : Nat → Nat) (U : State) (H : Heap) : Prop :=
  vk_S 9 px_len px_byt cst (fun i => cst (9 + i)) (px_A base) U H ∧ (∀ i, i < 9 → vk_R RX4 (px_txt.getD i (0, "")).1 (px_txt.getD i (0, "")).2 (cst i) U) ∧
  va_Z RX9 "EAST" "[I" (.ref (cst 18)) (px_A base) U H ∧ va_T .int (cst 18) 4 (fun j => .int (px_east.getD j 0)) (px_A base) U H ∧
  va_Z RX9 "NORTH" "[I" (.ref (cst 19)) (px_A base) U H ∧ va_T .int (cst 19) 4 (fun j => .int (px_nort.getD j 0)) (px_A base) U H ∧
  va_Z "java/lang/String" "COMPACT_STRINGS" "Z" (.int 1) (px_A base) U H ∧ (va_Z "jdk/internal/util/Preconditions" "SIOOBE_FORMATTER" "Ljava/util/function/BiFunction;" .null (px_A base) U H ∨ va_Z "jdk/internal/util/Preconditions" "SIOOBE_FORMATTER" "Ljava/util/function/BiFunction;" (.ref (cst 22)) (px_A base) U H) ∧ va_AO RX10 U ∧ ∀ e ∈ px_nest, va_Nw (.methodLinkNest e.1 e.2.1 e.2.2.1 e.2.2.2) U
theorem px_C.go {base : Nat} {cst : Nat → Nat} {s U : State} {H : Heap} {locs : List Loc} (h : px_C base cst s s.heap) (hS : va_S (px_A base) s.heap H locs) (hW : s.WarmedH U.vm) (hb : base ≤ s.heap.size) : px_C base cst U H := by
  have hq : ∀ a : Nat, a < s.heap.size → ¬ px_A base a → H[a]? = s.heap[a]? := hS.2.1
  obtain ⟨h1, h2, h3, h4, h5, h6, h7, h8, h9, h10⟩ := h
  exact ⟨(h1.kept hq).moved hW.alike, fun i hi => (h2 i hi).warm hW, (h3.kept hq).moved hW.alike, (h4.kept hq).moved hW.alike, (h5.kept hq).moved hW.alike, (h6.kept hq).moved hW.alike, (h7.kept hq).moved hW.alike, h8.imp (fun h => (h.kept hq).moved hW.alike) (fun h => (h.kept hq).moved hW.alike), h9.moved hW.alike, fun e he => (h10 e he).warmM hW⟩
theorem px_C.same {base : Nat} {cst : Nat → Nat} {u U : State} {H : Heap} (h : px_C base cst u H) (hv : U.vm = u.vm) : px_C base cst U H := by
  have ha : u.vm.Alike U.vm := by rw [hv]; exact Vm.Alike.refl _
  obtain ⟨h1, h2, h3, h4, h5, h6, h7, h8, h9, h10⟩ := h
  exact ⟨h1.moved ha, fun i hi => (h2 i hi).same hv, h3.moved ha, h4.moved ha, h5.moved ha, h6.moved ha, h7.moved ha, h8.imp (fun h => h.moved ha) (fun h => h.moved ha), h9.moved ha, fun e he => (h10 e he).same rfl hv.symm⟩
/-- a return with that value may stand there -/
def px_isr (M : px_M) (pc : Nat) (r : Option Value) : Prop := match r with
  | none => M.2.2.2.1 = none ∧ decode M.2.1 pc = .ok (.return_, 1)
  | some (.int x) => decode M.2.1 pc = .ok (.ireturn, 1) ∧ ∃ ty, M.2.2.2.1 = some ty ∧ narrow ty (.int x) = .int x
  | some (.long _) => decode M.2.1 pc = .ok (.lreturn, 1) ∧ M.2.2.2.1 = some .long
  | some v => decode M.2.1 pc = .ok (.areturn, 1) ∧ (∃ t, M.2.2.2.1 = some t ∧ ((∃ nm, t = .object nm) ∨ ∃ t1, t = .array t1)) ∧ (v = .null ∨ ∃ a, v = .ref a)
section PX
variable (p : Program) (l : Launch) (e : Env) (s : State) (m : MethodId) (args : Array Value) (below : List Frame) (meth : Method) (c : Code) (M : px_M) (base : Nat) (cst : Nat → Nat) (D : va_G) (cid : Nat → ClassId) (Z : State → Prop) (Q : px_Q)
/-- in what a stretch of code stands -/
def px_X : Prop :=
  p.tables.exec = Jvm.exec ∧ c.code = M.2.1 ∧ c.maxLocals = M.2.2.1 ∧ s.vm.findClass M.1.cls = some m.cls ∧ (∀ w ∈ px_T, w.before args s = true) ∧ va_K D vwCl (px_tys cid) s ∧ base ≤ s.heap.size ∧ px_C base cst s s.heap ∧ (M.1.name = "<init>" → meth.name = "<init>") ∧ M.2.2.2.2.2.2.2.2 cst base s ∧
  ∀ (r : Option Value) (n : Nat) (I : px_I) (L : px_L) (R : px_R) (H : Heap) (locs : List Loc) (cu su pc : Nat) (ls : Array Slot), Q r n I L R → px_W base cst D cid n I L R H → va_S (px_A base) s.heap H locs → px_isr M pc r → cu ≤ (px_room M).cells → su ≤ (px_room M).slots →
    W p l e (px_room M) s m args below meth c H locs cu su Z (F0 m pc ls (r.toList.map (px_v (px_ad base cst))))
end PX
/-- from here the machine comes to a return with Q -/
def px (M : px_M) (cu su pc : Nat) (ls : px_Ls) (st : List Value) (n : Nat) (I : px_I) (L : px_L) (R : px_R) (Q : px_Q) : Prop :=
  ∀ (p : Program) (l : Launch) (e : Env) (s : State) (m : MethodId) (args : Array Value) (below : List Frame) (meth : Method) (c : Code) (base : Nat) (cst : Nat → Nat) (D : va_G) (cid : Nat → ClassId) (Z : State → Prop) (H : Heap) (locs : List Loc) (lr : Array Slot),
    px_X p l e s m args below meth c M base cst D cid Z Q → px_W base cst D cid n I L R H → va_S (px_A base) s.heap H locs → lv_has lr M.2.2.1 (ls.map fun q => (q.1, px_v (px_ad base cst) q.2)) →
    W p l e (px_room M) s m args below meth c H locs cu su Z (F0 m pc lr (st.map (px_v (px_ad base cst))))
def px_Qc (base : Nat) (cst : Nat → Nat) (D : va_G) (cid : Nat → ClassId) (Q : px_Q) : Array Value → State → Outcome → State → Prop := fun _ st oc t =>
  (∃ (r : Option Value) (n : Nat) (I : px_I) (L : px_L) (R : px_R), oc = .returned (r.map (px_v (px_ad base cst))) ∧ Q r n I L R ∧ px_W base cst D cid n I L R t.heap) ∧ va_F (px_A base) st t
def px_Pc (base : Nat) (cst : Nat → Nat) (D : va_G) (cid : Nat → ClassId) (as : List Value) (n : Nat) (I : px_I) (L : px_L) (R : px_R) : Array Value → State → Prop :=
  va_Pc (as.map (px_v (px_ad base cst))) (fun U => px_W base cst D cid n I L R U.heap ∧ va_K D vwCl (px_tys cid) U ∧ px_C base cst U U.heap)
/-- a method's contract: from these arguments and contents it returns with Q -/
def px_K (M : px_M) (as : List Value) (n : Nat) (I : px_I) (L : px_L) (R : px_R) (Q : px_Q) : Prop :=
  ∀ (l : Launch) (base : Nat) (cst : Nat → Nat) (D : va_G) (cid : Nat → ClassId), Met l M.1 (px_ws M) (px_room M) (px_Pc base cst D cid as n I L R) (px_Qc base cst D cid Q) (px_room M).cells (px_room M).slots (px_A base)
theorem px_W.le {base : Nat} {cst : Nat → Nat} {D : va_G} {cid : Nat → ClassId} {n : Nat} {I : px_I} {L : px_L} {R : px_R} {H : Heap} (h : px_W base cst D cid n I L R H) : base ≤ H.size := by
  have h1 := h.1; have h2 := h.2.1; omega
theorem px_args_map (ad : Nat → Nat) (as : List Value) : ∀ i : Nat, lv_args i (as.map (px_v ad)) = (lv_args i as).map fun q => (q.1, px_v ad q.2) := by
  induction as with
  | nil => intro i; rfl
  | cons v t ih => intro i; simp only [List.map_cons, lv_args, px_v_cat, ih]
theorem px_sl_len (ad : Nat → Nat) (as : List Value) : (lg_sl (as.map (px_v ad))).length = (lg_sl as).length := by
  induction as with
  | nil => rfl
  | cons v t ih =>
    simp only [List.map_cons, lg_sl, List.flatMap_cons, List.length_append, px_v_cat] at ih ⊢
    rw [ih]
    by_cases h : v.category = 2 <;> simp [h]
/-- a contract by a walk from the entry; a method of the JDK's too, whose name no native row has -/
theorem px_ofW {l : Launch} {y : MethodName} {ws ws' : List Cond} {rm : Room} {Pc : Array Value → State → Prop} {Qc : Array Value → State → Outcome → State → Prop} {mc ms : Nat} {free : Addr → Prop} {cc : ByteArray} {maxL : Nat} {ret : Option FieldType}
    (hy : plainFor y = true) (hw : ws = Cond.code y cc maxL ret :: ws')
    (body : ∀ p e s m args below meth c s₁, BodyLoose p l y (headSpec ws rm) cc maxL ret e s m args below meth c s₁ → c.maxLocals = maxL → Pc args s →
      W p l e (headSpec ws rm).room s m args below meth c s.heap [] 0 0 (MQ below Qc args s mc ms free) (entryFrame m args maxL)) : Met l y ws rm Pc Qc mc ms free := by
  refine MetFree.of_bodySF (code := cc) (maxLocals := maxL) (ret := ret) hy ?_ ?_
  · intro args s m h hn
    obtain ⟨meth, c, h1, h2, h3, h4, h5, h6, -, -⟩ := Cond.code_spec hn (atoms_spec (ws := ws) h _ (by rw [hw]; exact List.mem_cons_self))
    exact ⟨meth, c, h1, h2, h3, h4, h5, h6⟩
  · intro p e s m args below meth c s₁ B hml hP _
    have hh0 : s₁.heap = s.heap := by rw [B.state]; rfl
    obtain ⟨t, a1, o, b1, b2, b3⟩ := body p e s m args below meth c s₁ B hml hP s₁ hh0 (Stand.of_body B)
    exact ⟨t, o, a1, b1, b2, ⟨b3.1, b3.2⟩⟩
/-- a contract by a walk from the entry -/
theorem px_of {M : px_M} {as : List Value} {n : Nat} {I : px_I} {L : px_L} {R : px_R} {Q : px_Q} (hy : plainFor M.1 = true) (hE : ∀ (cst : Nat → Nat) (base : Nat) (s : State), M.2.2.2.2.2.2.2.2 cst base s) (hn : Nat.ble (lg_sl as).length M.2.2.1 = true)
    (k : px M 0 0 0 (lv_args 0 as) [] n I L R Q) : px_K M as n I L R Q := by
  intro l base cst D cid
  refine px_ofW (cc := M.2.1) (maxL := M.2.2.1) (ret := M.2.2.2.1) hy rfl ?_
  intro p e s m args below meth c s₁ B hml hv
  obtain ⟨rfl, hW, hK, hC⟩ := hv
  have hts0 := atoms_spec (ws := px_ws M) B.pre
  have hlocks := B.notSynchronized
  have hx := B.exec
  have hb := B.bytes
  have hr := B.returns
  have hln : (lg_sl (as.map (px_v (px_ad base cst)))).length ≤ M.2.2.1 := by rw [px_sl_len]; exact Nat.le_of_ble_eq_true hn
  have hl := lv_entry (as.map (px_v (px_ad base cst))) (n := M.2.2.1) hln
  rw [lg_entry_eq]
  generalize (lg_sl (as.map (px_v (px_ad base cst))) ++ List.replicate (M.2.2.1 - (lg_sl (as.map (px_v (px_ad base cst)))).length) Slot.unset).toArray = lr at hl ⊢
  rw [px_args_map] at hl
  refine k p l e s m _ below meth c base cst D cid _ s.heap [] lr ⟨hx, hb, hml, findClass_of_methodNamed B.named, fun w hw => hts0 w (List.mem_cons_of_mem _ hw), hK, hW.le, hC, fun h => ((name_of_methodNamed B.named B.method).1).trans h, hE _ _ _, ?_⟩ hW va_S.rf hl
  intro r n' I' L' R' H locs cu su pc ls hQ hW' hS hret hcu hsu
  refine W.widen hcu hsu ?_
  have hq : ∀ t : State, t.heap = H → px_Qc base cst D cid Q (as.map (px_v (px_ad base cst))).toArray s (.returned (r.map (px_v (px_ad base cst)))) t := fun t ht => ⟨⟨r, n', I', L', R', rfl, hQ, by rw [ht]; exact hW'⟩, hS.F ht⟩
  match r, hret, hq with
  | none, hret, hq => exact W.vret hx hb (hr.trans hret.1) (fun t ht _ => hq t ht) hS.2.2 hret.2
  | some (.int x), hret, hq =>
    obtain ⟨h1, ty, h2, h3⟩ := hret
    exact W.zret (ty := ty) hx hb (hr.trans h2) h3 (fun t ht _ => hq t ht) hS.2.2 h1
  | some (.long x), hret, hq => exact W.lret hx hb (hr.trans hret.2) (fun t ht _ => hq t ht) hS.2.2 hret.1
  | some (.float x), hret, hq => exact absurd hret.2.2 (by simp)
  | some (.double x), hret, hq => exact absurd hret.2.2 (by simp)
  | some (.retAddr x), hret, hq => exact absurd hret.2.2 (by simp)
  | some .null, hret, hq =>
    obtain ⟨h1, ⟨t, h2, h3⟩, -⟩ := hret
    exact W.aret (rt := t) hx hb (hr.trans h2) h3 (Or.inl rfl) (fun t ht _ => hq t ht) hS.2.2 h1
  | some (.ref a), hret, hq =>
    obtain ⟨h1, ⟨t, h2, h3⟩, -⟩ := hret
    exact W.aret (rt := t) hx hb (hr.trans h2) h3 (Or.inr ⟨_, rfl⟩) (fun t ht _ => hq t ht) hS.2.2 h1
end
section
/-! what fields and arrays do, by numbers -/
theorem px_sh_ok : ∀ k : Nat, (px_sh k).2.2 = Int32.ofNat (px_sh k).2.1 ∧ (px_sh k).2.1 < 2000 := by
  have h0 : ∀ k, k < 160 → (px_sh k).2.2 = Int32.ofNat (px_sh k).2.1 ∧ (px_sh k).2.1 < 2000 := by decide +kernel
  intro k
  by_cases hk : k < 160
  · exact h0 k hk
  · have h1 : px_nth px_shL (k / 16) [] = [] := by
      have : ∀ (j : Nat), px_nth px_shL (j + 10) [] = [] := fun _ => rfl
      rw [show k / 16 = (k / 16 - 10) + 10 by omega]; exact this _
    have h2 : ∀ (j : Nat) (d : Nat × Nat × Int32), px_nth [] j d = d := fun j d => by cases j <;> rfl
    have e : px_sh k = (bif Nat.beq ((k - 147) % 3) 0 then (10, 4, 4) else (20, 200, 200)) := by unfold px_sh; rw [h1, h2]
    rw [e]
    cases Nat.beq ((k - 147) % 3) 0 <;> decide
/-- within an array of N places -/
theorem px_inn {i NI : Int32} {N : Nat} (h : 0 ≤ i ∧ i < NI) (hN : NI = Int32.ofNat N) (hlt : N < 2000) : vp_in i N := by
  refine vp_in_iff.mpr ?_
  obtain ⟨h1, h2⟩ := h
  have h1 := Int32.le_iff_toInt_le.mp h1
  have h2 := Int32.lt_iff_toInt_lt.mp h2
  rw [hN, Int32.toInt_ofNat_of_lt (by omega)] at h2
  exact ⟨by simpa using h1, h2⟩
theorem px_fs_at (ad : Nat → Nat) {ci k : Nat} (hk : k < px_Nf ci) (I : Nat → Int32) (L : Nat → Int64) (R : Nat → Option Nat) : (px_fs ad ci I L R)[k]? = some (px_fv ad (px_ft ci k) (I k) (L k) (R k)) := by
  simp [px_fs, hk]
theorem px_fs_set (ad : Nat → Nat) {ci k : Nat} (hk : k < px_Nf ci) {I I' : Nat → Int32} {L L' : Nat → Int64} {R R' : Nat → Option Nat} {v : Value} (hv : px_fv ad (px_ft ci k) (I' k) (L' k) (R' k) = v)
    (h1 : ∀ j, j ≠ k → I' j = I j) (h2 : ∀ j, j ≠ k → L' j = L j) (h3 : ∀ j, j ≠ k → R' j = R j) : (px_fs ad ci I L R).set k v = px_fs ad ci I' L' R' := by
  apply List.ext_getElem?
  intro j
  by_cases hj : j = k
  · subst hj
    rw [List.getElem?_set_self (by simpa [px_fs] using hk), px_fs_at ad hk, hv]
  · rw [List.getElem?_set_ne (Ne.symm hj)]
    simp only [px_fs, List.getElem?_map]
    cases hq : (List.range (px_Nf ci))[j]? with
    | none => rfl
    | some x =>
      have hx : x = j := by
        have := List.getElem?_eq_some_iff.mp hq
        obtain ⟨h4, h5⟩ := this
        rw [List.getElem_range] at h5; exact h5.symm
      subst hx
      simp only [Option.map_some, h1 x hj, h2 x hj, h3 x hj]
theorem px_e_obj (ad : Nat → Nat) (cid : Nat → ClassId) {sh : Nat × Nat × Int32} (h : sh.1 < 13) (I : Nat → Int32) (L : Nat → Int64) (R : Nat → Option Nat) : px_e ad cid sh I L R = .inr (sh.1, px_fs ad sh.1 I L R) := by
  unfold px_e
  rw [if_neg (by omega), if_neg (by omega), if_neg (by omega), if_neg (by omega), if_neg (by omega)]
theorem px_ad_inj {base : Nat} {cst : Nat → Nat} {a b : Nat} (ha : 32 ≤ a) (hb : 32 ≤ b) (h : px_ad base cst a = px_ad base cst b) : a = b := by
  unfold px_ad at h
  rw [if_neg (by omega), if_neg (by omega)] at h
  omega
theorem px_ad_in {base : Nat} {cst : Nat → Nat} {a : Nat} (ha : 32 ≤ a) : px_A base (px_ad base cst a) := by
  unfold px_A px_ad
  rw [if_neg (by omega)]
  omega
/-- one number's contents change -/
theorem px_W.upd {base : Nat} {cst : Nat → Nat} {D : va_G} {cid : Nat → ClassId} {n : Nat} {I I' : px_I} {L L' : px_L} {R R' : px_R} {H H1 : Heap} (h : px_W base cst D cid n I L R H) {o : Nat} (ho : 32 ≤ o)
    (hz : H1.size = H.size) (oq : ∀ q : Nat, q ≠ px_ad base cst o → H1[q]? = H[q]?) (hI : ∀ b, b ≠ o → I' b = I b) (hL : ∀ b, b ≠ o → L' b = L b) (hR : ∀ b, b ≠ o → R' b = R b)
    (ha : va_at D vwCl (px_ad base cst o, px_e (px_ad base cst) cid (px_sh o) (I' o) (L' o) (R' o)) H1) : px_W base cst D cid n I' L' R' H1 := by
  refine ⟨by rw [hz]; exact h.1, h.2.1, fun k h1 h2 => ?_⟩
  by_cases hk : k = o
  · subst hk; exact ha
  · rw [hI k hk, hL k hk, hR k hk]
    exact (h.2.2 k h1 h2).kept (oq _ (fun q => hk (px_ad_inj h1 ho q)))
/-- a new number -/
theorem px_W.push {base : Nat} {cst : Nat → Nat} {D : va_G} {cid : Nat → ClassId} {n : Nat} {I I' : px_I} {L L' : px_L} {R R' : px_R} {H H1 : Heap} (h : px_W base cst D cid n I L R H)
    (hz : H1.size = H.size + 1) (oq : ∀ q : Nat, q < H.size → H1[q]? = H[q]?) (hI : ∀ b, b ≠ n → I' b = I b) (hL : ∀ b, b ≠ n → L' b = L b) (hR : ∀ b, b ≠ n → R' b = R b)
    (ha : va_at D vwCl (H.size, px_e (px_ad base cst) cid (px_sh n) (I' n) (L' n) (R' n)) H1) : px_W base cst D cid (n + 1) I' L' R' H1 := by
  obtain ⟨g1, g2, g3⟩ := h
  refine ⟨by omega, by omega, fun k h1 h2 => ?_⟩
  by_cases hk : k = n
  · subst hk
    rw [show px_ad base cst k = H.size by unfold px_ad; rw [if_neg (by omega)]; omega]
    exact ha
  · rw [hI k hk, hL k hk, hR k hk]
    exact (g3 k h1 (by omega)).kept (oq _ (g3 k h1 (by omega)).lt)
theorem px_adn {base : Nat} {cst : Nat → Nat} {D : va_G} {cid : Nat → ClassId} {n : Nat} {I : px_I} {L : px_L} {R : px_R} {H : Heap} (h : px_W base cst D cid n I L R H) : px_ad base cst n = H.size := by
  obtain ⟨g1, g2, g3⟩ := h
  unfold px_ad; rw [if_neg (by omega)]; omega
/-- a place of a number gets a value -/
def px_u {α : Type} (f : Nat → Nat → α) (a k : Nat) (v : α) : Nat → Nat → α := fun b j => if b = a then (if j = k then v else f b j) else f b j
theorem px_u_ne {α : Type} {f : Nat → Nat → α} {a k : Nat} {v : α} {b : Nat} (h : b ≠ a) : px_u f a k v b = f b := by funext j; simp [px_u, h]
theorem px_u_at {α : Type} {f : Nat → Nat → α} {a k : Nat} {v : α} : px_u f a k v a k = v := by simp [px_u]
theorem px_u_at_ne {α : Type} {f : Nat → Nat → α} {a k : Nat} {v : α} {j : Nat} (h : j ≠ k) : px_u f a k v a j = f a j := by simp [px_u, h]
theorem px_u_row {f : Nat → Nat → Int32} {a k : Nat} {v : Int32} : px_u f a k v a = upd (f a) k v := by funext j; simp [px_u, upd]
theorem px_u_rowL {f : Nat → Nat → Int64} {a k : Nat} {v : Int64} : px_u f a k v a = vp_updL (f a) k v := by funext j; simp [px_u, vp_updL]
/-- a whole row -/
def px_w {α : Type} (f : Nat → Nat → α) (a : Nat) (g : Nat → α) : Nat → Nat → α := fun b => if b = a then g else f b
theorem px_w_ne {α : Type} {f : Nat → Nat → α} {a : Nat} {g : Nat → α} {b : Nat} (h : b ≠ a) : px_w f a g b = f b := by simp [px_w, h]
theorem px_w_at {α : Type} {f : Nat → Nat → α} {a : Nat} {g : Nat → α} : px_w f a g a = g := by simp [px_w]
section PXH
variable {p : Program} {l : Launch} {e : Env} {s : State} {m : MethodId} {args : Array Value} {below : List Frame} {meth : Method} {c : Code} {M : px_M} {base : Nat} {cst : Nat → Nat} {D : va_G} {cid : Nat → ClassId} {Z : State → Prop} {Q : px_Q} {H : Heap} {locs : List Loc} {lr : Array Slot} {cu su pc n : Nat} {I : px_I} {L : px_L} {R : px_R} {rest : List Value}
theorem px_tf_ok {own idx ci k : Nat} (hf : (own, idx, ci, k) ∈ px_tf) : ci < 13 ∧ k < px_Nf ci ∧ Cond.fieldLink (px_Rn own) idx (px_Tf ci k).1 (px_Tf ci k).2.1 (px_Tf ci k).2.2.1 ∈ px_T := ⟨(px_tf_lt _ hf).1, (px_tf_lt _ hf).2, px_tf_in _ hf⟩
theorem px_get (X : px_X p l e s m args below meth c M base cst D cid Z Q) (hW : px_W base cst D cid n I L R H) {on o ci k idx : Nat} (hon1 : M.1.cls = px_Rn on) (hf : (on, idx, ci, k) ∈ px_tf) (ho : 32 ≤ o) (hon : o < n) (hsh : (px_sh o).1 = ci) (hdg : decode M.2.1 pc = .ok (.getfield idx, 3))
    (kk : W p l e (px_room M) s m args below meth c H locs cu su Z (F0 m (pc + 3) lr (px_fv (px_ad base cst) (px_ft ci k) (I o k) (L o k) (R o k) :: rest))) : W p l e (px_room M) s m args below meth c H locs cu su Z (F0 m pc lr (.ref (px_ad base cst o) :: rest)) := by
  obtain ⟨hx, hb, hml, hown, hts, hK, hbs, hC, hin, -⟩ := X
  obtain ⟨hci, hk, hw⟩ := px_tf_ok hf
  rw [← hon1] at hw
  have hat := hW.2.2 o ho hon
  rw [px_e_obj _ _ (by rw [hsh]; exact hci), hsh] at hat
  exact va_get (D := D) (cl := vwCl) (ws := [(px_ad base cst o, .inr (ci, px_fs (px_ad base cst) ci (I o) (L o) (R o)))]) (ref := (px_Tf ci k).1) hx hb hts (px_cl_in ci hci) hown hK (fun j q h => by
    have hj : j = 0 := by have := (List.getElem?_eq_some_iff.mp h).1; simp at this; exact this
    subst hj; cases h; exact hat) 0 rfl (px_cl_at ci hci) k hk (hts _ hw) (fun _ h => h) (px_fs_at _ hk _ _ _) hdg kk
theorem px_put (X : px_X p l e s m args below meth c M base cst D cid Z Q) (hW : px_W base cst D cid n I L R H) (hS : va_S (px_A base) s.heap H locs) {on o ci k idx : Nat} (hon1 : M.1.cls = px_Rn on) (hf : (on, idx, ci, k) ∈ px_tf) (ho : 32 ≤ o) (hon : o < n) (hsh : (px_sh o).1 = ci) (hdg : decode M.2.1 pc = .ok (.putfield idx, 3))
    (hfin : (px_Tf ci k).2.2.2 = false ∨ ((px_Tf ci k).2.2.2 = true ∧ M.1.name = "<init>" ∧ (px_Tf ci k).1 = M.1.cls)) {I' : px_I} {L' : px_L} {R' : px_R} (hI : ∀ b, b ≠ o → I' b = I b) (hL : ∀ b, b ≠ o → L' b = L b) (hR : ∀ b, b ≠ o → R' b = R b)
    (hI2 : ∀ j, j ≠ k → I' o j = I o j) (hL2 : ∀ j, j ≠ k → L' o j = L o j) (hR2 : ∀ j, j ≠ k → R' o j = R o j) {v : Value} (hv : px_fv (px_ad base cst) (px_ft ci k) (I' o k) (L' o k) (R' o k) = v) (hn : narrow (px_ty ci k) v = v) (hfit : fits (px_ty ci k) v = true)
    (kk : ∀ (H1 : Heap) (locs1 : List Loc), px_W base cst D cid n I' L' R' H1 → va_S (px_A base) s.heap H1 locs1 → W p l e (px_room M) s m args below meth c H1 locs1 cu su Z (F0 m (pc + 3) lr rest)) : W p l e (px_room M) s m args below meth c H locs cu su Z (F0 m pc lr (v :: .ref (px_ad base cst o) :: rest)) := by
  obtain ⟨hx, hb, hml, hown, hts, hK, hbs, hC, hin, -⟩ := X
  obtain ⟨hci, hk, hw⟩ := px_tf_ok hf
  rw [← hon1] at hw
  have hat := hW.2.2 o ho hon
  rw [px_e_obj _ _ (by rw [hsh]; exact hci), hsh] at hat
  obtain ⟨r, h1, cell, q1, q2, q3, q4⟩ := hat
  have hr : r = (px_Rn ci, px_Tf ci, px_Nf ci) := Option.some.inj (h1.symm.trans (px_cl_at ci hci))
  subst hr
  have hKn := hK.1 ci _ (px_cl_at ci hci)
  have hap : ∀ x y, x < px_Nf ci → y < px_Nf ci → x ≠ y → (D.2 ci) x ≠ (D.2 ci) y := va_apart (own := M.1.cls) hts (px_cl_in ci hci) (px_ty ci) (px_cl_ty ci hci) (px_cl_nm ci hci) hK (px_cl_at ci hci)
  obtain ⟨hSl, hfc, kC, hkC, hkind⟩ := hKn
  obtain ⟨cf, kf, fi, f, hi, hsl⟩ := hSl k hk
  have hlay := hts _ (px_cl_in ci hci _ (u_in_lay hk))
  unfold u_lay at hlay
  have hst := (u_facts hfc hkC (u_lays hts (px_cl_in ci hci) hk) hi).1
  have fin : ∀ (H1 : Heap) (locs1 : List Loc), H1[px_ad base cst o]? = some (cell.setSlot f.slot v) → H1.size = H.size → (∀ q, q ≠ px_ad base cst o → H1[q]? = H[q]?) → va_S (px_A base) s.heap H1 locs1 → W p l e (px_room M) s m args below meth c H1 locs1 cu su Z (F0 m (pc + 3) lr rest) := by
    intro H1 locs1 e1 e2 e3 e4
    refine kk H1 locs1 (hW.upd ho e2 e3 hI hL hR ?_) e4
    rw [px_e_obj _ _ (by rw [hsh]; exact hci), hsh, ← px_fs_set (px_ad base cst) hk hv hI2 hL2 hR2]
    rw [hsl] at e1
    exact ⟨_, px_cl_at ci hci, t_OB.to (V := updV (vp_V (px_fs (px_ad base cst) ci (I o) (L o) (R o))) k v) ⟨_, e1, q2, q3, t_set q4 hap hk v⟩ (fun j _ => vp_updV_set (by simpa [px_fs] using hk) v j)⟩
  rcases hfin with hfin | ⟨hfin, hin2, hdecl⟩
  · rw [if_neg (by rw [hfin]; decide)] at hlay
    have h6 := u_store hfc hkC hkind hlay hi (px_cl_ty ci hci k hk) hn hfit
    exact W.putK hx hb (f := f) ⟨hown, hts _ hw, ⟨_, _, _, hi⟩, hst⟩ (by rw [q2]; exact h6) q1 q3 (by rw [hsl]; exact k2_hasslot (q4 k hk)) rfl rfl hdg fun H' e1 e2 e3 => fin H' _ e1 e2 e3 (hS.put e2 e3 (px_ad_in ho))
  · rw [if_pos hfin] at hlay
    have hcf : m.cls = cf := by
      obtain ⟨_, _, c', _, _, _, -, -, hf', -, -, -, hown2, -⟩ := Cond.laysFinal_spec hlay
      have e1 : c' = cf := by have := hi.symm.trans hf'; simp at this; exact this.1.symm
      rw [hdecl] at hown2
      rw [← e1]; exact Option.some.inj (hown.symm.trans hown2)
    have h6 := u_fits hfc hkC hkind (Or.inr hlay) hi (px_cl_ty ci hci k hk) hn hfit
    exact W.putFinK hx hb hown (hts _ hw) hi hst hcf (hin hin2) (by rw [q2]; exact h6) q1 q3 (by rw [hsl]; exact k2_hasslot (q4 k hk)) rfl rfl hdg fun H' e1 e2 e3 => fin H' _ e1 e2 e3 (hS.put e2 e3 (px_ad_in ho))
end PXH
end
section
/-! arrays, and what is made anew, by numbers -/
section PXA
variable {p : Program} {l : Launch} {e : Env} {s : State} {m : MethodId} {args : Array Value} {below : List Frame} {meth : Method} {c : Code} {M : px_M} {base : Nat} {cst : Nat → Nat} {D : va_G} {cid : Nat → ClassId} {Z : State → Prop} {Q : px_Q} {H : Heap} {locs : List Loc} {lr : Array Slot} {cu su pc n : Nat} {I : px_I} {L : px_L} {R : px_R} {rest : List Value}
theorem px_one {D : va_G} {q : Nat × va_E} {H : Heap} (h : va_at D vwCl q H) : va_P D vwCl [q] H := fun j x hx => by
  have hj : j = 0 := by have := (List.getElem?_eq_some_iff.mp hx).1; simp at this; exact this
  subst hj; cases hx; exact h
theorem px_e20 (ad : Nat → Nat) (cid : Nat → ClassId) {sh : Nat × Nat × Int32} (h : sh.1 = 20) (I : Nat → Int32) (L : Nat → Int64) (R : Nat → Option Nat) : px_e ad cid sh I L R = .inl (cid 0, sh.2.1, .inl I) := by unfold px_e; rw [if_pos h]
theorem px_e21 (ad : Nat → Nat) (cid : Nat → ClassId) {sh : Nat × Nat × Int32} (h : sh.1 = 21) (I : Nat → Int32) (L : Nat → Int64) (R : Nat → Option Nat) : px_e ad cid sh I L R = .inl (cid 1, sh.2.1, .inr (.inl L)) := by unfold px_e; rw [if_neg (by omega), if_pos h]
theorem px_e22 (ad : Nat → Nat) (cid : Nat → ClassId) {sh : Nat × Nat × Int32} (h : sh.1 = 22) (I : Nat → Int32) (L : Nat → Int64) (R : Nat → Option Nat) : px_e ad cid sh I L R = .inl (cid 2, sh.2.1, .inl I) := by unfold px_e; rw [if_neg (by omega), if_neg (by omega), if_pos h]
theorem px_e23 (ad : Nat → Nat) (cid : Nat → ClassId) {sh : Nat × Nat × Int32} (h : sh.1 = 23) (I : Nat → Int32) (L : Nat → Int64) (R : Nat → Option Nat) : px_e ad cid sh I L R = .inl (cid 3, sh.2.1, .inl I) := by unfold px_e; rw [if_neg (by omega), if_neg (by omega), if_neg (by omega), if_pos h]
theorem px_e24 (ad : Nat → Nat) (cid : Nat → ClassId) {sh : Nat × Nat × Int32} (h : sh.1 = 24) (I : Nat → Int32) (L : Nat → Int64) (R : Nat → Option Nat) : px_e ad cid sh I L R = .inl (cid 4, sh.2.1, .inr (.inr (.inr (.inr fun i => (R i).map ad)))) := by unfold px_e; rw [if_neg (by omega), if_neg (by omega), if_neg (by omega), if_neg (by omega), if_pos h]
theorem px_bnd {o : Nat} {i : Int32} (hi : 0 ≤ i ∧ i < (px_sh o).2.2) : vp_in i (px_sh o).2.1 := px_inn hi (px_sh_ok o).1 (px_sh_ok o).2
theorem px_ild (X : px_X p l e s m args below meth c M base cst D cid Z Q) (hW : px_W base cst D cid n I L R H) {o : Nat} {i : Int32} (ho : 32 ≤ o) (hon : o < n) (hsh : (px_sh o).1 = 20) (hi : 0 ≤ i ∧ i < (px_sh o).2.2) (hdg : decode M.2.1 pc = .ok (.iaload, 1))
    (kk : W p l e (px_room M) s m args below meth c H locs cu su Z (F0 m (pc + 1) lr (.int (I o i.toNatClampNeg) :: rest))) : W p l e (px_room M) s m args below meth c H locs cu su Z (F0 m pc lr (.int i :: .ref (px_ad base cst o) :: rest)) := by
  obtain ⟨hx, hb, hml, hown, hts, hK, -⟩ := X
  have hat := hW.2.2 o ho hon
  rw [px_e20 _ _ hsh] at hat
  exact va_iald hx hb hK (px_one hat) 0 0 rfl rfl (px_bnd hi) hdg kk
theorem px_bld (X : px_X p l e s m args below meth c M base cst D cid Z Q) (hW : px_W base cst D cid n I L R H) {o : Nat} {i : Int32} (ho : 32 ≤ o) (hon : o < n) (hsh : (px_sh o).1 = 22 ∨ (px_sh o).1 = 23) (hi : 0 ≤ i ∧ i < (px_sh o).2.2) (hdg : decode M.2.1 pc = .ok (.baload, 1))
    (kk : W p l e (px_room M) s m args below meth c H locs cu su Z (F0 m (pc + 1) lr (.int (I o i.toNatClampNeg) :: rest))) : W p l e (px_room M) s m args below meth c H locs cu su Z (F0 m pc lr (.int i :: .ref (px_ad base cst o) :: rest)) := by
  obtain ⟨hx, hb, hml, hown, hts, hK, -⟩ := X
  have hat := hW.2.2 o ho hon
  rcases hsh with hsh | hsh
  · rw [px_e22 _ _ hsh] at hat
    exact va_bald hx hb hK (px_one hat) 0 2 rfl rfl (px_bnd hi) hdg kk
  · rw [px_e23 _ _ hsh] at hat
    exact va_zald hx hb hK (px_one hat) 0 3 rfl rfl (px_bnd hi) hdg kk
theorem px_lld (X : px_X p l e s m args below meth c M base cst D cid Z Q) (hW : px_W base cst D cid n I L R H) {o : Nat} {i : Int32} (ho : 32 ≤ o) (hon : o < n) (hsh : (px_sh o).1 = 21) (hi : 0 ≤ i ∧ i < (px_sh o).2.2) (hdg : decode M.2.1 pc = .ok (.laload, 1))
    (kk : W p l e (px_room M) s m args below meth c H locs cu su Z (F0 m (pc + 1) lr (.long (L o i.toNatClampNeg) :: rest))) : W p l e (px_room M) s m args below meth c H locs cu su Z (F0 m pc lr (.int i :: .ref (px_ad base cst o) :: rest)) := by
  obtain ⟨hx, hb, hml, hown, hts, hK, -⟩ := X
  have hat := hW.2.2 o ho hon
  rw [px_e21 _ _ hsh] at hat
  exact va_lald hx hb hK (px_one hat) 0 1 rfl rfl (px_bnd hi) hdg kk
theorem px_ald (X : px_X p l e s m args below meth c M base cst D cid Z Q) (hW : px_W base cst D cid n I L R H) {o : Nat} {i : Int32} (ho : 32 ≤ o) (hon : o < n) (hsh : (px_sh o).1 = 24) (hi : 0 ≤ i ∧ i < (px_sh o).2.2) (hdg : decode M.2.1 pc = .ok (.aaload, 1))
    (kk : W p l e (px_room M) s m args below meth c H locs cu su Z (F0 m (pc + 1) lr (va_rf ((R o i.toNatClampNeg).map (px_ad base cst)) :: rest))) : W p l e (px_room M) s m args below meth c H locs cu su Z (F0 m pc lr (.int i :: .ref (px_ad base cst o) :: rest)) := by
  obtain ⟨hx, hb, hml, hown, hts, hK, -⟩ := X
  have hat := hW.2.2 o ho hon
  rw [px_e24 _ _ hsh] at hat
  exact va_aldq hx hb hK (px_one hat) 0 4 rfl rfl (px_bnd hi) hdg kk
theorem px_updV {f : Nat → Int32} {k : Nat} {x : Int32} : updV (fun j => Value.int (f j)) k (.int x) = fun j => .int (upd f k x j) := by
  funext q
  by_cases hq : q = k
  · subst hq; simp [updV, upd]
  · simp [updV, upd, hq]
theorem px_ist (X : px_X p l e s m args below meth c M base cst D cid Z Q) (hW : px_W base cst D cid n I L R H) (hS : va_S (px_A base) s.heap H locs) {o : Nat} {i x : Int32} (ho : 32 ≤ o) (hon : o < n) (hsh : (px_sh o).1 = 20) (hi : 0 ≤ i ∧ i < (px_sh o).2.2) (hdg : decode M.2.1 pc = .ok (.iastore, 1))
    (kk : ∀ (H1 : Heap) (locs1 : List Loc), px_W base cst D cid n (px_u I o i.toNatClampNeg x) L R H1 → va_S (px_A base) s.heap H1 locs1 → W p l e (px_room M) s m args below meth c H1 locs1 cu su Z (F0 m (pc + 1) lr rest)) : W p l e (px_room M) s m args below meth c H locs cu su Z (F0 m pc lr (.int x :: .int i :: .ref (px_ad base cst o) :: rest)) := by
  obtain ⟨hx, hb, hml, hown, hts, hK, -⟩ := X
  have hat := hW.2.2 o ho hon
  rw [px_e20 _ _ hsh] at hat
  refine W.iast hx hb hat ((hK.2 0 _ rfl).1 _ (fun j => .int (I o j))) (fun q => by cases q) (by show ¬ (i < 0 ∨ (arrV _ _ _).slots.size ≤ _); rw [arrV_size]; exact px_bnd hi) rfl rfl hdg fun H1 e1 z oq => ?_
  refine kk H1 _ (hW.upd ho z oq (fun b hb => px_u_ne hb) (fun _ _ => rfl) (fun _ _ => rfl) ?_) (hS.put z oq (px_ad_in ho))
  rw [px_e20 _ _ hsh]
  show H1[_]? = some (vp_cell _ _)
  rw [e1, vp_cell_i, vp_cell_i, arrV_store, px_u_row, px_updV]
theorem px_bst (X : px_X p l e s m args below meth c M base cst D cid Z Q) (hW : px_W base cst D cid n I L R H) (hS : va_S (px_A base) s.heap H locs) {o : Nat} {i x : Int32} (ho : 32 ≤ o) (hon : o < n) (hsh : (px_sh o).1 = 22) (hi : 0 ≤ i ∧ i < (px_sh o).2.2) (hdg : decode M.2.1 pc = .ok (.bastore, 1))
    (kk : ∀ (H1 : Heap) (locs1 : List Loc), px_W base cst D cid n (px_u I o i.toNatClampNeg x.toInt8.toInt32) L R H1 → va_S (px_A base) s.heap H1 locs1 → W p l e (px_room M) s m args below meth c H1 locs1 cu su Z (F0 m (pc + 1) lr rest)) : W p l e (px_room M) s m args below meth c H locs cu su Z (F0 m pc lr (.int x :: .int i :: .ref (px_ad base cst o) :: rest)) := by
  obtain ⟨hx, hb, hml, hown, hts, hK, -⟩ := X
  have hat := hW.2.2 o ho hon
  rw [px_e22 _ _ hsh] at hat
  refine W.bast hx hb hat ((hK.2 2 _ rfl).1 _ (fun j => .int (I o j))) (fun q => by cases q) (by show ¬ (i < 0 ∨ (arrV _ _ _).slots.size ≤ _); rw [arrV_size]; exact px_bnd hi) rfl rfl hdg fun H1 e1 z oq => ?_
  refine kk H1 _ (hW.upd ho z oq (fun b hb => px_u_ne hb) (fun _ _ => rfl) (fun _ _ => rfl) ?_) (hS.put z oq (px_ad_in ho))
  rw [px_e22 _ _ hsh]
  show H1[_]? = some (vp_cell _ _)
  rw [e1, vp_cell_i, vp_cell_i, arrV_store, px_u_row]
  show some (arrV _ _ (updV _ _ (.int x.toInt8.toInt32))) = _
  rw [px_updV]
theorem px_zst (X : px_X p l e s m args below meth c M base cst D cid Z Q) (hW : px_W base cst D cid n I L R H) (hS : va_S (px_A base) s.heap H locs) {o : Nat} {i x : Int32} (ho : 32 ≤ o) (hon : o < n) (hsh : (px_sh o).1 = 23) (hi : 0 ≤ i ∧ i < (px_sh o).2.2) (hdg : decode M.2.1 pc = .ok (.bastore, 1))
    (kk : ∀ (H1 : Heap) (locs1 : List Loc), px_W base cst D cid n (px_u I o i.toNatClampNeg (x &&& 1)) L R H1 → va_S (px_A base) s.heap H1 locs1 → W p l e (px_room M) s m args below meth c H1 locs1 cu su Z (F0 m (pc + 1) lr rest)) : W p l e (px_room M) s m args below meth c H locs cu su Z (F0 m pc lr (.int x :: .int i :: .ref (px_ad base cst o) :: rest)) := by
  obtain ⟨hx, hb, hml, hown, hts, hK, -⟩ := X
  have hat := hW.2.2 o ho hon
  rw [px_e23 _ _ hsh] at hat
  refine W.zast hx hb hat ((hK.2 3 _ rfl).1 _ (fun j => .int (I o j))) (fun q => by cases q) (by show ¬ (i < 0 ∨ (arrV _ _ _).slots.size ≤ _); rw [arrV_size]; exact px_bnd hi) rfl rfl hdg fun H1 e1 z oq => ?_
  refine kk H1 _ (hW.upd ho z oq (fun b hb => px_u_ne hb) (fun _ _ => rfl) (fun _ _ => rfl) ?_) (hS.put z oq (px_ad_in ho))
  rw [px_e23 _ _ hsh]
  show H1[_]? = some (vp_cell _ _)
  rw [e1, vp_cell_i, vp_cell_i, arrV_store, px_u_row]
  show some (arrV _ _ (updV _ _ (.int (x &&& 1)))) = _
  rw [px_updV]
theorem px_lst (X : px_X p l e s m args below meth c M base cst D cid Z Q) (hW : px_W base cst D cid n I L R H) (hS : va_S (px_A base) s.heap H locs) {o : Nat} {i : Int32} {x : Int64} (ho : 32 ≤ o) (hon : o < n) (hsh : (px_sh o).1 = 21) (hi : 0 ≤ i ∧ i < (px_sh o).2.2) (hdg : decode M.2.1 pc = .ok (.lastore, 1))
    (kk : ∀ (H1 : Heap) (locs1 : List Loc), px_W base cst D cid n I (px_u L o i.toNatClampNeg x) R H1 → va_S (px_A base) s.heap H1 locs1 → W p l e (px_room M) s m args below meth c H1 locs1 cu su Z (F0 m (pc + 1) lr rest)) : W p l e (px_room M) s m args below meth c H locs cu su Z (F0 m pc lr (.long x :: .int i :: .ref (px_ad base cst o) :: rest)) := by
  obtain ⟨hx, hb, hml, hown, hts, hK, -⟩ := X
  have hat := hW.2.2 o ho hon
  rw [px_e21 _ _ hsh] at hat
  refine W.last hx hb hat ((hK.2 1 _ rfl).1 _ (fun j => .long (L o j))) (fun q => by cases q) (by show ¬ (i < 0 ∨ (arrV _ _ _).slots.size ≤ _); rw [arrV_size]; exact px_bnd hi) rfl rfl hdg fun H1 e1 z oq => ?_
  refine kk H1 _ (hW.upd ho z oq (fun _ _ => rfl) (fun b hb => px_u_ne hb) (fun _ _ => rfl) ?_) (hS.put z oq (px_ad_in ho))
  rw [px_e21 _ _ hsh]
  show H1[_]? = some (vp_cell _ _)
  rw [e1, vp_cell_l, vp_cell_l, arrV_store, px_u_rowL]
  congr 2
  funext q
  by_cases hq : q = i.toNatClampNeg
  · subst hq; simp [updV, vp_updL]
  · simp [updV, vp_updL, hq]
theorem px_ast (X : px_X p l e s m args below meth c M base cst D cid Z Q) (hW : px_W base cst D cid n I L R H) (hS : va_S (px_A base) s.heap H locs) {o w : Nat} {i : Int32} (ho : 32 ≤ o) (hon : o < n) (hsh : (px_sh o).1 = 24) (hw : 32 ≤ w) (hwn : w < n) (hshw : (px_sh w).1 = 10) (hi : 0 ≤ i ∧ i < (px_sh o).2.2) (hdg : decode M.2.1 pc = .ok (.aastore, 1))
    (kk : ∀ (H1 : Heap) (locs1 : List Loc), px_W base cst D cid n I L (px_u R o i.toNatClampNeg (some w)) H1 → va_S (px_A base) s.heap H1 locs1 → W p l e (px_room M) s m args below meth c H1 locs1 cu su Z (F0 m (pc + 1) lr rest)) : W p l e (px_room M) s m args below meth c H locs cu su Z (F0 m pc lr (.ref (px_ad base cst w) :: .int i :: .ref (px_ad base cst o) :: rest)) := by
  obtain ⟨hx, hb, hml, hown, hts, hK, -⟩ := X
  have hat := hW.2.2 o ho hon
  rw [px_e24 _ _ hsh] at hat
  have hav := hW.2.2 w hw hwn
  rw [px_e_obj _ _ (by rw [hshw]; decide), hshw] at hav
  have hin := px_bnd hi
  have hlt : i.toNatClampNeg < (px_sh o).2.1 := Nat.not_le.mp fun q => hin (Or.inr q)
  have h0 : ¬ i < 0 := fun q => hin (Or.inl q)
  obtain ⟨r', hr', cellV, g1, g2, g3, -⟩ := hav
  have hcls := (hK.1 10 _ rfl).2
  obtain ⟨kA, comp, k1, k2, k3, -⟩ := (hK.2 4 _ rfl).2
  have hcomp : comp = D.1 10 := Option.some.inj (k3.symm.trans hcls.1)
  subst hcomp
  obtain ⟨kC, hkC, -⟩ := hcls.2
  refine W.aast hx hb hat (fun q h => by cases h) (fun h => by cases h) k1 k2 rfl hkC ⟨h0, by show _ < (arrV _ _ _).slots.size; rw [arrV_size]; exact hlt⟩ g1 (fun q h => by rw [g3] at h; cases h) (by rw [g2]; exact hkC) (by rw [g2]; exact va_assign hcls) rfl rfl hdg fun H1 e1 z oq => ?_
  refine kk H1 _ (hW.upd ho z oq (fun _ _ => rfl) (fun _ _ => rfl) (fun b hb => px_u_ne hb) ?_) (hS.put z oq (px_ad_in ho))
  rw [px_e24 _ _ hsh]
  show H1[_]? = some (vp_cell _ _)
  rw [e1, vp_cell_q, vp_cell_q, arrV_store]
  congr 2
  funext q
  by_cases hq : q = i.toNatClampNeg
  · subst hq; simp [updV, px_u, va_rf]
  · simp [updV, px_u, hq]
theorem px_ty_ok : ∀ ci, ci < 13 → ∀ k, k < px_Nf ci → ((px_ty ci k == .int) || (px_ty ci k == .long) || (px_ty ci k == .boolean) || (match px_ty ci k with | .object _ => true | .array _ => true | _ => false)) = true := by decide +kernel
theorem px_dft {ci k : Nat} (hc : ci < 13) (hk : k < px_Nf ci) (ad : Nat → Nat) : px_fv ad (px_ft ci k) 0 0 none = defaultValue (px_ty ci k) := by
  have h := px_ty_ok ci hc k hk
  unfold px_ft
  cases ht : px_ty ci k <;> rw [ht] at h <;> first | rfl | exact absurd h (by decide)
theorem px_new (X : px_X p l e s m args below meth c M base cst D cid Z Q) (hW : px_W base cst D cid n I L R H) (hS : va_S (px_A base) s.heap H locs) {ci idx : Nat} (hf : (M.1.cls, idx, ci) ∈ px_tn) (hsh : (px_sh n).1 = ci) (hcu : cu + 1 ≤ (px_room M).cells) (hsu : su + px_Nf ci ≤ (px_room M).slots) (hdg : decode M.2.1 pc = .ok (.new idx, 3))
    (kk : ∀ (H1 : Heap), px_W base cst D cid (n + 1) (px_w I n (fun _ => 0)) (px_w L n (fun _ => 0)) (px_w R n (fun _ => none)) H1 → va_S (px_A base) s.heap H1 locs → W p l e (px_room M) s m args below meth c H1 locs (cu + 1) (su + px_Nf ci) Z (F0 m (pc + 3) lr (.ref (px_ad base cst n) :: rest))) : W p l e (px_room M) s m args below meth c H locs cu su Z (F0 m pc lr rest) := by
  obtain ⟨hx, hb, hml, hown, hts, hK, hbs, -⟩ := X
  have hci := px_tn_lt _ hf
  have hKn := hK.1 ci _ (px_cl_at ci hci)
  refine W.newcK hx hb hown (hts _ (px_tn_in _ hf)) (hts _ (px_in_ok ci hci).1) (hts _ (px_in_ok ci hci).2) rfl hdg hcu hsu hKn.2.1 rfl fun H1 kC hkC e1 z1 o1 => ?_
  refine W.eq (g2 := F0 m (pc + 3) lr (.ref (px_ad base cst n) :: rest)) (by rw [px_adn hW]) (kk H1 (hW.push z1 o1 (fun b hb => px_w_ne hb) (fun b hb => px_w_ne hb) (fun b hb => px_w_ne hb) ?_) ⟨Nat.le_trans hS.1 (by omega), fun x h1 h2 => (o1 x (Nat.lt_of_lt_of_le h1 hS.1)).trans (hS.2.1 x h1 h2), hS.2.2⟩)
  rw [px_e_obj _ _ (by rw [hsh]; exact hci), hsh, px_w_at, px_w_at, px_w_at]
  refine ⟨_, px_cl_at ci hci, (u_born (px_ty ci) hts (px_cl_in ci hci) hKn hkC e1 (px_cl_ty ci hci)).to fun j hj => ?_⟩
  show _ = vp_V _ j
  unfold vp_V
  rw [List.getD_eq_getElem?_getD, px_fs_at _ hj, px_dft hci hj]
  rfl
theorem px_tyid (X : px_X p l e s m args below meth c M base cst D cid Z Q) {t0 : Nat} {ty : FieldType} {cA : ClassId} (ht : (px_tys cid)[t0]? = some (cid t0, ty)) (hp : ∀ C, ty ≠ .object C) (h : s.vm.findClass ("[" ++ ty.toString) = some cA) : cA = cid t0 := by
  obtain ⟨-, -, -, -, -, hK, -⟩ := X
  have h1 := (hK.2 t0 _ ht).2
  cases ty with
  | object C => exact absurd rfl (hp C)
  | _ => exact Option.some.inj (h.symm.trans h1)
theorem px_nwa (X : px_X p l e s m args below meth c M base cst D cid Z Q) (hW : px_W base cst D cid n I L R H) (hS : va_S (px_A base) s.heap H locs) {at_ : ArrayType} {t0 N : Nat} {x : Int32} (hat : (at_ = .int ∧ t0 = 0 ∧ (px_sh n).1 = 20) ∨ (at_ = .long ∧ t0 = 1 ∧ (px_sh n).1 = 21) ∨ (at_ = .byte ∧ t0 = 2 ∧ (px_sh n).1 = 22) ∨ (at_ = .boolean ∧ t0 = 3 ∧ (px_sh n).1 = 23)) (hN : (px_sh n).2.1 = N) (hx0 : x = Int32.ofNat N) (hcu : cu + 1 ≤ (px_room M).cells) (hsu : su + N ≤ (px_room M).slots) (hdg : decode M.2.1 pc = .ok (.newarray at_, 2))
    (kk : ∀ (H1 : Heap), px_W base cst D cid (n + 1) (px_w I n (fun _ => 0)) (px_w L n (fun _ => 0)) (px_w R n (fun _ => none)) H1 → va_S (px_A base) s.heap H1 locs → W p l e (px_room M) s m args below meth c H1 locs (cu + 1) (su + N) Z (F0 m (pc + 2) lr (.ref (px_ad base cst n) :: rest))) : W p l e (px_room M) s m args below meth c H locs cu su Z (F0 m pc lr (.int x :: rest)) := by
  obtain ⟨hx, hb, hml, hown, hts, hK, hbs, -⟩ := id X
  have hlt : N < 2000 := by rw [← hN]; exact (px_sh_ok n).2
  have hn0 : ¬ x < 0 := by rw [hx0]; exact nI_pos (by omega)
  have hcl : x.toNatClampNeg = N := by rw [hx0]; exact nI_clamp (by omega)
  have fin : ∀ (H1 : Heap) (cA : ClassId), cA = cid t0 → H1[H.size]? = some (arrV cA N (fun _ => defaultValue (newarray.typeOf at_))) → H1.size = H.size + 1 → (∀ q, q < H.size → H1[q]? = H[q]?) → W p l e (px_room M) s m args below meth c H1 locs (cu + 1) (su + N) Z (F0 m (pc + 2) lr (.ref H.size :: rest)) := by
    intro H1 cA hcA e1 z1 o1
    rw [← px_adn hW]
    refine kk H1 (hW.push z1 o1 (fun b hb => px_w_ne hb) (fun b hb => px_w_ne hb) (fun b hb => px_w_ne hb) ?_) ⟨Nat.le_trans hS.1 (by omega), fun x h1 h2 => (o1 x (Nat.lt_of_lt_of_le h1 hS.1)).trans (hS.2.1 x h1 h2), hS.2.2⟩
    rw [px_w_at, px_w_at, px_w_at]
    subst hcA
    rcases hat with ⟨rfl, rfl, hsh⟩ | ⟨rfl, rfl, hsh⟩ | ⟨rfl, rfl, hsh⟩ | ⟨rfl, rfl, hsh⟩
    · rw [px_e20 _ _ hsh, hN]; exact e1
    · rw [px_e21 _ _ hsh, hN]; exact e1
    · rw [px_e22 _ _ hsh, hN]; exact e1
    · rw [px_e23 _ _ hsh, hN]; exact e1
  have hac : (Cond.arrayClass (newarray.typeOf at_)).before args s = true := by
    rcases hat with ⟨rfl, -⟩ | ⟨rfl, -⟩ | ⟨rfl, -⟩ | ⟨rfl, -⟩
    · exact hts _ px_ac_int
    · exact hts _ px_ac_long
    · exact hts _ px_ac_byte
    · exact hts _ px_ac_boolean
  have hcb : N * componentBytes (newarray.typeOf at_) ≤ 536870912 := by
    rcases hat with ⟨rfl, -⟩ | ⟨rfl, -⟩ | ⟨rfl, -⟩ | ⟨rfl, -⟩
    · show N * 4 ≤ _; omega
    · show N * 8 ≤ _; omega
    · show N * 1 ≤ _; omega
    · show N * 1 ≤ _; omega
  refine va_newaK hx hb hac rfl hdg rfl hn0 hcl hcb hcu hsu rfl fun H1 cA e1 z1 o1 hAr hNm => fin H1 cA ?_ e1 z1 o1
  rcases hat with ⟨rfl, rfl, -⟩ | ⟨rfl, rfl, -⟩ | ⟨rfl, rfl, -⟩ | ⟨rfl, rfl, -⟩
  · exact px_tyid X (t0 := 0) (ty := .int) rfl (fun _ h => by cases h) hNm
  · exact px_tyid X (t0 := 1) (ty := .long) rfl (fun _ h => by cases h) hNm
  · exact px_tyid X (t0 := 2) (ty := .byte) rfl (fun _ h => by cases h) hNm
  · exact px_tyid X (t0 := 3) (ty := .boolean) rfl (fun _ h => by cases h) hNm
theorem px_nwr (X : px_X p l e s m args below meth c M base cst D cid Z Q) (hW : px_W base cst D cid n I L R H) (hS : va_S (px_A base) s.heap H locs) {N idx : Nat} {x : Int32} (hf : (M.1.cls, idx, 10) ∈ px_tn) (hsh : (px_sh n).1 = 24) (hN : (px_sh n).2.1 = N) (hx0 : x = Int32.ofNat N) (hcu : cu + 1 ≤ (px_room M).cells) (hsu : su + N ≤ (px_room M).slots) (hdg : decode M.2.1 pc = .ok (.anewarray idx, 3))
    (kk : ∀ (H1 : Heap), px_W base cst D cid (n + 1) (px_w I n (fun _ => 0)) (px_w L n (fun _ => 0)) (px_w R n (fun _ => none)) H1 → va_S (px_A base) s.heap H1 locs → W p l e (px_room M) s m args below meth c H1 locs (cu + 1) (su + N) Z (F0 m (pc + 3) lr (.ref (px_ad base cst n) :: rest))) : W p l e (px_room M) s m args below meth c H locs cu su Z (F0 m pc lr (.int x :: rest)) := by
  obtain ⟨hx, hb, hml, hown, hts, hK, hbs, hC, -⟩ := id X
  have hlt : N < 2000 := by rw [← hN]; exact (px_sh_ok n).2
  have hn0 : ¬ x < 0 := by rw [hx0]; exact nI_pos (by omega)
  have hcl : x.toNatClampNeg = N := by rw [hx0]; exact nI_clamp (by omega)
  refine W.anew hx hb hown (hts _ (px_tn_in _ hf)) (va_AO.use hC.2.2.2.2.2.2.2.2.1) rfl hdg rfl hn0 (by rw [hcl]; omega) hcu (by rw [hcl]; exact hsu) fun cA kA comp f1 f2 f3 f4 => ?_
  rw [hcl]
  generalize hH1 : H.push ({ cls := cA, slots := Array.replicate N .null, vm := .none } : Cell) = H1
  have z1 : H1.size = H.size + 1 := by rw [← hH1, Array.size_push]
  have e1 : H1[H.size]? = some (arrV cA N (fun _ => .null)) := by rw [← hH1, Array.getElem?_push_size, ← arrV_new]
  have o1 : ∀ q : Nat, q < H.size → H1[q]? = H[q]? := fun q hq => by rw [← hH1, Array.getElem?_push, if_neg (Nat.ne_of_lt hq)]
  have hcA : cA = cid 4 := by
    obtain ⟨_, _, -, -, -, h4⟩ := (hK.2 4 _ rfl).2
    exact Option.some.inj (f1.symm.trans h4)
  subst hcA
  refine W.eq (g2 := F0 m (pc + 3) lr (.ref (px_ad base cst n) :: rest)) (by rw [px_adn hW]) (kk H1 (hW.push z1 o1 (fun b hb => px_w_ne hb) (fun b hb => px_w_ne hb) (fun b hb => px_w_ne hb) ?_) ⟨Nat.le_trans hS.1 (by omega), fun x h1 h2 => (o1 x (Nat.lt_of_lt_of_le h1 hS.1)).trans (hS.2.1 x h1 h2), hS.2.2⟩)
  rw [px_e24 _ _ hsh, hN, px_w_at]
  exact e1
end PXA
end
section
/-! straight stretches of code: what they do is computed (px_ex), and the machine follows (px_b) -/
/-- an instruction; of a field: kind, place, how, what it holds for good (two); a constant's value -/
abbrev px_o : Type := Instr × (Nat × Nat × Nat × Nat × Nat) × Int32 × Int64
def px_is (n a ci : Nat) : Prop := 32 ≤ a ∧ a < n ∧ (px_sh a).1 = ci
def px_ia (n a kd : Nat) (N : Int32) : Prop := 32 ≤ a ∧ a < n ∧ (px_sh a).1 = kd ∧ (px_sh a).2.2 = N
def px_gl : px_Ls → Nat → Option Value
  | [], _ => none
  | q :: r, i => bif Nat.beq q.1 i then some q.2 else px_gl r i
def px_rm {β : Type} : px_Ls → Nat → (px_Ls → β) → β
  | [], _, k => k []
  | q :: r, i, k => bif Nat.beq q.1 i || (Nat.beq (q.1 + 1) i && Nat.beq q.2.category 2) then px_rm r i k else px_rm r i (fun r' => k (q :: r'))
def px_rm2 {β : Type} : px_Ls → Nat → (px_Ls → β) → β
  | [], _, k => k []
  | q :: r, i, k => bif Nat.beq q.1 i || (Nat.beq q.1 (i + 1) || (Nat.beq (q.1 + 1) i && Nat.beq q.2.category 2)) then px_rm2 r i k else px_rm2 r i (fun r' => k (q :: r'))
def px_ln : Instr → Nat
  | .aload _ | .astore _ | .bipush _ | .iload _ | .istore _ | .lload _ | .lstore _ | .ldc _ => 2
  | .getfield _ | .putfield _ | .goto _ | .sipush _ | .iinc _ _ | .ldc_w _ | .ldc2_w _ => 3
  | _ => 1
/-- the words and numbers that stand beside an instruction are right -/
def px_au (on nL : Nat) (x : px_o) : Bool := match x.1 with
  | .istore k => Nat.blt k nL
  | .istore_n k => Nat.blt k nL
  | .astore k => Nat.blt k nL
  | .astore_n k => Nat.blt k nL
  | .lstore k => Nat.blt (k + 1) nL
  | .lstore_n k => Nat.blt (k + 1) nL
  | .iconst v => decide (Int32.ofInt v = x.2.2.1)
  | .bipush v => decide ((Int8.ofInt v).toInt32 = x.2.2.1)
  | .sipush v => decide ((Int16.ofInt v).toInt32 = x.2.2.1)
  | .iinc k v => Nat.blt k nL && decide (Int32.ofInt v = x.2.2.1)
  | .lconst k => decide (Int64.ofNat (k : Nat) = x.2.2.2)
  | .ldc i => decide ((on, i, x.2.2.1) ∈ px_tc)
  | .ldc_w i => decide ((on, i, x.2.2.1) ∈ px_tc)
  | .ldc2_w i => decide ((on, i, x.2.2.2) ∈ px_tl)
  | .getfield i => decide ((on, i, x.2.1.1, x.2.1.2.1) ∈ px_tf) && (match x.2.1.2.2.1 with
    | 0 => Nat.beq (px_ft x.2.1.1 x.2.1.2.1) 0 || Nat.beq (px_ft x.2.1.1 x.2.1.2.1) 3
    | 5 => Nat.beq (px_ft x.2.1.1 x.2.1.2.1) 0
    | 1 => Nat.beq (px_ft x.2.1.1 x.2.1.2.1) 1
    | 3 => Nat.beq (px_ft x.2.1.1 x.2.1.2.1) 2
    | 4 => Nat.beq (px_ft x.2.1.1 x.2.1.2.1) 2
    | 6 => Nat.beq (px_ft x.2.1.1 x.2.1.2.1) 2 && (Nat.beq x.2.1.1 10 && (Nat.beq x.2.1.2.1 0 && Nat.beq x.2.1.2.2.2.1 1 || Nat.beq x.2.1.2.1 1 && Nat.beq x.2.1.2.2.2.1 2))
    | _ => false)
  | .putfield i => decide ((on, i, x.2.1.1, x.2.1.2.1) ∈ px_tf) && (!(px_Tf x.2.1.1 x.2.1.2.1).2.2.2 && (match x.2.1.2.2.1 with
    | 0 => decide (px_ty x.2.1.1 x.2.1.2.1 = .int)
    | 5 => decide (px_ty x.2.1.1 x.2.1.2.1 = .int)
    | 1 => decide (px_ty x.2.1.1 x.2.1.2.1 = .long)
    | 2 => decide (px_ty x.2.1.1 x.2.1.2.1 = .boolean)
    | _ => false))
  | _ => true
def px_dec (on nL : Nat) (cc : ByteArray) (pc : Nat) (x : px_o) : Option Nat := match decode cc pc with
  | .ok (i, len) => bif decide (i = x.1) && (Nat.beq len (px_ln x.1) && px_au on nL x) then (match x.1 with
    | .goto off => bif decide (0 ≤ (pc : Int) + off) then some ((pc : Int) + off).toNat else none
    | _ => some (pc + px_ln x.1)) else none
  | .error _ => none
def px_bk (on nL : Nat) (cc : ByteArray) : Nat → List px_o → Option Nat
  | pc, [] => some pc
  | pc, x :: xs => match px_dec on nL cc pc x with
    | some pc1 => px_bk on nL cc pc1 xs
    | none => none
/-- an object by its number, of that kind, there -/
def px_ck (nb o ci : Nat) : Bool := Nat.ble 32 o && (Nat.blt o nb && Nat.beq (px_sh o).1 ci)
/-- what has been written in this stretch, the newest first; it is read through -/
abbrev px_lg (α : Type) : Type := List (Nat × Nat × α)
def px_app {α : Type} (I : Nat → Nat → α) : px_lg α → Nat → Nat → α
  | [] => I
  | (x, y, v) :: r => px_u (px_app I r) x y v
def px_apK {α β : Type} (I : Nat → Nat → α) : px_lg α → ((Nat → Nat → α) → β) → β
  | [], k => k I
  | (x, y, v) :: r, k => px_apK I r (fun f => k (px_u f x y v))
def px_rdF {α β : Type} (I : Nat → Nat → α) : px_lg α → Nat → Nat → (α → β) → β
  | [], o, b, k => k (I o b)
  | (x, y, v) :: r, o, b, k => bif Nat.beq x o then (bif Nat.beq y b then k v else px_rdF I r o b k) else px_rdF I r o b k
def px_rdA {α β : Type} (I : Nat → Nat → α) (full : px_lg α) : px_lg α → Nat → Nat → (α → β) → β
  | [], o, b, k => k (I o b)
  | (x, _, _) :: r, o, b, k => bif Nat.beq x o then px_apK I full (fun f => k (f o b)) else px_rdA I full r o b k
abbrev px_z : Type := Prop × px_Ls × List Value × px_I × px_L
def px_s1 (nb n : Nat) (R : px_R) (x : px_o) (ls : px_Ls) (st : List Value) (I : px_I) (G : px_lg Int32) (L : px_L) (F : px_lg Int64) (P : Prop) (K : px_Ls → List Value → px_I → px_lg Int32 → px_L → px_lg Int64 → Prop → Option px_z) : Option px_z :=
  match x with
  | (i, (xa, xb, xk, xd, xe), xc, xl) => match i with
  | .iconst _ => K ls (.int xc :: st) I G L F P
  | .bipush _ => K ls (.int xc :: st) I G L F P
  | .sipush _ => K ls (.int xc :: st) I G L F P
  | .lconst _ => K ls (.long xl :: st) I G L F P
  | .ldc _ => K ls (.int xc :: st) I G L F P
  | .ldc_w _ => K ls (.int xc :: st) I G L F P
  | .ldc2_w _ => K ls (.long xl :: st) I G L F P
  | .aconst_null => K ls (.null :: st) I G L F P
  | .iload_n k => match px_gl ls k with
    | some (.int v) => K ls (.int v :: st) I G L F P
    | _ => none
  | .iload k => match px_gl ls k with
    | some (.int v) => K ls (.int v :: st) I G L F P
    | _ => none
  | .lload_n k => match px_gl ls k with
    | some (.long v) => K ls (.long v :: st) I G L F P
    | _ => none
  | .lload k => match px_gl ls k with
    | some (.long v) => K ls (.long v :: st) I G L F P
    | _ => none
  | .aload_n k => match px_gl ls k with
    | some (.ref v) => K ls (.ref v :: st) I G L F P
    | some .null => K ls (.null :: st) I G L F P
    | _ => none
  | .aload k => match px_gl ls k with
    | some (.ref v) => K ls (.ref v :: st) I G L F P
    | some .null => K ls (.null :: st) I G L F P
    | _ => none
  | .istore_n k => match st with
    | .int v :: r => px_rm ls k (fun l => K (((k : Nat), .int v) :: l) r I G L F P)
    | _ => none
  | .istore k => match st with
    | .int v :: r => px_rm ls k (fun l => K ((k, .int v) :: l) r I G L F P)
    | _ => none
  | .astore_n k => match st with
    | .ref v :: r => px_rm ls k (fun l => K (((k : Nat), .ref v) :: l) r I G L F P)
    | .null :: r => px_rm ls k (fun l => K (((k : Nat), .null) :: l) r I G L F P)
    | _ => none
  | .astore k => match st with
    | .ref v :: r => px_rm ls k (fun l => K ((k, .ref v) :: l) r I G L F P)
    | .null :: r => px_rm ls k (fun l => K ((k, .null) :: l) r I G L F P)
    | _ => none
  | .lstore_n k => match st with
    | .long v :: r => px_rm2 ls k (fun l => K (((k : Nat), .long v) :: l) r I G L F P)
    | _ => none
  | .lstore k => match st with
    | .long v :: r => px_rm2 ls k (fun l => K ((k, .long v) :: l) r I G L F P)
    | _ => none
  | .iinc k _ => match px_gl ls k with
    | some (.int v) => px_rm ls k (fun l => K ((k, .int (v + xc)) :: l) st I G L F P)
    | _ => none
  | .goto _ => K ls st I G L F P
  | .iadd => match st with
    | .int y :: .int v :: r => K ls (.int (v + y) :: r) I G L F P
    | _ => none
  | .isub => match st with
    | .int y :: .int v :: r => K ls (.int (v - y) :: r) I G L F P
    | _ => none
  | .imul => match st with
    | .int y :: .int v :: r => K ls (.int (v * y) :: r) I G L F P
    | _ => none
  | .idiv => match st with
    | .int y :: .int v :: r => K ls (.int (v / y) :: r) I G L F (P ∧ ¬ y = 0)
    | _ => none
  | .irem => match st with
    | .int y :: .int v :: r => K ls (.int (v - v / y * y) :: r) I G L F (P ∧ ¬ y = 0)
    | _ => none
  | .ineg => match st with
    | .int v :: r => K ls (.int (0 - v) :: r) I G L F P
    | _ => none
  | .iand => match st with
    | .int y :: .int v :: r => K ls (.int (v &&& y) :: r) I G L F P
    | _ => none
  | .ior => match st with
    | .int y :: .int v :: r => K ls (.int (v ||| y) :: r) I G L F P
    | _ => none
  | .ishl => match st with
    | .int y :: .int v :: r => K ls (.int (v <<< (y &&& 31)) :: r) I G L F P
    | _ => none
  | .ishr => match st with
    | .int y :: .int v :: r => K ls (.int (v >>> (y &&& 31)) :: r) I G L F P
    | _ => none
  | .iushr => match st with
    | .int y :: .int v :: r => K ls (.int (v.toUInt32 >>> (y.toUInt32 &&& Int32.toUInt32 31)).toInt32 :: r) I G L F P
    | _ => none
  | .ladd => match st with
    | .long y :: .long v :: r => K ls (.long (v + y) :: r) I G L F P
    | _ => none
  | .lsub => match st with
    | .long y :: .long v :: r => K ls (.long (v - y) :: r) I G L F P
    | _ => none
  | .lmul => match st with
    | .long y :: .long v :: r => K ls (.long (v * y) :: r) I G L F P
    | _ => none
  | .ldiv => match st with
    | .long y :: .long v :: r => K ls (.long (v / y) :: r) I G L F (P ∧ ¬ y = 0)
    | _ => none
  | .lrem => match st with
    | .long y :: .long v :: r => K ls (.long (v - v / y * y) :: r) I G L F (P ∧ ¬ y = 0)
    | _ => none
  | .lneg => match st with
    | .long v :: r => K ls (.long (-v) :: r) I G L F P
    | _ => none
  | .lxor => match st with
    | .long y :: .long v :: r => K ls (.long (v ^^^ y) :: r) I G L F P
    | _ => none
  | .lcmp => match st with
    | .long y :: .long v :: r => K ls (.int (lg_cmp v y) :: r) I G L F P
    | _ => none
  | .i2l => match st with
    | .int v :: r => K ls (.long v.toInt64 :: r) I G L F P
    | _ => none
  | .l2i => match st with
    | .long v :: r => K ls (.int v.toInt32 :: r) I G L F P
    | _ => none
  | .i2b => match st with
    | .int v :: r => K ls (.int v.toInt8.toInt32 :: r) I G L F P
    | _ => none
  | .dup => match st with
    | .int v :: r => K ls (.int v :: .int v :: r) I G L F P
    | .ref v :: r => K ls (.ref v :: .ref v :: r) I G L F P
    | _ => none
  | .dup2 => match st with
    | .int y :: .ref v :: r => K ls (.int y :: .ref v :: .int y :: .ref v :: r) I G L F P
    | .long y :: r => K ls (.long y :: .long y :: r) I G L F P
    | _ => none
  | .pop => match st with
    | .int _ :: r => K ls r I G L F P
    | .ref _ :: r => K ls r I G L F P
    | _ => none
  | .pop2 => match st with
    | .long _ :: r => K ls r I G L F P
    | _ => none
  | .getfield _ => match st with
    | .ref o :: r => match xk with
      | 0 => bif px_ck nb o xa then px_rdF I G o xb (fun v => K ls (.int v :: r) I G L F P) else none
      | 1 => bif px_ck nb o xa then px_rdF L F o xb (fun v => K ls (.long v :: r) I G L F P) else none
      | 3 => bif px_ck nb o xa then (bif Nat.beq (px_tg o xb) xd && Nat.blt 0 xd then K ls (.ref xd :: r) I G L F P else bif Nat.beq (px_tg o xb) xe && Nat.blt 0 xe then K ls (.ref xe :: r) I G L F P else none) else none
      | 4 => bif px_ck nb o xa then K ls (va_rf (R o xb) :: r) I G L F P else none
      | 5 => K ls (.int (px_app I G o xb) :: r) I G L F (P ∧ px_is n o xa)
      | 6 => K ls (.ref (o + xd) :: r) I G L F (P ∧ px_is n o xa)
      | _ => none
    | _ => none
  | .putfield _ => match xk with
    | 0 => match st with
      | .int v :: .ref o :: r => bif px_ck nb o xa then K ls r I ((o, xb, v) :: G) L F P else none
      | _ => none
    | 1 => match st with
      | .long v :: .ref o :: r => bif px_ck nb o xa then K ls r I G L ((o, xb, v) :: F) P else none
      | _ => none
    | 2 => match st with
      | .int v :: .ref o :: r => bif px_ck nb o xa then K ls r I ((o, xb, v) :: G) L F (P ∧ (v = 0 ∨ v = 1)) else none
      | _ => none
    | 5 => match st with
      | .int v :: .ref o :: r => px_apK I G (fun I => K ls r (px_u I o xb v) [] L F (P ∧ px_is n o xa))
      | _ => none
    | _ => none
  | .iaload => match st with
    | .int j :: .ref o :: r => match xa with
      | 0 => match px_sh o with
        | (kd, _, NI) => bif Nat.ble 32 o && (Nat.blt o nb && Nat.beq kd 20) then px_rdA I G G o j.toNatClampNeg (fun v => K ls (.int v :: r) I G L F (P ∧ (0 ≤ j ∧ j < NI))) else none
      | _ => K ls (.int (px_app I G o j.toNatClampNeg) :: r) I G L F ((P ∧ px_ia n o 20 xc) ∧ (0 ≤ j ∧ j < xc))
    | _ => none
  | .laload => match st with
    | .int j :: .ref o :: r => match xa with
      | 0 => match px_sh o with
        | (kd, _, NI) => bif Nat.ble 32 o && (Nat.blt o nb && Nat.beq kd 21) then px_rdA L F F o j.toNatClampNeg (fun v => K ls (.long v :: r) I G L F (P ∧ (0 ≤ j ∧ j < NI))) else none
      | _ => K ls (.long (px_app L F o j.toNatClampNeg) :: r) I G L F ((P ∧ px_ia n o 21 xc) ∧ (0 ≤ j ∧ j < xc))
    | _ => none
  | .baload => match st with
    | .int j :: .ref o :: r => match px_sh o with
      | (kd, _, NI) => bif Nat.ble 32 o && (Nat.blt o nb && (Nat.beq kd 22 || Nat.beq kd 23)) then px_rdA I G G o j.toNatClampNeg (fun v => K ls (.int v :: r) I G L F (P ∧ (0 ≤ j ∧ j < NI))) else none
    | _ => none
  | .iastore => match st with
    | .int v :: .int j :: .ref o :: r => match xa with
      | 0 => match px_sh o with
        | (kd, _, NI) => bif Nat.ble 32 o && (Nat.blt o nb && Nat.beq kd 20) then K ls r I ((o, j.toNatClampNeg, v) :: G) L F (P ∧ (0 ≤ j ∧ j < NI)) else none
      | _ => px_apK I G (fun I => K ls r (px_u I o j.toNatClampNeg v) [] L F ((P ∧ px_ia n o 20 xc) ∧ (0 ≤ j ∧ j < xc)))
    | _ => none
  | .lastore => match st with
    | .long v :: .int j :: .ref o :: r => match xa with
      | 0 => match px_sh o with
        | (kd, _, NI) => bif Nat.ble 32 o && (Nat.blt o nb && Nat.beq kd 21) then K ls r I G L ((o, j.toNatClampNeg, v) :: F) (P ∧ (0 ≤ j ∧ j < NI)) else none
      | _ => px_apK L F (fun L => K ls r I G (px_u L o j.toNatClampNeg v) [] ((P ∧ px_ia n o 21 xc) ∧ (0 ≤ j ∧ j < xc)))
    | _ => none
  | .bastore => match st with
    | .int v :: .int j :: .ref o :: r => match px_sh o with
      | (kd, _, NI) => bif Nat.ble 32 o && (Nat.blt o nb && Nat.beq kd 22) then K ls r I ((o, j.toNatClampNeg, v.toInt8.toInt32) :: G) L F (P ∧ (0 ≤ j ∧ j < NI)) else bif Nat.ble 32 o && (Nat.blt o nb && Nat.beq kd 23) then K ls r I ((o, j.toNatClampNeg, (v &&& 1)) :: G) L F (P ∧ (0 ≤ j ∧ j < NI)) else none
    | _ => none
  | _ => none
def px_exg (nb n : Nat) (R : px_R) : List px_o → px_Ls → List Value → px_I → px_lg Int32 → px_L → px_lg Int64 → Prop → Option px_z
  | [], ls, st, I, G, L, F, P => px_apK I G (fun I => px_apK L F (fun L => some (P, ls, st, I, L)))
  | x :: xs, ls, st, I, G, L, F, P => px_s1 nb n R x ls st I G L F P (fun ls st I G L F P => px_exg nb n R xs ls st I G L F P)
def px_ex (nb n : Nat) (R : px_R) (xs : List px_o) (ls : px_Ls) (st : List Value) (I : px_I) (L : px_L) (P : Prop) : Option px_z := px_exg nb n R xs ls st I [] L [] P
theorem px_apK_eq {α β : Type} (I : Nat → Nat → α) (G : px_lg α) : ∀ k : (Nat → Nat → α) → β, px_apK I G k = k (px_app I G) := by
  induction G with
  | nil => intro k; rfl
  | cons e r ih => obtain ⟨x, y, v⟩ := e; intro k; simp only [px_apK, px_app, ih]
theorem px_rdF_eq {α β : Type} (I : Nat → Nat → α) (G : px_lg α) (o b : Nat) (k : α → β) : px_rdF I G o b k = k (px_app I G o b) := by
  induction G with
  | nil => rfl
  | cons e r ih =>
    obtain ⟨x, y, v⟩ := e
    simp only [px_rdF, px_app]
    cases h1 : Nat.beq x o with
    | false =>
      have : o ≠ x := fun q => by rw [q, Nat.beq_refl] at h1; cases h1
      rw [px_u_ne this]; exact ih
    | true =>
      have := Nat.eq_of_beq_eq_true h1
      subst this
      cases h2 : Nat.beq y b with
      | true =>
        have := Nat.eq_of_beq_eq_true h2
        subst this
        rw [px_u_at]; rfl
      | false =>
        have : b ≠ y := fun q => by rw [q, Nat.beq_refl] at h2; cases h2
        rw [px_u_at_ne this]; exact ih
theorem px_rdA_out {α β : Type} (I : Nat → Nat → α) (full : px_lg α) (o b : Nat) (k : α → β) : ∀ G : px_lg α, (∀ e ∈ G, e.1 ≠ o) → px_rdA I full G o b k = k (I o b) := by
  intro G
  induction G with
  | nil => intro _; rfl
  | cons e r ih =>
    intro h
    obtain ⟨x, y, v⟩ := e
    have h3 : Nat.beq x o = false := by
      cases hb : Nat.beq x o with
      | true => exact absurd (Nat.eq_of_beq_eq_true hb) (h (x, y, v) List.mem_cons_self)
      | false => rfl
    simp only [px_rdA, h3, cond_false]
    exact ih (fun e he => h e (List.mem_cons_of_mem _ he))
theorem px_rdA_in {α β : Type} (I : Nat → Nat → α) (full : px_lg α) (o b : Nat) (k : α → β) : ∀ G : px_lg α, ¬ (∀ e ∈ G, e.1 ≠ o) → px_rdA I full G o b k = k (px_app I full o b) := by
  intro G
  induction G with
  | nil => intro h; exact absurd (fun _ h => by cases h) h
  | cons e r ih =>
    intro h
    obtain ⟨x, y, v⟩ := e
    simp only [px_rdA]
    cases hb : Nat.beq x o with
    | true => rw [cond_true, px_apK_eq]
    | false =>
      rw [cond_false]
      refine ih (fun h2 => h fun e he => ?_)
      rcases List.mem_cons.mp he with rfl | he
      · exact fun q => by rw [show x = o from q, Nat.beq_refl] at hb; cases hb
      · exact h2 e he
theorem px_app_out {α : Type} (I : Nat → Nat → α) (G : px_lg α) (o b : Nat) (h : ∀ e ∈ G, e.1 ≠ o) : px_app I G o b = I o b := by
  induction G with
  | nil => rfl
  | cons e r ih =>
    obtain ⟨x, y, v⟩ := e
    simp only [px_app]
    rw [px_u_ne (Ne.symm (h (x, y, v) List.mem_cons_self))]
    exact ih (fun x hx => h x (List.mem_cons_of_mem _ hx))
theorem px_rdA_eq' {α β : Type} (I : Nat → Nat → α) (G : px_lg α) (o b : Nat) (k : α → β) : px_rdA I G G o b k = k (px_app I G o b) := by
  by_cases h : ∀ e ∈ G, e.1 ≠ o
  · rw [px_rdA_out I G o b k G h, px_app_out I G o b h]
  · exact px_rdA_in I G o b k G h
theorem px_beq (a b : Nat) : Nat.beq a b = decide (a = b) := by
  by_cases h : a = b
  · subst h; simp
  · rw [decide_eq_false h]
    cases hb : Nat.beq a b with
    | true => exact absurd (Nat.eq_of_beq_eq_true hb) h
    | false => rfl
theorem px_rm_eq {β : Type} (ls : px_Ls) (i : Nat) : ∀ k : px_Ls → β, px_rm ls i k = k (ls.filter fun q => !(q.1 == i) && !(q.1 + 1 == i && q.2.category == 2)) := by
  induction ls with
  | nil => intro k; rfl
  | cons q r ih =>
    intro k
    simp only [px_rm, List.filter_cons]
    by_cases h1 : q.1 = i <;> by_cases h2 : q.1 + 1 = i <;> by_cases h3 : q.2.category = 2 <;> simp [h1, h2, h3, ih, px_beq]
theorem px_rm2_eq {β : Type} (ls : px_Ls) (i : Nat) : ∀ k : px_Ls → β, px_rm2 ls i k = k (ls.filter fun q => !(q.1 == i) && (!(q.1 == i + 1) && !(q.1 + 1 == i && q.2.category == 2))) := by
  induction ls with
  | nil => intro k; rfl
  | cons q r ih =>
    intro k
    simp only [px_rm2, List.filter_cons]
    by_cases h1 : q.1 = i <;> by_cases h2 : q.1 + 1 = i <;> by_cases h3 : q.2.category = 2 <;> by_cases h4 : q.1 = i + 1 <;> simp [h1, h2, h3, h4, ih, px_beq]
theorem px_gl_mem {ls : px_Ls} {i : Nat} {v : Value} (h : px_gl ls i = some v) : (i, v) ∈ ls := by
  induction ls with
  | nil => simp [px_gl] at h
  | cons q r ih =>
    simp only [px_gl] at h
    cases hb : Nat.beq q.1 i with
    | true =>
      rw [hb] at h
      have := Nat.eq_of_beq_eq_true hb
      simp at h
      subst this; subst h
      exact List.mem_cons_self
    | false => rw [hb] at h; exact List.mem_cons_of_mem _ (ih h)
theorem px_has {lr : Array Slot} {nL : Nat} {ls : px_Ls} {ad : Nat → Nat} {i : Nat} {v : Value} (h : lv_has lr nL (ls.map fun q => (q.1, px_v ad q.2))) (hg : px_gl ls i = some v) : lr[i]? = some (.val (px_v ad v)) :=
  h.2.2 (i, px_v ad v) (List.mem_map.mpr ⟨(i, v), px_gl_mem hg, rfl⟩)
theorem px_ck_ok {nb o ci : Nat} (h : px_ck nb o ci = true) : 32 ≤ o ∧ o < nb ∧ (px_sh o).1 = ci := by
  unfold px_ck at h
  simp only [Bool.and_eq_true] at h
  exact ⟨Nat.le_of_ble_eq_true h.1, Nat.le_of_ble_eq_true h.2.1, Nat.eq_of_beq_eq_true h.2.2⟩
end
section
/-! the machine follows px_s1, px_ex -/
/-- what stands for good -/
def px_st (n : Nat) (R : px_R) : Prop := (∀ o k, px_tg o k ≠ 0 → R o k = some (px_tg o k)) ∧ ∀ w, px_is n w 10 → R w 0 = some (w + 1) ∧ R w 1 = some (w + 2)
def px_us (x : px_o) : Bool := match x.1 with
  | .getfield _ => Nat.beq x.2.1.2.2.1 3 || Nat.beq x.2.1.2.2.1 6
  | _ => false
theorem px_dec_ok {on nL : Nat} {cc : ByteArray} {pc pc1 : Nat} {x : px_o} (h : px_dec on nL cc pc x = some pc1) : decode cc pc = .ok (x.1, px_ln x.1) ∧ px_au on nL x = true ∧ ((∀ off, x.1 ≠ .goto off) → pc1 = pc + px_ln x.1) ∧ ∀ off, x.1 = .goto off → (pc : Int) + off = pc1 := by
  unfold px_dec at h
  split at h
  · rename_i i len hdec
    cases hb : (decide (i = x.1) && (Nat.beq len (px_ln x.1) && px_au on nL x)) with
    | false => rw [hb] at h; cases h
    | true =>
      rw [hb] at h
      simp only [Bool.and_eq_true, decide_eq_true_eq] at hb
      obtain ⟨h1, h2, h3⟩ := hb
      have h2 := Nat.eq_of_beq_eq_true h2
      subst h1; subst h2
      refine ⟨hdec, h3, fun hg => ?_, fun off ho => ?_⟩
      · rw [cond_true] at h
        split at h
        · rename_i off hx; exact absurd hx (hg off)
        · cases h; rfl
      · rw [cond_true, ho] at h
        dsimp only at h
        cases hb : decide (0 ≤ (pc : Int) + off) with
        | false => rw [hb] at h; cases h
        | true =>
          rw [hb] at h
          cases h
          exact (Int.toNat_of_nonneg (of_decide_eq_true hb)).symm
  · cases h
theorem px_fm1 (ls : px_Ls) (ad : Nat → Nat) (i : Nat) : (ls.map fun q => (q.1, px_v ad q.2)).filter (fun q => !(q.1 == i) && !(q.1 + 1 == i && q.2.category == 2)) = (ls.filter fun q => !(q.1 == i) && !(q.1 + 1 == i && q.2.category == 2)).map fun q => (q.1, px_v ad q.2) := by
  rw [List.filter_map]
  congr 1
  apply List.filter_congr
  intro q _
  simp only [Function.comp, px_v_cat]
theorem px_fm2 (ls : px_Ls) (ad : Nat → Nat) (i : Nat) : (ls.map fun q => (q.1, px_v ad q.2)).filter (fun q => !(q.1 == i) && (!(q.1 == i + 1) && !(q.1 + 1 == i && q.2.category == 2))) = (ls.filter fun q => !(q.1 == i) && (!(q.1 == i + 1) && !(q.1 + 1 == i && q.2.category == 2))).map fun q => (q.1, px_v ad q.2) := by
  rw [List.filter_map]
  congr 1
  apply List.filter_congr
  intro q _
  simp only [Function.comp, px_v_cat]
theorem px_v_rf (ad : Nat → Nat) (r : Option Nat) : px_v ad (va_rf r) = va_rf (r.map ad) := by cases r <;> rfl
theorem px_fv0 {ad : Nat → Nat} {c : Nat} {i : Int32} {l : Int64} {r : Option Nat} (h : c = 0 ∨ c = 3) : px_fv ad c i l r = .int i := by rcases h with h | h <;> subst h <;> rfl
theorem px_nb_ok {nb o kd kd' : Nat} (h : (Nat.ble 32 o && (Nat.blt o nb && Nat.beq kd kd')) = true) : 32 ≤ o ∧ o < nb ∧ kd = kd' := by
  simp only [Bool.and_eq_true] at h
  exact ⟨Nat.le_of_ble_eq_true h.1, Nat.le_of_ble_eq_true h.2.1, Nat.eq_of_beq_eq_true h.2.2⟩
theorem px_pair {α : Type} {a : Nat × Nat × Int32} {kd N : Nat} {NI : Int32} (h : a = (kd, N, NI)) : a.1 = kd ∧ a.2.2 = NI := by subst h; exact ⟨rfl, rfl⟩
set_option maxHeartbeats 4000000 in
theorem px_s1_ok {nb n : Nat} {R : px_R} {x : px_o} {ls : px_Ls} {st : List Value} {I : px_I} {G : px_lg Int32} {L : px_L} {F : px_lg Int64} {P : Prop} {K : px_Ls → List Value → px_I → px_lg Int32 → px_L → px_lg Int64 → Prop → Option px_z} {z : px_z} (h : px_s1 nb n R x ls st I G L F P K = some z)
    {M : px_M} {cu su pc pc1 on : Nat} {Q : px_Q} (hnb : nb ≤ n) (hst : px_us x = true → px_st n R) (hon : M.1.cls = px_Rn on) (hd : px_dec on M.2.2.1 M.2.1 pc x = some pc1) :
    ∃ ls1 st1 I1 G1 L1 F1 P1, K ls1 st1 I1 G1 L1 F1 P1 = some z ∧ (P1 → P) ∧ (P1 → px M cu su pc1 ls1 st1 n (px_app I1 G1) (px_app L1 F1) R Q → px M cu su pc ls st n (px_app I G) (px_app L F) R Q) := by
  obtain ⟨hdc, hau, hng, hgo⟩ := px_dec_ok hd
  obtain ⟨i, ⟨a, b, kd, d, d2⟩, cI, cL⟩ := x
  dsimp only at hdc hau hng hgo hst
  cases i with

  | iconst v =>
    obtain rfl := hng (fun _ q => by cases q)
    simp only [px_s1] at h
    refine ⟨_, _, _, _, _, _, _, h, id, fun hP k p l e s m args below meth c base cst D cid Z H locs lr X hW hS hl => ?_⟩
    exact lv_iconst X.1 X.2.1 hdc (of_decide_eq_true hau) (k p l e s m args below meth c base cst D cid Z H locs lr X hW hS hl)

  | bipush v =>
    obtain rfl := hng (fun _ q => by cases q)
    simp only [px_s1] at h
    refine ⟨_, _, _, _, _, _, _, h, id, fun hP k p l e s m args below meth c base cst D cid Z H locs lr X hW hS hl => ?_⟩
    exact lv_bipush X.1 X.2.1 hdc (of_decide_eq_true hau) (k p l e s m args below meth c base cst D cid Z H locs lr X hW hS hl)

  | sipush v =>
    obtain rfl := hng (fun _ q => by cases q)
    simp only [px_s1] at h
    refine ⟨_, _, _, _, _, _, _, h, id, fun hP k p l e s m args below meth c base cst D cid Z H locs lr X hW hS hl => ?_⟩
    exact lv_sipush X.1 X.2.1 hdc (of_decide_eq_true hau) (k p l e s m args below meth c base cst D cid Z H locs lr X hW hS hl)

  | lconst v =>
    obtain rfl := hng (fun _ q => by cases q)
    simp only [px_s1] at h
    refine ⟨_, _, _, _, _, _, _, h, id, fun hP k p l e s m args below meth c base cst D cid Z H locs lr X hW hS hl => ?_⟩
    exact lv_lconst X.1 X.2.1 hdc (of_decide_eq_true hau) (k p l e s m args below meth c base cst D cid Z H locs lr X hW hS hl)

  | ldc v =>
    obtain rfl := hng (fun _ q => by cases q)
    simp only [px_s1] at h
    refine ⟨_, _, _, _, _, _, _, h, id, fun hP k p l e s m args below meth c base cst D cid Z H locs lr X hW hS hl => ?_⟩
    exact lv_ldc X.1 X.2.1 X.2.2.2.1 (by rw [hon]; exact X.2.2.2.2.1 _ (px_tc_in _ (of_decide_eq_true hau))) hdc (k p l e s m args below meth c base cst D cid Z H locs lr X hW hS hl)

  | ldc_w v =>
    obtain rfl := hng (fun _ q => by cases q)
    simp only [px_s1] at h
    refine ⟨_, _, _, _, _, _, _, h, id, fun hP k p l e s m args below meth c base cst D cid Z H locs lr X hW hS hl => ?_⟩
    exact lv_ldcw X.1 X.2.1 X.2.2.2.1 (by rw [hon]; exact X.2.2.2.2.1 _ (px_tc_in _ (of_decide_eq_true hau))) hdc (k p l e s m args below meth c base cst D cid Z H locs lr X hW hS hl)

  | ldc2_w v =>
    obtain rfl := hng (fun _ q => by cases q)
    simp only [px_s1] at h
    refine ⟨_, _, _, _, _, _, _, h, id, fun hP k p l e s m args below meth c base cst D cid Z H locs lr X hW hS hl => ?_⟩
    exact lv_ldc2 X.1 X.2.1 X.2.2.2.1 (by rw [hon]; exact X.2.2.2.2.1 _ (px_tl_in _ (of_decide_eq_true hau))) hdc (k p l e s m args below meth c base cst D cid Z H locs lr X hW hS hl)

  | aconst_null =>
    obtain rfl := hng (fun _ q => by cases q)
    simp only [px_s1] at h
    refine ⟨_, _, _, _, _, _, _, h, id, fun hP k p l e s m args below meth c base cst D cid Z H locs lr X hW hS hl => ?_⟩
    exact lv_null X.1 X.2.1 hdc (k p l e s m args below meth c base cst D cid Z H locs lr X hW hS hl)

  | iload_n v =>
    obtain rfl := hng (fun _ q => by cases q)
    simp only [px_s1] at h
    split at h
    · refine ⟨_, _, _, _, _, _, _, h, id, fun hP k p l e s m args below meth c base cst D cid Z H locs lr X hW hS hl => ?_⟩
      exact lv_iload_n X.1 X.2.1 hdc rfl (px_has hl (by assumption)) (k p l e s m args below meth c base cst D cid Z H locs lr X hW hS hl)
    · cases h

  | lload_n v =>
    obtain rfl := hng (fun _ q => by cases q)
    simp only [px_s1] at h
    split at h
    · refine ⟨_, _, _, _, _, _, _, h, id, fun hP k p l e s m args below meth c base cst D cid Z H locs lr X hW hS hl => ?_⟩
      exact lv_lload_n X.1 X.2.1 hdc rfl (px_has hl (by assumption)) (k p l e s m args below meth c base cst D cid Z H locs lr X hW hS hl)
    · cases h

  | aload_n v =>
    obtain rfl := hng (fun _ q => by cases q)
    simp only [px_s1] at h
    split at h
    · refine ⟨_, _, _, _, _, _, _, h, id, fun hP k p l e s m args below meth c base cst D cid Z H locs lr X hW hS hl => ?_⟩
      exact lv_aload_n X.1 X.2.1 hdc rfl (px_has hl (by assumption)) (k p l e s m args below meth c base cst D cid Z H locs lr X hW hS hl)
    · refine ⟨_, _, _, _, _, _, _, h, id, fun hP k p l e s m args below meth c base cst D cid Z H locs lr X hW hS hl => ?_⟩
      exact lv_aload_nN X.1 X.2.1 hdc rfl (px_has hl (by assumption)) (k p l e s m args below meth c base cst D cid Z H locs lr X hW hS hl)
    · cases h

  | iload v =>
    obtain rfl := hng (fun _ q => by cases q)
    simp only [px_s1] at h
    split at h
    · refine ⟨_, _, _, _, _, _, _, h, id, fun hP k p l e s m args below meth c base cst D cid Z H locs lr X hW hS hl => ?_⟩
      exact lv_iload X.1 X.2.1 hdc (px_has hl (by assumption)) (k p l e s m args below meth c base cst D cid Z H locs lr X hW hS hl)
    · cases h

  | lload v =>
    obtain rfl := hng (fun _ q => by cases q)
    simp only [px_s1] at h
    split at h
    · refine ⟨_, _, _, _, _, _, _, h, id, fun hP k p l e s m args below meth c base cst D cid Z H locs lr X hW hS hl => ?_⟩
      exact lv_lload X.1 X.2.1 hdc (px_has hl (by assumption)) (k p l e s m args below meth c base cst D cid Z H locs lr X hW hS hl)
    · cases h

  | aload v =>
    obtain rfl := hng (fun _ q => by cases q)
    simp only [px_s1] at h
    split at h
    · refine ⟨_, _, _, _, _, _, _, h, id, fun hP k p l e s m args below meth c base cst D cid Z H locs lr X hW hS hl => ?_⟩
      exact lv_aload X.1 X.2.1 hdc (px_has hl (by assumption)) (k p l e s m args below meth c base cst D cid Z H locs lr X hW hS hl)
    · refine ⟨_, _, _, _, _, _, _, h, id, fun hP k p l e s m args below meth c base cst D cid Z H locs lr X hW hS hl => ?_⟩
      exact lv_aloadN X.1 X.2.1 hdc (px_has hl (by assumption)) (k p l e s m args below meth c base cst D cid Z H locs lr X hW hS hl)
    · cases h

  | istore_n v =>
    obtain rfl := hng (fun _ q => by cases q)
    simp only [px_s1] at h
    split at h
    · rw [px_rm_eq] at h
      refine ⟨_, _, _, _, _, _, _, h, id, fun hP k p l e s m args below meth c base cst D cid Z H locs lr X hW hS hl => ?_⟩
      exact lv_istore_n X.1 X.2.1 hdc rfl hl (Nat.le_of_ble_eq_true hau) (by rw [px_fm1]; rfl) (fun ls' hl' => k p l e s m args below meth c base cst D cid Z H locs ls' X hW hS hl')
    · cases h

  | astore_n v =>
    obtain rfl := hng (fun _ q => by cases q)
    simp only [px_s1] at h
    split at h
    · rw [px_rm_eq] at h
      refine ⟨_, _, _, _, _, _, _, h, id, fun hP k p l e s m args below meth c base cst D cid Z H locs lr X hW hS hl => ?_⟩
      exact lv_astore_n X.1 X.2.1 hdc rfl hl (Nat.le_of_ble_eq_true hau) (by rw [px_fm1]; rfl) (fun ls' hl' => k p l e s m args below meth c base cst D cid Z H locs ls' X hW hS hl')
    · rw [px_rm_eq] at h
      refine ⟨_, _, _, _, _, _, _, h, id, fun hP k p l e s m args below meth c base cst D cid Z H locs lr X hW hS hl => ?_⟩
      exact lv_astore_nN X.1 X.2.1 hdc rfl hl (Nat.le_of_ble_eq_true hau) (by rw [px_fm1]; rfl) (fun ls' hl' => k p l e s m args below meth c base cst D cid Z H locs ls' X hW hS hl')
    · cases h

  | lstore_n v =>
    obtain rfl := hng (fun _ q => by cases q)
    simp only [px_s1] at h
    split at h
    · rw [px_rm2_eq] at h
      refine ⟨_, _, _, _, _, _, _, h, id, fun hP k p l e s m args below meth c base cst D cid Z H locs lr X hW hS hl => ?_⟩
      exact lv_lstore_n X.1 X.2.1 hdc rfl hl (Nat.le_of_ble_eq_true hau) (by rw [px_fm2]; rfl) (fun ls' hl' => k p l e s m args below meth c base cst D cid Z H locs ls' X hW hS hl')
    · cases h

  | istore v =>
    obtain rfl := hng (fun _ q => by cases q)
    simp only [px_s1] at h
    split at h
    · rw [px_rm_eq] at h
      refine ⟨_, _, _, _, _, _, _, h, id, fun hP k p l e s m args below meth c base cst D cid Z H locs lr X hW hS hl => ?_⟩
      exact lv_istore X.1 X.2.1 hdc hl (Nat.le_of_ble_eq_true hau) (by rw [px_fm1]; rfl) (fun ls' hl' => k p l e s m args below meth c base cst D cid Z H locs ls' X hW hS hl')
    · cases h

  | astore v =>
    obtain rfl := hng (fun _ q => by cases q)
    simp only [px_s1] at h
    split at h
    · rw [px_rm_eq] at h
      refine ⟨_, _, _, _, _, _, _, h, id, fun hP k p l e s m args below meth c base cst D cid Z H locs lr X hW hS hl => ?_⟩
      exact lv_astore X.1 X.2.1 hdc hl (Nat.le_of_ble_eq_true hau) (by rw [px_fm1]; rfl) (fun ls' hl' => k p l e s m args below meth c base cst D cid Z H locs ls' X hW hS hl')
    · rw [px_rm_eq] at h
      refine ⟨_, _, _, _, _, _, _, h, id, fun hP k p l e s m args below meth c base cst D cid Z H locs lr X hW hS hl => ?_⟩
      exact lv_astoreN X.1 X.2.1 hdc hl (Nat.le_of_ble_eq_true hau) (by rw [px_fm1]; rfl) (fun ls' hl' => k p l e s m args below meth c base cst D cid Z H locs ls' X hW hS hl')
    · cases h

  | lstore v =>
    obtain rfl := hng (fun _ q => by cases q)
    simp only [px_s1] at h
    split at h
    · rw [px_rm2_eq] at h
      refine ⟨_, _, _, _, _, _, _, h, id, fun hP k p l e s m args below meth c base cst D cid Z H locs lr X hW hS hl => ?_⟩
      exact lv_lstore X.1 X.2.1 hdc hl (Nat.le_of_ble_eq_true hau) (by rw [px_fm2]; rfl) (fun ls' hl' => k p l e s m args below meth c base cst D cid Z H locs ls' X hW hS hl')
    · cases h

  | iinc j v =>
    obtain rfl := hng (fun _ q => by cases q)
    simp only [px_s1] at h
    split at h
    · rename_i v0 hv0
      rw [px_rm_eq] at h
      refine ⟨_, _, _, _, _, _, _, h, id, fun hP k p l e s m args below meth c base cst D cid Z H locs lr X hW hS hl => ?_⟩
      have hau2 := (Bool.and_eq_true_iff.mp hau)
      obtain ⟨j0, hj0⟩ := List.getElem?_of_mem (px_gl_mem hv0)
      exact lv_iinc (k := j0) (x := v0) X.1 X.2.1 hdc hl (by rw [List.getElem?_map, hj0]; rfl) (by rw [of_decide_eq_true hau2.2]) (Nat.le_of_ble_eq_true hau2.1) (by rw [px_fm1]; rfl) (fun ls' hl' => k p l e s m args below meth c base cst D cid Z H locs ls' X hW hS hl')
    · cases h
  | goto off =>
    simp only [px_s1] at h
    refine ⟨_, _, _, _, _, _, _, h, id, fun hP k p l e s m args below meth c base cst D cid Z H locs lr X hW hS hl => ?_⟩
    exact lv_goto X.1 X.2.1 hdc (hgo off rfl) (k p l e s m args below meth c base cst D cid Z H locs lr X hW hS hl)

  | iadd =>
    obtain rfl := hng (fun _ q => by cases q)
    simp only [px_s1] at h
    split at h
    · refine ⟨_, _, _, _, _, _, _, h, id, fun hP k p l e s m args below meth c base cst D cid Z H locs lr X hW hS hl => ?_⟩
      exact lv_iadd X.1 X.2.1 hdc (k p l e s m args below meth c base cst D cid Z H locs lr X hW hS hl)
    · cases h

  | isub =>
    obtain rfl := hng (fun _ q => by cases q)
    simp only [px_s1] at h
    split at h
    · refine ⟨_, _, _, _, _, _, _, h, id, fun hP k p l e s m args below meth c base cst D cid Z H locs lr X hW hS hl => ?_⟩
      exact lv_isub X.1 X.2.1 hdc (k p l e s m args below meth c base cst D cid Z H locs lr X hW hS hl)
    · cases h

  | imul =>
    obtain rfl := hng (fun _ q => by cases q)
    simp only [px_s1] at h
    split at h
    · refine ⟨_, _, _, _, _, _, _, h, id, fun hP k p l e s m args below meth c base cst D cid Z H locs lr X hW hS hl => ?_⟩
      exact lv_imul X.1 X.2.1 hdc (k p l e s m args below meth c base cst D cid Z H locs lr X hW hS hl)
    · cases h

  | iand =>
    obtain rfl := hng (fun _ q => by cases q)
    simp only [px_s1] at h
    split at h
    · refine ⟨_, _, _, _, _, _, _, h, id, fun hP k p l e s m args below meth c base cst D cid Z H locs lr X hW hS hl => ?_⟩
      exact lv_iand X.1 X.2.1 hdc (k p l e s m args below meth c base cst D cid Z H locs lr X hW hS hl)
    · cases h

  | ior =>
    obtain rfl := hng (fun _ q => by cases q)
    simp only [px_s1] at h
    split at h
    · refine ⟨_, _, _, _, _, _, _, h, id, fun hP k p l e s m args below meth c base cst D cid Z H locs lr X hW hS hl => ?_⟩
      exact lv_ior X.1 X.2.1 hdc (k p l e s m args below meth c base cst D cid Z H locs lr X hW hS hl)
    · cases h

  | ladd =>
    obtain rfl := hng (fun _ q => by cases q)
    simp only [px_s1] at h
    split at h
    · refine ⟨_, _, _, _, _, _, _, h, id, fun hP k p l e s m args below meth c base cst D cid Z H locs lr X hW hS hl => ?_⟩
      exact lv_ladd X.1 X.2.1 hdc (k p l e s m args below meth c base cst D cid Z H locs lr X hW hS hl)
    · cases h

  | lsub =>
    obtain rfl := hng (fun _ q => by cases q)
    simp only [px_s1] at h
    split at h
    · refine ⟨_, _, _, _, _, _, _, h, id, fun hP k p l e s m args below meth c base cst D cid Z H locs lr X hW hS hl => ?_⟩
      exact lv_lsub X.1 X.2.1 hdc (k p l e s m args below meth c base cst D cid Z H locs lr X hW hS hl)
    · cases h

  | lmul =>
    obtain rfl := hng (fun _ q => by cases q)
    simp only [px_s1] at h
    split at h
    · refine ⟨_, _, _, _, _, _, _, h, id, fun hP k p l e s m args below meth c base cst D cid Z H locs lr X hW hS hl => ?_⟩
      exact lv_lmul X.1 X.2.1 hdc (k p l e s m args below meth c base cst D cid Z H locs lr X hW hS hl)
    · cases h

  | lxor =>
    obtain rfl := hng (fun _ q => by cases q)
    simp only [px_s1] at h
    split at h
    · refine ⟨_, _, _, _, _, _, _, h, id, fun hP k p l e s m args below meth c base cst D cid Z H locs lr X hW hS hl => ?_⟩
      exact lv_lxor X.1 X.2.1 hdc (k p l e s m args below meth c base cst D cid Z H locs lr X hW hS hl)
    · cases h

  | lneg =>
    obtain rfl := hng (fun _ q => by cases q)
    simp only [px_s1] at h
    split at h
    · refine ⟨_, _, _, _, _, _, _, h, id, fun hP k p l e s m args below meth c base cst D cid Z H locs lr X hW hS hl => ?_⟩
      exact lv_lneg X.1 X.2.1 hdc (k p l e s m args below meth c base cst D cid Z H locs lr X hW hS hl)
    · cases h

  | ishl =>
    obtain rfl := hng (fun _ q => by cases q)
    simp only [px_s1] at h
    split at h
    · refine ⟨_, _, _, _, _, _, _, h, id, fun hP k p l e s m args below meth c base cst D cid Z H locs lr X hW hS hl => ?_⟩
      exact lv_ishl X.1 X.2.1 hdc (k p l e s m args below meth c base cst D cid Z H locs lr X hW hS hl)
    · cases h

  | ishr =>
    obtain rfl := hng (fun _ q => by cases q)
    simp only [px_s1] at h
    split at h
    · refine ⟨_, _, _, _, _, _, _, h, id, fun hP k p l e s m args below meth c base cst D cid Z H locs lr X hW hS hl => ?_⟩
      exact lv_ishr X.1 X.2.1 hdc (k p l e s m args below meth c base cst D cid Z H locs lr X hW hS hl)
    · cases h

  | ineg =>
    obtain rfl := hng (fun _ q => by cases q)
    simp only [px_s1] at h
    split at h
    · refine ⟨_, _, _, _, _, _, _, h, id, fun hP k p l e s m args below meth c base cst D cid Z H locs lr X hW hS hl => ?_⟩
      exact lv_ineg X.1 X.2.1 hdc (k p l e s m args below meth c base cst D cid Z H locs lr X hW hS hl)
    · cases h

  | iushr =>
    obtain rfl := hng (fun _ q => by cases q)
    simp only [px_s1] at h
    split at h
    · refine ⟨_, _, _, _, _, _, _, h, id, fun hP k p l e s m args below meth c base cst D cid Z H locs lr X hW hS hl => ?_⟩
      exact lv_iushr X.1 X.2.1 hdc rfl (k p l e s m args below meth c base cst D cid Z H locs lr X hW hS hl)
    · cases h

  | idiv =>
    obtain rfl := hng (fun _ q => by cases q)
    simp only [px_s1] at h
    split at h
    · refine ⟨_, _, _, _, _, _, _, h, And.left, fun hP k p l e s m args below meth c base cst D cid Z H locs lr X hW hS hl => ?_⟩
      exact lv_idiv X.1 X.2.1 hdc hP.2 (k p l e s m args below meth c base cst D cid Z H locs lr X hW hS hl)
    · cases h

  | irem =>
    obtain rfl := hng (fun _ q => by cases q)
    simp only [px_s1] at h
    split at h
    · refine ⟨_, _, _, _, _, _, _, h, And.left, fun hP k p l e s m args below meth c base cst D cid Z H locs lr X hW hS hl => ?_⟩
      exact lv_irem X.1 X.2.1 hdc hP.2 (k p l e s m args below meth c base cst D cid Z H locs lr X hW hS hl)
    · cases h

  | ldiv =>
    obtain rfl := hng (fun _ q => by cases q)
    simp only [px_s1] at h
    split at h
    · refine ⟨_, _, _, _, _, _, _, h, And.left, fun hP k p l e s m args below meth c base cst D cid Z H locs lr X hW hS hl => ?_⟩
      exact lv_ldiv X.1 X.2.1 hdc hP.2 (k p l e s m args below meth c base cst D cid Z H locs lr X hW hS hl)
    · cases h

  | lrem =>
    obtain rfl := hng (fun _ q => by cases q)
    simp only [px_s1] at h
    split at h
    · refine ⟨_, _, _, _, _, _, _, h, And.left, fun hP k p l e s m args below meth c base cst D cid Z H locs lr X hW hS hl => ?_⟩
      exact lv_lrem X.1 X.2.1 hdc hP.2 (k p l e s m args below meth c base cst D cid Z H locs lr X hW hS hl)
    · cases h

  | lcmp =>
    obtain rfl := hng (fun _ q => by cases q)
    simp only [px_s1] at h
    split at h
    · refine ⟨_, _, _, _, _, _, _, h, id, fun hP k p l e s m args below meth c base cst D cid Z H locs lr X hW hS hl => ?_⟩
      exact W.lcmp X.1 X.2.1 hdc (k p l e s m args below meth c base cst D cid Z H locs lr X hW hS hl)
    · cases h

  | i2l =>
    obtain rfl := hng (fun _ q => by cases q)
    simp only [px_s1] at h
    split at h
    · refine ⟨_, _, _, _, _, _, _, h, id, fun hP k p l e s m args below meth c base cst D cid Z H locs lr X hW hS hl => ?_⟩
      exact lv_i2l X.1 X.2.1 hdc rfl (k p l e s m args below meth c base cst D cid Z H locs lr X hW hS hl)
    · cases h

  | l2i =>
    obtain rfl := hng (fun _ q => by cases q)
    simp only [px_s1] at h
    split at h
    · refine ⟨_, _, _, _, _, _, _, h, id, fun hP k p l e s m args below meth c base cst D cid Z H locs lr X hW hS hl => ?_⟩
      exact lv_l2i X.1 X.2.1 hdc rfl (k p l e s m args below meth c base cst D cid Z H locs lr X hW hS hl)
    · cases h

  | i2b =>
    obtain rfl := hng (fun _ q => by cases q)
    simp only [px_s1] at h
    split at h
    · refine ⟨_, _, _, _, _, _, _, h, id, fun hP k p l e s m args below meth c base cst D cid Z H locs lr X hW hS hl => ?_⟩
      exact lv_i2b X.1 X.2.1 hdc rfl (k p l e s m args below meth c base cst D cid Z H locs lr X hW hS hl)
    · cases h

  | dup =>
    obtain rfl := hng (fun _ q => by cases q)
    simp only [px_s1] at h
    split at h
    · refine ⟨_, _, _, _, _, _, _, h, id, fun hP k p l e s m args below meth c base cst D cid Z H locs lr X hW hS hl => ?_⟩
      exact lv_dup X.1 X.2.1 hdc rfl (k p l e s m args below meth c base cst D cid Z H locs lr X hW hS hl)
    · refine ⟨_, _, _, _, _, _, _, h, id, fun hP k p l e s m args below meth c base cst D cid Z H locs lr X hW hS hl => ?_⟩
      exact lv_dup X.1 X.2.1 hdc rfl (k p l e s m args below meth c base cst D cid Z H locs lr X hW hS hl)
    · cases h
  | dup2 =>
    obtain rfl := hng (fun _ q => by cases q)
    simp only [px_s1] at h
    split at h
    · refine ⟨_, _, _, _, _, _, _, h, id, fun hP k p l e s m args below meth c base cst D cid Z H locs lr X hW hS hl => ?_⟩
      exact lv_dup2_11 X.1 X.2.1 hdc rfl rfl (k p l e s m args below meth c base cst D cid Z H locs lr X hW hS hl)
    · refine ⟨_, _, _, _, _, _, _, h, id, fun hP k p l e s m args below meth c base cst D cid Z H locs lr X hW hS hl => ?_⟩
      exact lv_dup2_2 X.1 X.2.1 hdc rfl (k p l e s m args below meth c base cst D cid Z H locs lr X hW hS hl)
    · cases h
  | pop =>
    obtain rfl := hng (fun _ q => by cases q)
    simp only [px_s1] at h
    split at h
    · refine ⟨_, _, _, _, _, _, _, h, id, fun hP k p l e s m args below meth c base cst D cid Z H locs lr X hW hS hl => ?_⟩
      exact lv_pop X.1 X.2.1 hdc rfl (k p l e s m args below meth c base cst D cid Z H locs lr X hW hS hl)
    · refine ⟨_, _, _, _, _, _, _, h, id, fun hP k p l e s m args below meth c base cst D cid Z H locs lr X hW hS hl => ?_⟩
      exact lv_pop X.1 X.2.1 hdc rfl (k p l e s m args below meth c base cst D cid Z H locs lr X hW hS hl)
    · cases h
  | pop2 =>
    obtain rfl := hng (fun _ q => by cases q)
    simp only [px_s1] at h
    split at h
    · refine ⟨_, _, _, _, _, _, _, h, id, fun hP k p l e s m args below meth c base cst D cid Z H locs lr X hW hS hl => ?_⟩
      exact lv_pop2_2 X.1 X.2.1 hdc rfl (k p l e s m args below meth c base cst D cid Z H locs lr X hW hS hl)
    · cases h

  | getfield idx =>
    obtain rfl := hng (fun _ q => by cases q)
    simp only [px_s1] at h
    have hf : (on, idx, a, b) ∈ px_tf := of_decide_eq_true (Bool.and_eq_true_iff.mp hau).1
    have hk := (Bool.and_eq_true_iff.mp hau).2
    dsimp only at hk
    split at h
    · rename_i o r9
      split at h
      · cases hc : px_ck nb o a with
        | false => rw [hc] at h; cases h
        | true =>
          rw [hc, cond_true, px_rdF_eq] at h
          obtain ⟨h1, h2, h3⟩ := px_ck_ok hc
          refine ⟨_, _, _, _, _, _, _, h, id, fun hP k p l e s m args below meth c base cst D cid Z H locs lr X hW hS hl => ?_⟩
          refine px_get X hW hon hf h1 (Nat.lt_of_lt_of_le h2 hnb) h3 hdc ?_
          have hft : px_ft a b = 0 ∨ px_ft a b = 3 := by
            rcases Bool.or_eq_true_iff.mp hk with q | q
            · exact Or.inl (Nat.eq_of_beq_eq_true q)
            · exact Or.inr (Nat.eq_of_beq_eq_true q)
          rw [px_fv0 hft]
          exact (k p l e s m args below meth c base cst D cid Z H locs lr X hW hS hl)
      · cases hc : px_ck nb o a with
        | false => rw [hc] at h; cases h
        | true =>
          rw [hc, cond_true, px_rdF_eq] at h
          obtain ⟨h1, h2, h3⟩ := px_ck_ok hc
          refine ⟨_, _, _, _, _, _, _, h, id, fun hP k p l e s m args below meth c base cst D cid Z H locs lr X hW hS hl => ?_⟩
          refine px_get X hW hon hf h1 (Nat.lt_of_lt_of_le h2 hnb) h3 hdc ?_
          rw [Nat.eq_of_beq_eq_true hk]
          exact (k p l e s m args below meth c base cst D cid Z H locs lr X hW hS hl)
      · cases hc : px_ck nb o a with
        | false => rw [hc] at h; cases h
        | true =>
          rw [hc] at h
          obtain ⟨h1, h2, h3⟩ := px_ck_ok hc
          obtain ⟨hs1, -⟩ := hst rfl
          have fin : ∀ t, (Nat.beq (px_tg o b) t && Nat.blt 0 t) = true → ∀ r, px M cu su (pc + 3) ls (.ref t :: r) n (px_app I G) (px_app L F) R Q → px M cu su pc ls (.ref o :: r) n (px_app I G) (px_app L F) R Q := by
            intro t ht r k p l e s m args below meth c base cst D cid Z H locs lr X hW hS hl
            have ht := Bool.and_eq_true_iff.mp ht
            have ht1 := Nat.eq_of_beq_eq_true ht.1
            have ht2 : 0 < t := Nat.le_of_ble_eq_true ht.2
            refine px_get X hW hon hf h1 (Nat.lt_of_lt_of_le h2 hnb) h3 hdc ?_
            rw [Nat.eq_of_beq_eq_true hk, hs1 o b (by omega), ht1]
            exact (k p l e s m args below meth c base cst D cid Z H locs lr X hW hS hl)
          rw [cond_true] at h
          cases hb1 : (Nat.beq (px_tg o b) d && Nat.blt 0 d) with
          | true =>
            rw [hb1] at h
            exact ⟨_, _, _, _, _, _, _, h, id, fun _ => fin d hb1 _⟩
          | false =>
            rw [hb1, cond_false] at h
            cases hb2 : (Nat.beq (px_tg o b) d2 && Nat.blt 0 d2) with
            | true =>
              rw [hb2] at h
              exact ⟨_, _, _, _, _, _, _, h, id, fun _ => fin d2 hb2 _⟩
            | false => rw [hb2] at h; cases h
      · cases hc : px_ck nb o a with
        | false => rw [hc] at h; cases h
        | true =>
          rw [hc] at h
          obtain ⟨h1, h2, h3⟩ := px_ck_ok hc
          refine ⟨_, _, _, _, _, _, _, h, id, fun hP k p l e s m args below meth c base cst D cid Z H locs lr X hW hS hl => ?_⟩
          refine px_get X hW hon hf h1 (Nat.lt_of_lt_of_le h2 hnb) h3 hdc ?_
          rw [Nat.eq_of_beq_eq_true hk]
          have k2 := (k p l e s m args below meth c base cst D cid Z H locs lr X hW hS hl)
          rw [List.map_cons, px_v_rf] at k2
          exact k2
      · refine ⟨_, _, _, _, _, _, _, h, And.left, fun hP k p l e s m args below meth c base cst D cid Z H locs lr X hW hS hl => ?_⟩
        refine px_get X hW hon hf hP.2.1 hP.2.2.1 hP.2.2.2 hdc ?_
        rw [Nat.eq_of_beq_eq_true hk]
        exact (k p l e s m args below meth c base cst D cid Z H locs lr X hW hS hl)
      · obtain ⟨-, hs2⟩ := hst rfl
        refine ⟨_, _, _, _, _, _, _, h, And.left, fun hP k p l e s m args below meth c base cst D cid Z H locs lr X hW hS hl => ?_⟩
        refine px_get X hW hon hf hP.2.1 hP.2.2.1 hP.2.2.2 hdc ?_
        have hk2 := Bool.and_eq_true_iff.mp hk
        have hk3 := Bool.and_eq_true_iff.mp hk2.2
        have ha := Nat.eq_of_beq_eq_true hk3.1
        subst ha
        rw [Nat.eq_of_beq_eq_true hk2.1]
        rcases Bool.or_eq_true_iff.mp hk3.2 with q | q
        · have q1 := Nat.eq_of_beq_eq_true (Bool.and_eq_true_iff.mp q).1
          have q2 := Nat.eq_of_beq_eq_true (Bool.and_eq_true_iff.mp q).2
          subst q1; subst q2
          rw [(hs2 _ hP.2).1]
          exact (k p l e s m args below meth c base cst D cid Z H locs lr X hW hS hl)
        · have q1 := Nat.eq_of_beq_eq_true (Bool.and_eq_true_iff.mp q).1
          have q2 := Nat.eq_of_beq_eq_true (Bool.and_eq_true_iff.mp q).2
          subst q1; subst q2
          rw [(hs2 _ hP.2).2]
          exact (k p l e s m args below meth c base cst D cid Z H locs lr X hW hS hl)
      · cases h
    · cases h
  | putfield idx =>
    obtain rfl := hng (fun _ q => by cases q)
    simp only [px_s1] at h
    have hf : (on, idx, a, b) ∈ px_tf := of_decide_eq_true (Bool.and_eq_true_iff.mp hau).1
    have hk0 := (Bool.and_eq_true_iff.mp hau).2
    have hfin : (px_Tf a b).2.2.2 = false := by simpa using (Bool.and_eq_true_iff.mp hk0).1
    have hk := (Bool.and_eq_true_iff.mp hk0).2
    dsimp only at hk
    split at h
    · split at h
      · cases hc : px_ck nb _ a with
        | false => rw [hc] at h; cases h
        | true =>
          rw [hc] at h
          obtain ⟨h1, h2, h3⟩ := px_ck_ok hc
          refine ⟨_, _, _, _, _, _, _, h, id, fun hP k p l e s m args below meth c base cst D cid Z H locs lr X hW hS hl => ?_⟩
          exact px_put X hW hS hon hf h1 (Nat.lt_of_lt_of_le h2 hnb) h3 hdc (Or.inl hfin) (fun b hb => px_u_ne hb) (fun _ _ => rfl) (fun _ _ => rfl) (fun j hj => px_u_at_ne hj) (fun _ _ => rfl) (fun _ _ => rfl) (by rw [px_u_at]; unfold px_ft; rw [of_decide_eq_true hk]; rfl) (by rw [of_decide_eq_true hk]; rfl) (by rw [of_decide_eq_true hk]; rfl) (fun H1 locs1 hW hS => k p l e s m args below meth c base cst D cid Z H1 locs1 lr X hW hS hl)
      · cases h
    · split at h
      · cases hc : px_ck nb _ a with
        | false => rw [hc] at h; cases h
        | true =>
          rw [hc] at h
          obtain ⟨h1, h2, h3⟩ := px_ck_ok hc
          refine ⟨_, _, _, _, _, _, _, h, id, fun hP k p l e s m args below meth c base cst D cid Z H locs lr X hW hS hl => ?_⟩
          exact px_put X hW hS hon hf h1 (Nat.lt_of_lt_of_le h2 hnb) h3 hdc (Or.inl hfin) (fun _ _ => rfl) (fun b hb => px_u_ne hb) (fun _ _ => rfl) (fun _ _ => rfl) (fun j hj => px_u_at_ne hj) (fun _ _ => rfl) (by rw [px_u_at]; unfold px_ft; rw [of_decide_eq_true hk]; rfl) (by rw [of_decide_eq_true hk]; rfl) (by rw [of_decide_eq_true hk]; rfl) (fun H1 locs1 hW hS => k p l e s m args below meth c base cst D cid Z H1 locs1 lr X hW hS hl)
      · cases h
    · split at h
      · cases hc : px_ck nb _ a with
        | false => rw [hc] at h; cases h
        | true =>
          rw [hc] at h
          obtain ⟨h1, h2, h3⟩ := px_ck_ok hc
          refine ⟨_, _, _, _, _, _, _, h, And.left, fun hP k p l e s m args below meth c base cst D cid Z H locs lr X hW hS hl => ?_⟩
          exact px_put X hW hS hon hf h1 (Nat.lt_of_lt_of_le h2 hnb) h3 hdc (Or.inl hfin) (fun b hb => px_u_ne hb) (fun _ _ => rfl) (fun _ _ => rfl) (fun j hj => px_u_at_ne hj) (fun _ _ => rfl) (fun _ _ => rfl) (by rw [px_u_at]; unfold px_ft; rw [of_decide_eq_true hk]; rfl) (by rw [of_decide_eq_true hk]; rcases hP.2 with q | q <;> subst q <;> rfl) (by rw [of_decide_eq_true hk]; rcases hP.2 with q | q <;> subst q <;> rfl) (fun H1 locs1 hW hS => k p l e s m args below meth c base cst D cid Z H1 locs1 lr X hW hS hl)
      · cases h
    · split at h
      · rw [px_apK_eq] at h
        refine ⟨_, _, _, _, _, _, _, h, And.left, fun hP k p l e s m args below meth c base cst D cid Z H locs lr X hW hS hl => ?_⟩
        exact px_put X hW hS hon hf hP.2.1 hP.2.2.1 hP.2.2.2 hdc (Or.inl hfin) (fun b hb => px_u_ne hb) (fun _ _ => rfl) (fun _ _ => rfl) (fun j hj => px_u_at_ne hj) (fun _ _ => rfl) (fun _ _ => rfl) (by rw [px_u_at]; unfold px_ft; rw [of_decide_eq_true hk]; rfl) (by rw [of_decide_eq_true hk]; rfl) (by rw [of_decide_eq_true hk]; rfl) (fun H1 locs1 hW hS => k p l e s m args below meth c base cst D cid Z H1 locs1 lr X hW hS hl)
      · cases h
    · cases h
  | iaload =>
    obtain rfl := hng (fun _ q => by cases q)
    simp only [px_s1] at h
    split at h
    · split at h
      · cases hc : (Nat.ble 32 _ && (Nat.blt _ nb && Nat.beq (px_sh _).1 20)) with
        | false => rw [hc] at h; cases h
        | true =>
          rw [hc, cond_true, px_rdA_eq'] at h
          obtain ⟨h1, h2, h3⟩ := px_nb_ok hc
          refine ⟨_, _, _, _, _, _, _, h, And.left, fun hP k p l e s m args below meth c base cst D cid Z H locs lr X hW hS hl => ?_⟩
          exact px_ild X hW h1 (Nat.lt_of_lt_of_le h2 hnb) h3 hP.2 hdc (k p l e s m args below meth c base cst D cid Z H locs lr X hW hS hl)
      · refine ⟨_, _, _, _, _, _, _, h, (fun q => q.1.1), fun hP k p l e s m args below meth c base cst D cid Z H locs lr X hW hS hl => ?_⟩
        exact px_ild X hW hP.1.2.1 hP.1.2.2.1 hP.1.2.2.2.1 (by rw [hP.1.2.2.2.2]; exact hP.2) hdc (k p l e s m args below meth c base cst D cid Z H locs lr X hW hS hl)
    · cases h
  | laload =>
    obtain rfl := hng (fun _ q => by cases q)
    simp only [px_s1] at h
    split at h
    · split at h
      · cases hc : (Nat.ble 32 _ && (Nat.blt _ nb && Nat.beq (px_sh _).1 21)) with
        | false => rw [hc] at h; cases h
        | true =>
          rw [hc, cond_true, px_rdA_eq'] at h
          obtain ⟨h1, h2, h3⟩ := px_nb_ok hc
          refine ⟨_, _, _, _, _, _, _, h, And.left, fun hP k p l e s m args below meth c base cst D cid Z H locs lr X hW hS hl => ?_⟩
          exact px_lld X hW h1 (Nat.lt_of_lt_of_le h2 hnb) h3 hP.2 hdc (k p l e s m args below meth c base cst D cid Z H locs lr X hW hS hl)
      · refine ⟨_, _, _, _, _, _, _, h, (fun q => q.1.1), fun hP k p l e s m args below meth c base cst D cid Z H locs lr X hW hS hl => ?_⟩
        exact px_lld X hW hP.1.2.1 hP.1.2.2.1 hP.1.2.2.2.1 (by rw [hP.1.2.2.2.2]; exact hP.2) hdc (k p l e s m args below meth c base cst D cid Z H locs lr X hW hS hl)
    · cases h
  | iastore =>
    obtain rfl := hng (fun _ q => by cases q)
    simp only [px_s1] at h
    split at h
    · split at h
      · cases hc : (Nat.ble 32 _ && (Nat.blt _ nb && Nat.beq (px_sh _).1 20)) with
        | false => rw [hc] at h; cases h
        | true =>
          rw [hc] at h
          obtain ⟨h1, h2, h3⟩ := px_nb_ok hc
          refine ⟨_, _, _, _, _, _, _, h, And.left, fun hP k p l e s m args below meth c base cst D cid Z H locs lr X hW hS hl => ?_⟩
          exact px_ist X hW hS h1 (Nat.lt_of_lt_of_le h2 hnb) h3 hP.2 hdc (fun H1 locs1 hW hS => k p l e s m args below meth c base cst D cid Z H1 locs1 lr X hW hS hl)
      · rw [px_apK_eq] at h
        refine ⟨_, _, _, _, _, _, _, h, (fun q => q.1.1), fun hP k p l e s m args below meth c base cst D cid Z H locs lr X hW hS hl => ?_⟩
        exact px_ist X hW hS hP.1.2.1 hP.1.2.2.1 hP.1.2.2.2.1 (by rw [hP.1.2.2.2.2]; exact hP.2) hdc (fun H1 locs1 hW hS => k p l e s m args below meth c base cst D cid Z H1 locs1 lr X hW hS hl)
    · cases h
  | lastore =>
    obtain rfl := hng (fun _ q => by cases q)
    simp only [px_s1] at h
    split at h
    · split at h
      · cases hc : (Nat.ble 32 _ && (Nat.blt _ nb && Nat.beq (px_sh _).1 21)) with
        | false => rw [hc] at h; cases h
        | true =>
          rw [hc] at h
          obtain ⟨h1, h2, h3⟩ := px_nb_ok hc
          refine ⟨_, _, _, _, _, _, _, h, And.left, fun hP k p l e s m args below meth c base cst D cid Z H locs lr X hW hS hl => ?_⟩
          exact px_lst X hW hS h1 (Nat.lt_of_lt_of_le h2 hnb) h3 hP.2 hdc (fun H1 locs1 hW hS => k p l e s m args below meth c base cst D cid Z H1 locs1 lr X hW hS hl)
      · rw [px_apK_eq] at h
        refine ⟨_, _, _, _, _, _, _, h, (fun q => q.1.1), fun hP k p l e s m args below meth c base cst D cid Z H locs lr X hW hS hl => ?_⟩
        exact px_lst X hW hS hP.1.2.1 hP.1.2.2.1 hP.1.2.2.2.1 (by rw [hP.1.2.2.2.2]; exact hP.2) hdc (fun H1 locs1 hW hS => k p l e s m args below meth c base cst D cid Z H1 locs1 lr X hW hS hl)
    · cases h
  | baload =>
    obtain rfl := hng (fun _ q => by cases q)
    simp only [px_s1] at h
    split at h
    · cases hc : (Nat.ble 32 _ && (Nat.blt _ nb && (Nat.beq (px_sh _).1 22 || Nat.beq (px_sh _).1 23))) with
      | false => rw [hc] at h; cases h
      | true =>
        rw [hc, cond_true, px_rdA_eq'] at h
        simp only [Bool.and_eq_true, Bool.or_eq_true] at hc
        refine ⟨_, _, _, _, _, _, _, h, And.left, fun hP k p l e s m args below meth c base cst D cid Z H locs lr X hW hS hl => ?_⟩
        exact px_bld X hW (Nat.le_of_ble_eq_true hc.1) (Nat.lt_of_lt_of_le (Nat.le_of_ble_eq_true hc.2.1) hnb) (hc.2.2.imp Nat.eq_of_beq_eq_true Nat.eq_of_beq_eq_true) hP.2 hdc (k p l e s m args below meth c base cst D cid Z H locs lr X hW hS hl)
    · cases h
  | bastore =>
    obtain rfl := hng (fun _ q => by cases q)
    simp only [px_s1] at h
    split at h
    · cases hc : (Nat.ble 32 _ && (Nat.blt _ nb && Nat.beq (px_sh _).1 22)) with
      | false =>
        rw [hc, cond_false] at h
        cases hc2 : (Nat.ble 32 _ && (Nat.blt _ nb && Nat.beq (px_sh _).1 23)) with
        | false => rw [hc2] at h; cases h
        | true =>
          rw [hc2] at h
          obtain ⟨h1, h2, h3⟩ := px_nb_ok hc2
          refine ⟨_, _, _, _, _, _, _, h, And.left, fun hP k p l e s m args below meth c base cst D cid Z H locs lr X hW hS hl => ?_⟩
          exact px_zst X hW hS h1 (Nat.lt_of_lt_of_le h2 hnb) h3 hP.2 hdc (fun H1 locs1 hW hS => k p l e s m args below meth c base cst D cid Z H1 locs1 lr X hW hS hl)
      | true =>
        rw [hc] at h
        obtain ⟨h1, h2, h3⟩ := px_nb_ok hc
        refine ⟨_, _, _, _, _, _, _, h, And.left, fun hP k p l e s m args below meth c base cst D cid Z H locs lr X hW hS hl => ?_⟩
        exact px_bst X hW hS h1 (Nat.lt_of_lt_of_le h2 hnb) h3 hP.2 hdc (fun H1 locs1 hW hS => k p l e s m args below meth c base cst D cid Z H1 locs1 lr X hW hS hl)
    · cases h
  | _ => exact absurd h (by simp [px_s1])
theorem px_exg_ok {nb n on : Nat} {R : px_R} {M : px_M} {cu su : Nat} {Q : px_Q} (hnb : nb ≤ n) (hon : M.1.cls = px_Rn on) : ∀ (xs : List px_o), ((∃ x ∈ xs, px_us x = true) → px_st n R) → ∀ {ls ls' : px_Ls} {st st' : List Value} {I I' : px_I} {G : px_lg Int32} {L L' : px_L} {F : px_lg Int64} {P P' : Prop} {pc pc' : Nat},
    px_bk on M.2.2.1 M.2.1 pc xs = some pc' → px_exg nb n R xs ls st I G L F P = some (P', ls', st', I', L') → (P' → P) ∧ (P' → px M cu su pc' ls' st' n I' L' R Q → px M cu su pc ls st n (px_app I G) (px_app L F) R Q) := by
  intro xs
  induction xs with
  | nil =>
    intro _ ls ls' st st' I I' G L L' F P P' pc pc' hb he
    simp only [px_exg, px_apK_eq] at he
    cases hb; cases he
    exact ⟨id, fun _ k => k⟩
  | cons x xs ih =>
    intro hst ls ls' st st' I I' G L L' F P P' pc pc' hb he
    simp only [px_bk] at hb
    split at hb
    · rename_i pc1 hd
      obtain ⟨ls1, st1, I1, G1, L1, F1, P1, h1, h2, h3⟩ := px_s1_ok (cu := cu) (su := su) (Q := Q) he hnb (fun h => hst ⟨x, List.mem_cons_self, h⟩) hon hd
      obtain ⟨h4, h5⟩ := ih (fun ⟨y, hy, hu⟩ => hst ⟨y, List.mem_cons_of_mem _ hy, hu⟩) hb h1
      exact ⟨fun q => h2 (h4 q), fun q k => h3 (h4 q) (h5 q k)⟩
    · cases hb
theorem px_ex_ok {nb n on : Nat} {R : px_R} {M : px_M} {cu su : Nat} {Q : px_Q} (hnb : nb ≤ n) (hon : M.1.cls = px_Rn on) (xs : List px_o) (hst : (∃ x ∈ xs, px_us x = true) → px_st n R) {ls ls' : px_Ls} {st st' : List Value} {I I' : px_I} {L L' : px_L} {P P' : Prop} {pc pc' : Nat}
    (hb : px_bk on M.2.2.1 M.2.1 pc xs = some pc') (he : px_ex nb n R xs ls st I L P = some (P', ls', st', I', L')) : (P' → P) ∧ (P' → px M cu su pc' ls' st' n I' L' R Q → px M cu su pc ls st n I L R Q) :=
  px_exg_ok hnb hon xs hst hb he
end
section
/-! rules: a straight stretch and what ends it -/
def px_G (n : Nat) (R : px_R) : Prop := px_nb ≤ n ∧ px_st n R
section PXR
variable {on n cu su pc pb : Nat} {R : px_R} {M : px_M} {Q : px_Q} {xs : List px_o} {ls ls' : px_Ls} {st st' : List Value} {I I' : px_I} {L L' : px_L} {P' : Prop}
theorem px_b (hon : M.1.cls = px_Rn on) (q : px_bk on M.2.2.1 M.2.1 pc xs = some pb) (hg : px_G n R) (he : px_ex px_nb n R xs ls st I L True = some (P', ls', st', I', L')) (hP : P') (k : px M cu su pb ls' st' n I' L' R Q) : px M cu su pc ls st n I L R Q :=
  (px_ex_ok hg.1 hon xs (fun _ => hg.2) q he).2 hP k
/-- while things are being made: what stands for good isn't asked -/
theorem px_bc (hon : M.1.cls = px_Rn on) (q : px_bk on M.2.2.1 M.2.1 pc xs = some pb ∧ xs.all (fun x => !px_us x) = true) (he : px_ex n n R xs ls st I L True = some (P', ls', st', I', L')) (hP : P') (k : px M cu su pb ls' st' n I' L' R Q) : px M cu su pc ls st n I L R Q :=
  (px_ex_ok (Nat.le_refl n) hon xs (fun ⟨x, hx, h⟩ => by have := List.all_eq_true.mp q.2 x hx; rw [h] at this; cases this) q.1 he).2 hP k
/-- other known values of the locals, or fewer -/
def px_sub : px_Ls → px_Ls → Prop
  | [], _ => True
  | q :: r, ls => px_gl ls q.1 = some q.2 ∧ px_sub r ls
theorem px_sub_ok {l' ls : px_Ls} (h : px_sub l' ls) : ∀ q ∈ l', q ∈ ls := by
  induction l' with
  | nil => intro q hq; cases hq
  | cons a r ih =>
    intro q hq
    rcases List.mem_cons.mp hq with rfl | hq
    · exact px_gl_mem h.1
    · exact ih h.2 q hq
theorem px_at (h : px_sub ls' ls) (k : px M cu su pc ls' st n I L R Q) : px M cu su pc ls st n I L R Q := by
  intro p l e s m args below meth c base cst D cid Z H locs lr X hW hS hl
  refine k p l e s m args below meth c base cst D cid Z H locs lr X hW hS ⟨hl.1, hl.2.1, fun q hq => ?_⟩
  obtain ⟨q0, h0, rfl⟩ := List.mem_map.mp hq
  exact hl.2.2 _ (List.mem_map.mpr ⟨q0, px_sub_ok h q0 h0, rfl⟩)
theorem px_go (k : px M cu su pc ls' st n I L R Q) (h : px_sub ls' ls) : px M cu su pc ls st n I L R Q := px_at h k
theorem px_wid {cu2 su2 : Nat} (h1 : cu ≤ cu2) (h2 : su ≤ su2) (k : px M cu2 su2 pc ls st n I L R Q) : px M cu su pc ls st n I L R Q := fun p l e s m args below meth c base cst D cid Z H locs lr X hW hS hl => W.widen h1 h2 (k p l e s m args below meth c base cst D cid Z H locs lr X hW hS hl)
theorem px.mono {Q2 : px_Q} (k : px M cu su pc ls st n I L R Q) (h : ∀ r n I L R, Q r n I L R → Q2 r n I L R) : px M cu su pc ls st n I L R Q2 := fun p l e s m args below meth c base cst D cid Z H locs lr X hW hS hl =>
  k p l e s m args below meth c base cst D cid Z H locs lr ⟨X.1, X.2.1, X.2.2.1, X.2.2.2.1, X.2.2.2.2.1, X.2.2.2.2.2.1, X.2.2.2.2.2.2.1, X.2.2.2.2.2.2.2.1, X.2.2.2.2.2.2.2.2.1, X.2.2.2.2.2.2.2.2.2.1, fun r n I L R H locs cu su pc ls hQ => X.2.2.2.2.2.2.2.2.2.2 r n I L R H locs cu su pc ls (h r n I L R hQ)⟩ hW hS hl
/-- a branch stands there -/
def px_t1 (cc : ByteArray) (pb : Nat) (cd : ClassFile.Cond) (tgt : Nat) : Bool := match decode cc pb with
  | .ok (.ifCond cd1 off, 3) => decide (cd1 = cd) && decide ((pb : Int) + off = tgt)
  | _ => false
def px_t2 (cc : ByteArray) (pb : Nat) (cd : ClassFile.Cond) (tgt : Nat) : Bool := match decode cc pb with
  | .ok (.if_icmp cd1 off, 3) => decide (cd1 = cd) && decide ((pb : Int) + off = tgt)
  | _ => false
def px_t3 (cc : ByteArray) (pb : Nat) (tgt : Nat) : Bool := match decode cc pb with
  | .ok (.ifnull off, 3) => decide ((pb : Int) + off = tgt)
  | _ => false
def px_t4 (cc : ByteArray) (pb : Nat) (tgt : Nat) : Bool := match decode cc pb with
  | .ok (.ifnonnull off, 3) => decide ((pb : Int) + off = tgt)
  | _ => false
theorem px_t1_ok {cc : ByteArray} {pb tgt : Nat} {cd : ClassFile.Cond} (h : px_t1 cc pb cd tgt = true) : ∃ off, decode cc pb = .ok (.ifCond cd off, 3) ∧ (pb : Int) + off = tgt := by
  unfold px_t1 at h
  split at h
  · rename_i cd1 off hd
    simp only [Bool.and_eq_true, decide_eq_true_eq] at h
    obtain ⟨rfl, h2⟩ := h
    exact ⟨off, hd, h2⟩
  · cases h
theorem px_t2_ok {cc : ByteArray} {pb tgt : Nat} {cd : ClassFile.Cond} (h : px_t2 cc pb cd tgt = true) : ∃ off, decode cc pb = .ok (.if_icmp cd off, 3) ∧ (pb : Int) + off = tgt := by
  unfold px_t2 at h
  split at h
  · rename_i cd1 off hd
    simp only [Bool.and_eq_true, decide_eq_true_eq] at h
    obtain ⟨rfl, h2⟩ := h
    exact ⟨off, hd, h2⟩
  · cases h
theorem px_t3_ok {cc : ByteArray} {pb tgt : Nat} (h : px_t3 cc pb tgt = true) : ∃ off, decode cc pb = .ok (.ifnull off, 3) ∧ (pb : Int) + off = tgt := by
  unfold px_t3 at h
  split at h
  · rename_i off hd; exact ⟨off, hd, of_decide_eq_true h⟩
  · cases h
theorem px_t4_ok {cc : ByteArray} {pb tgt : Nat} (h : px_t4 cc pb tgt = true) : ∃ off, decode cc pb = .ok (.ifnonnull off, 3) ∧ (pb : Int) + off = tgt := by
  unfold px_t4 at h
  split at h
  · rename_i off hd; exact ⟨off, hd, of_decide_eq_true h⟩
  · cases h

theorem px_eq {tgt : Nat} {x : Int32} {rest : List Value} (hon : M.1.cls = px_Rn on) (q : px_bk on M.2.2.1 M.2.1 pc xs = some pb ∧ px_t1 M.2.1 pb .eq tgt = true) (hg : px_G n R) (he : px_ex px_nb n R xs ls st I L True = some (P', ls', .int x :: rest, I', L')) (hP : P')
    (kt : x = 0 → px M cu su tgt ls' rest n I' L' R Q) (kf : ¬ x = 0 → px M cu su (pb + 3) ls' rest n I' L' R Q) : px M cu su pc ls st n I L R Q := by
  refine px_b hon q.1 hg he hP ?_
  intro p l e s m args below meth c base cst D cid Z H locs lr X hW hS hl
  obtain ⟨off, h1, h2⟩ := px_t1_ok q.2
  exact lv_if_eq X.1 X.2.1 h1 h2 (fun h => kt h p l e s m args below meth c base cst D cid Z H locs lr X hW hS hl) (fun h => kf h p l e s m args below meth c base cst D cid Z H locs lr X hW hS hl)
theorem px_ieq {tgt : Nat} {x y : Int32} {rest : List Value} (hon : M.1.cls = px_Rn on) (q : px_bk on M.2.2.1 M.2.1 pc xs = some pb ∧ px_t2 M.2.1 pb .eq tgt = true) (hg : px_G n R) (he : px_ex px_nb n R xs ls st I L True = some (P', ls', .int y :: .int x :: rest, I', L')) (hP : P')
    (kt : x = y → px M cu su tgt ls' rest n I' L' R Q) (kf : ¬ x = y → px M cu su (pb + 3) ls' rest n I' L' R Q) : px M cu su pc ls st n I L R Q := by
  refine px_b hon q.1 hg he hP ?_
  intro p l e s m args below meth c base cst D cid Z H locs lr X hW hS hl
  obtain ⟨off, h1, h2⟩ := px_t2_ok q.2
  exact lv_icmp_eq X.1 X.2.1 h1 h2 (fun h => kt h p l e s m args below meth c base cst D cid Z H locs lr X hW hS hl) (fun h => kf h p l e s m args below meth c base cst D cid Z H locs lr X hW hS hl)
theorem px_lc_eq (x y : Int64) : (lg_cmp x y = 0) ↔ (x = y) := by
  unfold lg_cmp
  simp only [gt_iff_lt, Int64.lt_iff_toInt_lt, Int64.le_iff_toInt_le, ← Int64.toInt_inj]
  repeat' split
  all_goals (constructor <;> intro hh <;> first | omega | decide | exact absurd hh (by decide))
theorem px_leq {tgt : Nat} {x y : Int64} {rest : List Value} (hon : M.1.cls = px_Rn on) (q : px_bk on M.2.2.1 M.2.1 pc xs = some pb ∧ px_t1 M.2.1 pb .eq tgt = true) (hg : px_G n R) (he : px_ex px_nb n R xs ls st I L True = some (P', ls', .int (lg_cmp x y) :: rest, I', L')) (hP : P')
    (kt : x = y → px M cu su tgt ls' rest n I' L' R Q) (kf : ¬ x = y → px M cu su (pb + 3) ls' rest n I' L' R Q) : px M cu su pc ls st n I L R Q :=
  px_eq hon q hg he hP (fun h => kt ((px_lc_eq x y).mp h)) (fun h => kf (by exact fun h2 => h ((px_lc_eq x y).mpr h2)))

theorem px_ne {tgt : Nat} {x : Int32} {rest : List Value} (hon : M.1.cls = px_Rn on) (q : px_bk on M.2.2.1 M.2.1 pc xs = some pb ∧ px_t1 M.2.1 pb .ne tgt = true) (hg : px_G n R) (he : px_ex px_nb n R xs ls st I L True = some (P', ls', .int x :: rest, I', L')) (hP : P')
    (kt : ¬ x = 0 → px M cu su tgt ls' rest n I' L' R Q) (kf : x = 0 → px M cu su (pb + 3) ls' rest n I' L' R Q) : px M cu su pc ls st n I L R Q := by
  refine px_b hon q.1 hg he hP ?_
  intro p l e s m args below meth c base cst D cid Z H locs lr X hW hS hl
  obtain ⟨off, h1, h2⟩ := px_t1_ok q.2
  exact lv_if_ne X.1 X.2.1 h1 h2 (fun h => kt h p l e s m args below meth c base cst D cid Z H locs lr X hW hS hl) (fun h => kf h p l e s m args below meth c base cst D cid Z H locs lr X hW hS hl)
theorem px_ine {tgt : Nat} {x y : Int32} {rest : List Value} (hon : M.1.cls = px_Rn on) (q : px_bk on M.2.2.1 M.2.1 pc xs = some pb ∧ px_t2 M.2.1 pb .ne tgt = true) (hg : px_G n R) (he : px_ex px_nb n R xs ls st I L True = some (P', ls', .int y :: .int x :: rest, I', L')) (hP : P')
    (kt : ¬ x = y → px M cu su tgt ls' rest n I' L' R Q) (kf : x = y → px M cu su (pb + 3) ls' rest n I' L' R Q) : px M cu su pc ls st n I L R Q := by
  refine px_b hon q.1 hg he hP ?_
  intro p l e s m args below meth c base cst D cid Z H locs lr X hW hS hl
  obtain ⟨off, h1, h2⟩ := px_t2_ok q.2
  exact lv_icmp_ne X.1 X.2.1 h1 h2 (fun h => kt h p l e s m args below meth c base cst D cid Z H locs lr X hW hS hl) (fun h => kf h p l e s m args below meth c base cst D cid Z H locs lr X hW hS hl)
theorem px_lc_ne (x y : Int64) : (¬ lg_cmp x y = 0) ↔ (¬ x = y) := by
  unfold lg_cmp
  simp only [gt_iff_lt, Int64.lt_iff_toInt_lt, Int64.le_iff_toInt_le, ← Int64.toInt_inj]
  repeat' split
  all_goals (constructor <;> intro hh <;> first | omega | decide | exact absurd hh (by decide))
theorem px_lne {tgt : Nat} {x y : Int64} {rest : List Value} (hon : M.1.cls = px_Rn on) (q : px_bk on M.2.2.1 M.2.1 pc xs = some pb ∧ px_t1 M.2.1 pb .ne tgt = true) (hg : px_G n R) (he : px_ex px_nb n R xs ls st I L True = some (P', ls', .int (lg_cmp x y) :: rest, I', L')) (hP : P')
    (kt : ¬ x = y → px M cu su tgt ls' rest n I' L' R Q) (kf : x = y → px M cu su (pb + 3) ls' rest n I' L' R Q) : px M cu su pc ls st n I L R Q :=
  px_ne hon q hg he hP (fun h => kt ((px_lc_ne x y).mp h)) (fun h => kf (by exact Classical.not_not.mp fun h2 => absurd h ((px_lc_ne x y).mpr h2)))

theorem px_lt {tgt : Nat} {x : Int32} {rest : List Value} (hon : M.1.cls = px_Rn on) (q : px_bk on M.2.2.1 M.2.1 pc xs = some pb ∧ px_t1 M.2.1 pb .lt tgt = true) (hg : px_G n R) (he : px_ex px_nb n R xs ls st I L True = some (P', ls', .int x :: rest, I', L')) (hP : P')
    (kt : x < 0 → px M cu su tgt ls' rest n I' L' R Q) (kf : ¬ x < 0 → px M cu su (pb + 3) ls' rest n I' L' R Q) : px M cu su pc ls st n I L R Q := by
  refine px_b hon q.1 hg he hP ?_
  intro p l e s m args below meth c base cst D cid Z H locs lr X hW hS hl
  obtain ⟨off, h1, h2⟩ := px_t1_ok q.2
  exact lv_if_lt X.1 X.2.1 h1 h2 (fun h => kt h p l e s m args below meth c base cst D cid Z H locs lr X hW hS hl) (fun h => kf h p l e s m args below meth c base cst D cid Z H locs lr X hW hS hl)
theorem px_ilt {tgt : Nat} {x y : Int32} {rest : List Value} (hon : M.1.cls = px_Rn on) (q : px_bk on M.2.2.1 M.2.1 pc xs = some pb ∧ px_t2 M.2.1 pb .lt tgt = true) (hg : px_G n R) (he : px_ex px_nb n R xs ls st I L True = some (P', ls', .int y :: .int x :: rest, I', L')) (hP : P')
    (kt : x < y → px M cu su tgt ls' rest n I' L' R Q) (kf : ¬ x < y → px M cu su (pb + 3) ls' rest n I' L' R Q) : px M cu su pc ls st n I L R Q := by
  refine px_b hon q.1 hg he hP ?_
  intro p l e s m args below meth c base cst D cid Z H locs lr X hW hS hl
  obtain ⟨off, h1, h2⟩ := px_t2_ok q.2
  exact lv_icmp_lt X.1 X.2.1 h1 h2 (fun h => kt h p l e s m args below meth c base cst D cid Z H locs lr X hW hS hl) (fun h => kf h p l e s m args below meth c base cst D cid Z H locs lr X hW hS hl)
theorem px_lc_lt (x y : Int64) : (lg_cmp x y < 0) ↔ (x < y) := by
  unfold lg_cmp
  simp only [gt_iff_lt, Int64.lt_iff_toInt_lt, Int64.le_iff_toInt_le, ← Int64.toInt_inj]
  repeat' split
  all_goals (constructor <;> intro hh <;> first | omega | decide | exact absurd hh (by decide))
theorem px_llt {tgt : Nat} {x y : Int64} {rest : List Value} (hon : M.1.cls = px_Rn on) (q : px_bk on M.2.2.1 M.2.1 pc xs = some pb ∧ px_t1 M.2.1 pb .lt tgt = true) (hg : px_G n R) (he : px_ex px_nb n R xs ls st I L True = some (P', ls', .int (lg_cmp x y) :: rest, I', L')) (hP : P')
    (kt : x < y → px M cu su tgt ls' rest n I' L' R Q) (kf : ¬ x < y → px M cu su (pb + 3) ls' rest n I' L' R Q) : px M cu su pc ls st n I L R Q :=
  px_lt hon q hg he hP (fun h => kt ((px_lc_lt x y).mp h)) (fun h => kf (by exact fun h2 => h ((px_lc_lt x y).mpr h2)))

theorem px_ge {tgt : Nat} {x : Int32} {rest : List Value} (hon : M.1.cls = px_Rn on) (q : px_bk on M.2.2.1 M.2.1 pc xs = some pb ∧ px_t1 M.2.1 pb .ge tgt = true) (hg : px_G n R) (he : px_ex px_nb n R xs ls st I L True = some (P', ls', .int x :: rest, I', L')) (hP : P')
    (kt : 0 ≤ x → px M cu su tgt ls' rest n I' L' R Q) (kf : ¬ 0 ≤ x → px M cu su (pb + 3) ls' rest n I' L' R Q) : px M cu su pc ls st n I L R Q := by
  refine px_b hon q.1 hg he hP ?_
  intro p l e s m args below meth c base cst D cid Z H locs lr X hW hS hl
  obtain ⟨off, h1, h2⟩ := px_t1_ok q.2
  exact lv_if_ge X.1 X.2.1 h1 h2 (fun h => kt h p l e s m args below meth c base cst D cid Z H locs lr X hW hS hl) (fun h => kf h p l e s m args below meth c base cst D cid Z H locs lr X hW hS hl)
theorem px_ige {tgt : Nat} {x y : Int32} {rest : List Value} (hon : M.1.cls = px_Rn on) (q : px_bk on M.2.2.1 M.2.1 pc xs = some pb ∧ px_t2 M.2.1 pb .ge tgt = true) (hg : px_G n R) (he : px_ex px_nb n R xs ls st I L True = some (P', ls', .int y :: .int x :: rest, I', L')) (hP : P')
    (kt : y ≤ x → px M cu su tgt ls' rest n I' L' R Q) (kf : ¬ y ≤ x → px M cu su (pb + 3) ls' rest n I' L' R Q) : px M cu su pc ls st n I L R Q := by
  refine px_b hon q.1 hg he hP ?_
  intro p l e s m args below meth c base cst D cid Z H locs lr X hW hS hl
  obtain ⟨off, h1, h2⟩ := px_t2_ok q.2
  exact lv_icmp_ge X.1 X.2.1 h1 h2 (fun h => kt h p l e s m args below meth c base cst D cid Z H locs lr X hW hS hl) (fun h => kf h p l e s m args below meth c base cst D cid Z H locs lr X hW hS hl)
theorem px_lc_ge (x y : Int64) : (0 ≤ lg_cmp x y) ↔ (y ≤ x) := by
  unfold lg_cmp
  simp only [gt_iff_lt, Int64.lt_iff_toInt_lt, Int64.le_iff_toInt_le, ← Int64.toInt_inj]
  repeat' split
  all_goals (constructor <;> intro hh <;> first | omega | decide | exact absurd hh (by decide))
theorem px_lge {tgt : Nat} {x y : Int64} {rest : List Value} (hon : M.1.cls = px_Rn on) (q : px_bk on M.2.2.1 M.2.1 pc xs = some pb ∧ px_t1 M.2.1 pb .ge tgt = true) (hg : px_G n R) (he : px_ex px_nb n R xs ls st I L True = some (P', ls', .int (lg_cmp x y) :: rest, I', L')) (hP : P')
    (kt : y ≤ x → px M cu su tgt ls' rest n I' L' R Q) (kf : ¬ y ≤ x → px M cu su (pb + 3) ls' rest n I' L' R Q) : px M cu su pc ls st n I L R Q :=
  px_ge hon q hg he hP (fun h => kt ((px_lc_ge x y).mp h)) (fun h => kf (by exact fun h2 => h ((px_lc_ge x y).mpr h2)))

theorem px_gt {tgt : Nat} {x : Int32} {rest : List Value} (hon : M.1.cls = px_Rn on) (q : px_bk on M.2.2.1 M.2.1 pc xs = some pb ∧ px_t1 M.2.1 pb .gt tgt = true) (hg : px_G n R) (he : px_ex px_nb n R xs ls st I L True = some (P', ls', .int x :: rest, I', L')) (hP : P')
    (kt : 0 < x → px M cu su tgt ls' rest n I' L' R Q) (kf : ¬ 0 < x → px M cu su (pb + 3) ls' rest n I' L' R Q) : px M cu su pc ls st n I L R Q := by
  refine px_b hon q.1 hg he hP ?_
  intro p l e s m args below meth c base cst D cid Z H locs lr X hW hS hl
  obtain ⟨off, h1, h2⟩ := px_t1_ok q.2
  exact lv_if_gt X.1 X.2.1 h1 h2 (fun h => kt h p l e s m args below meth c base cst D cid Z H locs lr X hW hS hl) (fun h => kf h p l e s m args below meth c base cst D cid Z H locs lr X hW hS hl)
theorem px_igt {tgt : Nat} {x y : Int32} {rest : List Value} (hon : M.1.cls = px_Rn on) (q : px_bk on M.2.2.1 M.2.1 pc xs = some pb ∧ px_t2 M.2.1 pb .gt tgt = true) (hg : px_G n R) (he : px_ex px_nb n R xs ls st I L True = some (P', ls', .int y :: .int x :: rest, I', L')) (hP : P')
    (kt : y < x → px M cu su tgt ls' rest n I' L' R Q) (kf : ¬ y < x → px M cu su (pb + 3) ls' rest n I' L' R Q) : px M cu su pc ls st n I L R Q := by
  refine px_b hon q.1 hg he hP ?_
  intro p l e s m args below meth c base cst D cid Z H locs lr X hW hS hl
  obtain ⟨off, h1, h2⟩ := px_t2_ok q.2
  exact lv_icmp_gt X.1 X.2.1 h1 h2 (fun h => kt h p l e s m args below meth c base cst D cid Z H locs lr X hW hS hl) (fun h => kf h p l e s m args below meth c base cst D cid Z H locs lr X hW hS hl)
theorem px_lc_gt (x y : Int64) : (0 < lg_cmp x y) ↔ (y < x) := by
  unfold lg_cmp
  simp only [gt_iff_lt, Int64.lt_iff_toInt_lt, Int64.le_iff_toInt_le, ← Int64.toInt_inj]
  repeat' split
  all_goals (constructor <;> intro hh <;> first | omega | decide | exact absurd hh (by decide))
theorem px_lgt {tgt : Nat} {x y : Int64} {rest : List Value} (hon : M.1.cls = px_Rn on) (q : px_bk on M.2.2.1 M.2.1 pc xs = some pb ∧ px_t1 M.2.1 pb .gt tgt = true) (hg : px_G n R) (he : px_ex px_nb n R xs ls st I L True = some (P', ls', .int (lg_cmp x y) :: rest, I', L')) (hP : P')
    (kt : y < x → px M cu su tgt ls' rest n I' L' R Q) (kf : ¬ y < x → px M cu su (pb + 3) ls' rest n I' L' R Q) : px M cu su pc ls st n I L R Q :=
  px_gt hon q hg he hP (fun h => kt ((px_lc_gt x y).mp h)) (fun h => kf (by exact fun h2 => h ((px_lc_gt x y).mpr h2)))

theorem px_le {tgt : Nat} {x : Int32} {rest : List Value} (hon : M.1.cls = px_Rn on) (q : px_bk on M.2.2.1 M.2.1 pc xs = some pb ∧ px_t1 M.2.1 pb .le tgt = true) (hg : px_G n R) (he : px_ex px_nb n R xs ls st I L True = some (P', ls', .int x :: rest, I', L')) (hP : P')
    (kt : x ≤ 0 → px M cu su tgt ls' rest n I' L' R Q) (kf : ¬ x ≤ 0 → px M cu su (pb + 3) ls' rest n I' L' R Q) : px M cu su pc ls st n I L R Q := by
  refine px_b hon q.1 hg he hP ?_
  intro p l e s m args below meth c base cst D cid Z H locs lr X hW hS hl
  obtain ⟨off, h1, h2⟩ := px_t1_ok q.2
  exact lv_if_le X.1 X.2.1 h1 h2 (fun h => kt h p l e s m args below meth c base cst D cid Z H locs lr X hW hS hl) (fun h => kf h p l e s m args below meth c base cst D cid Z H locs lr X hW hS hl)
theorem px_ile {tgt : Nat} {x y : Int32} {rest : List Value} (hon : M.1.cls = px_Rn on) (q : px_bk on M.2.2.1 M.2.1 pc xs = some pb ∧ px_t2 M.2.1 pb .le tgt = true) (hg : px_G n R) (he : px_ex px_nb n R xs ls st I L True = some (P', ls', .int y :: .int x :: rest, I', L')) (hP : P')
    (kt : x ≤ y → px M cu su tgt ls' rest n I' L' R Q) (kf : ¬ x ≤ y → px M cu su (pb + 3) ls' rest n I' L' R Q) : px M cu su pc ls st n I L R Q := by
  refine px_b hon q.1 hg he hP ?_
  intro p l e s m args below meth c base cst D cid Z H locs lr X hW hS hl
  obtain ⟨off, h1, h2⟩ := px_t2_ok q.2
  exact lv_icmp_le X.1 X.2.1 h1 h2 (fun h => kt h p l e s m args below meth c base cst D cid Z H locs lr X hW hS hl) (fun h => kf h p l e s m args below meth c base cst D cid Z H locs lr X hW hS hl)
theorem px_lc_le (x y : Int64) : (lg_cmp x y ≤ 0) ↔ (x ≤ y) := by
  unfold lg_cmp
  simp only [gt_iff_lt, Int64.lt_iff_toInt_lt, Int64.le_iff_toInt_le, ← Int64.toInt_inj]
  repeat' split
  all_goals (constructor <;> intro hh <;> first | omega | decide | exact absurd hh (by decide))
theorem px_lle {tgt : Nat} {x y : Int64} {rest : List Value} (hon : M.1.cls = px_Rn on) (q : px_bk on M.2.2.1 M.2.1 pc xs = some pb ∧ px_t1 M.2.1 pb .le tgt = true) (hg : px_G n R) (he : px_ex px_nb n R xs ls st I L True = some (P', ls', .int (lg_cmp x y) :: rest, I', L')) (hP : P')
    (kt : x ≤ y → px M cu su tgt ls' rest n I' L' R Q) (kf : ¬ x ≤ y → px M cu su (pb + 3) ls' rest n I' L' R Q) : px M cu su pc ls st n I L R Q :=
  px_le hon q hg he hP (fun h => kt ((px_lc_le x y).mp h)) (fun h => kf (by exact fun h2 => h ((px_lc_le x y).mpr h2)))

theorem px_null {tgt : Nat} {r : Option Nat} {rest : List Value} (hon : M.1.cls = px_Rn on) (q : px_bk on M.2.2.1 M.2.1 pc xs = some pb ∧ px_t3 M.2.1 pb tgt = true) (hg : px_G n R) (he : px_ex px_nb n R xs ls st I L True = some (P', ls', va_rf r :: rest, I', L')) (hP : P')
    (kt : r = none → px M cu su tgt ls' rest n I' L' R Q) (kf : ∀ a, r = some a → px M cu su (pb + 3) ls' rest n I' L' R Q) : px M cu su pc ls st n I L R Q := by
  refine px_b hon q.1 hg he hP ?_
  intro p l e s m args below meth c base cst D cid Z H locs lr X hW hS hl
  obtain ⟨off, h1, h2⟩ := px_t3_ok q.2
  cases r with
  | none => exact lv_ifnullN X.1 X.2.1 h1 h2 (kt rfl p l e s m args below meth c base cst D cid Z H locs lr X hW hS hl)
  | some a => exact lv_ifnull X.1 X.2.1 h1 (kf a rfl p l e s m args below meth c base cst D cid Z H locs lr X hW hS hl)
theorem px_nonnull {tgt : Nat} {r : Option Nat} {rest : List Value} (hon : M.1.cls = px_Rn on) (q : px_bk on M.2.2.1 M.2.1 pc xs = some pb ∧ px_t4 M.2.1 pb tgt = true) (hg : px_G n R) (he : px_ex px_nb n R xs ls st I L True = some (P', ls', va_rf r :: rest, I', L')) (hP : P')
    (kt : ∀ a, r = some a → px M cu su tgt ls' rest n I' L' R Q) (kf : r = none → px M cu su (pb + 3) ls' rest n I' L' R Q) : px M cu su pc ls st n I L R Q := by
  refine px_b hon q.1 hg he hP ?_
  intro p l e s m args below meth c base cst D cid Z H locs lr X hW hS hl
  obtain ⟨off, h1, h2⟩ := px_t4_ok q.2
  cases r with
  | none => exact lv_ifnonnullN X.1 X.2.1 h1 (kf rfl p l e s m args below meth c base cst D cid Z H locs lr X hW hS hl)
  | some a => exact lv_ifnonnull X.1 X.2.1 h1 h2 (kt a rfl p l e s m args below meth c base cst D cid Z H locs lr X hW hS hl)
/-- a return -/
def px_tr (cc : ByteArray) (pb : Nat) (i : Instr) : Bool := match decode cc pb with
  | .ok (j, 1) => decide (j = i)
  | _ => false
theorem px_tr_ok {cc : ByteArray} {pb : Nat} {i : Instr} (h : px_tr cc pb i = true) : decode cc pb = .ok (i, 1) := by
  unfold px_tr at h
  split at h
  · rename_i j hd; rw [hd, of_decide_eq_true h]
  · cases h
theorem px_ret {r : Option Value} (h : px_isr M pb r) (hcu : Nat.ble cu (px_room M).cells = true) (hsu : Nat.ble su (px_room M).slots = true) (hq : Q r n I L R) : px M cu su pb ls r.toList n I L R Q := by
  intro p l e s m args below meth c base cst D cid Z H locs lr X hW hS hl
  exact X.2.2.2.2.2.2.2.2.2.2 r n I L R H locs cu su pb lr hq hW hS h (Nat.le_of_ble_eq_true hcu) (Nat.le_of_ble_eq_true hsu)
theorem px_ri {x : Int32} (hon : M.1.cls = px_Rn on) (q : px_bk on M.2.2.1 M.2.1 pc xs = some pb ∧ px_tr M.2.1 pb .ireturn = true) (hr : M.2.2.2.1 = some .int) (hcu : Nat.ble cu (px_room M).cells = true) (hsu : Nat.ble su (px_room M).slots = true) (hg : px_G n R) (he : px_ex px_nb n R xs ls st I L True = some (P', ls', [.int x], I', L')) (hP : P') (hq : Q (some (.int x)) n I' L' R) : px M cu su pc ls st n I L R Q :=
  px_b hon q.1 hg he hP (px_ret (r := some (.int x)) ⟨px_tr_ok q.2, _, hr, rfl⟩ hcu hsu hq)
theorem px_rz {x : Int32} (hon : M.1.cls = px_Rn on) (q : px_bk on M.2.2.1 M.2.1 pc xs = some pb ∧ px_tr M.2.1 pb .ireturn = true) (hr : M.2.2.2.1 = some .boolean) (hcu : Nat.ble cu (px_room M).cells = true) (hsu : Nat.ble su (px_room M).slots = true) (hg : px_G n R) (he : px_ex px_nb n R xs ls st I L True = some (P', ls', [.int x], I', L')) (hP : P') (hx : x = 0 ∨ x = 1) (hq : Q (some (.int x)) n I' L' R) : px M cu su pc ls st n I L R Q :=
  px_b hon q.1 hg he hP (px_ret (r := some (.int x)) ⟨px_tr_ok q.2, _, hr, by rcases hx with rfl | rfl <;> rfl⟩ hcu hsu hq)
theorem px_rn {x : Int32} {ty : FieldType} (hon : M.1.cls = px_Rn on) (q : px_bk on M.2.2.1 M.2.1 pc xs = some pb ∧ px_tr M.2.1 pb .ireturn = true) (hr : M.2.2.2.1 = some ty) (hcu : Nat.ble cu (px_room M).cells = true) (hsu : Nat.ble su (px_room M).slots = true) (hg : px_G n R) (he : px_ex px_nb n R xs ls st I L True = some (P', ls', [.int x], I', L')) (hP : P') (hx : narrow ty (.int x) = .int x) (hq : Q (some (.int x)) n I' L' R) : px M cu su pc ls st n I L R Q :=
  px_b hon q.1 hg he hP (px_ret (r := some (.int x)) ⟨px_tr_ok q.2, _, hr, hx⟩ hcu hsu hq)
theorem px_rl {x : Int64} (hon : M.1.cls = px_Rn on) (q : px_bk on M.2.2.1 M.2.1 pc xs = some pb ∧ px_tr M.2.1 pb .lreturn = true) (hr : M.2.2.2.1 = some .long) (hcu : Nat.ble cu (px_room M).cells = true) (hsu : Nat.ble su (px_room M).slots = true) (hg : px_G n R) (he : px_ex px_nb n R xs ls st I L True = some (P', ls', [.long x], I', L')) (hP : P') (hq : Q (some (.long x)) n I' L' R) : px M cu su pc ls st n I L R Q :=
  px_b hon q.1 hg he hP (px_ret (r := some (.long x)) ⟨px_tr_ok q.2, hr⟩ hcu hsu hq)
theorem px_rv (hon : M.1.cls = px_Rn on) (q : px_bk on M.2.2.1 M.2.1 pc xs = some pb ∧ px_tr M.2.1 pb .return_ = true) (hr : M.2.2.2.1 = none) (hcu : Nat.ble cu (px_room M).cells = true) (hsu : Nat.ble su (px_room M).slots = true) (hg : px_G n R) (he : px_ex px_nb n R xs ls st I L True = some (P', ls', [], I', L')) (hP : P') (hq : Q none n I' L' R) : px M cu su pc ls st n I L R Q :=
  px_b hon q.1 hg he hP (px_ret (r := none) ⟨hr, px_tr_ok q.2⟩ hcu hsu hq)
theorem px_rvc (hon : M.1.cls = px_Rn on) (q : (px_bk on M.2.2.1 M.2.1 pc xs = some pb ∧ xs.all (fun x => !px_us x) = true) ∧ px_tr M.2.1 pb .return_ = true) (hr : M.2.2.2.1 = none) (hcu : Nat.ble cu (px_room M).cells = true) (hsu : Nat.ble su (px_room M).slots = true) (he : px_ex n n R xs ls st I L True = some (P', ls', [], I', L')) (hP : P') (hq : Q none n I' L' R) : px M cu su pc ls st n I L R Q :=
  px_bc hon q.1 he hP (px_ret (r := none) ⟨hr, px_tr_ok q.2⟩ hcu hsu hq)
theorem px_ra {v : Option Nat} {nm : String} (hon : M.1.cls = px_Rn on) (q : px_bk on M.2.2.1 M.2.1 pc xs = some pb ∧ px_tr M.2.1 pb .areturn = true) (hr : M.2.2.2.1 = some (.object nm)) (hcu : Nat.ble cu (px_room M).cells = true) (hsu : Nat.ble su (px_room M).slots = true) (hg : px_G n R) (he : px_ex px_nb n R xs ls st I L True = some (P', ls', [va_rf v], I', L')) (hP : P') (hq : Q (some (va_rf v)) n I' L' R) : px M cu su pc ls st n I L R Q :=
  px_b hon q.1 hg he hP (px_ret (r := some (va_rf v)) (by cases v with
    | none => exact ⟨px_tr_ok q.2, ⟨_, hr, Or.inl ⟨_, rfl⟩⟩, Or.inl rfl⟩
    | some a => exact ⟨px_tr_ok q.2, ⟨_, hr, Or.inl ⟨_, rfl⟩⟩, Or.inr ⟨_, rfl⟩⟩) hcu hsu hq)
end PXR

/-- loops: upwards to N, downwards to N -/
theorem px_up {P : Int32 → Prop} (N : Int32) (h : ∀ k, (∀ j, k < j → j ≤ N → P j) → k ≤ N → P k) : ∀ k, k ≤ N → P k := by
  have key : ∀ (d : Nat) (k : Int32), (N.toInt - k.toInt).toNat < d → k ≤ N → P k := by
    intro d
    induction d with
    | zero => intro k h1; omega
    | succ d ih =>
      intro k h1 h2
      refine h k (fun j h3 h4 => ih j ?_ h4) h2
      have h3 := Int32.lt_iff_toInt_lt.mp h3
      have h4 := Int32.le_iff_toInt_le.mp h4
      omega
  exact fun k hk => key _ k (Nat.lt_succ_self _) hk
theorem px_dn {P : Int32 → Prop} (N : Int32) (h : ∀ k, (∀ j, j < k → N ≤ j → P j) → N ≤ k → P k) : ∀ k, N ≤ k → P k := by
  have key : ∀ (d : Nat) (k : Int32), (k.toInt - N.toInt).toNat < d → N ≤ k → P k := by
    intro d
    induction d with
    | zero => intro k h1; omega
    | succ d ih =>
      intro k h1 h2
      refine h k (fun j h3 h4 => ih j ?_ h4) h2
      have h3 := Int32.lt_iff_toInt_lt.mp h3
      have h4 := Int32.le_iff_toInt_le.mp h4
      omega
  exact fun k hk => key _ k (Nat.lt_succ_self _) hk
theorem px_inj {a b : Int32} (ha : 0 ≤ a) (hb : 0 ≤ b) (h : a.toNatClampNeg = b.toNatClampNeg) : a = b := by
  have h1 := Int32.le_iff_toInt_le.mp ha
  have h2 := Int32.le_iff_toInt_le.mp hb
  apply Int32.toInt_inj.mp
  unfold Int32.toNatClampNeg at h
  simp at h1 h2
  omega

/-! a switch -/
section PXS
variable {n cu su pb : Nat} {R : px_R} {M : px_M} {Q : px_Q} {ls : px_Ls} {rest : List Value} {I : px_I} {L : px_L}
theorem px_swI {dflt lo hi : Int} {offs : Array Int} {len tgt : Nat} {x v : Int32} {off : Int} (hd : decode M.2.1 pb = .ok (.tableswitch dflt lo hi offs, len)) (hx : x = v) (h1 : ¬ v.toInt < lo) (h2 : ¬ hi < v.toInt) (ho : offs[(v.toInt - lo).toNat]? = some off) (ht : (pb : Int) + off = tgt)
    (k : px M cu su tgt ls rest n I L R Q) : px M cu su pb ls (.int x :: rest) n I L R Q := by
  subst hx
  intro p l e s m args below meth c base cst D cid Z H locs lr X hW hS hl
  exact lv_tableIn X.1 X.2.1 hd h1 h2 ho ht (k p l e s m args below meth c base cst D cid Z H locs lr X hW hS hl)
theorem px_swO {dflt lo hi : Int} {offs : Array Int} {len tgt : Nat} {x : Int32} (hd : decode M.2.1 pb = .ok (.tableswitch dflt lo hi offs, len)) (h : x.toInt < lo ∨ hi < x.toInt) (ht : (pb : Int) + dflt = tgt)
    (k : px M cu su tgt ls rest n I L R Q) : px M cu su pb ls (.int x :: rest) n I L R Q := by
  intro p l e s m args below meth c base cst D cid Z H locs lr X hW hS hl
  exact lv_tableOut X.1 X.2.1 hd h ht (k p l e s m args below meth c base cst D cid Z H locs lr X hW hS hl)
theorem px_swL {dflt : Int} {ps : Array (Int × Int)} {len tgt : Nat} {x : Int32} {off : Int} (hd : decode M.2.1 pb = .ok (.lookupswitch dflt ps, len)) (hp : (ps.toList.zip (ps.toList.drop 1)).all (fun (a, next) => a.1 < next.1) = true) (ho : Op.lookupswitch.offset ps.toList dflt x.toInt = off) (ht : (pb : Int) + off = tgt)
    (k : px M cu su tgt ls rest n I L R Q) : px M cu su pb ls (.int x :: rest) n I L R Q := by
  intro p l e s m args below meth c base cst D cid Z H locs lr X hW hS hl
  exact lv_lookup X.1 X.2.1 hd hp ho ht (k p l e s m args below meth c base cst D cid Z H locs lr X hW hS hl)
end PXS
/-- beyond all cases -/
theorem px_out {x : Int32} (lo hi : Nat) (h9 : hi < 2000) (h : ∀ k : Nat, lo ≤ k → k ≤ hi → x ≠ Int32.ofNat k) : x.toInt < (lo : Int) ∨ (hi : Int) < x.toInt := by
  by_cases h1 : x.toInt < (lo : Int)
  · exact Or.inl h1
  · by_cases h2 : (hi : Int) < x.toInt
    · exact Or.inr h2
    · refine absurd ?_ (h x.toInt.toNat (by omega) (by omega))
      apply Int32.toInt_inj.mp
      rw [Int32.toInt_ofNat_of_lt (by omega)]
      omega
end
section
/-! calls -/
section PXC
variable {p : Program} {l : Launch} {e : Env} {s : State} {m : MethodId} {args : Array Value} {below : List Frame} {meth : Method} {c : Code} {Rm : Room} {base : Nat} {cst : Nat → Nat} {D : va_G} {cid : Nat → ClassId} {Z : State → Prop} {H : Heap} {locs : List Loc} {cu su mc ms pc : Nat} {lr : Array Slot} {st0 rest : List Value} {a : Array Value}
theorem px_runk {Q1 : px_Q} (hr : va_Run p l e Rm s m args below meth c H locs cu su mc ms (F0 m pc lr st0) rest (px_Qc base cst D cid Q1 a) (px_A base)) (hS : va_S (px_A base) s.heap H locs)
    (kk : ∀ (r : Option Value) (n : Nat) (I : px_I) (L : px_L) (R : px_R) (H1 : Heap) (locs1 : List Loc), Q1 r n I L R → px_W base cst D cid n I L R H1 → va_S (px_A base) s.heap H1 locs1 → W p l e Rm s m args below meth c H1 locs1 (cu + mc) (su + ms) Z (F0 m (pc + 3) lr ((r.map (px_v (px_ad base cst))).toList ++ rest))) : W p l e Rm s m args below meth c H locs cu su Z (F0 m pc lr st0) := by
  intro T hT X
  obtain ⟨v, st₀, t, T', L, h0, X', hL, e1, e2, ⟨⟨r, n, I, L1, R, hv, hq, hw⟩, hz, hk⟩, st⟩ := hr T hT X
  cases hv
  rw [h0] at hz hk
  obtain ⟨t2, a1, b1⟩ := kk r n I L1 R T'.heap (locs ++ L) hq (by rw [e1]; exact hw)
    ⟨Nat.le_trans hS.1 (by rw [e1]; exact hz), fun q h1 h2 => by rw [e1, hk q (Nat.lt_of_lt_of_le h1 hS.1) h2]; exact hS.2.1 q h1 h2, fun q hq => by
      rcases List.mem_append.mp hq with h | h
      · exact hS.2.2 q h
      · exact hL q h⟩ T' rfl X'
  exact ⟨t2, st t2 a1, b1⟩
theorem px_blind {as : List Value} {n : Nat} {I : px_I} {L : px_L} {R : px_R} : FrameBlind (px_Pc base cst D cid as n I L R) := by
  intro a U g mk h
  obtain ⟨h1, h2, h3, h4⟩ := h
  exact ⟨h1, h2, va_K.moved (u := U) (U := U.calling g mk a) (Vm.Alike.refl U.vm) h3, h4.same rfl⟩
end PXC
theorem px_good {ws : List Cond} (h : ∀ w ∈ ws, w ∈ px_T) : GoodIn px_T ws := fun w hw => ⟨h w hw, good_of_word (List.mem_filter.mp (h w hw)).2⟩
/-- of a method: its name is plain, how many arguments -/
def px_nm (M : px_M) (k : Nat) : Prop := M.1.cls ≠ "java/lang/invoke/MethodHandle" ∧ M.1.cls ≠ "java/lang/invoke/VarHandle" ∧ (parseMethodDescriptor M.1.desc).map (fun d => d.parameters.length) = some k
def px_lV (own : String) (idx : Nat) (M : px_M) : Prop := Cond.methodLink own idx M.1 ∈ px_T ∧ Cond.instanceMethod M.1 ∈ px_T ∧ Cond.selects M.1.cls M.1 M.1 ∈ px_T ∧ Cond.initialized M.1.cls ∈ px_T ∧ Cond.code M.1 M.2.1 M.2.2.1 M.2.2.2.1 ∈ px_T
def px_lS (own : String) (idx : Nat) (M : px_M) : Prop := Cond.methodLink own idx M.1 ∈ px_T ∧ Cond.static M.1 ∈ px_T ∧ Cond.initialized M.1.cls ∈ px_T ∧ Cond.code M.1 M.2.1 M.2.2.1 M.2.2.2.1 ∈ px_T
def px_lI (own : String) (idx : Nat) (M : px_M) : Prop := Cond.methodLink own idx M.1 ∈ px_T ∧ Cond.instanceMethod M.1 ∈ px_T ∧ Cond.initialized M.1.cls ∈ px_T ∧ Cond.code M.1 M.2.1 M.2.2.1 M.2.2.2.1 ∈ px_T ∧ M.1.name = "<init>" ∧ M.2.2.2.1 = none
def px_lSN (own : String) (idx : Nat) (M : px_M) (host : String) : Prop := (own, idx, M.1, host) ∈ px_nest ∧ Cond.static M.1 ∈ px_T ∧ Cond.initialized M.1.cls ∈ px_T ∧ Cond.code M.1 M.2.1 M.2.2.1 M.2.2.2.1 ∈ px_T
def px_lIN (own : String) (idx : Nat) (M : px_M) (host : String) : Prop := (own, idx, M.1, host) ∈ px_nest ∧ Cond.instanceMethod M.1 ∈ px_T ∧ Cond.initialized M.1.cls ∈ px_T ∧ Cond.code M.1 M.2.1 M.2.2.1 M.2.2.2.1 ∈ px_T ∧ M.1.name = "<init>" ∧ M.2.2.2.1 = none
/-- the callee's room fits -/
def px_rk (M M1 : px_M) (cu su : Nat) (rest : List Value) : Bool := Nat.ble ((px_room M1).frames + 1) (px_room M).frames && (Nat.ble (8 + (M1.2.2.1 + 11) + (px_room M1).locals) (px_room M).locals && (Nat.ble (cu + (px_room M1).cells) (px_room M).cells && (Nat.ble (su + (px_room M1).slots) (px_room M).slots && Nat.ble (rest.map fun v => v.category).sum 8)))
theorem px_rk_ok {M M1 : px_M} {cu su : Nat} {rest : List Value} (h : px_rk M M1 cu su rest = true) : ((px_room M1).frames + 1 ≤ (px_room M).frames ∧ 8 + (M1.2.2.1 + 11) + (px_room M1).locals ≤ (px_room M).locals) ∧ (cu + (px_room M1).cells ≤ (px_room M).cells ∧ su + (px_room M1).slots ≤ (px_room M).slots) ∧ (rest.map fun v => v.category).sum ≤ 8 := by
  unfold px_rk at h
  simp only [Bool.and_eq_true] at h
  exact ⟨⟨Nat.le_of_ble_eq_true h.1, Nat.le_of_ble_eq_true h.2.1⟩, ⟨Nat.le_of_ble_eq_true h.2.2.1, Nat.le_of_ble_eq_true h.2.2.2.1⟩, Nat.le_of_ble_eq_true h.2.2.2.2⟩
theorem px_cat (ad : Nat → Nat) (rest : List Value) : ((rest.map (px_v ad)).map fun v => v.category).sum = (rest.map fun v => v.category).sum := by
  induction rest with
  | nil => rfl
  | cons v t ih => simp only [List.map_cons, List.sum_cons, px_v_cat, ih]
def px_tv (cc : ByteArray) (pb idx : Nat) : Bool := match decode cc pb with
  | .ok (.invokevirtual i, 3) => Nat.beq i idx
  | _ => false
def px_tS (cc : ByteArray) (pb idx : Nat) : Bool := match decode cc pb with
  | .ok (.invokestatic i, 3) => Nat.beq i idx
  | _ => false
def px_tI (cc : ByteArray) (pb idx : Nat) : Bool := match decode cc pb with
  | .ok (.invokespecial i, 3) => Nat.beq i idx
  | _ => false
theorem px_tv_ok {cc : ByteArray} {pb idx : Nat} (h : px_tv cc pb idx = true) : decode cc pb = .ok (.invokevirtual idx, 3) := by
  unfold px_tv at h
  split at h
  · rename_i i hd; rw [hd, Nat.eq_of_beq_eq_true h]
  · cases h
theorem px_tS_ok {cc : ByteArray} {pb idx : Nat} (h : px_tS cc pb idx = true) : decode cc pb = .ok (.invokestatic idx, 3) := by
  unfold px_tS at h
  split at h
  · rename_i i hd; rw [hd, Nat.eq_of_beq_eq_true h]
  · cases h
theorem px_tI_ok {cc : ByteArray} {pb idx : Nat} (h : px_tI cc pb idx = true) : decode cc pb = .ok (.invokespecial idx, 3) := by
  unfold px_tI at h
  split at h
  · rename_i i hd; rw [hd, Nat.eq_of_beq_eq_true h]
  · cases h
section PXD
variable {on n cu su pc pb idx k : Nat} {R : px_R} {M M1 : px_M} {Q Q1 : px_Q} {xs : List px_o} {ls ls' : px_Ls} {st st' : List Value} {I I' : px_I} {L L' : px_L} {P' : Prop} {As rest : List Value} {o ci : Nat}

theorem px_kV (q : px_tv M.2.1 pb idx = true) (lk : px_lV M.1.cls idx M1) (hnm : px_nm M1 k) (hk : px_K M1 (.ref o :: As) n I L R Q1) (hs : st = As.reverse ++ .ref o :: rest) (hn : Nat.beq As.length k = true) (ho : px_is n o ci) (hrc : M1.1.cls = px_Rn ci) (hci : Nat.blt ci 13 = true) (hrm : px_rk M M1 cu su rest = true)
    (kk : ∀ (r : Option Value) (n' : Nat) (I' : px_I) (L' : px_L) (R' : px_R), Q1 r n' I' L' R' → px M (cu + (px_room M1).cells) (su + (px_room M1).slots) (pb + 3) ls (r.toList ++ rest) n' I' L' R' Q) : px M cu su pb ls st n I L R Q := by
  intro p l e s m args below meth c base cst D cid Z H locs lr X hW hS hl
  subst hs
  obtain ⟨hrm1, hrm2, hrm3⟩ := px_rk_ok hrm
  obtain ⟨hx, hb, hml, hown, hts, hK, hbs, hC, -⟩ := id X
  have hpre : ∀ U : State, U.heap = H → s.WarmedH U.vm → px_Pc base cst D cid (.ref o :: As) n I L R (((.ref o :: As).map (px_v (px_ad base cst))).toArray) U := fun U hU hWm => ⟨rfl, by rw [hU]; exact hW, hK.moved hWm.alike, by rw [hU]; exact hC.go hS hWm hbs⟩
  have hln : (As.map (px_v (px_ad base cst))).length = k := by rw [List.length_map]; exact Nat.eq_of_beq_eq_true hn
  have hat := hW.2.2 o ho.1 ho.2.1
  have hci := Nat.le_of_ble_eq_true hci
  rw [px_e_obj _ _ (by rw [ho.2.2]; exact hci), ho.2.2] at hat
  have hrv := va_recv hK (px_one hat) (px_cl_at ci hci) (q0 := 0) rfl
  refine px_runk (va_runV (C := M1.1.cls) (b := px_ad base cst o) (As := As.map (px_v (px_ad base cst))) (rest := rest.map (px_v (px_ad base cst))) ⟨hx, hb, hml, hown, hts⟩ (hk l base cst D cid)
    (cwV k hts (px_good (by
      intro w hw
      rcases List.mem_append.mp hw with hw | hw
      · rcases List.mem_cons.mp hw with rfl | hw; · exact lk.1
        rcases List.mem_cons.mp hw with rfl | hw; · exact lk.2.1
        rcases List.mem_cons.mp hw with rfl | hw; · exact lk.2.2.1
        rcases List.mem_cons.mp hw with rfl | hw; · exact lk.2.2.2.1
        cases hw
      · rcases List.mem_cons.mp hw with rfl | hw; · exact lk.2.2.2.2
        exact hw)) rfl rfl rfl ⟨rfl, hnm⟩ hrm1) ⟨px_blind, by rw [hrc]; exact hrv, hpre⟩ rfl hln hl.1 (by rw [List.map_append, List.map_reverse]; rfl) (lv_room (by rw [px_cat]; exact hrm3)) (px_tv_ok q) hrm2) hS ?_
  intro r n' I' L' R' H1 locs1 hq hW1 hS1
  have h9 := kk r n' I' L' R' hq p l e s m args below meth c base cst D cid Z H1 locs1 lr X hW1 hS1 hl
  cases r <;> exact h9

theorem px_kS (q : px_tS M.2.1 pb idx = true) (lk : px_lS M.1.cls idx M1) (hnm : px_nm M1 k) (hk : px_K M1 As n I L R Q1) (hs : st = As.reverse ++ rest) (hn : Nat.beq As.length k = true) (hrm : px_rk M M1 cu su rest = true)
    (kk : ∀ (r : Option Value) (n' : Nat) (I' : px_I) (L' : px_L) (R' : px_R), Q1 r n' I' L' R' → px M (cu + (px_room M1).cells) (su + (px_room M1).slots) (pb + 3) ls (r.toList ++ rest) n' I' L' R' Q) : px M cu su pb ls st n I L R Q := by
  intro p l e s m args below meth c base cst D cid Z H locs lr X hW hS hl
  subst hs
  obtain ⟨hrm1, hrm2, hrm3⟩ := px_rk_ok hrm
  obtain ⟨hx, hb, hml, hown, hts, hK, hbs, hC, -⟩ := id X
  have hpre : ∀ U : State, U.heap = H → s.WarmedH U.vm → px_Pc base cst D cid As n I L R ((As.map (px_v (px_ad base cst))).toArray) U := fun U hU hWm => ⟨rfl, by rw [hU]; exact hW, hK.moved hWm.alike, by rw [hU]; exact hC.go hS hWm hbs⟩
  have hln : (As.map (px_v (px_ad base cst))).length = k := by rw [List.length_map]; exact Nat.eq_of_beq_eq_true hn
  refine px_runk (va_runS (As := As.map (px_v (px_ad base cst))) (rest := rest.map (px_v (px_ad base cst))) ⟨hx, hb, hml, hown, hts⟩ (hk l base cst D cid)
    (va_cwS k hts (px_good (by
      intro w hw
      rcases List.mem_append.mp hw with hw | hw
      · rcases List.mem_cons.mp hw with rfl | hw; · exact lk.1
        rcases List.mem_cons.mp hw with rfl | hw; · exact lk.2.1
        rcases List.mem_cons.mp hw with rfl | hw; · exact lk.2.2.1
        cases hw
      · rcases List.mem_cons.mp hw with rfl | hw; · exact lk.2.2.2
        exact hw)) rfl rfl rfl hnm hrm1) ⟨px_blind, hpre⟩ rfl hln hl.1 (by rw [List.map_append, List.map_reverse]) (lv_room (by rw [px_cat]; exact hrm3)) (px_tS_ok q) hrm2) hS ?_
  intro r n' I' L' R' H1 locs1 hq hW1 hS1
  have h9 := kk r n' I' L' R' hq p l e s m args below meth c base cst D cid Z H1 locs1 lr X hW1 hS1 hl
  cases r <;> exact h9

theorem px_kI (q : px_tI M.2.1 pb idx = true) (lk : px_lI M.1.cls idx M1) (hnm : px_nm M1 k) (hk : px_K M1 (.ref o :: As) n I L R Q1) (hs : st = As.reverse ++ .ref o :: rest) (hn : Nat.beq As.length k = true) (hrm : px_rk M M1 cu su rest = true)
    (kk : ∀ (r : Option Value) (n' : Nat) (I' : px_I) (L' : px_L) (R' : px_R), Q1 r n' I' L' R' → px M (cu + (px_room M1).cells) (su + (px_room M1).slots) (pb + 3) ls (r.toList ++ rest) n' I' L' R' Q) : px M cu su pb ls st n I L R Q := by
  intro p l e s m args below meth c base cst D cid Z H locs lr X hW hS hl
  subst hs
  obtain ⟨hrm1, hrm2, hrm3⟩ := px_rk_ok hrm
  obtain ⟨hx, hb, hml, hown, hts, hK, hbs, hC, -⟩ := id X
  have hpre : ∀ U : State, U.heap = H → s.WarmedH U.vm → px_Pc base cst D cid (.ref o :: As) n I L R (((.ref o :: As).map (px_v (px_ad base cst))).toArray) U := fun U hU hWm => ⟨rfl, by rw [hU]; exact hW, hK.moved hWm.alike, by rw [hU]; exact hC.go hS hWm hbs⟩
  have hln : (As.map (px_v (px_ad base cst))).length = k := by rw [List.length_map]; exact Nat.eq_of_beq_eq_true hn
  obtain ⟨y1, y2, y3, y4, y5, y6⟩ := lk
  refine px_runk (va_runI (maxL := M1.2.2.1) (bytes := M1.2.1) (n := k) (b := px_ad base cst o) (As := As.map (px_v (px_ad base cst))) (rest := rest.map (px_v (px_ad base cst))) ⟨hx, hb, hml, hown, hts⟩ (hk l base cst D cid)
    ⟨callB_of (ws' := px_T) k hts (px_good (by
      intro w hw
      rcases List.mem_cons.mp hw with rfl | hw; · exact y4
      exact hw)) (by rw [← y6]; rfl) rfl rfl (hts _ y3) (hts _ y1) hnm hrm1, y5, hts _ y2⟩ ⟨px_blind, hpre⟩ rfl hln hl.1 (by rw [List.map_append, List.map_reverse]; rfl) (lv_room (by rw [px_cat]; exact hrm3)) (px_tI_ok q) hrm2) hS ?_
  intro r n' I' L' R' H1 locs1 hq hW1 hS1
  have h9 := kk r n' I' L' R' hq p l e s m args below meth c base cst D cid Z H1 locs1 lr X hW1 hS1 hl
  cases r <;> exact h9

theorem px_kSN {host : String} (q : px_tS M.2.1 pb idx = true) (lk : px_lSN M.1.cls idx M1 host) (hnm : px_nm M1 k) (hk : px_K M1 As n I L R Q1) (hs : st = As.reverse ++ rest) (hn : Nat.beq As.length k = true) (hrm : px_rk M M1 cu su rest = true)
    (kk : ∀ (r : Option Value) (n' : Nat) (I' : px_I) (L' : px_L) (R' : px_R), Q1 r n' I' L' R' → px M (cu + (px_room M1).cells) (su + (px_room M1).slots) (pb + 3) ls (r.toList ++ rest) n' I' L' R' Q) : px M cu su pb ls st n I L R Q := by
  intro p l e s m args below meth c base cst D cid Z H locs lr X hW hS hl
  subst hs
  obtain ⟨hrm1, hrm2, hrm3⟩ := px_rk_ok hrm
  obtain ⟨hx, hb, hml, hown, hts, hK, hbs, hC, -⟩ := id X
  have hpre : ∀ U : State, U.heap = H → s.WarmedH U.vm → px_Pc base cst D cid As n I L R ((As.map (px_v (px_ad base cst))).toArray) U := fun U hU hWm => ⟨rfl, by rw [hU]; exact hW, hK.moved hWm.alike, by rw [hU]; exact hC.go hS hWm hbs⟩
  have hln : (As.map (px_v (px_ad base cst))).length = k := by rw [List.length_map]; exact Nat.eq_of_beq_eq_true hn
  refine px_runk (va_runSN (As := As.map (px_v (px_ad base cst))) (rest := rest.map (px_v (px_ad base cst))) ⟨hx, hb, hml, hown, hts⟩ (hk l base cst D cid)
    ⟨va_cnB k hts (px_good (by
      intro w hw
      rcases List.mem_cons.mp hw with rfl | hw; · exact lk.2.2.2
      exact hw)) rfl rfl rfl (hC.2.2.2.2.2.2.2.2.2 _ lk.1) (hts _ lk.2.2.1) hnm hrm1, hts _ lk.2.1, trivial⟩ ⟨px_blind, hpre⟩ rfl hln hl.1 (by rw [List.map_append, List.map_reverse]) (lv_room (by rw [px_cat]; exact hrm3)) (px_tS_ok q) hrm2) hS ?_
  intro r n' I' L' R' H1 locs1 hq hW1 hS1
  have h9 := kk r n' I' L' R' hq p l e s m args below meth c base cst D cid Z H1 locs1 lr X hW1 hS1 hl
  cases r <;> exact h9

theorem px_kIN {host : String} (q : px_tI M.2.1 pb idx = true) (lk : px_lIN M.1.cls idx M1 host) (hnm : px_nm M1 k) (hk : px_K M1 (.ref o :: As) n I L R Q1) (hs : st = As.reverse ++ .ref o :: rest) (hn : Nat.beq As.length k = true) (hrm : px_rk M M1 cu su rest = true)
    (kk : ∀ (r : Option Value) (n' : Nat) (I' : px_I) (L' : px_L) (R' : px_R), Q1 r n' I' L' R' → px M (cu + (px_room M1).cells) (su + (px_room M1).slots) (pb + 3) ls (r.toList ++ rest) n' I' L' R' Q) : px M cu su pb ls st n I L R Q := by
  intro p l e s m args below meth c base cst D cid Z H locs lr X hW hS hl
  subst hs
  obtain ⟨hrm1, hrm2, hrm3⟩ := px_rk_ok hrm
  obtain ⟨hx, hb, hml, hown, hts, hK, hbs, hC, -⟩ := id X
  have hpre : ∀ U : State, U.heap = H → s.WarmedH U.vm → px_Pc base cst D cid (.ref o :: As) n I L R (((.ref o :: As).map (px_v (px_ad base cst))).toArray) U := fun U hU hWm => ⟨rfl, by rw [hU]; exact hW, hK.moved hWm.alike, by rw [hU]; exact hC.go hS hWm hbs⟩
  have hln : (As.map (px_v (px_ad base cst))).length = k := by rw [List.length_map]; exact Nat.eq_of_beq_eq_true hn
  obtain ⟨y1, y2, y3, y4, y5, y6⟩ := lk
  refine px_runk (va_runIN (maxL := M1.2.2.1) (bytes := M1.2.1) (n := k) (b := px_ad base cst o) (As := As.map (px_v (px_ad base cst))) (rest := rest.map (px_v (px_ad base cst))) ⟨hx, hb, hml, hown, hts⟩ (hk l base cst D cid)
    ⟨va_cnB (ws' := px_T) k hts (px_good (by
      intro w hw
      rcases List.mem_cons.mp hw with rfl | hw; · exact y4
      exact hw)) (by rw [← y6]; rfl) rfl rfl (hC.2.2.2.2.2.2.2.2.2 _ y1) (hts _ y3) hnm hrm1, y5, hts _ y2⟩ ⟨px_blind, hpre⟩ rfl hln hl.1 (by rw [List.map_append, List.map_reverse]; rfl) (lv_room (by rw [px_cat]; exact hrm3)) (px_tI_ok q) hrm2) hS ?_
  intro r n' I' L' R' H1 locs1 hq hW1 hS1
  have h9 := kk r n' I' L' R' hq p l e s m args below meth c base cst D cid Z H1 locs1 lr X hW1 hS1 hl
  cases r <;> exact h9

end PXD
end
section
/-! contracts of a few forms, and their calls -/
/-- an int, nothing changed -/
def px_KP (M : px_M) (as : List Value) (n : Nat) (I : px_I) (L : px_L) (R : px_R) (post : Int32 → Prop) : Prop := px_K M as n I L R (fun r n' I' L' R' => n' = n ∧ R' = R ∧ ∃ x, r = some (.int x) ∧ I' = I ∧ L' = L ∧ post x)
/-- a long, nothing changed -/
def px_KQ (M : px_M) (as : List Value) (n : Nat) (I : px_I) (L : px_L) (R : px_R) (post : Int64 → Prop) : Prop := px_K M as n I L R (fun r n' I' L' R' => n' = n ∧ R' = R ∧ ∃ x, r = some (.long x) ∧ I' = I ∧ L' = L ∧ post x)
/-- an int, numbers changed -/
def px_KS (M : px_M) (as : List Value) (n : Nat) (I : px_I) (L : px_L) (R : px_R) (post : Int32 → px_I → px_L → Prop) : Prop := px_K M as n I L R (fun r n' I' L' R' => n' = n ∧ R' = R ∧ ∃ x, r = some (.int x) ∧ post x I' L')
/-- a long, numbers changed -/
def px_KT (M : px_M) (as : List Value) (n : Nat) (I : px_I) (L : px_L) (R : px_R) (post : Int64 → px_I → px_L → Prop) : Prop := px_K M as n I L R (fun r n' I' L' R' => n' = n ∧ R' = R ∧ ∃ x, r = some (.long x) ∧ post x I' L')
/-- nothing answered, numbers changed -/
def px_KV (M : px_M) (as : List Value) (n : Nat) (I : px_I) (L : px_L) (R : px_R) (post : px_I → px_L → Prop) : Prop := px_K M as n I L R (fun r n' I' L' R' => n' = n ∧ R' = R ∧ r = none ∧ post I' L')
theorem px_K.mono {M : px_M} {as : List Value} {n : Nat} {I : px_I} {L : px_L} {R : px_R} {Q Q2 : px_Q} (h : px_K M as n I L R Q) (h2 : ∀ r n I L R, Q r n I L R → Q2 r n I L R) : px_K M as n I L R Q2 := fun l base cst D cid =>
  MetFree.mono (h l base cst D cid) (fun _ _ h => h) (fun _ _ _ _ _ h => h) (fun a s o t _ hq => by
    obtain ⟨⟨⟨r, n', I', L', R', h1, h3, h4⟩, h5⟩, h6⟩ := hq
    exact ⟨⟨⟨r, n', I', L', R', h1, h2 _ _ _ _ _ h3, h4⟩, h5⟩, h6⟩)
theorem px_KP.S {M : px_M} {as : List Value} {n : Nat} {I : px_I} {L : px_L} {R : px_R} {post : Int32 → Prop} {post2 : Int32 → px_I → px_L → Prop} (h : px_KP M as n I L R post) (h2 : ∀ x, post x → post2 x I L) : px_KS M as n I L R post2 := px_K.mono h (fun r n' I' L' R' ⟨h3, h4, x, h5, h6, h7, h8⟩ => ⟨h3, h4, x, h5, by rw [h6, h7]; exact h2 x h8⟩)
theorem px_KS.mono {M : px_M} {as : List Value} {n : Nat} {I : px_I} {L : px_L} {R : px_R} {post post2 : Int32 → px_I → px_L → Prop} (h : px_KS M as n I L R post) (h2 : ∀ x I L, post x I L → post2 x I L) : px_KS M as n I L R post2 := px_K.mono h (fun r n' I' L' R' ⟨h3, h4, x, h5, h8⟩ => ⟨h3, h4, x, h5, h2 x _ _ h8⟩)
section PXF
variable {on n cu su pc pb idx k : Nat} {R : px_R} {M M1 : px_M} {Q : px_Q} {xs : List px_o} {ls ls' : px_Ls} {st st' : List Value} {I I' : px_I} {L L' : px_L} {P' : Prop} {As rest : List Value} {o ci : Nat}
/-- an object of that kind by its number, there for good -/
theorem px_lit {o ci : Nat} (hg : px_G n R) (h : px_ck px_nb o ci = true) : px_is n o ci := by
  obtain ⟨h1, h2, h3⟩ := px_ck_ok h
  exact ⟨h1, Nat.lt_of_lt_of_le h2 hg.1, h3⟩

theorem px_cVP {post : Int32 → Prop} (hon : M.1.cls = px_Rn on) (q : px_bk on M.2.2.1 M.2.1 pc xs = some pb ∧ px_tv M.2.1 pb idx = true) (hg : px_G n R) (he : px_ex px_nb n R xs ls st I L True = some (P', ls', st', I', L')) (hP : P')
    (lk : px_lV M.1.cls idx M1) (hnm : px_nm M1 k) (hk : px_KP M1 (.ref o :: As) n I' L' R post) (hs : st' = As.reverse ++ .ref o :: rest) (hn : Nat.beq As.length k = true) (ho : px_is n o ci) (hrc : M1.1.cls = px_Rn ci) (hci : Nat.blt ci 13 = true) (hrm : px_rk M M1 cu su rest = true) (hz : (px_room M1).cells = 0 ∧ (px_room M1).slots = 0)
    (kk : ∀ x : Int32, post x → px M cu su (pb + 3) ls' (.int x :: rest) n I' L' R Q) : px M cu su pc ls st n I L R Q := by
  refine px_b hon q.1 hg he hP (px_kV q.2 lk hnm hk hs hn ho hrc hci hrm ?_)
  intro r n2 I2 L2 R2 hq
  obtain ⟨rfl, rfl, x, rfl, rfl, rfl, hp⟩ := hq
  rw [hz.1, hz.2]
  exact kk x hp

theorem px_cVQ {post : Int64 → Prop} (hon : M.1.cls = px_Rn on) (q : px_bk on M.2.2.1 M.2.1 pc xs = some pb ∧ px_tv M.2.1 pb idx = true) (hg : px_G n R) (he : px_ex px_nb n R xs ls st I L True = some (P', ls', st', I', L')) (hP : P')
    (lk : px_lV M.1.cls idx M1) (hnm : px_nm M1 k) (hk : px_KQ M1 (.ref o :: As) n I' L' R post) (hs : st' = As.reverse ++ .ref o :: rest) (hn : Nat.beq As.length k = true) (ho : px_is n o ci) (hrc : M1.1.cls = px_Rn ci) (hci : Nat.blt ci 13 = true) (hrm : px_rk M M1 cu su rest = true) (hz : (px_room M1).cells = 0 ∧ (px_room M1).slots = 0)
    (kk : ∀ x : Int64, post x → px M cu su (pb + 3) ls' (.long x :: rest) n I' L' R Q) : px M cu su pc ls st n I L R Q := by
  refine px_b hon q.1 hg he hP (px_kV q.2 lk hnm hk hs hn ho hrc hci hrm ?_)
  intro r n2 I2 L2 R2 hq
  obtain ⟨rfl, rfl, x, rfl, rfl, rfl, hp⟩ := hq
  rw [hz.1, hz.2]
  exact kk x hp

theorem px_cVS {post : Int32 → px_I → px_L → Prop} (hon : M.1.cls = px_Rn on) (q : px_bk on M.2.2.1 M.2.1 pc xs = some pb ∧ px_tv M.2.1 pb idx = true) (hg : px_G n R) (he : px_ex px_nb n R xs ls st I L True = some (P', ls', st', I', L')) (hP : P')
    (lk : px_lV M.1.cls idx M1) (hnm : px_nm M1 k) (hk : px_KS M1 (.ref o :: As) n I' L' R post) (hs : st' = As.reverse ++ .ref o :: rest) (hn : Nat.beq As.length k = true) (ho : px_is n o ci) (hrc : M1.1.cls = px_Rn ci) (hci : Nat.blt ci 13 = true) (hrm : px_rk M M1 cu su rest = true) (hz : (px_room M1).cells = 0 ∧ (px_room M1).slots = 0)
    (kk : ∀ (x : Int32) (I2 : px_I) (L2 : px_L), post x I2 L2 → px M cu su (pb + 3) ls' (.int x :: rest) n I2 L2 R Q) : px M cu su pc ls st n I L R Q := by
  refine px_b hon q.1 hg he hP (px_kV q.2 lk hnm hk hs hn ho hrc hci hrm ?_)
  intro r n2 I2 L2 R2 hq
  obtain ⟨rfl, rfl, x, rfl, hp⟩ := hq
  rw [hz.1, hz.2]
  exact kk x I2 L2 hp

theorem px_cVT {post : Int64 → px_I → px_L → Prop} (hon : M.1.cls = px_Rn on) (q : px_bk on M.2.2.1 M.2.1 pc xs = some pb ∧ px_tv M.2.1 pb idx = true) (hg : px_G n R) (he : px_ex px_nb n R xs ls st I L True = some (P', ls', st', I', L')) (hP : P')
    (lk : px_lV M.1.cls idx M1) (hnm : px_nm M1 k) (hk : px_KT M1 (.ref o :: As) n I' L' R post) (hs : st' = As.reverse ++ .ref o :: rest) (hn : Nat.beq As.length k = true) (ho : px_is n o ci) (hrc : M1.1.cls = px_Rn ci) (hci : Nat.blt ci 13 = true) (hrm : px_rk M M1 cu su rest = true) (hz : (px_room M1).cells = 0 ∧ (px_room M1).slots = 0)
    (kk : ∀ (x : Int64) (I2 : px_I) (L2 : px_L), post x I2 L2 → px M cu su (pb + 3) ls' (.long x :: rest) n I2 L2 R Q) : px M cu su pc ls st n I L R Q := by
  refine px_b hon q.1 hg he hP (px_kV q.2 lk hnm hk hs hn ho hrc hci hrm ?_)
  intro r n2 I2 L2 R2 hq
  obtain ⟨rfl, rfl, x, rfl, hp⟩ := hq
  rw [hz.1, hz.2]
  exact kk x I2 L2 hp

theorem px_cVW {post : px_I → px_L → Prop} (hon : M.1.cls = px_Rn on) (q : px_bk on M.2.2.1 M.2.1 pc xs = some pb ∧ px_tv M.2.1 pb idx = true) (hg : px_G n R) (he : px_ex px_nb n R xs ls st I L True = some (P', ls', st', I', L')) (hP : P')
    (lk : px_lV M.1.cls idx M1) (hnm : px_nm M1 k) (hk : px_KV M1 (.ref o :: As) n I' L' R post) (hs : st' = As.reverse ++ .ref o :: rest) (hn : Nat.beq As.length k = true) (ho : px_is n o ci) (hrc : M1.1.cls = px_Rn ci) (hci : Nat.blt ci 13 = true) (hrm : px_rk M M1 cu su rest = true) (hz : (px_room M1).cells = 0 ∧ (px_room M1).slots = 0)
    (kk : ∀ (I2 : px_I) (L2 : px_L), post I2 L2 → px M cu su (pb + 3) ls' rest n I2 L2 R Q) : px M cu su pc ls st n I L R Q := by
  refine px_b hon q.1 hg he hP (px_kV q.2 lk hnm hk hs hn ho hrc hci hrm ?_)
  intro r n2 I2 L2 R2 hq
  obtain ⟨rfl, rfl, rfl, hp⟩ := hq
  rw [hz.1, hz.2]
  exact kk I2 L2 hp

theorem px_cSP {post : Int32 → Prop} (hon : M.1.cls = px_Rn on) (q : px_bk on M.2.2.1 M.2.1 pc xs = some pb ∧ px_tS M.2.1 pb idx = true) (hg : px_G n R) (he : px_ex px_nb n R xs ls st I L True = some (P', ls', st', I', L')) (hP : P')
    (lk : px_lS M.1.cls idx M1) (hnm : px_nm M1 k) (hk : px_KP M1 As n I' L' R post) (hs : st' = As.reverse ++ rest) (hn : Nat.beq As.length k = true) (hrm : px_rk M M1 cu su rest = true) (hz : (px_room M1).cells = 0 ∧ (px_room M1).slots = 0)
    (kk : ∀ x : Int32, post x → px M cu su (pb + 3) ls' (.int x :: rest) n I' L' R Q) : px M cu su pc ls st n I L R Q := by
  refine px_b hon q.1 hg he hP (px_kS q.2 lk hnm hk hs hn hrm ?_)
  intro r n2 I2 L2 R2 hq
  obtain ⟨rfl, rfl, x, rfl, rfl, rfl, hp⟩ := hq
  rw [hz.1, hz.2]
  exact kk x hp

theorem px_cSQ {post : Int64 → Prop} (hon : M.1.cls = px_Rn on) (q : px_bk on M.2.2.1 M.2.1 pc xs = some pb ∧ px_tS M.2.1 pb idx = true) (hg : px_G n R) (he : px_ex px_nb n R xs ls st I L True = some (P', ls', st', I', L')) (hP : P')
    (lk : px_lS M.1.cls idx M1) (hnm : px_nm M1 k) (hk : px_KQ M1 As n I' L' R post) (hs : st' = As.reverse ++ rest) (hn : Nat.beq As.length k = true) (hrm : px_rk M M1 cu su rest = true) (hz : (px_room M1).cells = 0 ∧ (px_room M1).slots = 0)
    (kk : ∀ x : Int64, post x → px M cu su (pb + 3) ls' (.long x :: rest) n I' L' R Q) : px M cu su pc ls st n I L R Q := by
  refine px_b hon q.1 hg he hP (px_kS q.2 lk hnm hk hs hn hrm ?_)
  intro r n2 I2 L2 R2 hq
  obtain ⟨rfl, rfl, x, rfl, rfl, rfl, hp⟩ := hq
  rw [hz.1, hz.2]
  exact kk x hp

theorem px_cSS {post : Int32 → px_I → px_L → Prop} (hon : M.1.cls = px_Rn on) (q : px_bk on M.2.2.1 M.2.1 pc xs = some pb ∧ px_tS M.2.1 pb idx = true) (hg : px_G n R) (he : px_ex px_nb n R xs ls st I L True = some (P', ls', st', I', L')) (hP : P')
    (lk : px_lS M.1.cls idx M1) (hnm : px_nm M1 k) (hk : px_KS M1 As n I' L' R post) (hs : st' = As.reverse ++ rest) (hn : Nat.beq As.length k = true) (hrm : px_rk M M1 cu su rest = true) (hz : (px_room M1).cells = 0 ∧ (px_room M1).slots = 0)
    (kk : ∀ (x : Int32) (I2 : px_I) (L2 : px_L), post x I2 L2 → px M cu su (pb + 3) ls' (.int x :: rest) n I2 L2 R Q) : px M cu su pc ls st n I L R Q := by
  refine px_b hon q.1 hg he hP (px_kS q.2 lk hnm hk hs hn hrm ?_)
  intro r n2 I2 L2 R2 hq
  obtain ⟨rfl, rfl, x, rfl, hp⟩ := hq
  rw [hz.1, hz.2]
  exact kk x I2 L2 hp

theorem px_cST {post : Int64 → px_I → px_L → Prop} (hon : M.1.cls = px_Rn on) (q : px_bk on M.2.2.1 M.2.1 pc xs = some pb ∧ px_tS M.2.1 pb idx = true) (hg : px_G n R) (he : px_ex px_nb n R xs ls st I L True = some (P', ls', st', I', L')) (hP : P')
    (lk : px_lS M.1.cls idx M1) (hnm : px_nm M1 k) (hk : px_KT M1 As n I' L' R post) (hs : st' = As.reverse ++ rest) (hn : Nat.beq As.length k = true) (hrm : px_rk M M1 cu su rest = true) (hz : (px_room M1).cells = 0 ∧ (px_room M1).slots = 0)
    (kk : ∀ (x : Int64) (I2 : px_I) (L2 : px_L), post x I2 L2 → px M cu su (pb + 3) ls' (.long x :: rest) n I2 L2 R Q) : px M cu su pc ls st n I L R Q := by
  refine px_b hon q.1 hg he hP (px_kS q.2 lk hnm hk hs hn hrm ?_)
  intro r n2 I2 L2 R2 hq
  obtain ⟨rfl, rfl, x, rfl, hp⟩ := hq
  rw [hz.1, hz.2]
  exact kk x I2 L2 hp

theorem px_cSW {post : px_I → px_L → Prop} (hon : M.1.cls = px_Rn on) (q : px_bk on M.2.2.1 M.2.1 pc xs = some pb ∧ px_tS M.2.1 pb idx = true) (hg : px_G n R) (he : px_ex px_nb n R xs ls st I L True = some (P', ls', st', I', L')) (hP : P')
    (lk : px_lS M.1.cls idx M1) (hnm : px_nm M1 k) (hk : px_KV M1 As n I' L' R post) (hs : st' = As.reverse ++ rest) (hn : Nat.beq As.length k = true) (hrm : px_rk M M1 cu su rest = true) (hz : (px_room M1).cells = 0 ∧ (px_room M1).slots = 0)
    (kk : ∀ (I2 : px_I) (L2 : px_L), post I2 L2 → px M cu su (pb + 3) ls' rest n I2 L2 R Q) : px M cu su pc ls st n I L R Q := by
  refine px_b hon q.1 hg he hP (px_kS q.2 lk hnm hk hs hn hrm ?_)
  intro r n2 I2 L2 R2 hq
  obtain ⟨rfl, rfl, rfl, hp⟩ := hq
  rw [hz.1, hz.2]
  exact kk I2 L2 hp

theorem px_cSNP {host : String} {post : Int32 → Prop} (hon : M.1.cls = px_Rn on) (q : px_bk on M.2.2.1 M.2.1 pc xs = some pb ∧ px_tS M.2.1 pb idx = true) (hg : px_G n R) (he : px_ex px_nb n R xs ls st I L True = some (P', ls', st', I', L')) (hP : P')
    (lk : px_lSN M.1.cls idx M1 host) (hnm : px_nm M1 k) (hk : px_KP M1 As n I' L' R post) (hs : st' = As.reverse ++ rest) (hn : Nat.beq As.length k = true) (hrm : px_rk M M1 cu su rest = true) (hz : (px_room M1).cells = 0 ∧ (px_room M1).slots = 0)
    (kk : ∀ x : Int32, post x → px M cu su (pb + 3) ls' (.int x :: rest) n I' L' R Q) : px M cu su pc ls st n I L R Q := by
  refine px_b hon q.1 hg he hP (px_kSN q.2 lk hnm hk hs hn hrm ?_)
  intro r n2 I2 L2 R2 hq
  obtain ⟨rfl, rfl, x, rfl, rfl, rfl, hp⟩ := hq
  rw [hz.1, hz.2]
  exact kk x hp

theorem px_cSNQ {host : String} {post : Int64 → Prop} (hon : M.1.cls = px_Rn on) (q : px_bk on M.2.2.1 M.2.1 pc xs = some pb ∧ px_tS M.2.1 pb idx = true) (hg : px_G n R) (he : px_ex px_nb n R xs ls st I L True = some (P', ls', st', I', L')) (hP : P')
    (lk : px_lSN M.1.cls idx M1 host) (hnm : px_nm M1 k) (hk : px_KQ M1 As n I' L' R post) (hs : st' = As.reverse ++ rest) (hn : Nat.beq As.length k = true) (hrm : px_rk M M1 cu su rest = true) (hz : (px_room M1).cells = 0 ∧ (px_room M1).slots = 0)
    (kk : ∀ x : Int64, post x → px M cu su (pb + 3) ls' (.long x :: rest) n I' L' R Q) : px M cu su pc ls st n I L R Q := by
  refine px_b hon q.1 hg he hP (px_kSN q.2 lk hnm hk hs hn hrm ?_)
  intro r n2 I2 L2 R2 hq
  obtain ⟨rfl, rfl, x, rfl, rfl, rfl, hp⟩ := hq
  rw [hz.1, hz.2]
  exact kk x hp

theorem px_cSNS {host : String} {post : Int32 → px_I → px_L → Prop} (hon : M.1.cls = px_Rn on) (q : px_bk on M.2.2.1 M.2.1 pc xs = some pb ∧ px_tS M.2.1 pb idx = true) (hg : px_G n R) (he : px_ex px_nb n R xs ls st I L True = some (P', ls', st', I', L')) (hP : P')
    (lk : px_lSN M.1.cls idx M1 host) (hnm : px_nm M1 k) (hk : px_KS M1 As n I' L' R post) (hs : st' = As.reverse ++ rest) (hn : Nat.beq As.length k = true) (hrm : px_rk M M1 cu su rest = true) (hz : (px_room M1).cells = 0 ∧ (px_room M1).slots = 0)
    (kk : ∀ (x : Int32) (I2 : px_I) (L2 : px_L), post x I2 L2 → px M cu su (pb + 3) ls' (.int x :: rest) n I2 L2 R Q) : px M cu su pc ls st n I L R Q := by
  refine px_b hon q.1 hg he hP (px_kSN q.2 lk hnm hk hs hn hrm ?_)
  intro r n2 I2 L2 R2 hq
  obtain ⟨rfl, rfl, x, rfl, hp⟩ := hq
  rw [hz.1, hz.2]
  exact kk x I2 L2 hp

theorem px_cSNT {host : String} {post : Int64 → px_I → px_L → Prop} (hon : M.1.cls = px_Rn on) (q : px_bk on M.2.2.1 M.2.1 pc xs = some pb ∧ px_tS M.2.1 pb idx = true) (hg : px_G n R) (he : px_ex px_nb n R xs ls st I L True = some (P', ls', st', I', L')) (hP : P')
    (lk : px_lSN M.1.cls idx M1 host) (hnm : px_nm M1 k) (hk : px_KT M1 As n I' L' R post) (hs : st' = As.reverse ++ rest) (hn : Nat.beq As.length k = true) (hrm : px_rk M M1 cu su rest = true) (hz : (px_room M1).cells = 0 ∧ (px_room M1).slots = 0)
    (kk : ∀ (x : Int64) (I2 : px_I) (L2 : px_L), post x I2 L2 → px M cu su (pb + 3) ls' (.long x :: rest) n I2 L2 R Q) : px M cu su pc ls st n I L R Q := by
  refine px_b hon q.1 hg he hP (px_kSN q.2 lk hnm hk hs hn hrm ?_)
  intro r n2 I2 L2 R2 hq
  obtain ⟨rfl, rfl, x, rfl, hp⟩ := hq
  rw [hz.1, hz.2]
  exact kk x I2 L2 hp

theorem px_cSNW {host : String} {post : px_I → px_L → Prop} (hon : M.1.cls = px_Rn on) (q : px_bk on M.2.2.1 M.2.1 pc xs = some pb ∧ px_tS M.2.1 pb idx = true) (hg : px_G n R) (he : px_ex px_nb n R xs ls st I L True = some (P', ls', st', I', L')) (hP : P')
    (lk : px_lSN M.1.cls idx M1 host) (hnm : px_nm M1 k) (hk : px_KV M1 As n I' L' R post) (hs : st' = As.reverse ++ rest) (hn : Nat.beq As.length k = true) (hrm : px_rk M M1 cu su rest = true) (hz : (px_room M1).cells = 0 ∧ (px_room M1).slots = 0)
    (kk : ∀ (I2 : px_I) (L2 : px_L), post I2 L2 → px M cu su (pb + 3) ls' rest n I2 L2 R Q) : px M cu su pc ls st n I L R Q := by
  refine px_b hon q.1 hg he hP (px_kSN q.2 lk hnm hk hs hn hrm ?_)
  intro r n2 I2 L2 R2 hq
  obtain ⟨rfl, rfl, rfl, hp⟩ := hq
  rw [hz.1, hz.2]
  exact kk I2 L2 hp

theorem px_riP {x : Int32} {n0 : Nat} {R0 : px_R} {I0 : px_I} {L0 : px_L} {post : Int32 → Prop} (hon : M.1.cls = px_Rn on) (q : px_bk on M.2.2.1 M.2.1 pc xs = some pb ∧ px_tr M.2.1 pb .ireturn = true) (hr : M.2.2.2.1 = some .int) (hcu : Nat.ble cu (px_room M).cells = true) (hsu : Nat.ble su (px_room M).slots = true) (hg : px_G n R) (he : px_ex px_nb n R xs ls st I L True = some (P', ls', [.int x], I', L')) (hP : P') (hq : (n = n0 ∧ R = R0 ∧ I' = I0 ∧ L' = L0) ∧ post x) : px M cu su pc ls st n I L R (fun r n' I' L' R' => n' = n0 ∧ R' = R0 ∧ ∃ x, r = some (.int x) ∧ I' = I0 ∧ L' = L0 ∧ post x) :=
  px_ri hon q hr hcu hsu hg he hP ⟨hq.1.1, hq.1.2.1, x, rfl, hq.1.2.2.1, hq.1.2.2.2, hq.2⟩
theorem px_rzP {x : Int32} {n0 : Nat} {R0 : px_R} {I0 : px_I} {L0 : px_L} {post : Int32 → Prop} (hon : M.1.cls = px_Rn on) (q : px_bk on M.2.2.1 M.2.1 pc xs = some pb ∧ px_tr M.2.1 pb .ireturn = true) (hr : M.2.2.2.1 = some .boolean) (hcu : Nat.ble cu (px_room M).cells = true) (hsu : Nat.ble su (px_room M).slots = true) (hg : px_G n R) (he : px_ex px_nb n R xs ls st I L True = some (P', ls', [.int x], I', L')) (hP : P') (hq : (n = n0 ∧ R = R0 ∧ I' = I0 ∧ L' = L0) ∧ (x = 0 ∨ x = 1) ∧ post x) : px M cu su pc ls st n I L R (fun r n' I' L' R' => n' = n0 ∧ R' = R0 ∧ ∃ x, r = some (.int x) ∧ I' = I0 ∧ L' = L0 ∧ post x) :=
  px_rz hon q hr hcu hsu hg he hP hq.2.1 ⟨hq.1.1, hq.1.2.1, x, rfl, hq.1.2.2.1, hq.1.2.2.2, hq.2.2⟩
theorem px_rlQ {x : Int64} {n0 : Nat} {R0 : px_R} {I0 : px_I} {L0 : px_L} {post : Int64 → Prop} (hon : M.1.cls = px_Rn on) (q : px_bk on M.2.2.1 M.2.1 pc xs = some pb ∧ px_tr M.2.1 pb .lreturn = true) (hr : M.2.2.2.1 = some .long) (hcu : Nat.ble cu (px_room M).cells = true) (hsu : Nat.ble su (px_room M).slots = true) (hg : px_G n R) (he : px_ex px_nb n R xs ls st I L True = some (P', ls', [.long x], I', L')) (hP : P') (hq : (n = n0 ∧ R = R0 ∧ I' = I0 ∧ L' = L0) ∧ post x) : px M cu su pc ls st n I L R (fun r n' I' L' R' => n' = n0 ∧ R' = R0 ∧ ∃ x, r = some (.long x) ∧ I' = I0 ∧ L' = L0 ∧ post x) :=
  px_rl hon q hr hcu hsu hg he hP ⟨hq.1.1, hq.1.2.1, x, rfl, hq.1.2.2.1, hq.1.2.2.2, hq.2⟩
theorem px_riS {x : Int32} {n0 : Nat} {R0 : px_R} {post : Int32 → px_I → px_L → Prop} (hon : M.1.cls = px_Rn on) (q : px_bk on M.2.2.1 M.2.1 pc xs = some pb ∧ px_tr M.2.1 pb .ireturn = true) (hr : M.2.2.2.1 = some .int) (hcu : Nat.ble cu (px_room M).cells = true) (hsu : Nat.ble su (px_room M).slots = true) (hg : px_G n R) (he : px_ex px_nb n R xs ls st I L True = some (P', ls', [.int x], I', L')) (hP : P') (hq : (n = n0 ∧ R = R0) ∧ post x I' L') : px M cu su pc ls st n I L R (fun r n' I' L' R' => n' = n0 ∧ R' = R0 ∧ ∃ x, r = some (.int x) ∧ post x I' L') :=
  px_ri hon q hr hcu hsu hg he hP ⟨hq.1.1, hq.1.2, x, rfl, hq.2⟩
theorem px_rzS {x : Int32} {n0 : Nat} {R0 : px_R} {post : Int32 → px_I → px_L → Prop} (hon : M.1.cls = px_Rn on) (q : px_bk on M.2.2.1 M.2.1 pc xs = some pb ∧ px_tr M.2.1 pb .ireturn = true) (hr : M.2.2.2.1 = some .boolean) (hcu : Nat.ble cu (px_room M).cells = true) (hsu : Nat.ble su (px_room M).slots = true) (hg : px_G n R) (he : px_ex px_nb n R xs ls st I L True = some (P', ls', [.int x], I', L')) (hP : P') (hq : (n = n0 ∧ R = R0) ∧ (x = 0 ∨ x = 1) ∧ post x I' L') : px M cu su pc ls st n I L R (fun r n' I' L' R' => n' = n0 ∧ R' = R0 ∧ ∃ x, r = some (.int x) ∧ post x I' L') :=
  px_rz hon q hr hcu hsu hg he hP hq.2.1 ⟨hq.1.1, hq.1.2, x, rfl, hq.2.2⟩
theorem px_rlT {x : Int64} {n0 : Nat} {R0 : px_R} {post : Int64 → px_I → px_L → Prop} (hon : M.1.cls = px_Rn on) (q : px_bk on M.2.2.1 M.2.1 pc xs = some pb ∧ px_tr M.2.1 pb .lreturn = true) (hr : M.2.2.2.1 = some .long) (hcu : Nat.ble cu (px_room M).cells = true) (hsu : Nat.ble su (px_room M).slots = true) (hg : px_G n R) (he : px_ex px_nb n R xs ls st I L True = some (P', ls', [.long x], I', L')) (hP : P') (hq : (n = n0 ∧ R = R0) ∧ post x I' L') : px M cu su pc ls st n I L R (fun r n' I' L' R' => n' = n0 ∧ R' = R0 ∧ ∃ x, r = some (.long x) ∧ post x I' L') :=
  px_rl hon q hr hcu hsu hg he hP ⟨hq.1.1, hq.1.2, x, rfl, hq.2⟩
theorem px_rvW {n0 : Nat} {R0 : px_R} {post : px_I → px_L → Prop} (hon : M.1.cls = px_Rn on) (q : px_bk on M.2.2.1 M.2.1 pc xs = some pb ∧ px_tr M.2.1 pb .return_ = true) (hr : M.2.2.2.1 = none) (hcu : Nat.ble cu (px_room M).cells = true) (hsu : Nat.ble su (px_room M).slots = true) (hg : px_G n R) (he : px_ex px_nb n R xs ls st I L True = some (P', ls', [], I', L')) (hP : P') (hq : (n = n0 ∧ R = R0) ∧ post I' L') : px M cu su pc ls st n I L R (fun r n' I' L' R' => n' = n0 ∧ R' = R0 ∧ r = none ∧ post I' L') :=
  px_rv hon q hr hcu hsu hg he hP ⟨hq.1.1, hq.1.2, rfl, hq.2⟩

end PXF
end
section
/-! more rules: what is null or isn't as it stands; methods that answer a reference -/
section PXM
variable {on n cu su pc pb idx k : Nat} {R : px_R} {M M1 : px_M} {Q : px_Q} {xs : List px_o} {ls ls' : px_Ls} {st st' : List Value} {I I' : px_I} {L L' : px_L} {P' : Prop} {As rest : List Value} {o ci : Nat}
theorem px_nulN {tgt : Nat} (hon : M.1.cls = px_Rn on) (q : px_bk on M.2.2.1 M.2.1 pc xs = some pb ∧ px_t3 M.2.1 pb tgt = true) (hg : px_G n R) (he : px_ex px_nb n R xs ls st I L True = some (P', ls', .null :: rest, I', L')) (hP : P')
    (kt : px M cu su tgt ls' rest n I' L' R Q) : px M cu su pc ls st n I L R Q := px_null (r := none) hon q hg he hP (fun _ => kt) (fun a h => by cases h)
theorem px_nulR {tgt a : Nat} (hon : M.1.cls = px_Rn on) (q : px_bk on M.2.2.1 M.2.1 pc xs = some pb ∧ px_t3 M.2.1 pb tgt = true) (hg : px_G n R) (he : px_ex px_nb n R xs ls st I L True = some (P', ls', .ref a :: rest, I', L')) (hP : P')
    (kf : px M cu su (pb + 3) ls' rest n I' L' R Q) : px M cu su pc ls st n I L R Q := px_null (r := some a) hon q hg he hP (fun h => by cases h) (fun _ _ => kf)
theorem px_nonN {tgt : Nat} (hon : M.1.cls = px_Rn on) (q : px_bk on M.2.2.1 M.2.1 pc xs = some pb ∧ px_t4 M.2.1 pb tgt = true) (hg : px_G n R) (he : px_ex px_nb n R xs ls st I L True = some (P', ls', .null :: rest, I', L')) (hP : P')
    (kf : px M cu su (pb + 3) ls' rest n I' L' R Q) : px M cu su pc ls st n I L R Q := px_nonnull (r := none) hon q hg he hP (fun a h => by cases h) (fun _ => kf)
theorem px_nonR {tgt a : Nat} (hon : M.1.cls = px_Rn on) (q : px_bk on M.2.2.1 M.2.1 pc xs = some pb ∧ px_t4 M.2.1 pb tgt = true) (hg : px_G n R) (he : px_ex px_nb n R xs ls st I L True = some (P', ls', .ref a :: rest, I', L')) (hP : P')
    (kt : px M cu su tgt ls' rest n I' L' R Q) : px M cu su pc ls st n I L R Q := px_nonnull (r := some a) hon q hg he hP (fun _ _ => kt) (fun h => by cases h)
/-- a reference, nothing changed -/
def px_KA (M : px_M) (as : List Value) (n : Nat) (I : px_I) (L : px_L) (R : px_R) (post : Option Nat → Prop) : Prop := px_K M as n I L R (fun r n' I' L' R' => n' = n ∧ R' = R ∧ ∃ x, r = some (va_rf x) ∧ I' = I ∧ L' = L ∧ post x)
theorem px_cVA {post : Option Nat → Prop} (hon : M.1.cls = px_Rn on) (q : px_bk on M.2.2.1 M.2.1 pc xs = some pb ∧ px_tv M.2.1 pb idx = true) (hg : px_G n R) (he : px_ex px_nb n R xs ls st I L True = some (P', ls', st', I', L')) (hP : P')
    (lk : px_lV M.1.cls idx M1) (hnm : px_nm M1 k) (hk : px_KA M1 (.ref o :: As) n I' L' R post) (hs : st' = As.reverse ++ .ref o :: rest) (hn : Nat.beq As.length k = true) (ho : px_is n o ci) (hrc : M1.1.cls = px_Rn ci) (hci : Nat.blt ci 13 = true) (hrm : px_rk M M1 cu su rest = true) (hz : (px_room M1).cells = 0 ∧ (px_room M1).slots = 0)
    (kk : ∀ x : Option Nat, post x → px M cu su (pb + 3) ls' (va_rf x :: rest) n I' L' R Q) : px M cu su pc ls st n I L R Q := by
  refine px_b hon q.1 hg he hP (px_kV q.2 lk hnm hk hs hn ho hrc hci hrm ?_)
  intro r n2 I2 L2 R2 hq
  obtain ⟨rfl, rfl, x, rfl, rfl, rfl, hp⟩ := hq
  rw [hz.1, hz.2]
  exact kk x hp
theorem px_raN {nm : String} {n0 : Nat} {R0 : px_R} {I0 : px_I} {L0 : px_L} {post : Option Nat → Prop} (hon : M.1.cls = px_Rn on) (q : px_bk on M.2.2.1 M.2.1 pc xs = some pb ∧ px_tr M.2.1 pb .areturn = true) (hr : M.2.2.2.1 = some (.object nm)) (hcu : Nat.ble cu (px_room M).cells = true) (hsu : Nat.ble su (px_room M).slots = true) (hg : px_G n R) (he : px_ex px_nb n R xs ls st I L True = some (P', ls', [.null], I', L')) (hP : P') (hq : (n = n0 ∧ R = R0 ∧ I' = I0 ∧ L' = L0) ∧ post none) : px M cu su pc ls st n I L R (fun r n' I' L' R' => n' = n0 ∧ R' = R0 ∧ ∃ x, r = some (va_rf x) ∧ I' = I0 ∧ L' = L0 ∧ post x) :=
  px_ra (v := none) hon q hr hcu hsu hg he hP ⟨hq.1.1, hq.1.2.1, none, rfl, hq.1.2.2.1, hq.1.2.2.2, hq.2⟩
theorem px_raR {nm : String} {a : Nat} {n0 : Nat} {R0 : px_R} {I0 : px_I} {L0 : px_L} {post : Option Nat → Prop} (hon : M.1.cls = px_Rn on) (q : px_bk on M.2.2.1 M.2.1 pc xs = some pb ∧ px_tr M.2.1 pb .areturn = true) (hr : M.2.2.2.1 = some (.object nm)) (hcu : Nat.ble cu (px_room M).cells = true) (hsu : Nat.ble su (px_room M).slots = true) (hg : px_G n R) (he : px_ex px_nb n R xs ls st I L True = some (P', ls', [.ref a], I', L')) (hP : P') (hq : (n = n0 ∧ R = R0 ∧ I' = I0 ∧ L' = L0) ∧ post (some a)) : px M cu su pc ls st n I L R (fun r n' I' L' R' => n' = n0 ∧ R' = R0 ∧ ∃ x, r = some (va_rf x) ∧ I' = I0 ∧ L' = L0 ∧ post x) :=
  px_ra (v := some a) hon q hr hcu hsu hg he hP ⟨hq.1.1, hq.1.2.1, some a, rfl, hq.1.2.2.1, hq.1.2.2.2, hq.2⟩
end PXM
end
section
/-! the methods, and the words of their calls -/
theorem px_j1 (i : Nat) {q : MethodName × Nat} (h : lw_privs_1[i]? = some q) : Cond.selects q.1.cls q.1 q.1 ∈ px_T := List.mem_filter.mpr ⟨List.mem_append_left _ (List.mem_map.mpr ⟨q, (show q ∈ lw_privs from (List.mem_append_left _ (List.mem_of_getElem? h))), rfl⟩), rfl⟩
theorem px_j2 (i : Nat) {q : MethodName × Nat} (h : lw_privs_2[i]? = some q) : Cond.selects q.1.cls q.1 q.1 ∈ px_T := List.mem_filter.mpr ⟨List.mem_append_left _ (List.mem_map.mpr ⟨q, (show q ∈ lw_privs from (List.mem_append_right _ (List.mem_append_left _ (List.mem_of_getElem? h)))), rfl⟩), rfl⟩
theorem px_j3 (i : Nat) {q : MethodName × Nat} (h : lw_privs_3[i]? = some q) : Cond.selects q.1.cls q.1 q.1 ∈ px_T := List.mem_filter.mpr ⟨List.mem_append_left _ (List.mem_map.mpr ⟨q, (show q ∈ lw_privs from (List.mem_append_right _ (List.mem_append_right _ (List.mem_append_left _ (List.mem_of_getElem? h))))), rfl⟩), rfl⟩
theorem px_j4 (i : Nat) {q : MethodName × Nat} (h : lw_privs_4[i]? = some q) : Cond.selects q.1.cls q.1 q.1 ∈ px_T := List.mem_filter.mpr ⟨List.mem_append_left _ (List.mem_map.mpr ⟨q, (show q ∈ lw_privs from (List.mem_append_right _ (List.mem_append_right _ (List.mem_append_right _ (List.mem_append_left _ (List.mem_of_getElem? h)))))), rfl⟩), rfl⟩
theorem px_j5 (i : Nat) {q : MethodName × Nat} (h : lw_privs_5[i]? = some q) : Cond.selects q.1.cls q.1 q.1 ∈ px_T := List.mem_filter.mpr ⟨List.mem_append_left _ (List.mem_map.mpr ⟨q, (show q ∈ lw_privs from (List.mem_append_right _ (List.mem_append_right _ (List.mem_append_right _ (List.mem_append_right _ (List.mem_of_getElem? h)))))), rfl⟩), rfl⟩
theorem nc_RJ0 : RJ0 ≠ "java/lang/invoke/MethodHandle" ∧ RJ0 ≠ "java/lang/invoke/VarHandle" := by decide +kernel
theorem nc_RJ1 : RJ1 ≠ "java/lang/invoke/MethodHandle" ∧ RJ1 ≠ "java/lang/invoke/VarHandle" := by decide +kernel
theorem nc_RJ2 : RJ2 ≠ "java/lang/invoke/MethodHandle" ∧ RJ2 ≠ "java/lang/invoke/VarHandle" := by decide +kernel
theorem nc_RJ3 : RJ3 ≠ "java/lang/invoke/MethodHandle" ∧ RJ3 ≠ "java/lang/invoke/VarHandle" := by decide +kernel
theorem nc_RJ9 : RJ9 ≠ "java/lang/invoke/MethodHandle" ∧ RJ9 ≠ "java/lang/invoke/VarHandle" := by decide +kernel
theorem nc_RL : RL ≠ "java/lang/invoke/MethodHandle" ∧ RL ≠ "java/lang/invoke/VarHandle" := by decide +kernel
theorem nc_RX0 : RX0 ≠ "java/lang/invoke/MethodHandle" ∧ RX0 ≠ "java/lang/invoke/VarHandle" := by decide +kernel
theorem nc_RX1 : RX1 ≠ "java/lang/invoke/MethodHandle" ∧ RX1 ≠ "java/lang/invoke/VarHandle" := by decide +kernel
theorem nc_RX10 : RX10 ≠ "java/lang/invoke/MethodHandle" ∧ RX10 ≠ "java/lang/invoke/VarHandle" := by decide +kernel
theorem nc_RX11 : RX11 ≠ "java/lang/invoke/MethodHandle" ∧ RX11 ≠ "java/lang/invoke/VarHandle" := by decide +kernel
theorem nc_RX12 : RX12 ≠ "java/lang/invoke/MethodHandle" ∧ RX12 ≠ "java/lang/invoke/VarHandle" := by decide +kernel
theorem nc_RX2 : RX2 ≠ "java/lang/invoke/MethodHandle" ∧ RX2 ≠ "java/lang/invoke/VarHandle" := by decide +kernel
theorem nc_RX3 : RX3 ≠ "java/lang/invoke/MethodHandle" ∧ RX3 ≠ "java/lang/invoke/VarHandle" := by decide +kernel
theorem nc_RX4 : RX4 ≠ "java/lang/invoke/MethodHandle" ∧ RX4 ≠ "java/lang/invoke/VarHandle" := by decide +kernel
theorem nc_RX5 : RX5 ≠ "java/lang/invoke/MethodHandle" ∧ RX5 ≠ "java/lang/invoke/VarHandle" := by decide +kernel
theorem nc_RX6 : RX6 ≠ "java/lang/invoke/MethodHandle" ∧ RX6 ≠ "java/lang/invoke/VarHandle" := by decide +kernel
theorem nc_RX7 : RX7 ≠ "java/lang/invoke/MethodHandle" ∧ RX7 ≠ "java/lang/invoke/VarHandle" := by decide +kernel
theorem nc_RX8 : RX8 ≠ "java/lang/invoke/MethodHandle" ∧ RX8 ≠ "java/lang/invoke/VarHandle" := by decide +kernel
theorem nc_RX9 : RX9 ≠ "java/lang/invoke/MethodHandle" ∧ RX9 ≠ "java/lang/invoke/VarHandle" := by decide +kernel
theorem np_RL : plainName RL = true := by decide +kernel
theorem np_RX0 : plainName RX0 = true := by decide +kernel
theorem np_RX1 : plainName RX1 = true := by decide +kernel
theorem np_RX10 : plainName RX10 = true := by decide +kernel
theorem np_RX11 : plainName RX11 = true := by decide +kernel
theorem np_RX12 : plainName RX12 = true := by decide +kernel
theorem np_RX2 : plainName RX2 = true := by decide +kernel
theorem np_RX3 : plainName RX3 = true := by decide +kernel
theorem np_RX4 : plainName RX4 = true := by decide +kernel
theorem np_RX5 : plainName RX5 = true := by decide +kernel
theorem np_RX6 : plainName RX6 = true := by decide +kernel
theorem np_RX7 : plainName RX7 = true := by decide +kernel
theorem np_RX8 : plainName RX8 = true := by decide +kernel
theorem np_RX9 : plainName RX9 = true := by decide +kernel
abbrev M_X0_init : px_M := (yX0_init, cX0_init, 3, none, 1, 20, 1, 10, fun _ _ _ => True)
theorem nm_X0_init : px_nm M_X0_init 1 := ⟨nc_RX0.1, nc_RX0.2, by decide +kernel⟩
abbrev M_X0_setRow : px_M := (yX0_setRow, cX0_setRow, 3, some .boolean, 1, 22, 0, 0, fun _ _ _ => True)
theorem nm_X0_setRow : px_nm M_X0_setRow 2 := ⟨nc_RX0.1, nc_RX0.2, by decide +kernel⟩
abbrev M_X0_rowOf : px_M := (yX0_rowOf, cX0_rowOf, 2, some .int, 1, 22, 0, 0, fun _ _ _ => True)
theorem nm_X0_rowOf : px_nm M_X0_rowOf 1 := ⟨nc_RX0.1, nc_RX0.2, by decide +kernel⟩
abbrev M_X0_tightest : px_M := (yX0_tightest, cX0_tightest, 8, some .int, 5, 135, 0, 0, fun _ _ _ => True)
theorem nm_X0_tightest : px_nm M_X0_tightest 4 := ⟨nc_RX0.1, nc_RX0.2, by decide +kernel⟩
abbrev M_X0_letThrough : px_M := (yX0_letThrough, cX0_letThrough, 14, some .int, 4, 102, 0, 0, fun _ _ _ => True)
theorem nm_X0_letThrough : px_nm M_X0_letThrough 5 := ⟨nc_RX0.1, nc_RX0.2, by decide +kernel⟩
abbrev M_X0_classOf : px_M := (yX0_classOf, cX0_classOf, 2, some .int, 1, 23, 0, 0, fun _ _ _ => True)
theorem nm_X0_classOf : px_nm M_X0_classOf 1 := ⟨nc_RX0.1, nc_RX0.2, by decide +kernel⟩
abbrev M_X1_init : px_M := (yX1_init, cX1_init, 1, none, 1, 20, 13, 290, fun _ _ _ => True)
theorem nm_X1_init : px_nm M_X1_init 0 := ⟨nc_RX1.1, nc_RX1.2, by decide +kernel⟩
abbrev M_X1_hasPeg : px_M := (yX1_hasPeg, cX1_hasPeg, 2, some .boolean, 0, 0, 0, 0, fun _ _ _ => True)
theorem nm_X1_hasPeg : px_nm M_X1_hasPeg 1 := ⟨nc_RX1.1, nc_RX1.2, by decide +kernel⟩
abbrev M_X1_hasReach : px_M := (yX1_hasReach, cX1_hasReach, 2, some .boolean, 0, 0, 0, 0, fun _ _ _ => True)
theorem nm_X1_hasReach : px_nm M_X1_hasReach 1 := ⟨nc_RX1.1, nc_RX1.2, by decide +kernel⟩
abbrev M_X1_addReach : px_M := (yX1_addReach, cX1_addReach, 8, some .int, 1, 23, 0, 0, fun _ _ _ => True)
theorem nm_X1_addReach : px_nm M_X1_addReach 6 := ⟨nc_RX1.1, nc_RX1.2, by decide +kernel⟩
abbrev M_X1_addPeg : px_M := (yX1_addPeg, cX1_addPeg, 2, none, 0, 0, 0, 0, fun _ _ _ => True)
theorem nm_X1_addPeg : px_nm M_X1_addPeg 1 := ⟨nc_RX1.1, nc_RX1.2, by decide +kernel⟩
abbrev M_X1_openAt : px_M := (yX1_openAt, cX1_openAt, 2, some .boolean, 0, 0, 0, 0, fun _ _ _ => True)
theorem nm_X1_openAt : px_nm M_X1_openAt 1 := ⟨nc_RX1.1, nc_RX1.2, by decide +kernel⟩
abbrev M_X1_addMark : px_M := (yX1_addMark, cX1_addMark, 4, some .boolean, 1, 23, 0, 0, fun _ _ _ => True)
theorem nm_X1_addMark : px_nm M_X1_addMark 3 := ⟨nc_RX1.1, nc_RX1.2, by decide +kernel⟩
abbrev M_X1_dayOf : px_M := (yX1_dayOf, cX1_dayOf, 3, some .int, 2, 42, 0, 0, fun _ _ _ => True)
theorem nm_X1_dayOf : px_nm M_X1_dayOf 2 := ⟨nc_RX1.1, nc_RX1.2, by decide +kernel⟩
abbrev M_X1_daysFrom : px_M := (yX1_daysFrom, cX1_daysFrom, 7, some .int, 2, 42, 0, 0, fun _ _ _ => True)
theorem nm_X1_daysFrom : px_nm M_X1_daysFrom 3 := ⟨nc_RX1.1, nc_RX1.2, by decide +kernel⟩
abbrev M_X1_dig : px_M := (yX1_dig, cX1_dig, 2, some .boolean, 1, 21, 0, 0, fun _ _ _ => True)
theorem nm_X1_dig : px_nm M_X1_dig 0 := ⟨nc_RX1.1, nc_RX1.2, by decide +kernel⟩
abbrev M_X1_holesAgree : px_M := (yX1_holesAgree, cX1_holesAgree, 7, some .boolean, 1, 21, 0, 0, fun _ _ _ => True)
theorem nm_X1_holesAgree : px_nm M_X1_holesAgree 4 := ⟨nc_RX1.1, nc_RX1.2, by decide +kernel⟩
abbrev M_X1_addRepair : px_M := (yX1_addRepair, cX1_addRepair, 4, some .boolean, 1, 22, 0, 0, fun _ _ _ => True)
theorem nm_X1_addRepair : px_nm M_X1_addRepair 3 := ⟨nc_RX1.1, nc_RX1.2, by decide +kernel⟩
abbrev M_X1_limeYears : px_M := (yX1_limeYears, cX1_limeYears, 6, some .int, 1, 21, 0, 0, fun _ _ _ => True)
theorem nm_X1_limeYears : px_nm M_X1_limeYears 3 := ⟨nc_RX1.1, nc_RX1.2, by decide +kernel⟩
abbrev M_X2_init : px_M := (yX2_init, cX2_init, 1, none, 1, 20, 0, 0, fun _ _ _ => True)
theorem nm_X2_init : px_nm M_X2_init 0 := ⟨nc_RX2.1, nc_RX2.2, by decide +kernel⟩
abbrev M_X2_addCount : px_M := (yX2_addCount, cX2_addCount, 6, some .int, 1, 23, 0, 0, fun _ _ _ => True)
theorem nm_X2_addCount : px_nm M_X2_addCount 3 := ⟨nc_RX2.1, nc_RX2.2, by decide +kernel⟩
abbrev M_X3_init : px_M := (yX3_init, cX3_init, 3, none, 1, 20, 4, 12, fun _ _ _ => True)
theorem nm_X3_init : px_nm M_X3_init 2 := ⟨nc_RX3.1, nc_RX3.2, by decide +kernel⟩
abbrev M_X3_seen : px_M := (yX3_seen, cX3_seen, 4, none, 2, 42, 0, 0, fun _ _ _ => True)
theorem nm_X3_seen : px_nm M_X3_seen 3 := ⟨nc_RX3.1, nc_RX3.2, by decide +kernel⟩
abbrev M_X3_look : px_M := (yX3_look, cX3_look, 5, none, 4, 102, 0, 0, fun _ _ _ => True)
theorem nm_X3_look : px_nm M_X3_look 3 := ⟨nc_RX3.1, nc_RX3.2, by decide +kernel⟩
abbrev M_X3_bound : px_M := (yX3_bound, cX3_bound, 9, some .int, 2, 45, 0, 0, fun _ _ _ => True)
theorem nm_X3_bound : px_nm M_X3_bound 4 := ⟨nc_RX3.1, nc_RX3.2, by decide +kernel⟩
abbrev M_X3_judge : px_M := (yX3_judge, cX3_judge, 7, some .int, 3, 73, 0, 0, fun _ _ _ => True)
theorem nm_X3_judge : px_nm M_X3_judge 2 := ⟨nc_RX3.1, nc_RX3.2, by decide +kernel⟩
abbrev M_X3_pairs : px_M := (yX3_pairs, cX3_pairs, 9, some .int, 6, 138, 0, 0, fun _ _ _ => True)
theorem nm_X3_pairs : px_nm M_X3_pairs 3 := ⟨nc_RX3.1, nc_RX3.2, by decide +kernel⟩
abbrev M_X4_init : px_M := (yX4_init, cX4_init, 2, none, 2, 40, 8, 447, fun _ _ _ => True)
theorem nm_X4_init : px_nm M_X4_init 1 := ⟨nc_RX4.1, nc_RX4.2, by decide +kernel⟩
abbrev M_X4_read : px_M := (yX4_read, cX4_read, 2, some .boolean, 7, 149, 0, 0, fun _ _ _ => True)
theorem nm_X4_read : px_nm M_X4_read 0 := ⟨nc_RX4.1, nc_RX4.2, by decide +kernel⟩
abbrev M_X4_begin : px_M := (yX4_begin, cX4_begin, 2, none, 0, 0, 0, 0, fun _ _ _ => True)
theorem nm_X4_begin : px_nm M_X4_begin 0 := ⟨nc_RX4.1, nc_RX4.2, by decide +kernel⟩
abbrev M_X4_fail : px_M := (yX4_fail, cX4_fail, 2, none, 0, 0, 0, 0, fun _ _ _ => True)
theorem nm_X4_fail : px_nm M_X4_fail 1 := ⟨nc_RX4.1, nc_RX4.2, by decide +kernel⟩
abbrev M_X4_readPart : px_M := (yX4_readPart, cX4_readPart, 1, none, 6, 129, 0, 0, fun _ _ _ => True)
theorem nm_X4_readPart : px_nm M_X4_readPart 0 := ⟨nc_RX4.1, nc_RX4.2, by decide +kernel⟩
abbrev M_X4_readStep : px_M := (yX4_readStep, cX4_readStep, 5, none, 3, 64, 0, 0, fun _ _ _ => True)
theorem nm_X4_readStep : px_nm M_X4_readStep 3 := ⟨nc_RX4.1, nc_RX4.2, by decide +kernel⟩
abbrev M_X4_readBareStep : px_M := (yX4_readBareStep, cX4_readBareStep, 2, none, 2, 43, 0, 0, fun _ _ _ => True)
theorem nm_X4_readBareStep : px_nm M_X4_readBareStep 1 := ⟨nc_RX4.1, nc_RX4.2, by decide +kernel⟩
abbrev M_X4_readDo : px_M := (yX4_readDo, cX4_readDo, 2, none, 3, 65, 0, 0, fun _ _ _ => True)
theorem nm_X4_readDo : px_nm M_X4_readDo 0 := ⟨nc_RX4.1, nc_RX4.2, by decide +kernel⟩
abbrev M_X4_readRepeat : px_M := (yX4_readRepeat, cX4_readRepeat, 2, none, 3, 64, 0, 0, fun _ _ _ => True)
theorem nm_X4_readRepeat : px_nm M_X4_readRepeat 0 := ⟨nc_RX4.1, nc_RX4.2, by decide +kernel⟩
abbrev M_X4_readDef : px_M := (yX4_readDef, cX4_readDef, 2, none, 3, 65, 0, 0, fun _ _ _ => True)
theorem nm_X4_readDef : px_nm M_X4_readDef 0 := ⟨nc_RX4.1, nc_RX4.2, by decide +kernel⟩
abbrev M_X4_openBlock : px_M := (yX4_openBlock, cX4_openBlock, 2, none, 0, 0, 0, 0, fun _ _ _ => True)
theorem nm_X4_openBlock : px_nm M_X4_openBlock 1 := ⟨nc_RX4.1, nc_RX4.2, by decide +kernel⟩
abbrev M_X4_closeBlock : px_M := (yX4_closeBlock, cX4_closeBlock, 2, none, 2, 44, 0, 0, fun _ _ _ => True)
theorem nm_X4_closeBlock : px_nm M_X4_closeBlock 0 := ⟨nc_RX4.1, nc_RX4.2, by decide +kernel⟩
abbrev M_X4_closeDef : px_M := (yX4_closeDef, cX4_closeDef, 3, none, 1, 22, 0, 0, fun _ _ _ => True)
theorem nm_X4_closeDef : px_nm M_X4_closeDef 1 := ⟨nc_RX4.1, nc_RX4.2, by decide +kernel⟩
abbrev M_X4_addSteps : px_M := (yX4_addSteps, cX4_addSteps, 2, none, 1, 22, 0, 0, fun _ _ _ => True)
theorem nm_X4_addSteps : px_nm M_X4_addSteps 1 := ⟨nc_RX4.1, nc_RX4.2, by decide +kernel⟩
abbrev M_X4_take : px_M := (yX4_take, cX4_take, 2, none, 1, 21, 0, 0, fun _ _ _ => True)
theorem nm_X4_take : px_nm M_X4_take 1 := ⟨nc_RX4.1, nc_RX4.2, by decide +kernel⟩
abbrev M_X4_takeNumber : px_M := (yX4_takeNumber, cX4_takeNumber, 3, none, 2, 42, 0, 0, fun _ _ _ => True)
theorem nm_X4_takeNumber : px_nm M_X4_takeNumber 2 := ⟨nc_RX4.1, nc_RX4.2, by decide +kernel⟩
abbrev M_X4_takeOpening : px_M := (yX4_takeOpening, cX4_takeOpening, 1, none, 2, 42, 0, 0, fun _ _ _ => True)
theorem nm_X4_takeOpening : px_nm M_X4_takeOpening 0 := ⟨nc_RX4.1, nc_RX4.2, by decide +kernel⟩
abbrev M_X4_takeLetter : px_M := (yX4_takeLetter, cX4_takeLetter, 4, some .int, 2, 42, 0, 0, fun _ _ _ => True)
theorem nm_X4_takeLetter : px_nm M_X4_takeLetter 1 := ⟨nc_RX4.1, nc_RX4.2, by decide +kernel⟩
abbrev M_X4_letterHere : px_M := (yX4_letterHere, cX4_letterHere, 1, some .int, 1, 22, 0, 0, fun _ _ _ => True)
theorem nm_X4_letterHere : px_nm M_X4_letterHere 0 := ⟨nc_RX4.1, nc_RX4.2, by decide +kernel⟩
abbrev M_X4_nextToken : px_M := (yX4_nextToken, cX4_nextToken, 1, none, 0, 0, 0, 0, fun _ _ _ => True)
theorem nm_X4_nextToken : px_nm M_X4_nextToken 0 := ⟨nc_RX4.1, nc_RX4.2, by decide +kernel⟩
abbrev M_X5_init : px_M := (yX5_init, cX5_init, 1, none, 2, 40, 6, 1144, fun _ _ _ => True)
theorem nm_X5_init : px_nm M_X5_init 0 := ⟨nc_RX5.1, nc_RX5.2, by decide +kernel⟩
abbrev M_X5_hasPlace : px_M := (yX5_hasPlace, cX5_hasPlace, 2, some .boolean, 0, 0, 0, 0, fun _ _ _ => True)
theorem nm_X5_hasPlace : px_nm M_X5_hasPlace 1 := ⟨nc_RX5.1, nc_RX5.2, by decide +kernel⟩
abbrev M_X5_isTold : px_M := (yX5_isTold, cX5_isTold, 2, some .boolean, 1, 21, 0, 0, fun _ _ _ => True)
theorem nm_X5_isTold : px_nm M_X5_isTold 1 := ⟨nc_RX5.1, nc_RX5.2, by decide +kernel⟩
abbrev M_X5_toldWays : px_M := (yX5_toldWays, cX5_toldWays, 3, some .int, 2, 42, 0, 0, fun _ _ _ => True)
theorem nm_X5_toldWays : px_nm M_X5_toldWays 0 := ⟨nc_RX5.1, nc_RX5.2, by decide +kernel⟩
abbrev M_X5_replace : px_M := (yX5_replace, cX5_replace, 5, some (.object "TunnelBook$Way"), 2, 40, 3, 404, fun _ _ _ => True)
theorem nm_X5_replace : px_nm M_X5_replace 2 := ⟨nc_RX5.1, nc_RX5.2, by decide +kernel⟩
abbrev M_X5_forgetAll : px_M := (yX5_forgetAll, cX5_forgetAll, 2, none, 0, 0, 0, 0, fun _ _ _ => True)
theorem nm_X5_forgetAll : px_nm M_X5_forgetAll 0 := ⟨nc_RX5.1, nc_RX5.2, by decide +kernel⟩
abbrev M_X5_make : px_M := (yX5_make, cX5_make, 2, some .boolean, 5, 117, 0, 0, fun _ _ _ => True)
theorem nm_X5_make : px_nm M_X5_make 1 := ⟨nc_RX5.1, nc_RX5.2, by decide +kernel⟩
abbrev M_X5_keep : px_M := (yX5_keep, cX5_keep, 3, none, 0, 0, 0, 0, fun _ _ _ => True)
theorem nm_X5_keep : px_nm M_X5_keep 1 := ⟨nc_RX5.1, nc_RX5.2, by decide +kernel⟩
abbrev M_X5_answer : px_M := (yX5_answer, cX5_answer, 4, some .int, 1, 22, 0, 0, fun _ _ _ => True)
theorem nm_X5_answer : px_nm M_X5_answer 2 := ⟨nc_RX5.1, nc_RX5.2, by decide +kernel⟩
abbrev M_X6_init : px_M := (yX6_init, cX6_init, 1, none, 1, 20, 3, 249, fun _ _ _ => True)
theorem nm_X6_init : px_nm M_X6_init 0 := ⟨nc_RX6.1, nc_RX6.2, by decide +kernel⟩
abbrev M_X6_weigh : px_M := (yX6_weigh, cX6_weigh, 4, none, 0, 0, 0, 0, fun _ _ _ => True)
theorem nm_X6_weigh : px_nm M_X6_weigh 3 := ⟨nc_RX6.1, nc_RX6.2, by decide +kernel⟩
abbrev M_X6_hear : px_M := (yX6_hear, cX6_hear, 4, none, 0, 0, 0, 0, fun _ _ _ => True)
theorem nm_X6_hear : px_nm M_X6_hear 3 := ⟨nc_RX6.1, nc_RX6.2, by decide +kernel⟩
abbrev M_X6_share : px_M := (yX6_share, cX6_share, 10, some .long, 3, 68, 0, 0, fun _ _ _ => True)
theorem nm_X6_share : px_nm M_X6_share 3 := ⟨nc_RX6.1, nc_RX6.2, by decide +kernel⟩
abbrev M_X6_roundabout : px_M := (yX6_roundabout, cX6_roundabout, 7, some .int, 3, 74, 0, 0, fun _ _ _ => True)
theorem nm_X6_roundabout : px_nm M_X6_roundabout 3 := ⟨nc_RX6.1, nc_RX6.2, by decide +kernel⟩
abbrev M_X6_startAt : px_M := (yX6_startAt, cX6_startAt, 7, none, 0, 0, 0, 0, fun _ _ _ => True)
theorem nm_X6_startAt : px_nm M_X6_startAt 3 := ⟨nc_RX6.1, nc_RX6.2, by decide +kernel⟩
abbrev M_X6_clearNext : px_M := (yX6_clearNext, cX6_clearNext, 4, none, 0, 0, 0, 0, fun _ _ _ => True)
theorem nm_X6_clearNext : px_nm M_X6_clearNext 1 := ⟨nc_RX6.1, nc_RX6.2, by decide +kernel⟩
abbrev M_X6_swap : px_M := (yX6_swap, cX6_swap, 2, none, 0, 0, 0, 0, fun _ _ _ => True)
theorem nm_X6_swap : px_nm M_X6_swap 0 := ⟨nc_RX6.1, nc_RX6.2, by decide +kernel⟩
abbrev M_X6_spread : px_M := (yX6_spread, cX6_spread, 5, none, 2, 44, 0, 0, fun _ _ _ => True)
theorem nm_X6_spread : px_nm M_X6_spread 2 := ⟨nc_RX6.1, nc_RX6.2, by decide +kernel⟩
abbrev M_X6_prolong : px_M := (yX6_prolong, cX6_prolong, 8, none, 2, 47, 0, 0, fun _ _ _ => True)
theorem nm_X6_prolong : px_nm M_X6_prolong 3 := ⟨nc_RX6.1, nc_RX6.2, by decide +kernel⟩
abbrev M_X6_better : px_M := (yX6_better, cX6_better, 5, some .long, 1, 23, 0, 0, fun _ _ _ => True)
theorem nm_X6_better : px_nm M_X6_better 3 := ⟨nc_RX6.1, nc_RX6.2, by decide +kernel⟩
abbrev M_X6_pulled : px_M := (yX6_pulled, cX6_pulled, 4, some .int, 1, 21, 0, 0, fun _ _ _ => True)
theorem nm_X6_pulled : px_nm M_X6_pulled 2 := ⟨nc_RX6.1, nc_RX6.2, by decide +kernel⟩
abbrev M_X6_misses : px_M := (yX6_misses, cX6_misses, 2, some .boolean, 1, 20, 0, 0, fun _ _ _ => True)
theorem nm_X6_misses : px_nm M_X6_misses 1 := ⟨nc_RX6.1, nc_RX6.2, by decide +kernel⟩
abbrev M_X6_commonDivisor : px_M := (yX6_commonDivisor, cX6_commonDivisor, 11, some .long, 0, 0, 0, 0, fun _ _ _ => True)
theorem nm_X6_commonDivisor : px_nm M_X6_commonDivisor 2 := ⟨nc_RX6.1, nc_RX6.2, by decide +kernel⟩
abbrev M_X7_init : px_M := (yX7_init, cX7_init, 1, none, 1, 20, 7, 504, fun _ _ _ => True)
theorem nm_X7_init : px_nm M_X7_init 0 := ⟨nc_RX7.1, nc_RX7.2, by decide +kernel⟩
abbrev M_X7_addStation : px_M := (yX7_addStation, cX7_addStation, 1, some .int, 0, 0, 0, 0, fun _ _ _ => True)
theorem nm_X7_addStation : px_nm M_X7_addStation 0 := ⟨nc_RX7.1, nc_RX7.2, by decide +kernel⟩
abbrev M_X7_has : px_M := (yX7_has, cX7_has, 2, some .boolean, 0, 0, 0, 0, fun _ _ _ => True)
theorem nm_X7_has : px_nm M_X7_has 1 := ⟨nc_RX7.1, nc_RX7.2, by decide +kernel⟩
abbrev M_X7_addSight : px_M := (yX7_addSight, cX7_addSight, 7, some .int, 0, 0, 0, 0, fun _ _ _ => True)
theorem nm_X7_addSight : px_nm M_X7_addSight 6 := ⟨nc_RX7.1, nc_RX7.2, by decide +kernel⟩
abbrev M_X7_bound : px_M := (yX7_bound, cX7_bound, 8, some .int, 3, 75, 0, 0, fun _ _ _ => True)
theorem nm_X7_bound : px_nm M_X7_bound 5 := ⟨nc_RX7.1, nc_RX7.2, by decide +kernel⟩
abbrev M_X7_culprit : px_M := (yX7_culprit, cX7_culprit, 6, some .int, 3, 75, 0, 0, fun _ _ _ => True)
theorem nm_X7_culprit : px_nm M_X7_culprit 3 := ⟨nc_RX7.1, nc_RX7.2, by decide +kernel⟩
abbrev M_X7_counts : px_M := (yX7_counts, cX7_counts, 4, some .boolean, 0, 0, 0, 0, fun _ _ _ => True)
theorem nm_X7_counts : px_nm M_X7_counts 3 := ⟨nc_RX7.1, nc_RX7.2, by decide +kernel⟩
abbrev M_X7_settle : px_M := (yX7_settle, cX7_settle, 6, some .boolean, 2, 50, 0, 0, fun _ _ _ => True)
theorem nm_X7_settle : px_nm M_X7_settle 4 := ⟨nc_RX7.1, nc_RX7.2, by decide +kernel⟩
abbrev M_X7_shortenAll : px_M := (yX7_shortenAll, cX7_shortenAll, 8, some .boolean, 1, 23, 0, 0, fun _ _ _ => True)
theorem nm_X7_shortenAll : px_nm M_X7_shortenAll 3 := ⟨nc_RX7.1, nc_RX7.2, by decide +kernel⟩
abbrev M_X7_shorten : px_M := (yX7_shorten, cX7_shorten, 4, some .boolean, 0, 0, 0, 0, fun _ _ _ => True)
theorem nm_X7_shorten : px_nm M_X7_shorten 3 := ⟨nc_RX7.1, nc_RX7.2, by decide +kernel⟩
abbrev M_X8_init : px_M := (yX8_init, cX8_init, 1, none, 1, 20, 5, 2004, fun _ _ _ => True)
theorem nm_X8_init : px_nm M_X8_init 0 := ⟨nc_RX8.1, nc_RX8.2, by decide +kernel⟩
abbrev M_X8_hasRoom : px_M := (yX8_hasRoom, cX8_hasRoom, 2, some .boolean, 0, 0, 0, 0, fun _ _ _ => True)
theorem nm_X8_hasRoom : px_nm M_X8_hasRoom 1 := ⟨nc_RX8.1, nc_RX8.2, by decide +kernel⟩
abbrev M_X8_append : px_M := (yX8_append, cX8_append, 3, none, 0, 0, 0, 0, fun _ _ _ => True)
theorem nm_X8_append : px_nm M_X8_append 1 := ⟨nc_RX8.1, nc_RX8.2, by decide +kernel⟩
abbrev M_X8_cut : px_M := (yX8_cut, cX8_cut, 3, none, 2, 45, 0, 0, fun _ _ _ => True)
theorem nm_X8_cut : px_nm M_X8_cut 0 := ⟨nc_RX8.1, nc_RX8.2, by decide +kernel⟩
abbrev M_X8_goesOn : px_M := (yX8_goesOn, cX8_goesOn, 4, some .boolean, 1, 22, 0, 0, fun _ _ _ => True)
theorem nm_X8_goesOn : px_nm M_X8_goesOn 2 := ⟨nc_RX8.1, nc_RX8.2, by decide +kernel⟩
abbrev M_X8_addToken : px_M := (yX8_addToken, cX8_addToken, 3, none, 0, 0, 0, 0, fun _ _ _ => True)
theorem nm_X8_addToken : px_nm M_X8_addToken 2 := ⟨nc_RX8.1, nc_RX8.2, by decide +kernel⟩
abbrev M_X8_lengthen : px_M := (yX8_lengthen, cX8_lengthen, 3, none, 1, 22, 0, 0, fun _ _ _ => True)
theorem nm_X8_lengthen : px_nm M_X8_lengthen 1 := ⟨nc_RX8.1, nc_RX8.2, by decide +kernel⟩
abbrev M_X8_byteAt : px_M := (yX8_byteAt, cX8_byteAt, 2, some .int, 0, 0, 0, 0, fun _ _ _ => True)
theorem nm_X8_byteAt : px_nm M_X8_byteAt 1 := ⟨nc_RX8.1, nc_RX8.2, by decide +kernel⟩
abbrev M_X8_isWord : px_M := (yX8_isWord, cX8_isWord, 4, some .boolean, 5, 106, 0, 0, fun _ _ _ => True)
theorem nm_X8_isWord : px_nm M_X8_isWord 2 := ⟨nc_RX8.1, nc_RX8.2, by decide +kernel⟩
abbrev M_X8_kindOf : px_M := (yX8_kindOf, cX8_kindOf, 1, some .int, 1, 22, 0, 0, fun _ _ _ => True)
theorem nm_X8_kindOf : px_nm M_X8_kindOf 1 := ⟨nc_RX8.1, nc_RX8.2, by decide +kernel⟩
abbrev M_X9_init : px_M := (yX9_init, cX9_init, 1, none, 1, 20, 2, 160, fun _ _ _ => True)
theorem nm_X9_init : px_nm M_X9_init 0 := ⟨nc_RX9.1, nc_RX9.2, by decide +kernel⟩
abbrev M_X9_take : px_M := (yX9_take, cX9_take, 6, none, 0, 0, 0, 0, fun _ _ _ => True)
theorem nm_X9_take : px_nm M_X9_take 5 := ⟨nc_RX9.1, nc_RX9.2, by decide +kernel⟩
abbrev M_X9_go : px_M := (yX9_go, cX9_go, 5, none, 4, 93, 0, 0, fun _ _ _ => True)
theorem nm_X9_go : px_nm M_X9_go 2 := ⟨nc_RX9.1, nc_RX9.2, by decide +kernel⟩
abbrev M_X9_begin : px_M := (yX9_begin, cX9_begin, 2, none, 0, 0, 0, 0, fun _ _ _ => True)
theorem nm_X9_begin : px_nm M_X9_begin 1 := ⟨nc_RX9.1, nc_RX9.2, by decide +kernel⟩
abbrev M_X9_follow : px_M := (yX9_follow, cX9_follow, 4, some .int, 3, 70, 0, 0, fun _ _ _ => True)
theorem nm_X9_follow : px_nm M_X9_follow 3 := ⟨nc_RX9.1, nc_RX9.2, by decide +kernel⟩
abbrev M_X9_push : px_M := (yX9_push, cX9_push, 3, none, 0, 0, 0, 0, fun _ _ _ => True)
theorem nm_X9_push : px_nm M_X9_push 2 := ⟨nc_RX9.1, nc_RX9.2, by decide +kernel⟩
abbrev M_X9_turnBack : px_M := (yX9_turnBack, cX9_turnBack, 3, some .int, 1, 22, 0, 0, fun _ _ _ => True)
theorem nm_X9_turnBack : px_nm M_X9_turnBack 1 := ⟨nc_RX9.1, nc_RX9.2, by decide +kernel⟩
abbrev M_X9_pop : px_M := (yX9_pop, cX9_pop, 3, some .int, 1, 22, 0, 0, fun _ _ _ => True)
theorem nm_X9_pop : px_nm M_X9_pop 1 := ⟨nc_RX9.1, nc_RX9.2, by decide +kernel⟩
abbrev M_X9_step : px_M := (yX9_step, cX9_step, 3, none, 2, 48, 0, 0, fun _ _ _ => True)
theorem nm_X9_step : px_nm M_X9_step 2 := ⟨nc_RX9.1, nc_RX9.2, by decide +kernel⟩
abbrev M_X9_layLine : px_M := (yX9_layLine, cX9_layLine, 9, none, 1, 20, 0, 0, fun _ _ _ => True)
theorem nm_X9_layLine : px_nm M_X9_layLine 1 := ⟨nc_RX9.1, nc_RX9.2, by decide +kernel⟩
abbrev M_X9_staysNear : px_M := (yX9_staysNear, cX9_staysNear, 1, some .boolean, 1, 21, 0, 0, fun _ _ _ => True)
theorem nm_X9_staysNear : px_nm M_X9_staysNear 0 := ⟨nc_RX9.1, nc_RX9.2, by decide +kernel⟩
abbrev M_X10_init : px_M := (yX10_init, cX10_init, 1, none, 1, 20, 2, 400, fun _ _ _ => True)
theorem nm_X10_init : px_nm M_X10_init 0 := ⟨nc_RX10.1, nc_RX10.2, by decide +kernel⟩
abbrev M_X10_add : px_M := (yX10_add, cX10_add, 3, none, 0, 0, 0, 0, fun _ _ _ => True)
theorem nm_X10_add : px_nm M_X10_add 2 := ⟨nc_RX10.1, nc_RX10.2, by decide +kernel⟩
abbrev M_X11_init : px_M := (yX11_init, cX11_init, 1, none, 3, 61, 70, 5037, fun _ _ _ => True)
theorem nm_X11_init : px_nm M_X11_init 0 := ⟨nc_RX11.1, nc_RX11.2, by decide +kernel⟩
abbrev M_X11_days : px_M := (yX11_days, cX11_days, 2, some .int, 1, 22, 0, 0, fun _ _ _ => True)
theorem nm_X11_days : px_nm M_X11_days 1 := ⟨nc_RX11.1, nc_RX11.2, by decide +kernel⟩
abbrev M_X11_station : px_M := (yX11_station, cX11_station, 1, some .int, 1, 20, 0, 0, fun _ _ _ => True)
theorem nm_X11_station : px_nm M_X11_station 0 := ⟨nc_RX11.1, nc_RX11.2, by decide +kernel⟩
abbrev M_X11_sight : px_M := (yX11_sight, cX11_sight, 6, some .int, 2, 42, 0, 0, fun _ _ _ => True)
theorem nm_X11_sight : px_nm M_X11_sight 5 := ⟨nc_RX11.1, nc_RX11.2, by decide +kernel⟩
abbrev M_X11_closed : px_M := (yX11_closed, cX11_closed, 3, some .int, 3, 75, 0, 0, fun _ _ _ => True)
theorem nm_X11_closed : px_nm M_X11_closed 2 := ⟨nc_RX11.1, nc_RX11.2, by decide +kernel⟩
abbrev M_X11_span : px_M := (yX11_span, cX11_span, 5, some .int, 5, 127, 0, 0, fun _ _ _ => True)
theorem nm_X11_span : px_nm M_X11_span 4 := ⟨nc_RX11.1, nc_RX11.2, by decide +kernel⟩
abbrev M_X11_gap : px_M := (yX11_gap, cX11_gap, 6, some .int, 4, 102, 0, 0, fun _ _ _ => True)
theorem nm_X11_gap : px_nm M_X11_gap 5 := ⟨nc_RX11.1, nc_RX11.2, by decide +kernel⟩
abbrev M_X11_blamed : px_M := (yX11_blamed, cX11_blamed, 4, some .int, 4, 100, 0, 0, fun _ _ _ => True)
theorem nm_X11_blamed : px_nm M_X11_blamed 3 := ⟨nc_RX11.1, nc_RX11.2, by decide +kernel⟩
abbrev M_X11_reach : px_M := (yX11_reach, cX11_reach, 9, some .int, 2, 50, 0, 0, fun _ _ _ => True)
theorem nm_X11_reach : px_nm M_X11_reach 7 := ⟨nc_RX11.1, nc_RX11.2, by decide +kernel⟩
abbrev M_X11_mouth : px_M := (yX11_mouth, cX11_mouth, 4, some .boolean, 1, 21, 0, 0, fun _ _ _ => True)
theorem nm_X11_mouth : px_nm M_X11_mouth 2 := ⟨nc_RX11.1, nc_RX11.2, by decide +kernel⟩
abbrev M_X11_mark : px_M := (yX11_mark, cX11_mark, 6, some .int, 2, 46, 0, 0, fun _ _ _ => True)
theorem nm_X11_mark : px_nm M_X11_mark 4 := ⟨nc_RX11.1, nc_RX11.2, by decide +kernel⟩
abbrev M_X11_when : px_M := (yX11_when, cX11_when, 5, some .int, 3, 64, 0, 0, fun _ _ _ => True)
theorem nm_X11_when : px_nm M_X11_when 3 := ⟨nc_RX11.1, nc_RX11.2, by decide +kernel⟩
abbrev M_X11_between : px_M := (yX11_between, cX11_between, 6, some .int, 3, 68, 0, 0, fun _ _ _ => True)
theorem nm_X11_between : px_nm M_X11_between 4 := ⟨nc_RX11.1, nc_RX11.2, by decide +kernel⟩
abbrev M_X11_lamps : px_M := (yX11_lamps, cX11_lamps, 7, some .int, 2, 47, 0, 0, fun _ _ _ => True)
theorem nm_X11_lamps : px_nm M_X11_lamps 5 := ⟨nc_RX11.1, nc_RX11.2, by decide +kernel⟩
abbrev M_X11_count : px_M := (yX11_count, cX11_count, 4, some .int, 2, 48, 0, 0, fun _ _ _ => True)
theorem nm_X11_count : px_nm M_X11_count 3 := ⟨nc_RX11.1, nc_RX11.2, by decide +kernel⟩
abbrev M_X11_unit : px_M := (yX11_unit, cX11_unit, 2, some .int, 0, 0, 0, 0, fun _ _ _ => True)
theorem nm_X11_unit : px_nm M_X11_unit 1 := ⟨nc_RX11.1, nc_RX11.2, by decide +kernel⟩
abbrev M_X11_feed : px_M := (yX11_feed, cX11_feed, 6, some .int, 1, 22, 0, 0, fun _ _ _ => True)
theorem nm_X11_feed : px_nm M_X11_feed 5 := ⟨nc_RX11.1, nc_RX11.2, by decide +kernel⟩
abbrev M_X11_end : px_M := (yX11_end, cX11_end, 2, some .int, 1, 22, 0, 0, fun _ _ _ => True)
theorem nm_X11_end : px_nm M_X11_end 1 := ⟨nc_RX11.1, nc_RX11.2, by decide +kernel⟩
abbrev M_X11_way : px_M := (yX11_way, cX11_way, 3, some .int, 8, 170, 3, 404, fun _ _ _ => True)
theorem nm_X11_way : px_nm M_X11_way 1 := ⟨nc_RX11.1, nc_RX11.2, by decide +kernel⟩
abbrev M_X11_fault : px_M := (yX11_fault, cX11_fault, 2, some .int, 0, 0, 0, 0, fun _ _ _ => True)
theorem nm_X11_fault : px_nm M_X11_fault 1 := ⟨nc_RX11.1, nc_RX11.2, by decide +kernel⟩
abbrev M_X11_tools : px_M := (yX11_tools, cX11_tools, 6, some .boolean, 1, 25, 0, 0, fun _ _ _ => True)
theorem nm_X11_tools : px_nm M_X11_tools 5 := ⟨nc_RX11.1, nc_RX11.2, by decide +kernel⟩
abbrev M_X11_run : px_M := (yX11_run, cX11_run, 5, some .int, 6, 138, 0, 0, fun _ _ _ => True)
theorem nm_X11_run : px_nm M_X11_run 3 := ⟨nc_RX11.1, nc_RX11.2, by decide +kernel⟩
abbrev M_X11_meeting : px_M := (yX11_meeting, cX11_meeting, 7, some .int, 7, 162, 0, 0, fun _ _ _ => True)
theorem nm_X11_meeting : px_nm M_X11_meeting 6 := ⟨nc_RX11.1, nc_RX11.2, by decide +kernel⟩
abbrev M_X11_there : px_M := (yX11_there, cX11_there, 4, some .boolean, 3, 65, 0, 0, fun _ _ _ => True)
theorem nm_X11_there : px_nm M_X11_there 3 := ⟨nc_RX11.1, nc_RX11.2, by decide +kernel⟩
abbrev M_X11_fits : px_M := (yX11_fits, cX11_fits, 5, some .int, 7, 162, 0, 0, fun _ _ _ => True)
theorem nm_X11_fits : px_nm M_X11_fits 4 := ⟨nc_RX11.1, nc_RX11.2, by decide +kernel⟩
abbrev M_X11_ways : px_M := (yX11_ways, cX11_ways, 6, some .int, 7, 166, 0, 0, fun _ _ _ => True)
theorem nm_X11_ways : px_nm M_X11_ways 5 := ⟨nc_RX11.1, nc_RX11.2, by decide +kernel⟩
abbrev M_X11_seek : px_M := (yX11_seek, cX11_seek, 7, some .boolean, 1, 23, 0, 0, fun _ _ _ => True)
theorem nm_X11_seek : px_nm M_X11_seek 6 := ⟨nc_RX11.1, nc_RX11.2, by decide +kernel⟩
abbrev M_X11_chance : px_M := (yX11_chance, cX11_chance, 4, some .long, 4, 97, 0, 0, fun _ _ _ => True)
theorem nm_X11_chance : px_nm M_X11_chance 3 := ⟨nc_RX11.1, nc_RX11.2, by decide +kernel⟩
abbrev M_X11_detour : px_M := (yX11_detour, cX11_detour, 4, some .int, 4, 100, 0, 0, fun _ _ _ => True)
theorem nm_X11_detour : px_nm M_X11_detour 3 := ⟨nc_RX11.1, nc_RX11.2, by decide +kernel⟩
abbrev M_X11_table : px_M := (yX11_table, cX11_table, 3, some .boolean, 2, 44, 0, 0, fun _ _ _ => True)
theorem nm_X11_table : px_nm M_X11_table 2 := ⟨nc_RX11.1, nc_RX11.2, by decide +kernel⟩
abbrev M_X11_repair : px_M := (yX11_repair, cX11_repair, 5, some .int, 2, 45, 0, 0, fun _ _ _ => True)
theorem nm_X11_repair : px_nm M_X11_repair 3 := ⟨nc_RX11.1, nc_RX11.2, by decide +kernel⟩
abbrev M_X11_lime : px_M := (yX11_lime, cX11_lime, 2, some .boolean, 1, 22, 0, 0, fun _ _ _ => True)
theorem nm_X11_lime : px_nm M_X11_lime 1 := ⟨nc_RX11.1, nc_RX11.2, by decide +kernel⟩
abbrev M_X11_flow : px_M := (yX11_flow, cX11_flow, 6, some .int, 6, 162, 0, 0, fun _ _ _ => True)
theorem nm_X11_flow : px_nm M_X11_flow 4 := ⟨nc_RX11.1, nc_RX11.2, by decide +kernel⟩
abbrev M_X11_narrow : px_M := (yX11_narrow, cX11_narrow, 5, some .int, 6, 162, 0, 0, fun _ _ _ => True)
theorem nm_X11_narrow : px_nm M_X11_narrow 3 := ⟨nc_RX11.1, nc_RX11.2, by decide +kernel⟩
abbrev M_X11_about : px_M := (yX11_about, cX11_about, 2, some .int, 3, 64, 0, 0, fun _ _ _ => True)
theorem nm_X11_about : px_nm M_X11_about 1 := ⟨nc_RX11.1, nc_RX11.2, by decide +kernel⟩
abbrev M_X11_galleryOf : px_M := (yX11_galleryOf, cX11_galleryOf, 2, some (.object "TunnelBook$Gallery"), 0, 0, 0, 0, fun _ _ _ => True)
theorem nm_X11_galleryOf : px_nm M_X11_galleryOf 1 := ⟨nc_RX11.1, nc_RX11.2, by decide +kernel⟩
abbrev M_X11_marks : px_M := (yX11_marks, cX11_marks, 1, some .int, 0, 0, 0, 0, fun _ _ _ => True)
theorem nm_X11_marks : px_nm M_X11_marks 0 := ⟨nc_RX11.1, nc_RX11.2, by decide +kernel⟩
abbrev M_X11_repairs : px_M := (yX11_repairs, cX11_repairs, 1, some .int, 0, 0, 0, 0, fun _ _ _ => True)
theorem nm_X11_repairs : px_nm M_X11_repairs 0 := ⟨nc_RX11.1, nc_RX11.2, by decide +kernel⟩
abbrev M_X11_canMeet : px_M := (yX11_canMeet, cX11_canMeet, 5, some .boolean, 6, 138, 0, 0, fun _ _ _ => True)
theorem nm_X11_canMeet : px_nm M_X11_canMeet 4 := ⟨nc_RX11.1, nc_RX11.2, by decide +kernel⟩
abbrev M_X11_within : px_M := (yX11_within, cX11_within, 3, some .boolean, 0, 0, 0, 0, fun _ _ _ => True)
theorem nm_X11_within : px_nm M_X11_within 3 := ⟨nc_RX11.1, nc_RX11.2, by decide +kernel⟩
abbrev M_X11_ordered : px_M := (yX11_ordered, cX11_ordered, 4, some .boolean, 0, 0, 0, 0, fun _ _ _ => True)
theorem nm_X11_ordered : px_nm M_X11_ordered 4 := ⟨nc_RX11.1, nc_RX11.2, by decide +kernel⟩
abbrev M_X11_isAxis : px_M := (yX11_isAxis, cX11_isAxis, 1, some .boolean, 1, 22, 0, 0, fun _ _ _ => True)
theorem nm_X11_isAxis : px_nm M_X11_isAxis 1 := ⟨nc_RX11.1, nc_RX11.2, by decide +kernel⟩
abbrev M_X11_isDay : px_M := (yX11_isDay, cX11_isDay, 1, some .boolean, 1, 22, 0, 0, fun _ _ _ => True)
theorem nm_X11_isDay : px_nm M_X11_isDay 1 := ⟨nc_RX11.1, nc_RX11.2, by decide +kernel⟩
abbrev M_X11_isHeading : px_M := (yX11_isHeading, cX11_isHeading, 1, some .boolean, 1, 22, 0, 0, fun _ _ _ => True)
theorem nm_X11_isHeading : px_nm M_X11_isHeading 1 := ⟨nc_RX11.1, nc_RX11.2, by decide +kernel⟩
abbrev M_X12_init : px_M := (yX12_init, cX12_init, 2, none, 1, 20, 43, 5580, fun _ _ _ => True)
theorem nm_X12_init : px_nm M_X12_init 0 := ⟨nc_RX12.1, nc_RX12.2, by decide +kernel⟩
abbrev M_X12_in : px_M := (yX12_in, cX12_in, 6, some .boolean, 0, 0, 0, 0, fun _ _ _ => True)
theorem nm_X12_in : px_nm M_X12_in 3 := ⟨nc_RX12.1, nc_RX12.2, by decide +kernel⟩
abbrev M_X12_isStation : px_M := (yX12_isStation, cX12_isStation, 2, some .boolean, 1, 25, 0, 0, fun _ _ _ => True)
theorem nm_X12_isStation : px_nm M_X12_isStation 1 := ⟨nc_RX12.1, nc_RX12.2, by decide +kernel⟩
abbrev M_X12_isAxis : px_M := (yX12_isAxis, cX12_isAxis, 1, some .boolean, 1, 25, 0, 0, fun _ _ _ => True)
theorem nm_X12_isAxis : px_nm M_X12_isAxis 1 := ⟨nc_RX12.1, nc_RX12.2, by decide +kernel⟩
abbrev M_X12_isKnown : px_M := (yX12_isKnown, cX12_isKnown, 1, some .boolean, 1, 25, 0, 0, fun _ _ _ => True)
theorem nm_X12_isKnown : px_nm M_X12_isKnown 1 := ⟨nc_RX12.1, nc_RX12.2, by decide +kernel⟩
abbrev M_X12_isPeg : px_M := (yX12_isPeg, cX12_isPeg, 3, some .boolean, 1, 25, 0, 0, fun _ _ _ => True)
theorem nm_X12_isPeg : px_nm M_X12_isPeg 2 := ⟨nc_RX12.1, nc_RX12.2, by decide +kernel⟩
abbrev M_X12_days : px_M := (yX12_days, cX12_days, 2, some .int, 1, 25, 0, 0, fun _ _ _ => True)
theorem nm_X12_days : px_nm M_X12_days 1 := ⟨nc_RX12.1, nc_RX12.2, by decide +kernel⟩
abbrev M_X12_station : px_M := (yX12_station, cX12_station, 1, some .int, 0, 0, 0, 0, fun _ _ _ => True)
theorem nm_X12_station : px_nm M_X12_station 0 := ⟨nc_RX12.1, nc_RX12.2, by decide +kernel⟩
abbrev M_X12_sight : px_M := (yX12_sight, cX12_sight, 6, some .int, 2, 46, 0, 0, fun _ _ _ => True)
theorem nm_X12_sight : px_nm M_X12_sight 5 := ⟨nc_RX12.1, nc_RX12.2, by decide +kernel⟩
abbrev M_X12_begins : px_M := (yX12_begins, cX12_begins, 3, none, 0, 0, 0, 0, fun _ _ _ => True)
theorem nm_X12_begins : px_nm M_X12_begins 1 := ⟨nc_RX12.1, nc_RX12.2, by decide +kernel⟩
abbrev M_X12_bounds : px_M := (yX12_bounds, cX12_bounds, 6, none, 0, 0, 0, 0, fun _ _ _ => True)
theorem nm_X12_bounds : px_nm M_X12_bounds 3 := ⟨nc_RX12.1, nc_RX12.2, by decide +kernel⟩
abbrev M_X12_closes : px_M := (yX12_closes, cX12_closes, 4, some .boolean, 1, 25, 0, 0, fun _ _ _ => True)
theorem nm_X12_closes : px_nm M_X12_closes 0 := ⟨nc_RX12.1, nc_RX12.2, by decide +kernel⟩
abbrev M_X12_isClosed : px_M := (yX12_isClosed, cX12_isClosed, 5, some .boolean, 2, 48, 0, 0, fun _ _ _ => True)
theorem nm_X12_isClosed : px_nm M_X12_isClosed 3 := ⟨nc_RX12.1, nc_RX12.2, by decide +kernel⟩
abbrev M_X12_closed : px_M := (yX12_closed, cX12_closed, 3, some .int, 3, 72, 0, 0, fun _ _ _ => True)
theorem nm_X12_closed : px_nm M_X12_closed 2 := ⟨nc_RX12.1, nc_RX12.2, by decide +kernel⟩
abbrev M_X12_gapOf : px_M := (yX12_gapOf, cX12_gapOf, 6, some .int, 0, 0, 0, 0, fun _ _ _ => True)
theorem nm_X12_gapOf : px_nm M_X12_gapOf 3 := ⟨nc_RX12.1, nc_RX12.2, by decide +kernel⟩
abbrev M_X12_gap : px_M := (yX12_gap, cX12_gap, 6, some .int, 3, 72, 0, 0, fun _ _ _ => True)
theorem nm_X12_gap : px_nm M_X12_gap 5 := ⟨nc_RX12.1, nc_RX12.2, by decide +kernel⟩
abbrev M_X12_span : px_M := (yX12_span, cX12_span, 5, some .int, 4, 97, 0, 0, fun _ _ _ => True)
theorem nm_X12_span : px_nm M_X12_span 4 := ⟨nc_RX12.1, nc_RX12.2, by decide +kernel⟩
abbrev M_X12_blamed : px_M := (yX12_blamed, cX12_blamed, 6, some .int, 3, 72, 0, 0, fun _ _ _ => True)
theorem nm_X12_blamed : px_nm M_X12_blamed 3 := ⟨nc_RX12.1, nc_RX12.2, by decide +kernel⟩
abbrev M_X12_reach : px_M := (yX12_reach, cX12_reach, 9, some .int, 2, 46, 0, 0, fun _ _ _ => True)
theorem nm_X12_reach : px_nm M_X12_reach 7 := ⟨nc_RX12.1, nc_RX12.2, by decide +kernel⟩
abbrev M_X12_mouth : px_M := (yX12_mouth, cX12_mouth, 3, some .boolean, 2, 46, 0, 0, fun _ _ _ => True)
theorem nm_X12_mouth : px_nm M_X12_mouth 2 := ⟨nc_RX12.1, nc_RX12.2, by decide +kernel⟩
abbrev M_X12_mark : px_M := (yX12_mark, cX12_mark, 5, some .int, 2, 47, 0, 0, fun _ _ _ => True)
theorem nm_X12_mark : px_nm M_X12_mark 4 := ⟨nc_RX12.1, nc_RX12.2, by decide +kernel⟩
abbrev M_X12_isDug : px_M := (yX12_isDug, cX12_isDug, 7, some .boolean, 2, 48, 0, 0, fun _ _ _ => True)
theorem nm_X12_isDug : px_nm M_X12_isDug 1 := ⟨nc_RX12.1, nc_RX12.2, by decide +kernel⟩
abbrev M_X12_when : px_M := (yX12_when, cX12_when, 4, some .int, 3, 74, 0, 0, fun _ _ _ => True)
theorem nm_X12_when : px_nm M_X12_when 3 := ⟨nc_RX12.1, nc_RX12.2, by decide +kernel⟩
abbrev M_X12_between : px_M := (yX12_between, cX12_between, 5, some .int, 3, 74, 0, 0, fun _ _ _ => True)
theorem nm_X12_between : px_nm M_X12_between 4 := ⟨nc_RX12.1, nc_RX12.2, by decide +kernel⟩
abbrev M_X12_lamps : px_M := (yX12_lamps, cX12_lamps, 11, some .int, 2, 47, 0, 0, fun _ _ _ => True)
theorem nm_X12_lamps : px_nm M_X12_lamps 5 := ⟨nc_RX12.1, nc_RX12.2, by decide +kernel⟩
abbrev M_X12_count : px_M := (yX12_count, cX12_count, 8, some .int, 1, 25, 0, 0, fun _ _ _ => True)
theorem nm_X12_count : px_nm M_X12_count 3 := ⟨nc_RX12.1, nc_RX12.2, by decide +kernel⟩
abbrev M_X12_unit : px_M := (yX12_unit, cX12_unit, 2, some .int, 0, 0, 0, 0, fun _ _ _ => True)
theorem nm_X12_unit : px_nm M_X12_unit 1 := ⟨nc_RX12.1, nc_RX12.2, by decide +kernel⟩
abbrev M_X12_put : px_M := (yX12_put, cX12_put, 2, none, 0, 0, 0, 0, fun _ _ _ => True)
theorem nm_X12_put : px_nm M_X12_put 1 := ⟨nc_RX12.1, nc_RX12.2, by decide +kernel⟩
abbrev M_X12_feed : px_M := (yX12_feed, cX12_feed, 6, some .int, 1, 21, 0, 0, fun _ _ _ => True)
theorem nm_X12_feed : px_nm M_X12_feed 5 := ⟨nc_RX12.1, nc_RX12.2, by decide +kernel⟩
abbrev M_X12_end : px_M := (yX12_end, cX12_end, 2, some .int, 1, 25, 0, 0, fun _ _ _ => True)
theorem nm_X12_end : px_nm M_X12_end 1 := ⟨nc_RX12.1, nc_RX12.2, by decide +kernel⟩
abbrev M_X12_isLetter : px_M := (yX12_isLetter, cX12_isLetter, 1, some .boolean, 1, 25, 0, 0, fun _ _ _ => True)
theorem nm_X12_isLetter : px_nm M_X12_isLetter 1 := ⟨nc_RX12.1, nc_RX12.2, by decide +kernel⟩
abbrev M_X12_wordOf : px_M := (yX12_wordOf, cX12_wordOf, 2, some .int, 0, 0, 0, 0, fun _ _ _ => True)
theorem nm_X12_wordOf : px_nm M_X12_wordOf 1 := ⟨nc_RX12.1, nc_RX12.2, by decide +kernel⟩
abbrev M_X12_next : px_M := (yX12_next, cX12_next, 5, none, 2, 45, 0, 0, fun _ _ _ => True)
theorem nm_X12_next : px_nm M_X12_next 0 := ⟨nc_RX12.1, nc_RX12.2, by decide +kernel⟩
abbrev M_X12_isSign : px_M := (yX12_isSign, cX12_isSign, 2, some .boolean, 0, 0, 0, 0, fun _ _ _ => True)
theorem nm_X12_isSign : px_nm M_X12_isSign 1 := ⟨nc_RX12.1, nc_RX12.2, by decide +kernel⟩
abbrev M_X12_errs : px_M := (yX12_errs, cX12_errs, 2, none, 0, 0, 0, 0, fun _ _ _ => True)
theorem nm_X12_errs : px_nm M_X12_errs 1 := ⟨nc_RX12.1, nc_RX12.2, by decide +kernel⟩
abbrev M_X12_emits : px_M := (yX12_emits, cX12_emits, 3, some .int, 0, 0, 0, 0, fun _ _ _ => True)
theorem nm_X12_emits : px_nm M_X12_emits 2 := ⟨nc_RX12.1, nc_RX12.2, by decide +kernel⟩
abbrev M_X12_opens : px_M := (yX12_opens, cX12_opens, 3, none, 3, 69, 0, 0, fun _ _ _ => True)
theorem nm_X12_opens : px_nm M_X12_opens 2 := ⟨nc_RX12.1, nc_RX12.2, by decide +kernel⟩
abbrev M_X12_def : px_M := (yX12_def, cX12_def, 2, none, 4, 91, 0, 0, fun _ _ _ => True)
theorem nm_X12_def : px_nm M_X12_def 0 := ⟨nc_RX12.1, nc_RX12.2, by decide +kernel⟩
abbrev M_X12_closesBrace : px_M := (yX12_closesBrace, cX12_closesBrace, 4, none, 3, 69, 0, 0, fun _ _ _ => True)
theorem nm_X12_closesBrace : px_nm M_X12_closesBrace 0 := ⟨nc_RX12.1, nc_RX12.2, by decide +kernel⟩
abbrev M_X12_stepIsOver : px_M := (yX12_stepIsOver, cX12_stepIsOver, 1, none, 3, 69, 0, 0, fun _ _ _ => True)
theorem nm_X12_stepIsOver : px_nm M_X12_stepIsOver 0 := ⟨nc_RX12.1, nc_RX12.2, by decide +kernel⟩
abbrev M_X12_numbered : px_M := (yX12_numbered, cX12_numbered, 5, none, 4, 91, 0, 0, fun _ _ _ => True)
theorem nm_X12_numbered : px_nm M_X12_numbered 1 := ⟨nc_RX12.1, nc_RX12.2, by decide +kernel⟩
abbrev M_X12_step : px_M := (yX12_step, cX12_step, 3, none, 5, 115, 0, 0, fun _ _ _ => True)
theorem nm_X12_step : px_nm M_X12_step 0 := ⟨nc_RX12.1, nc_RX12.2, by decide +kernel⟩
abbrev M_X12_way : px_M := (yX12_way, cX12_way, 4, some .int, 6, 137, 0, 0, fun _ _ _ => True)
theorem nm_X12_way : px_nm M_X12_way 1 := ⟨nc_RX12.1, nc_RX12.2, by decide +kernel⟩
abbrev M_X12_fault : px_M := (yX12_fault, cX12_fault, 2, some .int, 0, 0, 0, 0, fun _ _ _ => True)
theorem nm_X12_fault : px_nm M_X12_fault 1 := ⟨nc_RX12.1, nc_RX12.2, by decide +kernel⟩
abbrev M_X12_tools : px_M := (yX12_tools, cX12_tools, 6, some .boolean, 1, 25, 0, 0, fun _ _ _ => True)
theorem nm_X12_tools : px_nm M_X12_tools 5 := ⟨nc_RX12.1, nc_RX12.2, by decide +kernel⟩
abbrev M_X12_along : px_M := (yX12_along, cX12_along, 4, some .int, 0, 0, 0, 0, fun _ _ _ => True)
theorem nm_X12_along : px_nm M_X12_along 1 := ⟨nc_RX12.1, nc_RX12.2, by decide +kernel⟩
abbrev M_X12_up : px_M := (yX12_up, cX12_up, 4, some .long, 0, 0, 0, 0, fun _ _ _ => True)
theorem nm_X12_up : px_nm M_X12_up 2 := ⟨nc_RX12.1, nc_RX12.2, by decide +kernel⟩
abbrev M_X12_size : px_M := (yX12_size, cX12_size, 1, some .int, 0, 0, 0, 0, fun _ _ _ => True)
theorem nm_X12_size : px_nm M_X12_size 1 := ⟨nc_RX12.1, nc_RX12.2, by decide +kernel⟩
abbrev M_X12_goesOn : px_M := (yX12_goesOn, cX12_goesOn, 8, none, 1, 23, 0, 0, fun _ _ _ => True)
theorem nm_X12_goesOn : px_nm M_X12_goesOn 1 := ⟨nc_RX12.1, nc_RX12.2, by decide +kernel⟩
abbrev M_X12_does : px_M := (yX12_does, cX12_does, 3, none, 2, 50, 0, 0, fun _ _ _ => True)
theorem nm_X12_does : px_nm M_X12_does 2 := ⟨nc_RX12.1, nc_RX12.2, by decide +kernel⟩
abbrev M_X12_isBeyond : px_M := (yX12_isBeyond, cX12_isBeyond, 3, some .boolean, 0, 0, 0, 0, fun _ _ _ => True)
theorem nm_X12_isBeyond : px_nm M_X12_isBeyond 0 := ⟨nc_RX12.1, nc_RX12.2, by decide +kernel⟩
abbrev M_X12_runs : px_M := (yX12_runs, cX12_runs, 6, some .boolean, 3, 72, 0, 0, fun _ _ _ => True)
theorem nm_X12_runs : px_nm M_X12_runs 2 := ⟨nc_RX12.1, nc_RX12.2, by decide +kernel⟩
abbrev M_X12_isWay : px_M := (yX12_isWay, cX12_isWay, 2, some .boolean, 1, 25, 0, 0, fun _ _ _ => True)
theorem nm_X12_isWay : px_nm M_X12_isWay 1 := ⟨nc_RX12.1, nc_RX12.2, by decide +kernel⟩
abbrev M_X12_run : px_M := (yX12_run, cX12_run, 4, some .int, 4, 97, 0, 0, fun _ _ _ => True)
theorem nm_X12_run : px_nm M_X12_run 3 := ⟨nc_RX12.1, nc_RX12.2, by decide +kernel⟩
abbrev M_X12_isFirst : px_M := (yX12_isFirst, cX12_isFirst, 1, some .boolean, 1, 25, 0, 0, fun _ _ _ => True)
theorem nm_X12_isFirst : px_nm M_X12_isFirst 1 := ⟨nc_RX12.1, nc_RX12.2, by decide +kernel⟩
abbrev M_X12_runsBoth : px_M := (yX12_runsBoth, cX12_runsBoth, 4, none, 4, 97, 0, 0, fun _ _ _ => True)
theorem nm_X12_runsBoth : px_nm M_X12_runsBoth 2 := ⟨nc_RX12.1, nc_RX12.2, by decide +kernel⟩
abbrev M_X12_meets : px_M := (yX12_meets, cX12_meets, 8, some .long, 3, 72, 0, 0, fun _ _ _ => True)
theorem nm_X12_meets : px_nm M_X12_meets 4 := ⟨nc_RX12.1, nc_RX12.2, by decide +kernel⟩
abbrev M_X12_areAsked : px_M := (yX12_areAsked, cX12_areAsked, 5, some .boolean, 2, 46, 0, 0, fun _ _ _ => True)
theorem nm_X12_areAsked : px_nm M_X12_areAsked 4 := ⟨nc_RX12.1, nc_RX12.2, by decide +kernel⟩
abbrev M_X12_meeting : px_M := (yX12_meeting, cX12_meeting, 7, some .int, 5, 120, 0, 0, fun _ _ _ => True)
theorem nm_X12_meeting : px_nm M_X12_meeting 6 := ⟨nc_RX12.1, nc_RX12.2, by decide +kernel⟩
abbrev M_X12_there : px_M := (yX12_there, cX12_there, 4, some .boolean, 2, 45, 0, 0, fun _ _ _ => True)
theorem nm_X12_there : px_nm M_X12_there 3 := ⟨nc_RX12.1, nc_RX12.2, by decide +kernel⟩
abbrev M_X12_fits : px_M := (yX12_fits, cX12_fits, 12, some .int, 5, 120, 0, 0, fun _ _ _ => True)
theorem nm_X12_fits : px_nm M_X12_fits 4 := ⟨nc_RX12.1, nc_RX12.2, by decide +kernel⟩
abbrev M_X12_ways : px_M := (yX12_ways, cX12_ways, 9, some .int, 6, 151, 0, 0, fun _ _ _ => True)
theorem nm_X12_ways : px_nm M_X12_ways 5 := ⟨nc_RX12.1, nc_RX12.2, by decide +kernel⟩
abbrev M_X12_seek : px_M := (yX12_seek, cX12_seek, 7, some .boolean, 1, 25, 0, 0, fun _ _ _ => True)
theorem nm_X12_seek : px_nm M_X12_seek 6 := ⟨nc_RX12.1, nc_RX12.2, by decide +kernel⟩
abbrev M_X12_off : px_M := (yX12_off, cX12_off, 5, some .int, 0, 0, 0, 0, fun _ _ _ => True)
theorem nm_X12_off : px_nm M_X12_off 3 := ⟨nc_RX12.1, nc_RX12.2, by decide +kernel⟩
abbrev M_X12_chance : px_M := (yX12_chance, cX12_chance, 14, some .long, 1, 25, 0, 0, fun _ _ _ => True)
theorem nm_X12_chance : px_nm M_X12_chance 3 := ⟨nc_RX12.1, nc_RX12.2, by decide +kernel⟩
abbrev M_X12_detour : px_M := (yX12_detour, cX12_detour, 11, some .int, 1, 25, 0, 0, fun _ _ _ => True)
theorem nm_X12_detour : px_nm M_X12_detour 3 := ⟨nc_RX12.1, nc_RX12.2, by decide +kernel⟩
abbrev M_X12_table : px_M := (yX12_table, cX12_table, 3, some .boolean, 1, 25, 0, 0, fun _ _ _ => True)
theorem nm_X12_table : px_nm M_X12_table 2 := ⟨nc_RX12.1, nc_RX12.2, by decide +kernel⟩
abbrev M_X12_repair : px_M := (yX12_repair, cX12_repair, 4, some .int, 2, 47, 0, 0, fun _ _ _ => True)
theorem nm_X12_repair : px_nm M_X12_repair 3 := ⟨nc_RX12.1, nc_RX12.2, by decide +kernel⟩
abbrev M_X12_lime : px_M := (yX12_lime, cX12_lime, 2, some .boolean, 1, 25, 0, 0, fun _ _ _ => True)
theorem nm_X12_lime : px_nm M_X12_lime 1 := ⟨nc_RX12.1, nc_RX12.2, by decide +kernel⟩
abbrev M_X12_widthOf : px_M := (yX12_widthOf, cX12_widthOf, 8, some .int, 0, 0, 0, 0, fun _ _ _ => True)
theorem nm_X12_widthOf : px_nm M_X12_widthOf 4 := ⟨nc_RX12.1, nc_RX12.2, by decide +kernel⟩
abbrev M_X12_down : px_M := (yX12_down, cX12_down, 4, some .long, 0, 0, 0, 0, fun _ _ _ => True)
theorem nm_X12_down : px_nm M_X12_down 2 := ⟨nc_RX12.1, nc_RX12.2, by decide +kernel⟩
abbrev M_X12_lets : px_M := (yX12_lets, cX12_lets, 5, some .int, 0, 0, 0, 0, fun _ _ _ => True)
theorem nm_X12_lets : px_nm M_X12_lets 2 := ⟨nc_RX12.1, nc_RX12.2, by decide +kernel⟩
abbrev M_X12_isFlow : px_M := (yX12_isFlow, cX12_isFlow, 7, some .boolean, 3, 72, 0, 0, fun _ _ _ => True)
theorem nm_X12_isFlow : px_nm M_X12_isFlow 3 := ⟨nc_RX12.1, nc_RX12.2, by decide +kernel⟩
abbrev M_X12_letsBy : px_M := (yX12_letsBy, cX12_letsBy, 9, some .int, 1, 27, 0, 0, fun _ _ _ => True)
theorem nm_X12_letsBy : px_nm M_X12_letsBy 5 := ⟨nc_RX12.1, nc_RX12.2, by decide +kernel⟩
abbrev M_X12_narrowest : px_M := (yX12_narrowest, cX12_narrowest, 7, some .int, 2, 55, 0, 0, fun _ _ _ => True)
theorem nm_X12_narrowest : px_nm M_X12_narrowest 4 := ⟨nc_RX12.1, nc_RX12.2, by decide +kernel⟩
abbrev M_X12_flow : px_M := (yX12_flow, cX12_flow, 5, some .int, 4, 98, 0, 0, fun _ _ _ => True)
theorem nm_X12_flow : px_nm M_X12_flow 4 := ⟨nc_RX12.1, nc_RX12.2, by decide +kernel⟩
abbrev M_X12_narrow : px_M := (yX12_narrow, cX12_narrow, 4, some .int, 4, 98, 0, 0, fun _ _ _ => True)
theorem nm_X12_narrow : px_nm M_X12_narrow 3 := ⟨nc_RX12.1, nc_RX12.2, by decide +kernel⟩
abbrev M_X12_about : px_M := (yX12_about, cX12_about, 4, some .int, 1, 25, 0, 0, fun _ _ _ => True)
theorem nm_X12_about : px_nm M_X12_about 1 := ⟨nc_RX12.1, nc_RX12.2, by decide +kernel⟩
abbrev M_J9_floorDiv_f86c9 : px_M := (yJ9_floorDiv_f86c9, cJ9_floorDiv_f86c9, 6, some .long, 0, 0, 0, 0, fun _ _ _ => True)
theorem nm_J9_floorDiv_f86c9 : px_nm M_J9_floorDiv_f86c9 2 := ⟨nc_RJ9.1, nc_RJ9.2, by decide +kernel⟩
theorem pl_J9_floorDiv_f86c9 : plainFor yJ9_floorDiv_f86c9 = true := by decide +kernel
abbrev M_J9_abs_0f7a4 : px_M := (yJ9_abs_0f7a4, cJ9_abs_0f7a4, 1, some .int, 0, 0, 0, 0, fun _ _ _ => True)
theorem nm_J9_abs_0f7a4 : px_nm M_J9_abs_0f7a4 1 := ⟨nc_RJ9.1, nc_RJ9.2, by decide +kernel⟩
theorem pl_J9_abs_0f7a4 : plainFor yJ9_abs_0f7a4 = true := by decide +kernel
abbrev M_J9_abs_067f4 : px_M := (yJ9_abs_067f4, cJ9_abs_067f4, 2, some .long, 0, 0, 0, 0, fun _ _ _ => True)
theorem nm_J9_abs_067f4 : px_nm M_J9_abs_067f4 1 := ⟨nc_RJ9.1, nc_RJ9.2, by decide +kernel⟩
theorem pl_J9_abs_067f4 : plainFor yJ9_abs_067f4 = true := by decide +kernel
abbrev M_J9_max_7cf53 : px_M := (yJ9_max_7cf53, cJ9_max_7cf53, 2, some .int, 0, 0, 0, 0, fun _ _ _ => True)
theorem nm_J9_max_7cf53 : px_nm M_J9_max_7cf53 2 := ⟨nc_RJ9.1, nc_RJ9.2, by decide +kernel⟩
theorem pl_J9_max_7cf53 : plainFor yJ9_max_7cf53 = true := by decide +kernel
abbrev M_J9_max_f86c9 : px_M := (yJ9_max_f86c9, cJ9_max_f86c9, 4, some .long, 0, 0, 0, 0, fun _ _ _ => True)
theorem nm_J9_max_f86c9 : px_nm M_J9_max_f86c9 2 := ⟨nc_RJ9.1, nc_RJ9.2, by decide +kernel⟩
theorem pl_J9_max_f86c9 : plainFor yJ9_max_f86c9 = true := by decide +kernel
abbrev M_J9_min_7cf53 : px_M := (yJ9_min_7cf53, cJ9_min_7cf53, 2, some .int, 0, 0, 0, 0, fun _ _ _ => True)
theorem nm_J9_min_7cf53 : px_nm M_J9_min_7cf53 2 := ⟨nc_RJ9.1, nc_RJ9.2, by decide +kernel⟩
theorem pl_J9_min_7cf53 : plainFor yJ9_min_7cf53 = true := by decide +kernel
abbrev M_J9_min_f86c9 : px_M := (yJ9_min_f86c9, cJ9_min_f86c9, 4, some .long, 0, 0, 0, 0, fun _ _ _ => True)
theorem nm_J9_min_f86c9 : px_nm M_J9_min_f86c9 2 := ⟨nc_RJ9.1, nc_RJ9.2, by decide +kernel⟩
theorem pl_J9_min_f86c9 : plainFor yJ9_min_f86c9 = true := by decide +kernel
abbrev M_J0_length_8abf5 : px_M := (yJ0_length_8abf5, cJ0_length_8abf5, 1, some .int, 1, 20, 0, 0, fun _ _ _ => True)
theorem nm_J0_length_8abf5 : px_nm M_J0_length_8abf5 0 := ⟨nc_RJ0.1, nc_RJ0.2, by decide +kernel⟩
theorem pl_J0_length_8abf5 : plainFor yJ0_length_8abf5 = true := by decide +kernel
abbrev M_J0_charAt_5068e : px_M := (yJ0_charAt_5068e, cJ0_charAt_5068e, 2, some .char, 4, 85, 0, 0, fun _ _ _ => True)
theorem nm_J0_charAt_5068e : px_nm M_J0_charAt_5068e 1 := ⟨nc_RJ0.1, nc_RJ0.2, by decide +kernel⟩
theorem pl_J0_charAt_5068e : plainFor yJ0_charAt_5068e = true := by decide +kernel
abbrev M_J0_coder_7d493 : px_M := (yJ0_coder_7d493, cJ0_coder_7d493, 1, some .byte, 0, 0, 0, 0, fun _ _ _ => True)
theorem nm_J0_coder_7d493 : px_nm M_J0_coder_7d493 0 := ⟨nc_RJ0.1, nc_RJ0.2, by decide +kernel⟩
theorem pl_J0_coder_7d493 : plainFor yJ0_coder_7d493 = true := by decide +kernel
abbrev M_J0_isLatin1_aae02 : px_M := (yJ0_isLatin1_aae02, cJ0_isLatin1_aae02, 1, some .boolean, 0, 0, 0, 0, fun _ _ _ => True)
theorem nm_J0_isLatin1_aae02 : px_nm M_J0_isLatin1_aae02 0 := ⟨nc_RJ0.1, nc_RJ0.2, by decide +kernel⟩
theorem pl_J0_isLatin1_aae02 : plainFor yJ0_isLatin1_aae02 = true := by decide +kernel
abbrev M_J0_checkIndex_df160 : px_M := (yJ0_checkIndex_df160, cJ0_checkIndex_df160, 2, none, 1, 22, 0, 0, fun _ _ _ => True)
theorem nm_J0_checkIndex_df160 : px_nm M_J0_checkIndex_df160 2 := ⟨nc_RJ0.1, nc_RJ0.2, by decide +kernel⟩
theorem pl_J0_checkIndex_df160 : plainFor yJ0_checkIndex_df160 = true := by decide +kernel
abbrev M_J1_charAt_3b067 : px_M := (yJ1_charAt_3b067, cJ1_charAt_3b067, 2, some .char, 2, 43, 0, 0, fun _ _ _ => True)
theorem nm_J1_charAt_3b067 : px_nm M_J1_charAt_3b067 2 := ⟨nc_RJ1.1, nc_RJ1.2, by decide +kernel⟩
theorem pl_J1_charAt_3b067 : plainFor yJ1_charAt_3b067 = true := by decide +kernel
abbrev M_J2_getChar_3b067 : px_M := (yJ2_getChar_3b067, cJ2_getChar_3b067, 2, some .char, 1, 20, 0, 0, fun _ _ _ => True)
theorem nm_J2_getChar_3b067 : px_nm M_J2_getChar_3b067 2 := ⟨nc_RJ2.1, nc_RJ2.2, by decide +kernel⟩
theorem pl_J2_getChar_3b067 : plainFor yJ2_getChar_3b067 = true := by decide +kernel
abbrev M_J2_length_9d52b : px_M := (yJ2_length_9d52b, cJ2_length_9d52b, 1, some .int, 0, 0, 0, 0, fun _ _ _ => True)
theorem nm_J2_length_9d52b : px_nm M_J2_length_9d52b 1 := ⟨nc_RJ2.1, nc_RJ2.2, by decide +kernel⟩
theorem pl_J2_length_9d52b : plainFor yJ2_length_9d52b = true := by decide +kernel
abbrev M_J2_charAt_3b067 : px_M := (yJ2_charAt_3b067, cJ2_charAt_3b067, 2, some .char, 3, 64, 0, 0, fun _ _ _ => True)
theorem nm_J2_charAt_3b067 : px_nm M_J2_charAt_3b067 2 := ⟨nc_RJ2.1, nc_RJ2.2, by decide +kernel⟩
theorem pl_J2_charAt_3b067 : plainFor yJ2_charAt_3b067 = true := by decide +kernel
abbrev M_J2_checkIndex_2214a : px_M := (yJ2_checkIndex_2214a, cJ2_checkIndex_2214a, 2, none, 2, 43, 0, 0, fun _ _ _ => True)
theorem nm_J2_checkIndex_2214a : px_nm M_J2_checkIndex_2214a 2 := ⟨nc_RJ2.1, nc_RJ2.2, by decide +kernel⟩
theorem pl_J2_checkIndex_2214a : plainFor yJ2_checkIndex_2214a = true := by decide +kernel
abbrev M_J3_checkIndex_8e157 : px_M := (yJ3_checkIndex_8e157, cJ3_checkIndex_8e157, 3, some .int, 0, 0, 0, 0, fun _ _ _ => True)
theorem nm_J3_checkIndex_8e157 : px_nm M_J3_checkIndex_8e157 3 := ⟨nc_RJ3.1, nc_RJ3.2, by decide +kernel⟩
theorem pl_J3_checkIndex_8e157 : plainFor yJ3_checkIndex_8e157 = true := by decide +kernel
theorem lk_11_9 : px_lIN RX11 9 M_X7_init "TunnelBook" := ⟨List.mem_of_getElem? (i := 0) rfl, px_i1 30 rfl rfl, px_i1 2 rfl rfl, px_i1 31 rfl rfl, rfl, rfl⟩
theorem lk_11_18 : px_lIN RX11 18 M_X1_init "TunnelBook" := ⟨List.mem_of_getElem? (i := 1) rfl, px_i1 68 rfl rfl, px_i1 3 rfl rfl, px_i1 69 rfl rfl, rfl, rfl⟩
theorem lk_11_28 : px_lIN RX11 28 M_X2_init "TunnelBook" := ⟨List.mem_of_getElem? (i := 2) rfl, px_i1 131 rfl rfl, px_i1 4 rfl rfl, px_i1 132 rfl rfl, rfl, rfl⟩
theorem lk_11_35 : px_lIN RX11 35 M_X8_init "TunnelBook" := ⟨List.mem_of_getElem? (i := 3) rfl, px_i1 151 rfl rfl, px_i1 5 rfl rfl, px_i1 152 rfl rfl, rfl, rfl⟩
theorem lk_11_42 : px_lI RX11 42 M_X4_init := ⟨px_i1 184 rfl rfl, px_i1 185 rfl rfl, px_i1 6 rfl rfl, px_i1 186 rfl rfl, rfl, rfl⟩
theorem lk_11_51 : px_lIN RX11 51 M_X5_init "TunnelBook" := ⟨List.mem_of_getElem? (i := 4) rfl, px_i2 30 rfl rfl, px_i1 8 rfl rfl, px_i2 31 rfl rfl, rfl, rfl⟩
theorem lk_11_58 : px_lI RX11 58 M_X3_init := ⟨px_i2 123 rfl rfl, px_i2 124 rfl rfl, px_i1 10 rfl rfl, px_i2 125 rfl rfl, rfl, rfl⟩
theorem lk_11_67 : px_lIN RX11 67 M_X6_init "TunnelBook" := ⟨List.mem_of_getElem? (i := 5) rfl, px_i2 149 rfl rfl, px_i1 11 rfl rfl, px_i2 150 rfl rfl, rfl, rfl⟩
theorem lk_11_74 : px_lI RX11 74 M_X0_init := ⟨px_i2 173 rfl rfl, px_i2 174 rfl rfl, px_i1 12 rfl rfl, px_i2 175 rfl rfl, rfl, rfl⟩
theorem lk_11_85 : px_lS RX11 85 M_X11_within := ⟨px_i2 230 rfl rfl, px_i2 231 rfl rfl, px_i1 1 rfl rfl, px_i2 232 rfl rfl⟩
theorem lk_11_89 : px_lV RX11 89 M_X7_addStation := ⟨px_i2 237 rfl rfl, px_i2 238 rfl rfl, px_i2 239 rfl rfl, px_i1 2 rfl rfl, px_i3 0 rfl rfl⟩
theorem lk_11_93 : px_lS RX11 93 M_X11_isAxis := ⟨px_i3 5 rfl rfl, px_i3 6 rfl rfl, px_i1 1 rfl rfl, px_i3 7 rfl rfl⟩
theorem lk_11_99 : px_lS RX11 99 M_X11_ordered := ⟨px_i3 10 rfl rfl, px_i3 11 rfl rfl, px_i1 1 rfl rfl, px_i3 12 rfl rfl⟩
theorem lk_11_103 : px_lV RX11 103 M_X7_has := ⟨px_i3 13 rfl rfl, px_i3 14 rfl rfl, px_i3 15 rfl rfl, px_i1 2 rfl rfl, px_i3 16 rfl rfl⟩
theorem lk_11_106 : px_lV RX11 106 M_X7_addSight := ⟨px_i3 17 rfl rfl, px_i3 18 rfl rfl, px_i3 19 rfl rfl, px_i1 2 rfl rfl, px_i3 20 rfl rfl⟩
theorem lk_11_110 : px_lS RX11 110 M_X11_isDay := ⟨px_i3 25 rfl rfl, px_i3 26 rfl rfl, px_i1 1 rfl rfl, px_i3 27 rfl rfl⟩
theorem lk_11_113 : px_lV RX11 113 M_X7_settle := ⟨px_i3 28 rfl rfl, px_i3 29 rfl rfl, px_i3 30 rfl rfl, px_i1 2 rfl rfl, px_i3 31 rfl rfl⟩
theorem lk_11_116 : px_lV RX11 116 M_X11_gap := ⟨px_i3 49 rfl rfl, px_i3 50 rfl rfl, px_i3 51 rfl rfl, px_i1 1 rfl rfl, px_i3 52 rfl rfl⟩
theorem lk_11_121 : px_lV RX11 121 M_X7_bound := ⟨px_i3 54 rfl rfl, px_i3 55 rfl rfl, px_i3 56 rfl rfl, px_i1 2 rfl rfl, px_i3 57 rfl rfl⟩
theorem lk_11_124 : px_lV RX11 124 M_X7_culprit := ⟨px_i3 66 rfl rfl, px_i3 67 rfl rfl, px_i3 68 rfl rfl, px_i1 2 rfl rfl, px_i3 69 rfl rfl⟩
theorem lk_11_128 : px_lV RX11 128 M_X11_galleryOf := ⟨px_i3 74 rfl rfl, px_i3 76 rfl rfl, px_j1 3 rfl, px_i1 1 rfl rfl, px_i3 77 rfl rfl⟩
theorem lk_11_132 : px_lV RX11 132 M_X1_addReach := ⟨px_i3 78 rfl rfl, px_i3 79 rfl rfl, px_i3 80 rfl rfl, px_i1 3 rfl rfl, px_i3 81 rfl rfl⟩
theorem lk_11_135 : px_lV RX11 135 M_X1_openAt := ⟨px_i3 93 rfl rfl, px_i3 94 rfl rfl, px_i3 95 rfl rfl, px_i1 3 rfl rfl, px_i3 96 rfl rfl⟩
theorem lk_11_138 : px_lV RX11 138 M_X11_marks := ⟨px_i3 101 rfl rfl, px_i3 103 rfl rfl, px_j1 5 rfl, px_i1 1 rfl rfl, px_i3 104 rfl rfl⟩
theorem lk_11_141 : px_lV RX11 141 M_X1_addMark := ⟨px_i3 105 rfl rfl, px_i3 106 rfl rfl, px_i3 107 rfl rfl, px_i1 3 rfl rfl, px_i3 108 rfl rfl⟩
theorem lk_11_144 : px_lV RX11 144 M_X1_dayOf := ⟨px_i3 123 rfl rfl, px_i3 124 rfl rfl, px_i3 125 rfl rfl, px_i1 3 rfl rfl, px_i3 126 rfl rfl⟩
theorem lk_11_148 : px_lV RX11 148 M_X1_daysFrom := ⟨px_i3 135 rfl rfl, px_i3 136 rfl rfl, px_i3 137 rfl rfl, px_i1 3 rfl rfl, px_i3 138 rfl rfl⟩
theorem lk_11_152 : px_lV RX11 152 M_X1_hasReach := ⟨px_i3 143 rfl rfl, px_i3 144 rfl rfl, px_i3 145 rfl rfl, px_i1 3 rfl rfl, px_i3 146 rfl rfl⟩
theorem lk_11_156 : px_lV RX11 156 M_X1_holesAgree := ⟨px_i3 148 rfl rfl, px_i3 149 rfl rfl, px_i3 150 rfl rfl, px_i1 3 rfl rfl, px_i3 151 rfl rfl⟩
theorem lk_11_159 : px_lV RX11 159 M_X2_addCount := ⟨px_i3 157 rfl rfl, px_i3 158 rfl rfl, px_i3 159 rfl rfl, px_i1 4 rfl rfl, px_i3 160 rfl rfl⟩
theorem lk_11_171 : px_lV RX11 171 M_X8_hasRoom := ⟨px_i3 174 rfl rfl, px_i3 175 rfl rfl, px_i3 176 rfl rfl, px_i1 5 rfl rfl, px_i3 177 rfl rfl⟩
theorem lk_11_174 : px_lV RX11 174 M_X8_append := ⟨px_i3 178 rfl rfl, px_i3 179 rfl rfl, px_i3 180 rfl rfl, px_i1 5 rfl rfl, px_i3 181 rfl rfl⟩
theorem lk_11_181 : px_lV RX11 181 M_X5_hasPlace := ⟨px_i3 190 rfl rfl, px_i3 191 rfl rfl, px_i3 192 rfl rfl, px_i1 8 rfl rfl, px_i3 193 rfl rfl⟩
theorem lk_11_184 : px_lV RX11 184 M_X4_read := ⟨px_i3 194 rfl rfl, px_i3 195 rfl rfl, px_i3 196 rfl rfl, px_i1 6 rfl rfl, px_i3 197 rfl rfl⟩
theorem lk_11_192 : px_lV RX11 192 M_X5_replace := ⟨px_i4 125 rfl rfl, px_i4 126 rfl rfl, px_i4 127 rfl rfl, px_i1 8 rfl rfl, px_i4 128 rfl rfl⟩
theorem lk_11_209 : px_lV RX11 209 M_X9_take := ⟨px_i4 140 rfl rfl, px_i4 141 rfl rfl, px_i4 142 rfl rfl, px_i1 9 rfl rfl, px_i4 143 rfl rfl⟩
theorem lk_11_215 : px_lV RX11 215 M_X5_forgetAll := ⟨px_i4 144 rfl rfl, px_i4 145 rfl rfl, px_i4 146 rfl rfl, px_i1 8 rfl rfl, px_i4 147 rfl rfl⟩
theorem lk_11_218 : px_lS RX11 218 M_X11_isHeading := ⟨px_i4 152 rfl rfl, px_i4 153 rfl rfl, px_i1 1 rfl rfl, px_i4 154 rfl rfl⟩
theorem lk_11_221 : px_lV RX11 221 M_X5_make := ⟨px_i4 155 rfl rfl, px_i4 156 rfl rfl, px_i4 157 rfl rfl, px_i1 8 rfl rfl, px_i4 158 rfl rfl⟩
theorem lk_11_224 : px_lV RX11 224 M_X5_answer := ⟨px_i4 224 rfl rfl, px_i4 225 rfl rfl, px_i4 226 rfl rfl, px_i1 8 rfl rfl, px_i4 227 rfl rfl⟩
theorem lk_11_228 : px_lV RX11 228 M_X11_canMeet := ⟨px_i4 233 rfl rfl, px_i4 235 rfl rfl, px_j3 5 rfl, px_i1 1 rfl rfl, px_i4 236 rfl rfl⟩
theorem lk_11_231 : px_lV RX11 231 M_X3_look := ⟨px_i4 237 rfl rfl, px_i4 238 rfl rfl, px_i4 239 rfl rfl, px_i1 10 rfl rfl, px_i5 0 rfl rfl⟩
theorem lk_11_235 : px_lV RX11 235 M_X3_bound := ⟨px_i5 2 rfl rfl, px_i5 3 rfl rfl, px_i5 4 rfl rfl, px_i1 10 rfl rfl, px_i5 5 rfl rfl⟩
theorem lk_11_238 : px_lV RX11 238 M_X3_seen := ⟨px_i5 13 rfl rfl, px_i5 14 rfl rfl, px_i5 15 rfl rfl, px_i1 10 rfl rfl, px_i5 16 rfl rfl⟩
theorem lk_11_241 : px_lV RX11 241 M_X3_judge := ⟨px_i5 21 rfl rfl, px_i5 22 rfl rfl, px_i5 23 rfl rfl, px_i1 10 rfl rfl, px_i5 24 rfl rfl⟩
theorem lk_11_244 : px_lV RX11 244 M_X3_pairs := ⟨px_i5 30 rfl rfl, px_i5 31 rfl rfl, px_i5 32 rfl rfl, px_i1 10 rfl rfl, px_i5 33 rfl rfl⟩
theorem lk_11_247 : px_lV RX11 247 M_X6_weigh := ⟨px_i5 40 rfl rfl, px_i5 41 rfl rfl, px_i5 42 rfl rfl, px_i1 11 rfl rfl, px_i5 43 rfl rfl⟩
theorem lk_11_250 : px_lV RX11 250 M_X6_hear := ⟨px_i5 44 rfl rfl, px_i5 45 rfl rfl, px_i5 46 rfl rfl, px_i1 11 rfl rfl, px_i5 47 rfl rfl⟩
theorem lk_11_255 : px_lV RX11 255 M_X6_share := ⟨px_i5 53 rfl rfl, px_i5 54 rfl rfl, px_i5 55 rfl rfl, px_i1 11 rfl rfl, px_i5 56 rfl rfl⟩
theorem lk_11_259 : px_lV RX11 259 M_X6_roundabout := ⟨px_i5 92 rfl rfl, px_i5 93 rfl rfl, px_i5 94 rfl rfl, px_i1 11 rfl rfl, px_i5 95 rfl rfl⟩
theorem lk_11_262 : px_lV RX11 262 M_X0_setRow := ⟨px_i5 111 rfl rfl, px_i5 112 rfl rfl, px_i5 113 rfl rfl, px_i1 12 rfl rfl, px_i5 114 rfl rfl⟩
theorem lk_11_266 : px_lV RX11 266 M_X11_repairs := ⟨px_i5 120 rfl rfl, px_i5 122 rfl rfl, px_j3 13 rfl, px_i1 1 rfl rfl, px_i5 123 rfl rfl⟩
theorem lk_11_269 : px_lV RX11 269 M_X1_addRepair := ⟨px_i5 124 rfl rfl, px_i5 125 rfl rfl, px_i5 126 rfl rfl, px_i1 3 rfl rfl, px_i5 127 rfl rfl⟩
theorem lk_11_275 : px_lV RX11 275 M_X0_tightest := ⟨px_i5 136 rfl rfl, px_i5 137 rfl rfl, px_i5 138 rfl rfl, px_i1 12 rfl rfl, px_i5 139 rfl rfl⟩
theorem lk_11_291 : px_lV RX11 291 M_X5_toldWays := ⟨px_i5 170 rfl rfl, px_i5 171 rfl rfl, px_i5 172 rfl rfl, px_i1 8 rfl rfl, px_i5 173 rfl rfl⟩
theorem lk_11_294 : px_lV RX11 294 M_X0_rowOf := ⟨px_i5 174 rfl rfl, px_i5 175 rfl rfl, px_i5 176 rfl rfl, px_i1 12 rfl rfl, px_i5 177 rfl rfl⟩
theorem lk_0_26 : px_lSN RX0 26 M_X11_within "TunnelBook" := ⟨List.mem_of_getElem? (i := 6) rfl, px_i2 231 rfl rfl, px_i1 1 rfl rfl, px_i2 232 rfl rfl⟩
theorem lk_0_35 : px_lV RX0 35 M_X0_letThrough := ⟨px_i5 140 rfl rfl, px_i5 142 rfl rfl, px_j3 14 rfl, px_i1 12 rfl rfl, px_i5 143 rfl rfl⟩
theorem lk_0_39 : px_lV RX0 39 M_X1_hasReach := ⟨px_i5 144 rfl rfl, px_i3 144 rfl rfl, px_i3 145 rfl rfl, px_i1 3 rfl rfl, px_i3 146 rfl rfl⟩
theorem lk_0_52 : px_lV RX0 52 M_X7_bound := ⟨px_i5 145 rfl rfl, px_i3 55 rfl rfl, px_i3 56 rfl rfl, px_i1 2 rfl rfl, px_i3 57 rfl rfl⟩
theorem lk_0_61 : px_lS RX0 61 M_J9_floorDiv_f86c9 := ⟨px_i5 148 rfl rfl, px_i5 149 rfl rfl, px_i1 14 rfl rfl, px_i5 150 rfl rfl⟩
theorem lk_0_67 : px_lV RX0 67 M_X1_limeYears := ⟨px_i5 151 rfl rfl, px_i5 152 rfl rfl, px_i5 153 rfl rfl, px_i1 3 rfl rfl, px_i5 154 rfl rfl⟩
theorem lk_0_74 : px_lS RX0 74 M_J9_max_7cf53 := ⟨px_i5 155 rfl rfl, px_i3 114 rfl rfl, px_i1 14 rfl rfl, px_i3 115 rfl rfl⟩
theorem lk_0_78 : px_lS RX0 78 M_X0_classOf := ⟨px_i5 156 rfl rfl, px_i5 157 rfl rfl, px_i1 12 rfl rfl, px_i5 158 rfl rfl⟩
theorem lk_0_86 : px_lS RX0 86 M_J9_min_f86c9 := ⟨px_i5 161 rfl rfl, px_i4 209 rfl rfl, px_i1 14 rfl rfl, px_i4 210 rfl rfl⟩
theorem lk_1_62 : px_lSN RX1 62 M_X11_ordered "TunnelBook" := ⟨List.mem_of_getElem? (i := 7) rfl, px_i3 11 rfl rfl, px_i1 1 rfl rfl, px_i3 12 rfl rfl⟩
theorem lk_1_66 : px_lSN RX1 66 M_X11_within "TunnelBook" := ⟨List.mem_of_getElem? (i := 8) rfl, px_i2 231 rfl rfl, px_i1 1 rfl rfl, px_i2 232 rfl rfl⟩
theorem lk_1_70 : px_lV RX1 70 M_X1_addPeg := ⟨px_i3 85 rfl rfl, px_i3 87 rfl rfl, px_j1 4 rfl, px_i1 3 rfl rfl, px_i3 88 rfl rfl⟩
theorem lk_1_74 : px_lV RX1 74 M_X1_hasPeg := ⟨px_i3 109 rfl rfl, px_i3 110 rfl rfl, px_i3 111 rfl rfl, px_i1 3 rfl rfl, px_i3 112 rfl rfl⟩
theorem lk_1_78 : px_lS RX1 78 M_J9_max_7cf53 := ⟨px_i3 113 rfl rfl, px_i3 114 rfl rfl, px_i1 14 rfl rfl, px_i3 115 rfl rfl⟩
theorem lk_1_84 : px_lS RX1 84 M_J9_min_7cf53 := ⟨px_i3 116 rfl rfl, px_i3 117 rfl rfl, px_i1 14 rfl rfl, px_i3 118 rfl rfl⟩
theorem lk_1_87 : px_lV RX1 87 M_X1_dig := ⟨px_i3 127 rfl rfl, px_i3 129 rfl rfl, px_j1 6 rfl, px_i1 3 rfl rfl, px_i3 130 rfl rfl⟩
theorem lk_1_91 : px_lV RX1 91 M_X1_hasReach := ⟨px_i3 152 rfl rfl, px_i3 144 rfl rfl, px_i3 145 rfl rfl, px_i1 3 rfl rfl, px_i3 146 rfl rfl⟩
theorem lk_2_22 : px_lSN RX2 22 M_X11_within "TunnelBook" := ⟨List.mem_of_getElem? (i := 9) rfl, px_i2 231 rfl rfl, px_i1 1 rfl rfl, px_i2 232 rfl rfl⟩
theorem lk_2_27 : px_lSN RX2 27 M_X11_ordered "TunnelBook" := ⟨List.mem_of_getElem? (i := 10) rfl, px_i3 11 rfl rfl, px_i1 1 rfl rfl, px_i3 12 rfl rfl⟩
theorem lk_2_31 : px_lS RX2 31 M_J9_max_7cf53 := ⟨px_i3 164 rfl rfl, px_i3 114 rfl rfl, px_i1 14 rfl rfl, px_i3 115 rfl rfl⟩
theorem lk_2_37 : px_lS RX2 37 M_J9_min_7cf53 := ⟨px_i3 165 rfl rfl, px_i3 117 rfl rfl, px_i1 14 rfl rfl, px_i3 118 rfl rfl⟩
theorem lk_3_32 : px_lSN RX3 32 M_X11_isAxis "TunnelBook" := ⟨List.mem_of_getElem? (i := 11) rfl, px_i3 6 rfl rfl, px_i1 1 rfl rfl, px_i3 7 rfl rfl⟩
theorem lk_3_36 : px_lV RX3 36 M_X7_bound := ⟨px_i5 1 rfl rfl, px_i3 55 rfl rfl, px_i3 56 rfl rfl, px_i1 2 rfl rfl, px_i3 57 rfl rfl⟩
theorem lk_3_43 : px_lV RX3 43 M_X5_answer := ⟨px_i5 8 rfl rfl, px_i4 225 rfl rfl, px_i4 226 rfl rfl, px_i1 8 rfl rfl, px_i4 227 rfl rfl⟩
theorem lk_3_49 : px_lV RX3 49 M_X3_bound := ⟨px_i5 25 rfl rfl, px_i5 3 rfl rfl, px_i5 4 rfl rfl, px_i1 10 rfl rfl, px_i5 5 rfl rfl⟩
theorem lk_3_52 : px_lV RX3 52 M_X5_make := ⟨px_i5 34 rfl rfl, px_i4 156 rfl rfl, px_i4 157 rfl rfl, px_i1 8 rfl rfl, px_i4 158 rfl rfl⟩
theorem lk_3_55 : px_lV RX3 55 M_X3_judge := ⟨px_i5 35 rfl rfl, px_i5 22 rfl rfl, px_i5 23 rfl rfl, px_i1 10 rfl rfl, px_i5 24 rfl rfl⟩
theorem lk_4_11 : px_lIN RX4 11 M_X10_init "TunnelBook" := ⟨List.mem_of_getElem? (i := 12) rfl, px_i1 191 rfl rfl, px_i1 7 rfl rfl, px_i1 192 rfl rfl, rfl, rfl⟩
theorem lk_4_68 : px_lV RX4 68 M_X8_cut := ⟨px_i3 198 rfl rfl, px_i3 199 rfl rfl, px_i3 200 rfl rfl, px_i1 5 rfl rfl, px_i3 201 rfl rfl⟩
theorem lk_4_71 : px_lV RX4 71 M_X4_begin := ⟨px_i3 224 rfl rfl, px_i3 226 rfl rfl, px_j1 10 rfl, px_i1 6 rfl rfl, px_i3 227 rfl rfl⟩
theorem lk_4_77 : px_lV RX4 77 M_X4_nextToken := ⟨px_i3 228 rfl rfl, px_i3 230 rfl rfl, px_j1 11 rfl, px_i1 6 rfl rfl, px_i3 231 rfl rfl⟩
theorem lk_4_80 : px_lV RX4 80 M_X4_closeBlock := ⟨px_i3 232 rfl rfl, px_i3 234 rfl rfl, px_j1 12 rfl, px_i1 6 rfl rfl, px_i3 235 rfl rfl⟩
theorem lk_4_83 : px_lV RX4 83 M_X4_readPart := ⟨px_i4 14 rfl rfl, px_i4 16 rfl rfl, px_j2 0 rfl, px_i1 6 rfl rfl, px_i4 17 rfl rfl⟩
theorem lk_4_86 : px_lV RX4 86 M_X4_fail := ⟨px_i3 237 rfl rfl, px_i3 239 rfl rfl, px_j1 13 rfl, px_i1 6 rfl rfl, px_i4 0 rfl rfl⟩
theorem lk_4_98 : px_lV RX4 98 M_X8_isWord := ⟨px_i4 19 rfl rfl, px_i4 20 rfl rfl, px_i4 21 rfl rfl, px_i1 5 rfl rfl, px_i4 22 rfl rfl⟩
theorem lk_4_102 : px_lV RX4 102 M_X4_readStep := ⟨px_i4 71 rfl rfl, px_i4 73 rfl rfl, px_j2 1 rfl, px_i1 6 rfl rfl, px_i4 74 rfl rfl⟩
theorem lk_4_115 : px_lV RX4 115 M_X4_readBareStep := ⟨px_i4 88 rfl rfl, px_i4 90 rfl rfl, px_j2 4 rfl, px_i1 6 rfl rfl, px_i4 91 rfl rfl⟩
theorem lk_4_122 : px_lV RX4 122 M_X4_readDo := ⟨px_i4 94 rfl rfl, px_i4 96 rfl rfl, px_j2 5 rfl, px_i1 6 rfl rfl, px_i4 97 rfl rfl⟩
theorem lk_4_127 : px_lV RX4 127 M_X4_readRepeat := ⟨px_i4 108 rfl rfl, px_i4 110 rfl rfl, px_j2 8 rfl, px_i1 6 rfl rfl, px_i4 111 rfl rfl⟩
theorem lk_4_132 : px_lV RX4 132 M_X4_readDef := ⟨px_i4 121 rfl rfl, px_i4 123 rfl rfl, px_j2 11 rfl, px_i1 6 rfl rfl, px_i4 124 rfl rfl⟩
theorem lk_4_135 : px_lV RX4 135 M_X4_takeNumber := ⟨px_i4 75 rfl rfl, px_i4 77 rfl rfl, px_j2 2 rfl, px_i1 6 rfl rfl, px_i4 78 rfl rfl⟩
theorem lk_4_139 : px_lV RX4 139 M_X4_take := ⟨px_i4 79 rfl rfl, px_i4 81 rfl rfl, px_j2 3 rfl, px_i1 6 rfl rfl, px_i4 82 rfl rfl⟩
theorem lk_4_142 : px_lV RX4 142 M_X10_add := ⟨px_i4 5 rfl rfl, px_i4 6 rfl rfl, px_i4 7 rfl rfl, px_i1 7 rfl rfl, px_i4 8 rfl rfl⟩
theorem lk_4_145 : px_lV RX4 145 M_X4_addSteps := ⟨px_i4 9 rfl rfl, px_i4 11 rfl rfl, px_j1 15 rfl, px_i1 6 rfl rfl, px_i4 12 rfl rfl⟩
theorem lk_4_148 : px_lV RX4 148 M_X4_takeLetter := ⟨px_i4 98 rfl rfl, px_i4 100 rfl rfl, px_j2 6 rfl, px_i1 6 rfl rfl, px_i4 101 rfl rfl⟩
theorem lk_4_152 : px_lV RX4 152 M_X4_takeOpening := ⟨px_i4 112 rfl rfl, px_i4 114 rfl rfl, px_j2 9 rfl, px_i1 6 rfl rfl, px_i4 115 rfl rfl⟩
theorem lk_4_155 : px_lV RX4 155 M_X4_openBlock := ⟨px_i4 116 rfl rfl, px_i4 118 rfl rfl, px_j2 10 rfl, px_i1 6 rfl rfl, px_i4 119 rfl rfl⟩
theorem lk_4_158 : px_lSN RX4 158 M_X11_within "TunnelBook" := ⟨List.mem_of_getElem? (i := 13) rfl, px_i2 231 rfl rfl, px_i1 1 rfl rfl, px_i2 232 rfl rfl⟩
theorem lk_4_162 : px_lV RX4 162 M_X4_closeDef := ⟨px_i4 1 rfl rfl, px_i4 3 rfl rfl, px_j1 14 rfl, px_i1 6 rfl rfl, px_i4 4 rfl rfl⟩
theorem lk_4_168 : px_lS RX4 168 M_J9_min_7cf53 := ⟨px_i4 13 rfl rfl, px_i3 117 rfl rfl, px_i1 14 rfl rfl, px_i3 118 rfl rfl⟩
theorem lk_4_174 : px_lV RX4 174 M_X4_letterHere := ⟨px_i4 102 rfl rfl, px_i4 104 rfl rfl, px_j2 7 rfl, px_i1 6 rfl rfl, px_i4 105 rfl rfl⟩
theorem lk_4_180 : px_lV RX4 180 M_X8_byteAt := ⟨px_i4 106 rfl rfl, px_i3 203 rfl rfl, px_i3 204 rfl rfl, px_i1 5 rfl rfl, px_i3 205 rfl rfl⟩
theorem lk_5_11 : px_lIN RX5 11 M_X9_init "TunnelBook" := ⟨List.mem_of_getElem? (i := 14) rfl, px_i2 36 rfl rfl, px_i1 9 rfl rfl, px_i2 37 rfl rfl, rfl, rfl⟩
theorem lk_5_32 : px_lV RX5 32 M_X5_hasPlace := ⟨px_i4 129 rfl rfl, px_i3 191 rfl rfl, px_i3 192 rfl rfl, px_i1 8 rfl rfl, px_i3 193 rfl rfl⟩
theorem lk_5_36 : px_lV RX5 36 M_X5_isTold := ⟨px_i4 159 rfl rfl, px_i4 160 rfl rfl, px_i4 161 rfl rfl, px_i1 8 rfl rfl, px_i4 162 rfl rfl⟩
theorem lk_5_39 : px_lIN RX5 39 M_X10_init "TunnelBook" := ⟨List.mem_of_getElem? (i := 15) rfl, px_i1 191 rfl rfl, px_i1 7 rfl rfl, px_i1 192 rfl rfl, rfl, rfl⟩
theorem lk_5_40 : px_lV RX5 40 M_X9_go := ⟨px_i4 163 rfl rfl, px_i4 164 rfl rfl, px_i4 165 rfl rfl, px_i1 9 rfl rfl, px_i4 166 rfl rfl⟩
theorem lk_5_44 : px_lV RX5 44 M_X5_keep := ⟨px_i4 219 rfl rfl, px_i4 221 rfl rfl, px_j3 4 rfl, px_i1 8 rfl rfl, px_i4 222 rfl rfl⟩
theorem lk_5_82 : px_lSN RX5 82 M_X11_within "TunnelBook" := ⟨List.mem_of_getElem? (i := 16) rfl, px_i2 231 rfl rfl, px_i1 1 rfl rfl, px_i2 232 rfl rfl⟩
theorem lk_6_32 : px_lV RX6 32 M_X6_startAt := ⟨px_i5 57 rfl rfl, px_i5 59 rfl rfl, px_j3 6 rfl, px_i1 11 rfl rfl, px_i5 60 rfl rfl⟩
theorem lk_6_36 : px_lV RX6 36 M_X6_clearNext := ⟨px_i5 61 rfl rfl, px_i5 63 rfl rfl, px_j3 7 rfl, px_i1 11 rfl rfl, px_i5 64 rfl rfl⟩
theorem lk_6_40 : px_lV RX6 40 M_X6_spread := ⟨px_i5 65 rfl rfl, px_i5 67 rfl rfl, px_j3 8 rfl, px_i1 11 rfl rfl, px_i5 68 rfl rfl⟩
theorem lk_6_44 : px_lV RX6 44 M_X6_swap := ⟨px_i5 75 rfl rfl, px_i5 77 rfl rfl, px_j3 10 rfl, px_i1 11 rfl rfl, px_i5 78 rfl rfl⟩
theorem lk_6_47 : px_lV RX6 47 M_X6_misses := ⟨px_i5 79 rfl rfl, px_i5 81 rfl rfl, px_j3 11 rfl, px_i1 11 rfl rfl, px_i5 82 rfl rfl⟩
theorem lk_6_51 : px_lS RX6 51 M_X6_commonDivisor := ⟨px_i5 84 rfl rfl, px_i5 85 rfl rfl, px_i1 11 rfl rfl, px_i5 86 rfl rfl⟩
theorem lk_6_57 : px_lV RX6 57 M_X6_prolong := ⟨px_i5 96 rfl rfl, px_i5 98 rfl rfl, px_j3 12 rfl, px_i1 11 rfl rfl, px_i5 99 rfl rfl⟩
theorem lk_6_61 : px_lS RX6 61 M_X6_better := ⟨px_i5 100 rfl rfl, px_i5 101 rfl rfl, px_i1 11 rfl rfl, px_i5 102 rfl rfl⟩
theorem lk_6_65 : px_lV RX6 65 M_X6_pulled := ⟨px_i5 69 rfl rfl, px_i5 71 rfl rfl, px_j3 9 rfl, px_i1 11 rfl rfl, px_i5 72 rfl rfl⟩
theorem lk_6_69 : px_lS RX6 69 M_J9_abs_0f7a4 := ⟨px_i5 83 rfl rfl, px_i4 202 rfl rfl, px_i1 14 rfl rfl, px_i4 203 rfl rfl⟩
theorem lk_6_75 : px_lS RX6 75 M_J9_max_f86c9 := ⟨px_i5 103 rfl rfl, px_i5 104 rfl rfl, px_i1 14 rfl rfl, px_i5 105 rfl rfl⟩
theorem lk_6_78 : px_lS RX6 78 M_J9_min_f86c9 := ⟨px_i5 106 rfl rfl, px_i4 209 rfl rfl, px_i1 14 rfl rfl, px_i4 210 rfl rfl⟩
theorem lk_6_81 : px_lS RX6 81 M_J9_max_7cf53 := ⟨px_i5 73 rfl rfl, px_i3 114 rfl rfl, px_i1 14 rfl rfl, px_i3 115 rfl rfl⟩
theorem lk_6_83 : px_lS RX6 83 M_J9_min_7cf53 := ⟨px_i5 74 rfl rfl, px_i3 117 rfl rfl, px_i1 14 rfl rfl, px_i3 118 rfl rfl⟩
theorem lk_7_41 : px_lV RX7 41 M_X7_settle := ⟨px_i3 58 rfl rfl, px_i3 29 rfl rfl, px_i3 30 rfl rfl, px_i1 2 rfl rfl, px_i3 31 rfl rfl⟩
theorem lk_7_46 : px_lV RX7 46 M_X7_has := ⟨px_i3 60 rfl rfl, px_i3 14 rfl rfl, px_i3 15 rfl rfl, px_i1 2 rfl rfl, px_i3 16 rfl rfl⟩
theorem lk_7_52 : px_lV RX7 52 M_X7_counts := ⟨px_i3 37 rfl rfl, px_i3 39 rfl rfl, px_j1 1 rfl, px_i1 2 rfl rfl, px_i3 40 rfl rfl⟩
theorem lk_7_56 : px_lV RX7 56 M_X7_shortenAll := ⟨px_i3 33 rfl rfl, px_i3 35 rfl rfl, px_j1 0 rfl, px_i1 2 rfl rfl, px_i3 36 rfl rfl⟩
theorem lk_7_59 : px_lV RX7 59 M_X7_shorten := ⟨px_i3 41 rfl rfl, px_i3 43 rfl rfl, px_j1 2 rfl, px_i1 2 rfl rfl, px_i3 44 rfl rfl⟩
theorem lk_8_32 : px_lV RX8 32 M_X8_byteAt := ⟨px_i3 202 rfl rfl, px_i3 203 rfl rfl, px_i3 204 rfl rfl, px_i1 5 rfl rfl, px_i3 205 rfl rfl⟩
theorem lk_8_36 : px_lS RX8 36 M_X8_kindOf := ⟨px_i3 206 rfl rfl, px_i3 207 rfl rfl, px_i1 5 rfl rfl, px_i3 208 rfl rfl⟩
theorem lk_8_39 : px_lV RX8 39 M_X8_goesOn := ⟨px_i3 210 rfl rfl, px_i3 212 rfl rfl, px_j1 7 rfl, px_i1 5 rfl rfl, px_i3 213 rfl rfl⟩
theorem lk_8_43 : px_lV RX8 43 M_X8_addToken := ⟨px_i3 214 rfl rfl, px_i3 216 rfl rfl, px_j1 8 rfl, px_i1 5 rfl rfl, px_i3 217 rfl rfl⟩
theorem lk_8_47 : px_lV RX8 47 M_X8_lengthen := ⟨px_i3 218 rfl rfl, px_i3 220 rfl rfl, px_j1 9 rfl, px_i1 5 rfl rfl, px_i3 221 rfl rfl⟩
theorem lk_8_51 : px_lSN RX8 51 M_X11_within "TunnelBook" := ⟨List.mem_of_getElem? (i := 17) rfl, px_i2 231 rfl rfl, px_i1 1 rfl rfl, px_i2 232 rfl rfl⟩
theorem lk_8_58 : px_lS RX8 58 M_J9_min_7cf53 := ⟨px_i3 223 rfl rfl, px_i3 117 rfl rfl, px_i1 14 rfl rfl, px_i3 118 rfl rfl⟩
theorem lk_8_64 : px_lV RX8 64 M_J0_length_8abf5 := ⟨px_i4 23 rfl rfl, px_i4 24 rfl rfl, px_i4 25 rfl rfl, px_i1 15 rfl rfl, px_i4 26 rfl rfl⟩
theorem lk_8_69 : px_lV RX8 69 M_J0_charAt_5068e := ⟨px_i4 33 rfl rfl, px_i4 34 rfl rfl, px_i4 35 rfl rfl, px_i1 15 rfl rfl, px_i4 36 rfl rfl⟩
theorem lk_9_67 : px_lV RX9 67 M_X9_begin := ⟨px_i4 167 rfl rfl, px_i4 169 rfl rfl, px_j2 12 rfl, px_i1 9 rfl rfl, px_i4 170 rfl rfl⟩
theorem lk_9_78 : px_lSN RX9 78 M_X11_within "TunnelBook" := ⟨List.mem_of_getElem? (i := 18) rfl, px_i2 231 rfl rfl, px_i1 1 rfl rfl, px_i2 232 rfl rfl⟩
theorem lk_9_90 : px_lV RX9 90 M_X9_follow := ⟨px_i4 173 rfl rfl, px_i4 175 rfl rfl, px_j2 13 rfl, px_i1 9 rfl rfl, px_i4 176 rfl rfl⟩
theorem lk_9_94 : px_lV RX9 94 M_X9_push := ⟨px_i4 177 rfl rfl, px_i4 179 rfl rfl, px_j2 14 rfl, px_i1 9 rfl rfl, px_i4 180 rfl rfl⟩
theorem lk_9_98 : px_lV RX9 98 M_X9_turnBack := ⟨px_i4 181 rfl rfl, px_i4 183 rfl rfl, px_j2 15 rfl, px_i1 9 rfl rfl, px_i4 184 rfl rfl⟩
theorem lk_9_102 : px_lV RX9 102 M_X9_pop := ⟨px_i4 185 rfl rfl, px_i4 187 rfl rfl, px_j3 0 rfl, px_i1 9 rfl rfl, px_i4 188 rfl rfl⟩
theorem lk_9_105 : px_lV RX9 105 M_X9_step := ⟨px_i4 189 rfl rfl, px_i4 191 rfl rfl, px_j3 1 rfl, px_i1 9 rfl rfl, px_i4 192 rfl rfl⟩
theorem lk_9_108 : px_lV RX9 108 M_X9_layLine := ⟨px_i4 193 rfl rfl, px_i4 195 rfl rfl, px_j3 2 rfl, px_i1 9 rfl rfl, px_i4 196 rfl rfl⟩
theorem lk_9_113 : px_lS RX9 113 M_J9_min_f86c9 := ⟨px_i4 208 rfl rfl, px_i4 209 rfl rfl, px_i1 14 rfl rfl, px_i4 210 rfl rfl⟩
theorem lk_9_119 : px_lV RX9 119 M_X9_staysNear := ⟨px_i4 211 rfl rfl, px_i4 213 rfl rfl, px_j3 3 rfl, px_i1 9 rfl rfl, px_i4 214 rfl rfl⟩
theorem lk_9_129 : px_lS RX9 129 M_J9_abs_0f7a4 := ⟨px_i4 201 rfl rfl, px_i4 202 rfl rfl, px_i1 14 rfl rfl, px_i4 203 rfl rfl⟩
theorem lk_9_140 : px_lS RX9 140 M_J9_abs_067f4 := ⟨px_i4 215 rfl rfl, px_i4 216 rfl rfl, px_i1 14 rfl rfl, px_i4 217 rfl rfl⟩
theorem lk_13_9 : px_lI RL 9 M_X11_init := ⟨px_i1 21 rfl rfl, px_i1 22 rfl rfl, px_i1 1 rfl rfl, px_i1 23 rfl rfl, rfl, rfl⟩
theorem lk_13_12 : px_lI RL 12 M_X12_init := ⟨px_i5 180 rfl rfl, px_i5 181 rfl rfl, px_i1 13 rfl rfl, px_i5 182 rfl rfl, rfl, rfl⟩
theorem lk_13_13 : px_lV RL 13 M_X11_days := ⟨px_i2 226 rfl rfl, px_i2 227 rfl rfl, px_i2 228 rfl rfl, px_i1 1 rfl rfl, px_i2 229 rfl rfl⟩
theorem lk_13_17 : px_lV RL 17 M_X12_days := ⟨px_i6 176 rfl rfl, px_i6 177 rfl rfl, px_i6 178 rfl rfl, px_i1 13 rfl rfl, px_i6 179 rfl rfl⟩
theorem lk_13_18 : px_lV RL 18 M_X11_station := ⟨px_i2 233 rfl rfl, px_i2 234 rfl rfl, px_i2 235 rfl rfl, px_i1 1 rfl rfl, px_i2 236 rfl rfl⟩
theorem lk_13_22 : px_lV RL 22 M_X12_station := ⟨px_i6 184 rfl rfl, px_i6 185 rfl rfl, px_i6 186 rfl rfl, px_i1 13 rfl rfl, px_i6 187 rfl rfl⟩
theorem lk_13_23 : px_lV RL 23 M_X11_sight := ⟨px_i3 1 rfl rfl, px_i3 2 rfl rfl, px_i3 3 rfl rfl, px_i1 1 rfl rfl, px_i3 4 rfl rfl⟩
theorem lk_13_27 : px_lV RL 27 M_X12_sight := ⟨px_i6 188 rfl rfl, px_i6 189 rfl rfl, px_i6 190 rfl rfl, px_i1 13 rfl rfl, px_i6 191 rfl rfl⟩
theorem lk_13_28 : px_lV RL 28 M_X11_closed := ⟨px_i3 21 rfl rfl, px_i3 22 rfl rfl, px_i3 23 rfl rfl, px_i1 1 rfl rfl, px_i3 24 rfl rfl⟩
theorem lk_13_32 : px_lV RL 32 M_X12_closed := ⟨px_i6 202 rfl rfl, px_i6 203 rfl rfl, px_i6 204 rfl rfl, px_i1 13 rfl rfl, px_i6 205 rfl rfl⟩
theorem lk_13_33 : px_lV RL 33 M_X11_span := ⟨px_i3 45 rfl rfl, px_i3 46 rfl rfl, px_i3 47 rfl rfl, px_i1 1 rfl rfl, px_i3 48 rfl rfl⟩
theorem lk_13_37 : px_lV RL 37 M_X12_span := ⟨px_i6 236 rfl rfl, px_i6 237 rfl rfl, px_i6 238 rfl rfl, px_i1 13 rfl rfl, px_i6 239 rfl rfl⟩
theorem lk_13_38 : px_lV RL 38 M_X11_gap := ⟨px_i3 61 rfl rfl, px_i3 50 rfl rfl, px_i3 51 rfl rfl, px_i1 1 rfl rfl, px_i3 52 rfl rfl⟩
theorem lk_13_42 : px_lV RL 42 M_X12_gap := ⟨px_i6 227 rfl rfl, px_i6 228 rfl rfl, px_i6 229 rfl rfl, px_i1 13 rfl rfl, px_i6 230 rfl rfl⟩
theorem lk_13_43 : px_lV RL 43 M_X11_blamed := ⟨px_i3 62 rfl rfl, px_i3 63 rfl rfl, px_i3 64 rfl rfl, px_i1 1 rfl rfl, px_i3 65 rfl rfl⟩
theorem lk_13_47 : px_lV RL 47 M_X12_blamed := ⟨px_i7 1 rfl rfl, px_i7 2 rfl rfl, px_i7 3 rfl rfl, px_i1 13 rfl rfl, px_i7 4 rfl rfl⟩
theorem lk_13_48 : px_lV RL 48 M_X11_reach := ⟨px_i3 70 rfl rfl, px_i3 71 rfl rfl, px_i3 72 rfl rfl, px_i1 1 rfl rfl, px_i3 73 rfl rfl⟩
theorem lk_13_52 : px_lV RL 52 M_X12_reach := ⟨px_i7 5 rfl rfl, px_i7 6 rfl rfl, px_i7 7 rfl rfl, px_i1 13 rfl rfl, px_i7 8 rfl rfl⟩
theorem lk_13_53 : px_lV RL 53 M_X11_mouth := ⟨px_i3 89 rfl rfl, px_i3 90 rfl rfl, px_i3 91 rfl rfl, px_i1 1 rfl rfl, px_i3 92 rfl rfl⟩
theorem lk_13_57 : px_lV RL 57 M_X12_mouth := ⟨px_i7 12 rfl rfl, px_i7 13 rfl rfl, px_i7 14 rfl rfl, px_i1 13 rfl rfl, px_i7 15 rfl rfl⟩
theorem lk_13_58 : px_lV RL 58 M_X11_mark := ⟨px_i3 97 rfl rfl, px_i3 98 rfl rfl, px_i3 99 rfl rfl, px_i1 1 rfl rfl, px_i3 100 rfl rfl⟩
theorem lk_13_62 : px_lV RL 62 M_X12_mark := ⟨px_i7 16 rfl rfl, px_i7 17 rfl rfl, px_i7 18 rfl rfl, px_i1 13 rfl rfl, px_i7 19 rfl rfl⟩
theorem lk_13_63 : px_lV RL 63 M_X11_when := ⟨px_i3 119 rfl rfl, px_i3 120 rfl rfl, px_i3 121 rfl rfl, px_i1 1 rfl rfl, px_i3 122 rfl rfl⟩
theorem lk_13_67 : px_lV RL 67 M_X12_when := ⟨px_i7 25 rfl rfl, px_i7 26 rfl rfl, px_i7 27 rfl rfl, px_i1 13 rfl rfl, px_i7 28 rfl rfl⟩
theorem lk_13_68 : px_lV RL 68 M_X11_between := ⟨px_i3 131 rfl rfl, px_i3 132 rfl rfl, px_i3 133 rfl rfl, px_i1 1 rfl rfl, px_i3 134 rfl rfl⟩
theorem lk_13_71 : px_lV RL 71 M_X12_between := ⟨px_i7 33 rfl rfl, px_i7 34 rfl rfl, px_i7 35 rfl rfl, px_i1 13 rfl rfl, px_i7 36 rfl rfl⟩
theorem lk_13_72 : px_lV RL 72 M_X11_lamps := ⟨px_i3 139 rfl rfl, px_i3 140 rfl rfl, px_i3 141 rfl rfl, px_i1 1 rfl rfl, px_i3 142 rfl rfl⟩
theorem lk_13_75 : px_lV RL 75 M_X12_lamps := ⟨px_i7 37 rfl rfl, px_i7 38 rfl rfl, px_i7 39 rfl rfl, px_i1 13 rfl rfl, px_i7 40 rfl rfl⟩
theorem lk_13_76 : px_lV RL 76 M_X11_count := ⟨px_i3 153 rfl rfl, px_i3 154 rfl rfl, px_i3 155 rfl rfl, px_i1 1 rfl rfl, px_i3 156 rfl rfl⟩
theorem lk_13_79 : px_lV RL 79 M_X12_count := ⟨px_i7 42 rfl rfl, px_i7 43 rfl rfl, px_i7 44 rfl rfl, px_i1 13 rfl rfl, px_i7 45 rfl rfl⟩
theorem lk_13_80 : px_lV RL 80 M_X11_unit := ⟨px_i3 166 rfl rfl, px_i3 167 rfl rfl, px_i3 168 rfl rfl, px_i1 1 rfl rfl, px_i3 169 rfl rfl⟩
theorem lk_13_84 : px_lV RL 84 M_X12_unit := ⟨px_i7 47 rfl rfl, px_i7 48 rfl rfl, px_i7 49 rfl rfl, px_i1 13 rfl rfl, px_i7 50 rfl rfl⟩
theorem lk_13_85 : px_lV RL 85 M_X11_feed := ⟨px_i3 170 rfl rfl, px_i3 171 rfl rfl, px_i3 172 rfl rfl, px_i1 1 rfl rfl, px_i3 173 rfl rfl⟩
theorem lk_13_88 : px_lV RL 88 M_X12_feed := ⟨px_i7 51 rfl rfl, px_i7 52 rfl rfl, px_i7 53 rfl rfl, px_i1 13 rfl rfl, px_i7 54 rfl rfl⟩
theorem lk_13_89 : px_lV RL 89 M_X11_end := ⟨px_i3 182 rfl rfl, px_i3 183 rfl rfl, px_i3 184 rfl rfl, px_i1 1 rfl rfl, px_i3 185 rfl rfl⟩
theorem lk_13_92 : px_lV RL 92 M_X12_end := ⟨px_i7 59 rfl rfl, px_i7 60 rfl rfl, px_i7 61 rfl rfl, px_i1 13 rfl rfl, px_i7 62 rfl rfl⟩
theorem lk_13_93 : px_lV RL 93 M_X11_way := ⟨px_i3 186 rfl rfl, px_i3 187 rfl rfl, px_i3 188 rfl rfl, px_i1 1 rfl rfl, px_i3 189 rfl rfl⟩
theorem lk_13_96 : px_lV RL 96 M_X12_way := ⟨px_i7 63 rfl rfl, px_i7 64 rfl rfl, px_i7 65 rfl rfl, px_i1 13 rfl rfl, px_i7 66 rfl rfl⟩
theorem lk_13_97 : px_lV RL 97 M_X11_fault := ⟨px_i4 132 rfl rfl, px_i4 133 rfl rfl, px_i4 134 rfl rfl, px_i1 1 rfl rfl, px_i4 135 rfl rfl⟩
theorem lk_13_100 : px_lV RL 100 M_X12_fault := ⟨px_i7 133 rfl rfl, px_i7 134 rfl rfl, px_i7 135 rfl rfl, px_i1 13 rfl rfl, px_i7 136 rfl rfl⟩
theorem lk_13_101 : px_lV RL 101 M_X11_tools := ⟨px_i4 136 rfl rfl, px_i4 137 rfl rfl, px_i4 138 rfl rfl, px_i1 1 rfl rfl, px_i4 139 rfl rfl⟩
theorem lk_13_105 : px_lV RL 105 M_X12_tools := ⟨px_i7 137 rfl rfl, px_i7 138 rfl rfl, px_i7 139 rfl rfl, px_i1 13 rfl rfl, px_i7 140 rfl rfl⟩
theorem lk_13_106 : px_lV RL 106 M_X11_run := ⟨px_i4 148 rfl rfl, px_i4 149 rfl rfl, px_i4 150 rfl rfl, px_i1 1 rfl rfl, px_i4 151 rfl rfl⟩
theorem lk_13_109 : px_lV RL 109 M_X12_run := ⟨px_i7 141 rfl rfl, px_i7 142 rfl rfl, px_i7 143 rfl rfl, px_i1 13 rfl rfl, px_i7 144 rfl rfl⟩
theorem lk_13_110 : px_lV RL 110 M_X11_meeting := ⟨px_i4 229 rfl rfl, px_i4 230 rfl rfl, px_i4 231 rfl rfl, px_i1 1 rfl rfl, px_i4 232 rfl rfl⟩
theorem lk_13_114 : px_lV RL 114 M_X12_meeting := ⟨px_i7 180 rfl rfl, px_i7 181 rfl rfl, px_i7 182 rfl rfl, px_i1 13 rfl rfl, px_i7 183 rfl rfl⟩
theorem lk_13_115 : px_lV RL 115 M_X11_there := ⟨px_i5 9 rfl rfl, px_i5 10 rfl rfl, px_i5 11 rfl rfl, px_i1 1 rfl rfl, px_i5 12 rfl rfl⟩
theorem lk_13_119 : px_lV RL 119 M_X12_there := ⟨px_i7 201 rfl rfl, px_i7 202 rfl rfl, px_i7 203 rfl rfl, px_i1 13 rfl rfl, px_i7 204 rfl rfl⟩
theorem lk_13_120 : px_lV RL 120 M_X11_fits := ⟨px_i5 17 rfl rfl, px_i5 18 rfl rfl, px_i5 19 rfl rfl, px_i1 1 rfl rfl, px_i5 20 rfl rfl⟩
theorem lk_13_123 : px_lV RL 123 M_X12_fits := ⟨px_i7 205 rfl rfl, px_i7 206 rfl rfl, px_i7 207 rfl rfl, px_i1 13 rfl rfl, px_i7 208 rfl rfl⟩
theorem lk_13_124 : px_lV RL 124 M_X11_ways := ⟨px_i5 26 rfl rfl, px_i5 27 rfl rfl, px_i5 28 rfl rfl, px_i1 1 rfl rfl, px_i5 29 rfl rfl⟩
theorem lk_13_127 : px_lV RL 127 M_X12_ways := ⟨px_i7 209 rfl rfl, px_i7 210 rfl rfl, px_i7 211 rfl rfl, px_i1 13 rfl rfl, px_i7 212 rfl rfl⟩
theorem lk_13_128 : px_lV RL 128 M_X11_seek := ⟨px_i5 36 rfl rfl, px_i5 37 rfl rfl, px_i5 38 rfl rfl, px_i1 1 rfl rfl, px_i5 39 rfl rfl⟩
theorem lk_13_132 : px_lV RL 132 M_X12_seek := ⟨px_i7 214 rfl rfl, px_i7 215 rfl rfl, px_i7 216 rfl rfl, px_i1 13 rfl rfl, px_i7 217 rfl rfl⟩
theorem lk_13_133 : px_lV RL 133 M_X11_chance := ⟨px_i5 48 rfl rfl, px_i5 49 rfl rfl, px_i5 50 rfl rfl, px_i1 1 rfl rfl, px_i5 51 rfl rfl⟩
theorem lk_13_137 : px_lV RL 137 M_X12_chance := ⟨px_i7 222 rfl rfl, px_i7 223 rfl rfl, px_i7 224 rfl rfl, px_i1 13 rfl rfl, px_i7 225 rfl rfl⟩
theorem lk_13_138 : px_lV RL 138 M_X11_detour := ⟨px_i5 88 rfl rfl, px_i5 89 rfl rfl, px_i5 90 rfl rfl, px_i1 1 rfl rfl, px_i5 91 rfl rfl⟩
theorem lk_13_141 : px_lV RL 141 M_X12_detour := ⟨px_i7 233 rfl rfl, px_i7 234 rfl rfl, px_i7 235 rfl rfl, px_i1 13 rfl rfl, px_i7 236 rfl rfl⟩
theorem lk_13_142 : px_lV RL 142 M_X11_table := ⟨px_i5 107 rfl rfl, px_i5 108 rfl rfl, px_i5 109 rfl rfl, px_i1 1 rfl rfl, px_i5 110 rfl rfl⟩
theorem lk_13_145 : px_lV RL 145 M_X12_table := ⟨px_i7 237 rfl rfl, px_i7 238 rfl rfl, px_i7 239 rfl rfl, px_i1 13 rfl rfl, px_i8 0 rfl rfl⟩
theorem lk_13_146 : px_lV RL 146 M_X11_repair := ⟨px_i5 116 rfl rfl, px_i5 117 rfl rfl, px_i5 118 rfl rfl, px_i1 1 rfl rfl, px_i5 119 rfl rfl⟩
theorem lk_13_149 : px_lV RL 149 M_X12_repair := ⟨px_i8 1 rfl rfl, px_i8 2 rfl rfl, px_i8 3 rfl rfl, px_i1 13 rfl rfl, px_i8 4 rfl rfl⟩
theorem lk_13_150 : px_lV RL 150 M_X11_lime := ⟨px_i5 128 rfl rfl, px_i5 129 rfl rfl, px_i5 130 rfl rfl, px_i1 1 rfl rfl, px_i5 131 rfl rfl⟩
theorem lk_13_154 : px_lV RL 154 M_X12_lime := ⟨px_i8 5 rfl rfl, px_i8 6 rfl rfl, px_i8 7 rfl rfl, px_i1 13 rfl rfl, px_i8 8 rfl rfl⟩
theorem lk_13_155 : px_lV RL 155 M_X11_flow := ⟨px_i5 132 rfl rfl, px_i5 133 rfl rfl, px_i5 134 rfl rfl, px_i1 1 rfl rfl, px_i5 135 rfl rfl⟩
theorem lk_13_158 : px_lV RL 158 M_X12_flow := ⟨px_i8 9 rfl rfl, px_i8 10 rfl rfl, px_i8 11 rfl rfl, px_i1 13 rfl rfl, px_i8 12 rfl rfl⟩
theorem lk_13_159 : px_lV RL 159 M_X11_narrow := ⟨px_i5 162 rfl rfl, px_i5 163 rfl rfl, px_i5 164 rfl rfl, px_i1 1 rfl rfl, px_i5 165 rfl rfl⟩
theorem lk_13_162 : px_lV RL 162 M_X12_narrow := ⟨px_i8 36 rfl rfl, px_i8 37 rfl rfl, px_i8 38 rfl rfl, px_i1 13 rfl rfl, px_i8 39 rfl rfl⟩
theorem lk_13_163 : px_lV RL 163 M_X11_about := ⟨px_i5 166 rfl rfl, px_i5 167 rfl rfl, px_i5 168 rfl rfl, px_i1 1 rfl rfl, px_i5 169 rfl rfl⟩
theorem lk_13_166 : px_lV RL 166 M_X12_about := ⟨px_i8 40 rfl rfl, px_i8 41 rfl rfl, px_i8 42 rfl rfl, px_i1 13 rfl rfl, px_i8 43 rfl rfl⟩
theorem lk_12_167 : px_lS RX12 167 M_X12_in := ⟨px_i6 181 rfl rfl, px_i6 182 rfl rfl, px_i1 13 rfl rfl, px_i6 183 rfl rfl⟩
theorem lk_12_180 : px_lS RX12 180 M_X12_isAxis := ⟨px_i6 192 rfl rfl, px_i6 193 rfl rfl, px_i1 13 rfl rfl, px_i6 194 rfl rfl⟩
theorem lk_12_184 : px_lV RX12 184 M_X12_isStation := ⟨px_i6 196 rfl rfl, px_i6 198 rfl rfl, px_j3 15 rfl, px_i1 13 rfl rfl, px_i6 199 rfl rfl⟩
theorem lk_12_199 : px_lV RX12 199 M_X12_bounds := ⟨px_i6 219 rfl rfl, px_i6 221 rfl rfl, px_j4 2 rfl, px_i1 13 rfl rfl, px_i6 222 rfl rfl⟩
theorem lk_12_203 : px_lV RX12 203 M_X12_begins := ⟨px_i6 214 rfl rfl, px_i6 216 rfl rfl, px_j4 1 rfl, px_i1 13 rfl rfl, px_i6 217 rfl rfl⟩
theorem lk_12_207 : px_lV RX12 207 M_X12_closes := ⟨px_i6 223 rfl rfl, px_i6 225 rfl rfl, px_j4 3 rfl, px_i1 13 rfl rfl, px_i6 226 rfl rfl⟩
theorem lk_12_211 : px_lS RX12 211 M_X12_isKnown := ⟨px_i6 206 rfl rfl, px_i6 207 rfl rfl, px_i1 13 rfl rfl, px_i6 208 rfl rfl⟩
theorem lk_12_214 : px_lV RX12 214 M_X12_isClosed := ⟨px_i6 210 rfl rfl, px_i6 212 rfl rfl, px_j4 0 rfl, px_i1 13 rfl rfl, px_i6 213 rfl rfl⟩
theorem lk_12_219 : px_lV RX12 219 M_X12_gapOf := ⟨px_i6 232 rfl rfl, px_i6 234 rfl rfl, px_j4 4 rfl, px_i1 13 rfl rfl, px_i6 235 rfl rfl⟩
theorem lk_12_223 : px_lV RX12 223 M_X12_gap := ⟨px_i7 0 rfl rfl, px_i6 228 rfl rfl, px_i6 229 rfl rfl, px_i1 13 rfl rfl, px_i6 230 rfl rfl⟩
theorem lk_12_233 : px_lV RX12 233 M_X12_isPeg := ⟨px_i7 20 rfl rfl, px_i7 22 rfl rfl, px_j4 5 rfl, px_i1 13 rfl rfl, px_i7 23 rfl rfl⟩
theorem lk_12_242 : px_lV RX12 242 M_X12_isDug := ⟨px_i7 29 rfl rfl, px_i7 31 rfl rfl, px_j4 6 rfl, px_i1 13 rfl rfl, px_i7 32 rfl rfl⟩
theorem lk_12_262 : px_lV RX12 262 M_X12_put := ⟨px_i7 55 rfl rfl, px_i7 57 rfl rfl, px_j4 7 rfl, px_i1 13 rfl rfl, px_i7 58 rfl rfl⟩
theorem lk_12_303 : px_lS RX12 303 M_X12_isLetter := ⟨px_i7 72 rfl rfl, px_i7 73 rfl rfl, px_i1 13 rfl rfl, px_i7 74 rfl rfl⟩
theorem lk_12_313 : px_lS RX12 313 M_X12_wordOf := ⟨px_i7 81 rfl rfl, px_i7 82 rfl rfl, px_i1 13 rfl rfl, px_i7 83 rfl rfl⟩
theorem lk_12_331 : px_lV RX12 331 M_X12_isSign := ⟨px_i7 96 rfl rfl, px_i7 98 rfl rfl, px_j4 9 rfl, px_i1 13 rfl rfl, px_i7 99 rfl rfl⟩
theorem lk_12_334 : px_lV RX12 334 M_X12_errs := ⟨px_i7 108 rfl rfl, px_i7 110 rfl rfl, px_j4 12 rfl, px_i1 13 rfl rfl, px_i7 111 rfl rfl⟩
theorem lk_12_340 : px_lV RX12 340 M_X12_next := ⟨px_i7 68 rfl rfl, px_i7 70 rfl rfl, px_j4 8 rfl, px_i1 13 rfl rfl, px_i7 71 rfl rfl⟩
theorem lk_12_346 : px_lV RX12 346 M_X12_emits := ⟨px_i7 104 rfl rfl, px_i7 106 rfl rfl, px_j4 11 rfl, px_i1 13 rfl rfl, px_i7 107 rfl rfl⟩
theorem lk_12_350 : px_lV RX12 350 M_X12_opens := ⟨px_i7 116 rfl rfl, px_i7 118 rfl rfl, px_j4 14 rfl, px_i1 13 rfl rfl, px_i7 119 rfl rfl⟩
theorem lk_12_358 : px_lV RX12 358 M_X12_stepIsOver := ⟨px_i7 124 rfl rfl, px_i7 126 rfl rfl, px_j5 0 rfl, px_i1 13 rfl rfl, px_i7 127 rfl rfl⟩
theorem lk_12_361 : px_lV RX12 361 M_X12_numbered := ⟨px_i7 128 rfl rfl, px_i7 130 rfl rfl, px_j5 1 rfl, px_i1 13 rfl rfl, px_i7 131 rfl rfl⟩
theorem lk_12_366 : px_lV RX12 366 M_X12_closesBrace := ⟨px_i7 100 rfl rfl, px_i7 102 rfl rfl, px_j4 10 rfl, px_i1 13 rfl rfl, px_i7 103 rfl rfl⟩
theorem lk_12_369 : px_lV RX12 369 M_X12_def := ⟨px_i7 112 rfl rfl, px_i7 114 rfl rfl, px_j4 13 rfl, px_i1 13 rfl rfl, px_i7 115 rfl rfl⟩
theorem lk_12_372 : px_lV RX12 372 M_X12_step := ⟨px_i7 120 rfl rfl, px_i7 122 rfl rfl, px_j4 15 rfl, px_i1 13 rfl rfl, px_i7 123 rfl rfl⟩
theorem lk_12_375 : px_lS RX12 375 M_X12_along := ⟨px_i7 163 rfl rfl, px_i7 164 rfl rfl, px_i1 13 rfl rfl, px_i7 165 rfl rfl⟩
theorem lk_12_381 : px_lS RX12 381 M_X12_up := ⟨px_i7 167 rfl rfl, px_i7 168 rfl rfl, px_i1 13 rfl rfl, px_i7 169 rfl rfl⟩
theorem lk_12_385 : px_lS RX12 385 M_X12_size := ⟨px_i7 170 rfl rfl, px_i7 171 rfl rfl, px_i1 13 rfl rfl, px_i7 172 rfl rfl⟩
theorem lk_12_387 : px_lV RX12 387 M_X12_goesOn := ⟨px_i7 159 rfl rfl, px_i7 161 rfl rfl, px_j5 5 rfl, px_i1 13 rfl rfl, px_i7 162 rfl rfl⟩
theorem lk_12_399 : px_lV RX12 399 M_X12_does := ⟨px_i7 155 rfl rfl, px_i7 157 rfl rfl, px_j5 4 rfl, px_i1 13 rfl rfl, px_i7 158 rfl rfl⟩
theorem lk_12_403 : px_lV RX12 403 M_X12_isBeyond := ⟨px_i7 174 rfl rfl, px_i7 176 rfl rfl, px_j5 6 rfl, px_i1 13 rfl rfl, px_i7 177 rfl rfl⟩
theorem lk_12_406 : px_lV RX12 406 M_X12_isWay := ⟨px_i7 145 rfl rfl, px_i7 147 rfl rfl, px_j5 2 rfl, px_i1 13 rfl rfl, px_i7 148 rfl rfl⟩
theorem lk_12_413 : px_lV RX12 413 M_X12_runs := ⟨px_i7 151 rfl rfl, px_i7 153 rfl rfl, px_j5 3 rfl, px_i1 13 rfl rfl, px_i7 154 rfl rfl⟩
theorem lk_12_424 : px_lS RX12 424 M_X12_isFirst := ⟨px_i7 188 rfl rfl, px_i7 189 rfl rfl, px_i1 13 rfl rfl, px_i7 190 rfl rfl⟩
theorem lk_12_427 : px_lV RX12 427 M_X12_areAsked := ⟨px_i7 184 rfl rfl, px_i7 186 rfl rfl, px_j5 7 rfl, px_i1 13 rfl rfl, px_i7 187 rfl rfl⟩
theorem lk_12_431 : px_lV RX12 431 M_X12_runsBoth := ⟨px_i7 192 rfl rfl, px_i7 194 rfl rfl, px_j5 8 rfl, px_i1 13 rfl rfl, px_i7 195 rfl rfl⟩
theorem lk_12_434 : px_lV RX12 434 M_X12_meets := ⟨px_i7 196 rfl rfl, px_i7 198 rfl rfl, px_j5 9 rfl, px_i1 13 rfl rfl, px_i7 199 rfl rfl⟩
theorem lk_12_438 : px_lV RX12 438 M_X12_fits := ⟨px_i7 213 rfl rfl, px_i7 206 rfl rfl, px_i7 207 rfl rfl, px_i1 13 rfl rfl, px_i7 208 rfl rfl⟩
theorem lk_12_465 : px_lV RX12 465 M_X12_off := ⟨px_i7 229 rfl rfl, px_i7 231 rfl rfl, px_j5 10 rfl, px_i1 13 rfl rfl, px_i7 232 rfl rfl⟩
theorem lk_12_475 : px_lS RX12 475 M_X12_down := ⟨px_i8 25 rfl rfl, px_i8 26 rfl rfl, px_i1 13 rfl rfl, px_i8 27 rfl rfl⟩
theorem lk_12_478 : px_lV RX12 478 M_X12_widthOf := ⟨px_i8 28 rfl rfl, px_i8 30 rfl rfl, px_j5 14 rfl, px_i1 13 rfl rfl, px_i8 31 rfl rfl⟩
theorem lk_12_481 : px_lV RX12 481 M_X12_lets := ⟨px_i8 32 rfl rfl, px_i8 34 rfl rfl, px_j5 15 rfl, px_i1 13 rfl rfl, px_i8 35 rfl rfl⟩
theorem lk_12_485 : px_lV RX12 485 M_X12_letsBy := ⟨px_i8 21 rfl rfl, px_i8 23 rfl rfl, px_j5 13 rfl, px_i1 13 rfl rfl, px_i8 24 rfl rfl⟩
theorem lk_12_488 : px_lV RX12 488 M_X12_isFlow := ⟨px_i8 13 rfl rfl, px_i8 15 rfl rfl, px_j5 11 rfl, px_i1 13 rfl rfl, px_i8 16 rfl rfl⟩
theorem lk_12_491 : px_lV RX12 491 M_X12_narrowest := ⟨px_i8 17 rfl rfl, px_i8 19 rfl rfl, px_j5 12 rfl, px_i1 13 rfl rfl, px_i8 20 rfl rfl⟩
theorem lk_15_335 : px_lV RJ0 335 M_J0_coder_7d493 := ⟨px_i4 27 rfl rfl, px_i4 28 rfl rfl, px_i4 29 rfl rfl, px_i1 15 rfl rfl, px_i4 30 rfl rfl⟩
theorem lk_15_492 : px_lV RJ0 492 M_J0_isLatin1_aae02 := ⟨px_i4 37 rfl rfl, px_i4 38 rfl rfl, px_i4 39 rfl rfl, px_i1 15 rfl rfl, px_i4 40 rfl rfl⟩
theorem lk_15_495 : px_lS RJ0 495 M_J1_charAt_3b067 := ⟨px_i4 41 rfl rfl, px_i4 42 rfl rfl, px_i1 16 rfl rfl, px_i4 43 rfl rfl⟩
theorem lk_15_498 : px_lS RJ0 498 M_J2_charAt_3b067 := ⟨px_i4 52 rfl rfl, px_i4 53 rfl rfl, px_i1 18 rfl rfl, px_i4 54 rfl rfl⟩
theorem lk_15_1059 : px_lS RJ0 1059 M_J3_checkIndex_8e157 := ⟨px_i4 49 rfl rfl, px_i4 50 rfl rfl, px_i1 17 rfl rfl, px_i4 51 rfl rfl⟩
theorem lk_16_9 : px_lS RJ1 9 M_J0_checkIndex_df160 := ⟨px_i4 44 rfl rfl, px_i4 45 rfl rfl, px_i1 15 rfl rfl, px_i4 46 rfl rfl⟩
theorem lk_99_48 : px_lS RJ2 48 M_J2_length_9d52b := ⟨px_i4 58 rfl rfl, px_i4 59 rfl rfl, px_i1 18 rfl rfl, px_i4 60 rfl rfl⟩
theorem lk_99_67 : px_lS RJ2 67 M_J2_checkIndex_2214a := ⟨px_i4 55 rfl rfl, px_i4 56 rfl rfl, px_i1 18 rfl rfl, px_i4 57 rfl rfl⟩
theorem lk_99_71 : px_lS RJ2 71 M_J2_getChar_3b067 := ⟨px_i4 62 rfl rfl, px_i4 63 rfl rfl, px_i1 18 rfl rfl, px_i4 64 rfl rfl⟩
theorem lk_99_414 : px_lS RJ2 414 M_J0_checkIndex_df160 := ⟨px_i4 61 rfl rfl, px_i4 45 rfl rfl, px_i1 15 rfl rfl, px_i4 46 rfl rfl⟩
end
section
/-! the reference: small reads and writes -/
theorem px_64 (x y : Int32) : x.toInt64 ≤ y.toInt64 ↔ x ≤ y := by rw [Int64.le_iff_toInt_le, Int32.le_iff_toInt_le, Int32.toInt_toInt64, Int32.toInt_toInt64]
theorem px_64l (x y : Int32) : x.toInt64 < y.toInt64 ↔ x < y := by rw [Int64.lt_iff_toInt_lt, Int32.lt_iff_toInt_lt, Int32.toInt_toInt64, Int32.toInt_toInt64]
theorem px_ur {α : Type} (f : Nat → Nat → α) (a k : Nat) (v : α) (b j : Nat) : px_u f a k v b j = if b = a then (if j = k then v else f b j) else f b j := rfl
theorem px_bt {x : Int32} {P : Prop} (h : (x = 1 ∧ P) ∨ (x = 0 ∧ ¬ P)) (c : ¬ x = 0) : P := h.elim (fun h => h.2) (fun h => absurd h.1 c)
theorem px_bf {x : Int32} {P : Prop} (h : (x = 1 ∧ P) ∨ (x = 0 ∧ ¬ P)) (c : x = 0) : ¬ P := h.elim (fun h => absurd (h.1.symm.trans c) (by decide)) (fun h => h.2)
/-- nothing changes but where S says so -/
def px_fr {α : Type} (S : Nat → Nat → Bool) (f g : Nat → Nat → α) : Prop := ∀ b j, S b j = false → g b j = f b j

theorem q_X12_in_0 : px_bk 12 6 cX12_in 0 [(.lload_n 0, (0, 0, 0, 0, 0), 0, 0), (.lload_n 2, (0, 0, 0, 0, 0), 0, 0), (.lcmp, (0, 0, 0, 0, 0), 0, 0)] = some 3 ∧ px_t1 cX12_in 3 .lt 17 = true := by decide +kernel
theorem q_X12_in_17 : px_bk 12 6 cX12_in 17 [(.iconst 0, (0, 0, 0, 0, 0), 0, 0)] = some 18 ∧ px_tr cX12_in 18 .ireturn = true := by decide +kernel
theorem q_X12_in_6 : px_bk 12 6 cX12_in 6 [(.lload_n 0, (0, 0, 0, 0, 0), 0, 0), (.lload 4, (0, 0, 0, 0, 0), 0, 0), (.lcmp, (0, 0, 0, 0, 0), 0, 0)] = some 10 ∧ px_t1 cX12_in 10 .gt 17 = true := by decide +kernel
theorem q_X12_in_13 : px_bk 12 6 cX12_in 13 [(.iconst 1, (0, 0, 0, 0, 0), 1, 0), (.goto 4, (0, 0, 0, 0, 0), 0, 0)] = some 18 ∧ px_tr cX12_in 18 .ireturn = true := by decide +kernel
set_option maxRecDepth 100000 in
theorem k_in {n : Nat} {I : px_I} {L : px_L} {R : px_R} (hg : px_G n R) (a b c : Int64) : px_KP M_X12_in [.long a, .long b, .long c] n I L R (fun r => (r = 1 ∧ b ≤ a ∧ a ≤ c) ∨ (r = 0 ∧ ¬ (b ≤ a ∧ a ≤ c))) := by
  refine px_of (plainFor_of_name np_RX12) (fun _ _ _ => trivial) rfl ?_
  refine px_llt rfl q_X12_in_0 hg rfl trivial (fun c3 => ?_) (fun c3 => ?_)
  · refine px_rzP rfl q_X12_in_17 rfl rfl rfl hg rfl trivial ⟨⟨rfl, rfl, rfl, rfl⟩, (by first | exact Or.inl rfl | exact Or.inr rfl | grind), ?_⟩
    grind
  · refine px_lgt rfl q_X12_in_6 hg rfl trivial (fun c10 => ?_) (fun c10 => ?_)
    · refine px_rzP rfl q_X12_in_17 rfl rfl rfl hg rfl trivial ⟨⟨rfl, rfl, rfl, rfl⟩, (by first | exact Or.inl rfl | exact Or.inr rfl | grind), ?_⟩
      grind
    · refine px_rzP rfl q_X12_in_13 rfl rfl rfl hg rfl trivial ⟨⟨rfl, rfl, rfl, rfl⟩, (by first | exact Or.inl rfl | exact Or.inr rfl | grind), ?_⟩
      grind

theorem k_inI {n : Nat} {I : px_I} {L : px_L} {R : px_R} (hg : px_G n R) (x lo hi : Int32) {low high : Int64} (h1 : low = lo.toInt64) (h2 : high = hi.toInt64) : px_KP M_X12_in [.long x.toInt64, .long low, .long high] n I L R (fun r => (r = 1 ∧ lo ≤ x ∧ x ≤ hi) ∨ (r = 0 ∧ ¬ (lo ≤ x ∧ x ≤ hi))) := by
  subst h1; subst h2
  exact px_K.mono (k_in hg _ _ _) (fun r n' I' L' R' ⟨h3, h4, x, h5, h6, h7, h8⟩ => ⟨h3, h4, x, h5, h6, h7, by rw [px_64, px_64] at h8; exact h8⟩)

theorem q_X12_isStation_0 : px_bk 12 2 cX12_isStation 0 [(.iload_n 1, (0, 0, 0, 0, 0), 0, 0), (.i2l, (0, 0, 0, 0, 0), 0, 0), (.lconst 0, (0, 0, 0, 0, 0), 0, 0), (.aload_n 0, (0, 0, 0, 0, 0), 0, 0), (.getfield 7, (12, 1, 0, 0, 0), 0, 0), (.iconst 1, (0, 0, 0, 0, 0), 1, 0), (.isub, (0, 0, 0, 0, 0), 0, 0), (.i2l, (0, 0, 0, 0, 0), 0, 0)] = some 10 ∧ px_tS cX12_isStation 10 167 = true := by decide +kernel
theorem q_X12_isStation_13 : px_bk 12 2 cX12_isStation 13 [] = some 13 ∧ px_tr cX12_isStation 13 .ireturn = true := by decide +kernel
set_option maxRecDepth 100000 in
theorem k_isStation {n : Nat} {I : px_I} {L : px_L} {R : px_R} (hg : px_G n R) (x : Int32) : px_KP M_X12_isStation [.ref 103, .int x] n I L R (fun r => (r = 1 ∧ 0 ≤ x ∧ x ≤ I 103 1 - 1) ∨ (r = 0 ∧ ¬ (0 ≤ x ∧ x ≤ I 103 1 - 1))) := by
  refine px_of (plainFor_of_name np_RX12) (fun _ _ _ => trivial) rfl ?_
  refine px_cSP rfl q_X12_isStation_0 hg rfl trivial lk_12_167 nm_X12_in (k_inI hg _ (0) _ (by decide) rfl) rfl rfl rfl ⟨rfl, rfl⟩ ?_
  intro x10 h10
  refine px_rzP rfl q_X12_isStation_13 rfl rfl rfl hg rfl trivial ⟨⟨rfl, rfl, rfl, rfl⟩, (by first | exact Or.inl rfl | exact Or.inr rfl | grind), ?_⟩
  grind

theorem q_X12_isAxis_0 : px_bk 12 1 cX12_isAxis 0 [(.iload_n 0, (0, 0, 0, 0, 0), 0, 0), (.i2l, (0, 0, 0, 0, 0), 0, 0), (.lconst 0, (0, 0, 0, 0, 0), 0, 0), (.ldc2_w 171, (0, 0, 0, 0, 0), 0, 2)] = some 6 ∧ px_tS cX12_isAxis 6 167 = true := by decide +kernel
theorem q_X12_isAxis_9 : px_bk 12 1 cX12_isAxis 9 [] = some 9 ∧ px_tr cX12_isAxis 9 .ireturn = true := by decide +kernel
set_option maxRecDepth 100000 in
theorem k_isAxis {n : Nat} {I : px_I} {L : px_L} {R : px_R} (hg : px_G n R) (x : Int32) : px_KP M_X12_isAxis [.int x] n I L R (fun r => (r = 1 ∧ 0 ≤ x ∧ x ≤ 2) ∨ (r = 0 ∧ ¬ (0 ≤ x ∧ x ≤ 2))) := by
  refine px_of (plainFor_of_name np_RX12) (fun _ _ _ => trivial) rfl ?_
  refine px_cSP rfl q_X12_isAxis_0 hg rfl trivial lk_12_167 nm_X12_in (k_inI hg _ (0) (2) (by decide) (by decide)) rfl rfl rfl ⟨rfl, rfl⟩ ?_
  intro x6 h6
  refine px_rzP rfl q_X12_isAxis_9 rfl rfl rfl hg rfl trivial ⟨⟨rfl, rfl, rfl, rfl⟩, (by first | exact Or.inl rfl | exact Or.inr rfl | grind), ?_⟩
  grind

theorem q_X12_isKnown_0 : px_bk 12 1 cX12_isKnown 0 [(.iload_n 0, (0, 0, 0, 0, 0), 0, 0), (.i2l, (0, 0, 0, 0, 0), 0, 0), (.lconst 0, (0, 0, 0, 0, 0), 0, 0), (.ldc2_w 173, (0, 0, 0, 0, 0), 0, 9999)] = some 6 ∧ px_tS cX12_isKnown 6 167 = true := by decide +kernel
theorem q_X12_isKnown_9 : px_bk 12 1 cX12_isKnown 9 [] = some 9 ∧ px_tr cX12_isKnown 9 .ireturn = true := by decide +kernel
set_option maxRecDepth 100000 in
theorem k_isKnown {n : Nat} {I : px_I} {L : px_L} {R : px_R} (hg : px_G n R) (x : Int32) : px_KP M_X12_isKnown [.int x] n I L R (fun r => (r = 1 ∧ 0 ≤ x ∧ x ≤ 9999) ∨ (r = 0 ∧ ¬ (0 ≤ x ∧ x ≤ 9999))) := by
  refine px_of (plainFor_of_name np_RX12) (fun _ _ _ => trivial) rfl ?_
  refine px_cSP rfl q_X12_isKnown_0 hg rfl trivial lk_12_167 nm_X12_in (k_inI hg _ (0) (9999) (by decide) (by decide)) rfl rfl rfl ⟨rfl, rfl⟩ ?_
  intro x6 h6
  refine px_rzP rfl q_X12_isKnown_9 rfl rfl rfl hg rfl trivial ⟨⟨rfl, rfl, rfl, rfl⟩, (by first | exact Or.inl rfl | exact Or.inr rfl | grind), ?_⟩
  grind

theorem q_X12_isPeg_0 : px_bk 12 3 cX12_isPeg 0 [(.iload_n 1, (0, 0, 0, 0, 0), 0, 0), (.i2l, (0, 0, 0, 0, 0), 0, 0), (.lconst 0, (0, 0, 0, 0, 0), 0, 0), (.lconst 1, (0, 0, 0, 0, 0), 0, 1)] = some 4 ∧ px_tS cX12_isPeg 4 167 = true := by decide +kernel
theorem q_X12_isPeg_7 : px_bk 12 3 cX12_isPeg 7 [] = some 7 ∧ px_t1 cX12_isPeg 7 .eq 32 = true := by decide +kernel
theorem q_X12_isPeg_32 : px_bk 12 3 cX12_isPeg 32 [(.iconst 0, (0, 0, 0, 0, 0), 0, 0)] = some 33 ∧ px_tr cX12_isPeg 33 .ireturn = true := by decide +kernel
theorem q_X12_isPeg_10 : px_bk 12 3 cX12_isPeg 10 [(.iload_n 2, (0, 0, 0, 0, 0), 0, 0), (.i2l, (0, 0, 0, 0, 0), 0, 0), (.lconst 0, (0, 0, 0, 0, 0), 0, 0), (.aload_n 0, (0, 0, 0, 0, 0), 0, 0), (.getfield 32, (12, 9, 3, 110, 0), 0, 0), (.iload_n 1, (0, 0, 0, 0, 0), 0, 0), (.iaload, (0, 0, 0, 0, 0), 0, 0), (.iconst 1, (0, 0, 0, 0, 0), 1, 0), (.isub, (0, 0, 0, 0, 0), 0, 0), (.i2l, (0, 0, 0, 0, 0), 0, 0)] = some 22 ∧ px_tS cX12_isPeg 22 167 = true := by decide +kernel
theorem q_X12_isPeg_25 : px_bk 12 3 cX12_isPeg 25 [] = some 25 ∧ px_t1 cX12_isPeg 25 .eq 32 = true := by decide +kernel
theorem q_X12_isPeg_28 : px_bk 12 3 cX12_isPeg 28 [(.iconst 1, (0, 0, 0, 0, 0), 1, 0), (.goto 4, (0, 0, 0, 0, 0), 0, 0)] = some 33 ∧ px_tr cX12_isPeg 33 .ireturn = true := by decide +kernel
set_option maxRecDepth 100000 in
theorem k_isPeg {n : Nat} {I : px_I} {L : px_L} {R : px_R} (hg : px_G n R) (g p : Int32) : px_KP M_X12_isPeg [.ref 103, .int g, .int p] n I L R (fun r => (r = 1 ∧ 0 ≤ g ∧ g ≤ 1 ∧ 0 ≤ p ∧ p ≤ I 110 g.toNatClampNeg - 1) ∨ (r = 0 ∧ ¬ (0 ≤ g ∧ g ≤ 1 ∧ 0 ≤ p ∧ p ≤ I 110 g.toNatClampNeg - 1))) := by
  refine px_of (plainFor_of_name np_RX12) (fun _ _ _ => trivial) rfl ?_
  refine px_cSP rfl q_X12_isPeg_0 hg rfl trivial lk_12_167 nm_X12_in (k_inI hg _ (0) (1) (by decide) (by decide)) rfl rfl rfl ⟨rfl, rfl⟩ ?_
  intro x4 h4
  refine px_eq rfl q_X12_isPeg_7 hg rfl trivial (fun c7 => ?_) (fun c7 => ?_)
  · replace h4 := px_bf h4 c7
    refine px_rzP rfl q_X12_isPeg_32 rfl rfl rfl hg rfl trivial ⟨⟨rfl, rfl, rfl, rfl⟩, (by first | exact Or.inl rfl | exact Or.inr rfl | grind), ?_⟩
    grind
  · replace h4 := px_bt h4 c7
    refine px_cSP rfl q_X12_isPeg_10 hg rfl ⟨trivial, (by first | decide | (refine ⟨?_, ?_⟩ <;> grind) | grind)⟩ lk_12_167 nm_X12_in (k_inI hg _ (0) _ (by decide) rfl) rfl rfl rfl ⟨rfl, rfl⟩ ?_
    intro x22 h22
    refine px_eq rfl q_X12_isPeg_25 hg rfl trivial (fun c25 => ?_) (fun c25 => ?_)
    · replace h22 := px_bf h22 c25
      refine px_rzP rfl q_X12_isPeg_32 rfl rfl rfl hg rfl trivial ⟨⟨rfl, rfl, rfl, rfl⟩, (by first | exact Or.inl rfl | exact Or.inr rfl | grind), ?_⟩
      grind
    · replace h22 := px_bt h22 c25
      refine px_rzP rfl q_X12_isPeg_28 rfl rfl rfl hg rfl trivial ⟨⟨rfl, rfl, rfl, rfl⟩, (by first | exact Or.inl rfl | exact Or.inr rfl | grind), ?_⟩
      grind

theorem q_X12_days_0 : px_bk 12 2 cX12_days 0 [(.iload_n 1, (0, 0, 0, 0, 0), 0, 0), (.i2l, (0, 0, 0, 0, 0), 0, 0), (.lconst 1, (0, 0, 0, 0, 0), 0, 1), (.ldc2_w 175, (0, 0, 0, 0, 0), 0, 1000)] = some 6 ∧ px_tS cX12_days 6 167 = true := by decide +kernel
theorem q_X12_days_9 : px_bk 12 2 cX12_days 9 [] = some 9 ∧ px_t1 cX12_days 9 .eq 24 = true := by decide +kernel
theorem q_X12_days_24 : px_bk 12 2 cX12_days 24 [(.iconst (-1), (0, 0, 0, 0, 0), -1, 0)] = some 25 ∧ px_tr cX12_days 25 .ireturn = true := by decide +kernel
theorem q_X12_days_12 : px_bk 12 2 cX12_days 12 [(.aload_n 0, (0, 0, 0, 0, 0), 0, 0), (.getfield 177, (12, 0, 0, 0, 0), 0, 0), (.iload_n 1, (0, 0, 0, 0, 0), 0, 0), (.iadd, (0, 0, 0, 0, 0), 0, 0), (.sipush 9999, (0, 0, 0, 0, 0), 9999, 0)] = some 21 ∧ px_t2 cX12_days 21 .le 26 = true := by decide +kernel
theorem q_X12_days_26 : px_bk 12 2 cX12_days 26 [(.aload_n 0, (0, 0, 0, 0, 0), 0, 0), (.dup, (0, 0, 0, 0, 0), 0, 0), (.getfield 177, (12, 0, 0, 0, 0), 0, 0), (.iload_n 1, (0, 0, 0, 0, 0), 0, 0), (.iadd, (0, 0, 0, 0, 0), 0, 0), (.putfield 177, (12, 0, 0, 0, 0), 0, 0), (.aload_n 0, (0, 0, 0, 0, 0), 0, 0), (.getfield 177, (12, 0, 0, 0, 0), 0, 0)] = some 40 ∧ px_tr cX12_days 40 .ireturn = true := by decide +kernel
set_option maxRecDepth 100000 in
theorem k_days {n : Nat} {I : px_I} {L : px_L} {R : px_R} (hg : px_G n R) (x : Int32) : px_KS M_X12_days [.ref 103, .int x] n I L R (fun r I2 L2 => L2 = L ∧ ((1 ≤ x ∧ x ≤ 1000 ∧ I 103 0 + x ≤ 9999 ∧ r = I 103 0 + x ∧ I2 = px_u I 103 0 (I 103 0 + x)) ∨ (¬ (1 ≤ x ∧ x ≤ 1000 ∧ I 103 0 + x ≤ 9999) ∧ r = -1 ∧ I2 = I))) := by
  refine px_of (plainFor_of_name np_RX12) (fun _ _ _ => trivial) rfl ?_
  refine px_cSP rfl q_X12_days_0 hg rfl trivial lk_12_167 nm_X12_in (k_inI hg _ (1) (1000) (by decide) (by decide)) rfl rfl rfl ⟨rfl, rfl⟩ ?_
  intro x6 h6
  refine px_eq rfl q_X12_days_9 hg rfl trivial (fun c9 => ?_) (fun c9 => ?_)
  · replace h6 := px_bf h6 c9
    refine px_riS rfl q_X12_days_24 rfl rfl rfl hg rfl trivial ⟨⟨rfl, rfl⟩, ?_⟩
    grind [px_u_at]
  · replace h6 := px_bt h6 c9
    refine px_ile rfl q_X12_days_12 hg rfl trivial (fun c21 => ?_) (fun c21 => ?_)
    · refine px_riS rfl q_X12_days_26 rfl rfl rfl hg rfl trivial ⟨⟨rfl, rfl⟩, ?_⟩
      grind [px_u_at]
    · refine px_riS rfl q_X12_days_24 rfl rfl rfl hg rfl trivial ⟨⟨rfl, rfl⟩, ?_⟩
      grind [px_u_at]

theorem q_X12_station_0 : px_bk 12 1 cX12_station 0 [(.aload_n 0, (0, 0, 0, 0, 0), 0, 0), (.getfield 7, (12, 1, 0, 0, 0), 0, 0), (.bipush 24, (0, 0, 0, 0, 0), 24, 0)] = some 6 ∧ px_t2 cX12_station 6 .ne 11 = true := by decide +kernel
theorem q_X12_station_11 : px_bk 12 1 cX12_station 11 [(.aload_n 0, (0, 0, 0, 0, 0), 0, 0), (.dup, (0, 0, 0, 0, 0), 0, 0), (.getfield 7, (12, 1, 0, 0, 0), 0, 0), (.iconst 1, (0, 0, 0, 0, 0), 1, 0), (.iadd, (0, 0, 0, 0, 0), 0, 0), (.putfield 7, (12, 1, 0, 0, 0), 0, 0), (.aload_n 0, (0, 0, 0, 0, 0), 0, 0), (.getfield 7, (12, 1, 0, 0, 0), 0, 0), (.iconst 1, (0, 0, 0, 0, 0), 1, 0), (.isub, (0, 0, 0, 0, 0), 0, 0)] = some 27 ∧ px_tr cX12_station 27 .ireturn = true := by decide +kernel
theorem q_X12_station_9 : px_bk 12 1 cX12_station 9 [(.iconst (-1), (0, 0, 0, 0, 0), -1, 0)] = some 10 ∧ px_tr cX12_station 10 .ireturn = true := by decide +kernel
set_option maxRecDepth 100000 in
theorem k_station {n : Nat} {I : px_I} {L : px_L} {R : px_R} (hg : px_G n R)  : px_KS M_X12_station [.ref 103] n I L R (fun r I2 L2 => L2 = L ∧ ((I 103 1 ≠ 24 ∧ r = I 103 1 ∧ I2 = px_u I 103 1 (I 103 1 + 1)) ∨ (I 103 1 = 24 ∧ r = -1 ∧ I2 = I))) := by
  refine px_of (plainFor_of_name np_RX12) (fun _ _ _ => trivial) rfl ?_
  refine px_ine rfl q_X12_station_0 hg rfl trivial (fun c6 => ?_) (fun c6 => ?_)
  · refine px_riS rfl q_X12_station_11 rfl rfl rfl hg rfl trivial ⟨⟨rfl, rfl⟩, ?_⟩
    grind [px_u_at]
  · refine px_riS rfl q_X12_station_9 rfl rfl rfl hg rfl trivial ⟨⟨rfl, rfl⟩, ?_⟩
    grind [px_u_at]

theorem q_X12_sight_0 : px_bk 12 6 cX12_sight 0 [(.iload_n 1, (0, 0, 0, 0, 0), 0, 0)] = some 1 ∧ px_tS cX12_sight 1 180 = true := by decide +kernel
theorem q_X12_sight_4 : px_bk 12 6 cX12_sight 4 [] = some 4 ∧ px_t1 cX12_sight 4 .eq 67 = true := by decide +kernel
theorem q_X12_sight_67 : px_bk 12 6 cX12_sight 67 [(.iconst (-1), (0, 0, 0, 0, 0), -1, 0)] = some 68 ∧ px_tr cX12_sight 68 .ireturn = true := by decide +kernel
theorem q_X12_sight_7 : px_bk 12 6 cX12_sight 7 [(.aload_n 0, (0, 0, 0, 0, 0), 0, 0), (.iload_n 2, (0, 0, 0, 0, 0), 0, 0)] = some 9 ∧ px_tv cX12_sight 9 184 = true := by decide +kernel
theorem q_X12_sight_12 : px_bk 12 6 cX12_sight 12 [] = some 12 ∧ px_t1 cX12_sight 12 .eq 67 = true := by decide +kernel
theorem q_X12_sight_15 : px_bk 12 6 cX12_sight 15 [(.aload_n 0, (0, 0, 0, 0, 0), 0, 0), (.iload_n 3, (0, 0, 0, 0, 0), 0, 0)] = some 17 ∧ px_tv cX12_sight 17 184 = true := by decide +kernel
theorem q_X12_sight_20 : px_bk 12 6 cX12_sight 20 [] = some 20 ∧ px_t1 cX12_sight 20 .eq 67 = true := by decide +kernel
theorem q_X12_sight_23 : px_bk 12 6 cX12_sight 23 [(.iload_n 2, (0, 0, 0, 0, 0), 0, 0), (.iload_n 3, (0, 0, 0, 0, 0), 0, 0)] = some 25 ∧ px_t2 cX12_sight 25 .eq 67 = true := by decide +kernel
theorem q_X12_sight_28 : px_bk 12 6 cX12_sight 28 [(.iload 4, (0, 0, 0, 0, 0), 0, 0), (.i2l, (0, 0, 0, 0, 0), 0, 0), (.ldc2_w 187, (0, 0, 0, 0, 0), 0, -1000000), (.ldc2_w 189, (0, 0, 0, 0, 0), 0, 1000000)] = some 37 ∧ px_tS cX12_sight 37 167 = true := by decide +kernel
theorem q_X12_sight_40 : px_bk 12 6 cX12_sight 40 [] = some 40 ∧ px_t1 cX12_sight 40 .eq 67 = true := by decide +kernel
theorem q_X12_sight_43 : px_bk 12 6 cX12_sight 43 [(.iload 5, (0, 0, 0, 0, 0), 0, 0), (.i2l, (0, 0, 0, 0, 0), 0, 0), (.iload 4, (0, 0, 0, 0, 0), 0, 0), (.i2l, (0, 0, 0, 0, 0), 0, 0), (.ldc2_w 189, (0, 0, 0, 0, 0), 0, 1000000)] = some 52 ∧ px_tS cX12_sight 52 167 = true := by decide +kernel
theorem q_X12_sight_55 : px_bk 12 6 cX12_sight 55 [] = some 55 ∧ px_t1 cX12_sight 55 .eq 67 = true := by decide +kernel
theorem q_X12_sight_58 : px_bk 12 6 cX12_sight 58 [(.aload_n 0, (0, 0, 0, 0, 0), 0, 0), (.getfield 191, (12, 2, 0, 0, 0), 0, 0), (.bipush 80, (0, 0, 0, 0, 0), 80, 0)] = some 64 ∧ px_t2 cX12_sight 64 .ne 69 = true := by decide +kernel
theorem q_X12_sight_69 : px_bk 12 6 cX12_sight 69 [(.aload_n 0, (0, 0, 0, 0, 0), 0, 0), (.getfield 13, (12, 3, 3, 104, 0), 0, 0), (.aload_n 0, (0, 0, 0, 0, 0), 0, 0), (.getfield 191, (12, 2, 0, 0, 0), 0, 0), (.iload_n 1, (0, 0, 0, 0, 0), 0, 0), (.iastore, (0, 0, 0, 0, 0), 0, 0), (.aload_n 0, (0, 0, 0, 0, 0), 0, 0), (.getfield 17, (12, 4, 3, 105, 0), 0, 0), (.aload_n 0, (0, 0, 0, 0, 0), 0, 0), (.getfield 191, (12, 2, 0, 0, 0), 0, 0), (.iload_n 2, (0, 0, 0, 0, 0), 0, 0), (.iastore, (0, 0, 0, 0, 0), 0, 0), (.aload_n 0, (0, 0, 0, 0, 0), 0, 0), (.getfield 20, (12, 5, 3, 106, 0), 0, 0), (.aload_n 0, (0, 0, 0, 0, 0), 0, 0), (.getfield 191, (12, 2, 0, 0, 0), 0, 0), (.iload_n 3, (0, 0, 0, 0, 0), 0, 0), (.iastore, (0, 0, 0, 0, 0), 0, 0), (.aload_n 0, (0, 0, 0, 0, 0), 0, 0), (.getfield 23, (12, 6, 3, 107, 0), 0, 0), (.aload_n 0, (0, 0, 0, 0, 0), 0, 0), (.getfield 191, (12, 2, 0, 0, 0), 0, 0), (.iload 4, (0, 0, 0, 0, 0), 0, 0), (.iastore, (0, 0, 0, 0, 0), 0, 0), (.aload_n 0, (0, 0, 0, 0, 0), 0, 0), (.getfield 26, (12, 7, 3, 108, 0), 0, 0), (.aload_n 0, (0, 0, 0, 0, 0), 0, 0), (.getfield 191, (12, 2, 0, 0, 0), 0, 0), (.iload 5, (0, 0, 0, 0, 0), 0, 0), (.iastore, (0, 0, 0, 0, 0), 0, 0), (.aload_n 0, (0, 0, 0, 0, 0), 0, 0), (.getfield 29, (12, 8, 3, 109, 0), 0, 0), (.aload_n 0, (0, 0, 0, 0, 0), 0, 0), (.getfield 191, (12, 2, 0, 0, 0), 0, 0), (.aload_n 0, (0, 0, 0, 0, 0), 0, 0), (.getfield 177, (12, 0, 0, 0, 0), 0, 0), (.iastore, (0, 0, 0, 0, 0), 0, 0), (.aload_n 0, (0, 0, 0, 0, 0), 0, 0), (.dup, (0, 0, 0, 0, 0), 0, 0), (.getfield 191, (12, 2, 0, 0, 0), 0, 0), (.iconst 1, (0, 0, 0, 0, 0), 1, 0), (.iadd, (0, 0, 0, 0, 0), 0, 0), (.putfield 191, (12, 2, 0, 0, 0), 0, 0), (.aload_n 0, (0, 0, 0, 0, 0), 0, 0), (.getfield 191, (12, 2, 0, 0, 0), 0, 0), (.iconst 1, (0, 0, 0, 0, 0), 1, 0), (.isub, (0, 0, 0, 0, 0), 0, 0)] = some 150 ∧ px_tr cX12_sight 150 .ireturn = true := by decide +kernel
set_option maxRecDepth 100000 in
theorem k_sight {n : Nat} {I : px_I} {L : px_L} {R : px_R} (hg : px_G n R) (a f t lo hi : Int32) (hs : 0 ≤ I 103 2 ∧ I 103 2 ≤ 80) : px_KS M_X12_sight [.ref 103, .int a, .int f, .int t, .int lo, .int hi] n I L R (fun r I2 L2 => L2 = L ∧ ((((0 ≤ a ∧ a ≤ 2) ∧ (0 ≤ f ∧ f ≤ I 103 1 - 1) ∧ (0 ≤ t ∧ t ≤ I 103 1 - 1) ∧ f ≠ t ∧ (-1000000 ≤ lo ∧ lo ≤ 1000000) ∧ (lo ≤ hi ∧ hi ≤ 1000000) ∧ I 103 2 ≠ 80) ∧ r = I 103 2 ∧ I2 = px_u (px_u (px_u (px_u (px_u (px_u (px_u I 104 (I 103 2).toNatClampNeg a) 105 (I 103 2).toNatClampNeg f) 106 (I 103 2).toNatClampNeg t) 107 (I 103 2).toNatClampNeg lo) 108 (I 103 2).toNatClampNeg hi) 109 (I 103 2).toNatClampNeg (I 103 0)) 103 2 (I 103 2 + 1)) ∨
  (¬ ((0 ≤ a ∧ a ≤ 2) ∧ (0 ≤ f ∧ f ≤ I 103 1 - 1) ∧ (0 ≤ t ∧ t ≤ I 103 1 - 1) ∧ f ≠ t ∧ (-1000000 ≤ lo ∧ lo ≤ 1000000) ∧ (lo ≤ hi ∧ hi ≤ 1000000) ∧ I 103 2 ≠ 80) ∧ r = -1 ∧ I2 = I))) := by
  refine px_of (plainFor_of_name np_RX12) (fun _ _ _ => trivial) rfl ?_
  refine px_cSP rfl q_X12_sight_0 hg rfl trivial lk_12_180 nm_X12_isAxis (k_isAxis hg _) rfl rfl rfl ⟨rfl, rfl⟩ ?_
  intro x1 h1
  refine px_eq rfl q_X12_sight_4 hg rfl trivial (fun c4 => ?_) (fun c4 => ?_)
  · replace h1 := px_bf h1 c4
    refine px_riS rfl q_X12_sight_67 rfl rfl rfl hg rfl trivial ⟨⟨rfl, rfl⟩, ?_⟩
    grind
  · replace h1 := px_bt h1 c4
    refine px_cVP (ci := 12) rfl q_X12_sight_7 hg rfl trivial lk_12_184 nm_X12_isStation (k_isStation hg _) rfl rfl (px_lit hg rfl) rfl rfl rfl ⟨rfl, rfl⟩ ?_
    intro x9 h9
    refine px_eq rfl q_X12_sight_12 hg rfl trivial (fun c12 => ?_) (fun c12 => ?_)
    · replace h9 := px_bf h9 c12
      refine px_riS rfl q_X12_sight_67 rfl rfl rfl hg rfl trivial ⟨⟨rfl, rfl⟩, ?_⟩
      grind
    · replace h9 := px_bt h9 c12
      refine px_cVP (ci := 12) rfl q_X12_sight_15 hg rfl trivial lk_12_184 nm_X12_isStation (k_isStation hg _) rfl rfl (px_lit hg rfl) rfl rfl rfl ⟨rfl, rfl⟩ ?_
      intro x17 h17
      refine px_eq rfl q_X12_sight_20 hg rfl trivial (fun c20 => ?_) (fun c20 => ?_)
      · replace h17 := px_bf h17 c20
        refine px_riS rfl q_X12_sight_67 rfl rfl rfl hg rfl trivial ⟨⟨rfl, rfl⟩, ?_⟩
        grind
      · replace h17 := px_bt h17 c20
        refine px_ieq rfl q_X12_sight_23 hg rfl trivial (fun c25 => ?_) (fun c25 => ?_)
        · refine px_riS rfl q_X12_sight_67 rfl rfl rfl hg rfl trivial ⟨⟨rfl, rfl⟩, ?_⟩
          grind
        · refine px_cSP rfl q_X12_sight_28 hg rfl trivial lk_12_167 nm_X12_in (k_inI hg _ (-1000000) (1000000) (by decide) (by decide)) rfl rfl rfl ⟨rfl, rfl⟩ ?_
          intro x37 h37
          refine px_eq rfl q_X12_sight_40 hg rfl trivial (fun c40 => ?_) (fun c40 => ?_)
          · replace h37 := px_bf h37 c40
            refine px_riS rfl q_X12_sight_67 rfl rfl rfl hg rfl trivial ⟨⟨rfl, rfl⟩, ?_⟩
            grind
          · replace h37 := px_bt h37 c40
            refine px_cSP rfl q_X12_sight_43 hg rfl trivial lk_12_167 nm_X12_in (k_inI hg _ _ (1000000) rfl (by decide)) rfl rfl rfl ⟨rfl, rfl⟩ ?_
            intro x52 h52
            refine px_eq rfl q_X12_sight_55 hg rfl trivial (fun c55 => ?_) (fun c55 => ?_)
            · replace h52 := px_bf h52 c55
              refine px_riS rfl q_X12_sight_67 rfl rfl rfl hg rfl trivial ⟨⟨rfl, rfl⟩, ?_⟩
              grind
            · replace h52 := px_bt h52 c55
              refine px_ine rfl q_X12_sight_58 hg rfl trivial (fun c64 => ?_) (fun c64 => ?_)
              · refine px_riS rfl q_X12_sight_69 rfl rfl rfl hg rfl ⟨⟨⟨⟨⟨⟨trivial, (by first | decide | (refine ⟨?_, ?_⟩ <;> grind) | grind)⟩, (by first | decide | (refine ⟨?_, ?_⟩ <;> grind) | grind)⟩, (by first | decide | (refine ⟨?_, ?_⟩ <;> grind) | grind)⟩, (by first | decide | (refine ⟨?_, ?_⟩ <;> grind) | grind)⟩, (by first | decide | (refine ⟨?_, ?_⟩ <;> grind) | grind)⟩, (by first | decide | (refine ⟨?_, ?_⟩ <;> grind) | grind)⟩ ⟨⟨rfl, rfl⟩, ?_⟩
                grind
              · refine px_riS rfl q_X12_sight_67 rfl rfl rfl hg rfl trivial ⟨⟨rfl, rfl⟩, ?_⟩
                grind
end
section
/-! the reference: the table of distances -/
/-- of the reference only its table of distances and its size may have changed -/
def mDI (I I2 : px_I) : Prop := ∀ b j, ¬ (b = 103 ∧ j = 70) → I2 b j = I b j
def mDL (L L2 : px_L) : Prop := ∀ b, b ≠ 143 → L2 b = L b
def mS (I : px_I) : Prop := (1 ≤ I 103 1 ∧ I 103 1 ≤ 24) ∧ (0 ≤ I 103 2 ∧ I 103 2 ≤ 80) ∧ ∀ k : Int32, 0 ≤ k → k < I 103 2 → (0 ≤ I 105 k.toNatClampNeg ∧ I 105 k.toNatClampNeg < 24) ∧ (0 ≤ I 106 k.toNatClampNeg ∧ I 106 k.toNatClampNeg < 24)

theorem q_X12_begins_7 : px_bk 12 3 cX12_begins 7 [(.iload_n 2, (0, 0, 0, 0, 0), 0, 0), (.sipush 576, (0, 0, 0, 0, 0), 576, 0)] = some 11 ∧ px_t2 cX12_begins 11 .ge 44 = true := by decide +kernel
theorem q_X12_begins_44 : px_bk 12 3 cX12_begins 44 [] = some 44 ∧ px_tr cX12_begins 44 .return_ = true := by decide +kernel
theorem q_X12_begins_14 : px_bk 12 3 cX12_begins 14 [(.aload_n 0, (0, 0, 0, 0, 0), 0, 0), (.getfield 155, (12, 69, 3, 143, 0), 0, 0), (.iload_n 2, (0, 0, 0, 0, 0), 0, 0), (.iload_n 2, (0, 0, 0, 0, 0), 0, 0), (.bipush 24, (0, 0, 0, 0, 0), 24, 0), (.idiv, (0, 0, 0, 0, 0), 0, 0), (.iload_n 2, (0, 0, 0, 0, 0), 0, 0), (.bipush 24, (0, 0, 0, 0, 0), 24, 0), (.irem, (0, 0, 0, 0, 0), 0, 0)] = some 27 ∧ px_t2 cX12_begins 27 .ne 34 = true := by decide +kernel
theorem q_X12_begins_34 : px_bk 12 3 cX12_begins 34 [(.ldc2_w 197, (0, 0, 0, 0, 0), 0, 1000000000000), (.lastore, (0, 0, 0, 0, 0), 0, 0), (.iinc 2 1, (0, 0, 0, 0, 0), 1, 0), (.goto (-34), (0, 0, 0, 0, 0), 0, 0)] = some 7 := by decide +kernel
theorem q_X12_begins_30 : px_bk 12 3 cX12_begins 30 [(.lconst 0, (0, 0, 0, 0, 0), 0, 0), (.goto 6, (0, 0, 0, 0, 0), 0, 0), (.lastore, (0, 0, 0, 0, 0), 0, 0), (.iinc 2 1, (0, 0, 0, 0, 0), 1, 0), (.goto (-34), (0, 0, 0, 0, 0), 0, 0)] = some 7 := by decide +kernel
set_option maxRecDepth 100000 in
theorem l_begins {n : Nat} {R : px_R} (hg : px_G n R) {Q : px_Q} (n0 : Int32) {I : px_I} (L : px_L) (hq : ∀ L2, mDL L L2 → Q none n I L2 R) : ∀ k : Int32, k ≤ 576 → 0 ≤ k → ∀ L1, mDL L L1 → px M_X12_begins 0 0 7 [(0, .ref 103), (1, .int n0), (2, .int k)] [] n I L1 R Q := by
  refine px_up 576 (fun k ih hk => ?_)
  intro h0 L1 h1
  refine px_ige rfl q_X12_begins_7 hg rfl trivial (fun c11 => ?_) (fun c11 => ?_)
  · refine px_rv rfl q_X12_begins_44 rfl rfl rfl hg rfl trivial ?_
    exact hq _ h1
  · refine px_ine rfl q_X12_begins_14 hg rfl ⟨⟨trivial, (by first | decide | (refine ⟨?_, ?_⟩ <;> grind) | grind)⟩, (by first | decide | (refine ⟨?_, ?_⟩ <;> grind) | grind)⟩ (fun c27 => ?_) (fun c27 => ?_)
    · refine px_b rfl q_X12_begins_34 hg rfl ⟨trivial, (by first | decide | (refine ⟨?_, ?_⟩ <;> grind) | grind)⟩ ?_
      exact px_go (ih (k + 1) (by grind) (by grind) (by grind) _ (by unfold mDL at *; grind [px_u_ne])) ⟨rfl, rfl, rfl, trivial⟩
    · refine px_b rfl q_X12_begins_30 hg rfl ⟨trivial, (by first | decide | (refine ⟨?_, ?_⟩ <;> grind) | grind)⟩ ?_
      exact px_go (ih (k + 1) (by grind) (by grind) (by grind) _ (by unfold mDL at *; grind [px_u_ne])) ⟨rfl, rfl, rfl, trivial⟩

theorem q_X12_begins_0 : px_bk 12 3 cX12_begins 0 [(.aload_n 0, (0, 0, 0, 0, 0), 0, 0), (.iload_n 1, (0, 0, 0, 0, 0), 0, 0), (.putfield 194, (12, 70, 0, 0, 0), 0, 0), (.iconst 0, (0, 0, 0, 0, 0), 0, 0), (.istore_n 2, (0, 0, 0, 0, 0), 0, 0)] = some 7 := by decide +kernel
set_option maxRecDepth 100000 in
theorem k_begins {n : Nat} {I : px_I} {L : px_L} {R : px_R} (hg : px_G n R) (n0 : Int32) : px_KV M_X12_begins [.ref 103, .int n0] n I L R (fun I2 L2 => I2 = px_u I 103 70 n0 ∧ mDL L L2) := by
  refine px_of (plainFor_of_name np_RX12) (fun _ _ _ => trivial) rfl ?_
  refine px_b rfl q_X12_begins_0 hg rfl trivial ?_
  exact px_go (l_begins hg n0 L (fun L2 h => ⟨rfl, rfl, rfl, rfl, h⟩) 0 (by decide) (by decide) L (fun _ _ => rfl)) ⟨rfl, rfl, rfl, trivial⟩

theorem q_X12_bounds_0 : px_bk 12 6 cX12_bounds 0 [(.bipush 24, (0, 0, 0, 0, 0), 24, 0), (.iload_n 1, (0, 0, 0, 0, 0), 0, 0), (.imul, (0, 0, 0, 0, 0), 0, 0), (.iload_n 2, (0, 0, 0, 0, 0), 0, 0), (.iadd, (0, 0, 0, 0, 0), 0, 0), (.istore 5, (0, 0, 0, 0, 0), 0, 0), (.aload_n 0, (0, 0, 0, 0, 0), 0, 0), (.getfield 155, (12, 69, 3, 143, 0), 0, 0), (.iload 5, (0, 0, 0, 0, 0), 0, 0), (.lload_n 3, (0, 0, 0, 0, 0), 0, 0), (.aload_n 0, (0, 0, 0, 0, 0), 0, 0), (.getfield 155, (12, 69, 3, 143, 0), 0, 0), (.iload 5, (0, 0, 0, 0, 0), 0, 0), (.laload, (0, 0, 0, 0, 0), 0, 0), (.lcmp, (0, 0, 0, 0, 0), 0, 0)] = some 23 ∧ px_t1 cX12_bounds 23 .ge 30 = true := by decide +kernel
theorem q_X12_bounds_30 : px_bk 12 6 cX12_bounds 30 [(.aload_n 0, (0, 0, 0, 0, 0), 0, 0), (.getfield 155, (12, 69, 3, 143, 0), 0, 0), (.iload 5, (0, 0, 0, 0, 0), 0, 0), (.laload, (0, 0, 0, 0, 0), 0, 0), (.lastore, (0, 0, 0, 0, 0), 0, 0)] = some 38 ∧ px_tr cX12_bounds 38 .return_ = true := by decide +kernel
theorem q_X12_bounds_26 : px_bk 12 6 cX12_bounds 26 [(.lload_n 3, (0, 0, 0, 0, 0), 0, 0), (.goto 10, (0, 0, 0, 0, 0), 0, 0), (.lastore, (0, 0, 0, 0, 0), 0, 0)] = some 38 ∧ px_tr cX12_bounds 38 .return_ = true := by decide +kernel
set_option maxRecDepth 100000 in
theorem k_bounds {n : Nat} {I : px_I} {L : px_L} {R : px_R} (hg : px_G n R) (f s : Int32) (v : Int64) (hb : 0 ≤ 24 * f + s ∧ 24 * f + s < 576) : px_KV M_X12_bounds [.ref 103, .int f, .int s, .long v] n I L R (fun I2 L2 => I2 = I ∧ mDL L L2) := by
  refine px_of (plainFor_of_name np_RX12) (fun _ _ _ => trivial) rfl ?_
  refine px_lge rfl q_X12_bounds_0 hg rfl ⟨trivial, (by first | decide | (refine ⟨?_, ?_⟩ <;> grind) | grind)⟩ (fun c23 => ?_) (fun c23 => ?_)
  · refine px_rvW rfl q_X12_bounds_30 rfl rfl rfl hg rfl ⟨⟨trivial, (by first | decide | (refine ⟨?_, ?_⟩ <;> grind) | grind)⟩, (by first | decide | (refine ⟨?_, ?_⟩ <;> grind) | grind)⟩ ⟨⟨rfl, rfl⟩, ?_⟩
    exact ⟨rfl, fun b hb => px_u_ne hb⟩
  · refine px_rvW rfl q_X12_bounds_26 rfl rfl rfl hg rfl ⟨trivial, (by first | decide | (refine ⟨?_, ?_⟩ <;> grind) | grind)⟩ ⟨⟨rfl, rfl⟩, ?_⟩
    exact ⟨rfl, fun b hb => px_u_ne hb⟩

theorem q_X12_closes_22 : px_bk 12 4 cX12_closes 22 [(.iload_n 3, (0, 0, 0, 0, 0), 0, 0), (.aload_n 0, (0, 0, 0, 0, 0), 0, 0), (.getfield 194, (12, 70, 0, 0, 0), 0, 0)] = some 27 ∧ px_t2 cX12_closes 27 .ge 101 = true := by decide +kernel
theorem q_X12_closes_101 : px_bk 12 4 cX12_closes 101 [(.iinc 2 1, (0, 0, 0, 0, 0), 1, 0), (.goto (-92), (0, 0, 0, 0, 0), 0, 0)] = some 12 := by decide +kernel
theorem q_X12_closes_30 : px_bk 12 4 cX12_closes 30 [(.aload_n 0, (0, 0, 0, 0, 0), 0, 0), (.getfield 155, (12, 69, 3, 143, 0), 0, 0), (.bipush 24, (0, 0, 0, 0, 0), 24, 0), (.iload_n 2, (0, 0, 0, 0, 0), 0, 0), (.imul, (0, 0, 0, 0, 0), 0, 0), (.iload_n 1, (0, 0, 0, 0, 0), 0, 0), (.iadd, (0, 0, 0, 0, 0), 0, 0), (.laload, (0, 0, 0, 0, 0), 0, 0), (.ldc2_w 197, (0, 0, 0, 0, 0), 0, 1000000000000), (.lcmp, (0, 0, 0, 0, 0), 0, 0)] = some 45 ∧ px_t1 cX12_closes 45 .ge 95 = true := by decide +kernel
theorem q_X12_closes_95 : px_bk 12 4 cX12_closes 95 [(.iinc 3 1, (0, 0, 0, 0, 0), 1, 0), (.goto (-76), (0, 0, 0, 0, 0), 0, 0)] = some 22 := by decide +kernel
theorem q_X12_closes_48 : px_bk 12 4 cX12_closes 48 [(.aload_n 0, (0, 0, 0, 0, 0), 0, 0), (.getfield 155, (12, 69, 3, 143, 0), 0, 0), (.bipush 24, (0, 0, 0, 0, 0), 24, 0), (.iload_n 1, (0, 0, 0, 0, 0), 0, 0), (.imul, (0, 0, 0, 0, 0), 0, 0), (.iload_n 3, (0, 0, 0, 0, 0), 0, 0), (.iadd, (0, 0, 0, 0, 0), 0, 0), (.laload, (0, 0, 0, 0, 0), 0, 0), (.ldc2_w 197, (0, 0, 0, 0, 0), 0, 1000000000000), (.lcmp, (0, 0, 0, 0, 0), 0, 0)] = some 63 ∧ px_t1 cX12_closes 63 .ge 95 = true := by decide +kernel
theorem q_X12_closes_66 : px_bk 12 4 cX12_closes 66 [(.aload_n 0, (0, 0, 0, 0, 0), 0, 0), (.iload_n 2, (0, 0, 0, 0, 0), 0, 0), (.iload_n 3, (0, 0, 0, 0, 0), 0, 0), (.aload_n 0, (0, 0, 0, 0, 0), 0, 0), (.getfield 155, (12, 69, 3, 143, 0), 0, 0), (.bipush 24, (0, 0, 0, 0, 0), 24, 0), (.iload_n 2, (0, 0, 0, 0, 0), 0, 0), (.imul, (0, 0, 0, 0, 0), 0, 0), (.iload_n 1, (0, 0, 0, 0, 0), 0, 0), (.iadd, (0, 0, 0, 0, 0), 0, 0), (.laload, (0, 0, 0, 0, 0), 0, 0), (.aload_n 0, (0, 0, 0, 0, 0), 0, 0), (.getfield 155, (12, 69, 3, 143, 0), 0, 0), (.bipush 24, (0, 0, 0, 0, 0), 24, 0), (.iload_n 1, (0, 0, 0, 0, 0), 0, 0), (.imul, (0, 0, 0, 0, 0), 0, 0), (.iload_n 3, (0, 0, 0, 0, 0), 0, 0), (.iadd, (0, 0, 0, 0, 0), 0, 0), (.laload, (0, 0, 0, 0, 0), 0, 0), (.ladd, (0, 0, 0, 0, 0), 0, 0)] = some 92 ∧ px_tv cX12_closes 92 199 = true := by decide +kernel
set_option maxRecDepth 100000 in
theorem l_closes22 {n : Nat} {R : px_R} (hg : px_G n R) {Q : px_Q} (m i : Int32) {I : px_I} (L : px_L) (hm : 0 ≤ m ∧ m < I 103 70) (hi : 0 ≤ i ∧ i < I 103 70) (hs : I 103 70 ≤ 24) (hq : ∀ L2, mDL L L2 → px M_X12_closes 0 0 12 [(0, .ref 103), (1, .int m), (2, .int (i + 1))] [] n I L2 R Q) : ∀ j : Int32, j ≤ I 103 70 → 0 ≤ j → ∀ L1, mDL L L1 → px M_X12_closes 0 0 22 [(0, .ref 103), (1, .int m), (2, .int i), (3, .int j)] [] n I L1 R Q := by
  refine px_up _ (fun j ih hk => ?_)
  intro h0 L1 h1
  refine px_ige rfl q_X12_closes_22 hg rfl trivial (fun c27 => ?_) (fun c27 => ?_)
  · refine px_b rfl q_X12_closes_101 hg rfl trivial ?_
    exact px_go (hq _ h1) ⟨rfl, rfl, rfl, trivial⟩
  · refine px_lge rfl q_X12_closes_30 hg rfl ⟨trivial, (by first | decide | (refine ⟨?_, ?_⟩ <;> grind) | grind)⟩ (fun c45 => ?_) (fun c45 => ?_)
    · refine px_b rfl q_X12_closes_95 hg rfl trivial ?_
      exact px_go (ih (j + 1) (by grind) (by grind) (by grind) _ (by first | assumption | (unfold mDL at *; grind))) ⟨rfl, rfl, rfl, rfl, trivial⟩
    · refine px_lge rfl q_X12_closes_48 hg rfl ⟨trivial, (by first | decide | (refine ⟨?_, ?_⟩ <;> grind) | grind)⟩ (fun c63 => ?_) (fun c63 => ?_)
      · refine px_b rfl q_X12_closes_95 hg rfl trivial ?_
        exact px_go (ih (j + 1) (by grind) (by grind) (by grind) _ (by first | assumption | (unfold mDL at *; grind))) ⟨rfl, rfl, rfl, rfl, trivial⟩
      · refine px_cVW (ci := 12) rfl q_X12_closes_66 hg rfl ⟨⟨trivial, (by first | decide | (refine ⟨?_, ?_⟩ <;> grind) | grind)⟩, (by first | decide | (refine ⟨?_, ?_⟩ <;> grind) | grind)⟩ lk_12_199 nm_X12_bounds (k_bounds hg _ _ _ (by grind)) rfl rfl (px_lit hg rfl) rfl rfl rfl ⟨rfl, rfl⟩ ?_
        intro I92 L92 h92
        obtain ⟨rfl, h92⟩ := h92
        refine px_b rfl q_X12_closes_95 hg rfl trivial ?_
        exact px_go (ih (j + 1) (by grind) (by grind) (by grind) _ (by first | assumption | (unfold mDL at *; grind))) ⟨rfl, rfl, rfl, rfl, trivial⟩

theorem q_X12_closes_12 : px_bk 12 4 cX12_closes 12 [(.iload_n 2, (0, 0, 0, 0, 0), 0, 0), (.aload_n 0, (0, 0, 0, 0, 0), 0, 0), (.getfield 194, (12, 70, 0, 0, 0), 0, 0)] = some 17 ∧ px_t2 cX12_closes 17 .ge 107 = true := by decide +kernel
theorem q_X12_closes_107 : px_bk 12 4 cX12_closes 107 [(.iinc 1 1, (0, 0, 0, 0, 0), 1, 0), (.goto (-108), (0, 0, 0, 0, 0), 0, 0)] = some 2 := by decide +kernel
theorem q_X12_closes_20 : px_bk 12 4 cX12_closes 20 [(.iconst 0, (0, 0, 0, 0, 0), 0, 0), (.istore_n 3, (0, 0, 0, 0, 0), 0, 0)] = some 22 := by decide +kernel
set_option maxRecDepth 100000 in
theorem l_closes12 {n : Nat} {R : px_R} (hg : px_G n R) {Q : px_Q} (m : Int32) {I : px_I} (L : px_L) (hm : 0 ≤ m ∧ m < I 103 70) (hs : I 103 70 ≤ 24) (hq : ∀ L2, mDL L L2 → px M_X12_closes 0 0 2 [(0, .ref 103), (1, .int (m + 1))] [] n I L2 R Q) : ∀ i : Int32, i ≤ I 103 70 → 0 ≤ i → ∀ L1, mDL L L1 → px M_X12_closes 0 0 12 [(0, .ref 103), (1, .int m), (2, .int i)] [] n I L1 R Q := by
  refine px_up _ (fun i ih hk => ?_)
  intro h0 L1 h1
  refine px_ige rfl q_X12_closes_12 hg rfl trivial (fun c17 => ?_) (fun c17 => ?_)
  · refine px_b rfl q_X12_closes_107 hg rfl trivial ?_
    exact px_go (hq _ h1) ⟨rfl, rfl, trivial⟩
  · refine px_b rfl q_X12_closes_20 hg rfl trivial ?_
    exact px_go (l_closes22 hg m i L1 hm (by grind) hs (fun L2 h2 => ih (i + 1) (by grind) (by grind) (by grind) L2 (fun b hb => (h2 b hb).trans (h1 b hb))) 0 (by grind) (by decide) L1 (fun _ _ => rfl)) ⟨rfl, rfl, rfl, rfl, trivial⟩

theorem q_X12_closes_117 : px_bk 12 4 cX12_closes 117 [(.iload_n 2, (0, 0, 0, 0, 0), 0, 0), (.aload_n 0, (0, 0, 0, 0, 0), 0, 0), (.getfield 194, (12, 70, 0, 0, 0), 0, 0)] = some 122 ∧ px_t2 cX12_closes 122 .ge 155 = true := by decide +kernel
theorem q_X12_closes_155 : px_bk 12 4 cX12_closes 155 [(.iload_n 1, (0, 0, 0, 0, 0), 0, 0)] = some 156 ∧ px_tr cX12_closes 156 .ireturn = true := by decide +kernel
theorem q_X12_closes_125 : px_bk 12 4 cX12_closes 125 [(.iload_n 1, (0, 0, 0, 0, 0), 0, 0)] = some 126 ∧ px_t1 cX12_closes 126 .eq 147 = true := by decide +kernel
theorem q_X12_closes_147 : px_bk 12 4 cX12_closes 147 [(.iconst 0, (0, 0, 0, 0, 0), 0, 0), (.istore_n 1, (0, 0, 0, 0, 0), 0, 0), (.iinc 2 1, (0, 0, 0, 0, 0), 1, 0), (.goto (-35), (0, 0, 0, 0, 0), 0, 0)] = some 117 := by decide +kernel
theorem q_X12_closes_129 : px_bk 12 4 cX12_closes 129 [(.aload_n 0, (0, 0, 0, 0, 0), 0, 0), (.getfield 155, (12, 69, 3, 143, 0), 0, 0), (.bipush 25, (0, 0, 0, 0, 0), 25, 0), (.iload_n 2, (0, 0, 0, 0, 0), 0, 0), (.imul, (0, 0, 0, 0, 0), 0, 0), (.laload, (0, 0, 0, 0, 0), 0, 0), (.lconst 0, (0, 0, 0, 0, 0), 0, 0), (.lcmp, (0, 0, 0, 0, 0), 0, 0)] = some 140 ∧ px_t1 cX12_closes 140 .lt 147 = true := by decide +kernel
theorem q_X12_closes_143 : px_bk 12 4 cX12_closes 143 [(.iconst 1, (0, 0, 0, 0, 0), 1, 0), (.goto 4, (0, 0, 0, 0, 0), 0, 0), (.istore_n 1, (0, 0, 0, 0, 0), 0, 0), (.iinc 2 1, (0, 0, 0, 0, 0), 1, 0), (.goto (-35), (0, 0, 0, 0, 0), 0, 0)] = some 117 := by decide +kernel
set_option maxRecDepth 100000 in
theorem l_closes117 {n : Nat} {R : px_R} (hg : px_G n R) {Q : px_Q} {I : px_I} {L1 : px_L} (hs : I 103 70 ≤ 24) (hq : ∀ r, (r = 0 ∨ r = 1) → Q (some (.int r)) n I L1 R) : ∀ i : Int32, i ≤ I 103 70 → 0 ≤ i → ∀ g : Int32, (g = 0 ∨ g = 1) → px M_X12_closes 0 0 117 [(0, .ref 103), (1, .int g), (2, .int i)] [] n I L1 R Q := by
  refine px_up _ (fun i ih hk => ?_)
  intro h0 g hg1
  refine px_ige rfl q_X12_closes_117 hg rfl trivial (fun c122 => ?_) (fun c122 => ?_)
  · refine px_rz rfl q_X12_closes_155 rfl rfl rfl hg rfl trivial (by first | exact Or.inl rfl | exact Or.inr rfl | grind) ?_
    exact hq _ hg1
  · refine px_eq rfl q_X12_closes_125 hg rfl trivial (fun c126 => ?_) (fun c126 => ?_)
    · refine px_b rfl q_X12_closes_147 hg rfl trivial ?_
      exact px_go (ih (i + 1) (by grind) (by grind) (by grind) _ (by first | exact Or.inl rfl | exact Or.inr rfl)) ⟨rfl, rfl, rfl, trivial⟩
    · refine px_llt rfl q_X12_closes_129 hg rfl ⟨trivial, (by first | decide | (refine ⟨?_, ?_⟩ <;> grind) | grind)⟩ (fun c140 => ?_) (fun c140 => ?_)
      · refine px_b rfl q_X12_closes_147 hg rfl trivial ?_
        exact px_go (ih (i + 1) (by grind) (by grind) (by grind) _ (by first | exact Or.inl rfl | exact Or.inr rfl)) ⟨rfl, rfl, rfl, trivial⟩
      · refine px_b rfl q_X12_closes_143 hg rfl trivial ?_
        exact px_go (ih (i + 1) (by grind) (by grind) (by grind) _ (by first | exact Or.inl rfl | exact Or.inr rfl)) ⟨rfl, rfl, rfl, trivial⟩

theorem q_X12_closes_2 : px_bk 12 4 cX12_closes 2 [(.iload_n 1, (0, 0, 0, 0, 0), 0, 0), (.aload_n 0, (0, 0, 0, 0, 0), 0, 0), (.getfield 194, (12, 70, 0, 0, 0), 0, 0)] = some 7 ∧ px_t2 cX12_closes 7 .ge 113 = true := by decide +kernel
theorem q_X12_closes_113 : px_bk 12 4 cX12_closes 113 [(.iconst 1, (0, 0, 0, 0, 0), 1, 0), (.istore_n 1, (0, 0, 0, 0, 0), 0, 0), (.iconst 0, (0, 0, 0, 0, 0), 0, 0), (.istore_n 2, (0, 0, 0, 0, 0), 0, 0)] = some 117 := by decide +kernel
theorem q_X12_closes_10 : px_bk 12 4 cX12_closes 10 [(.iconst 0, (0, 0, 0, 0, 0), 0, 0), (.istore_n 2, (0, 0, 0, 0, 0), 0, 0)] = some 12 := by decide +kernel
set_option maxRecDepth 100000 in
theorem l_closes2 {n : Nat} {R : px_R} (hg : px_G n R) {Q : px_Q} {I : px_I} (L : px_L) (h00 : 0 ≤ I 103 70) (hs : I 103 70 ≤ 24) (hq : ∀ r L2, (r = 0 ∨ r = 1) → mDL L L2 → Q (some (.int r)) n I L2 R) : ∀ m : Int32, m ≤ I 103 70 → 0 ≤ m → ∀ L1, mDL L L1 → px M_X12_closes 0 0 2 [(0, .ref 103), (1, .int m)] [] n I L1 R Q := by
  refine px_up _ (fun m ih hk => ?_)
  intro h0 L1 h1
  refine px_ige rfl q_X12_closes_2 hg rfl trivial (fun c7 => ?_) (fun c7 => ?_)
  · refine px_b rfl q_X12_closes_113 hg rfl trivial ?_
    exact px_go (l_closes117 hg hs (fun r hr => hq r L1 hr h1) 0 h00 (by decide) 1 (Or.inr rfl)) ⟨rfl, rfl, rfl, trivial⟩
  · refine px_b rfl q_X12_closes_10 hg rfl trivial ?_
    exact px_go (l_closes12 hg m L1 (by grind) hs (fun L2 h2 => ih (m + 1) (by grind) (by grind) (by grind) L2 (fun b hb => (h2 b hb).trans (h1 b hb))) 0 (by grind) (by decide) L1 (fun _ _ => rfl)) ⟨rfl, rfl, rfl, trivial⟩

theorem q_X12_closes_0 : px_bk 12 4 cX12_closes 0 [(.iconst 0, (0, 0, 0, 0, 0), 0, 0), (.istore_n 1, (0, 0, 0, 0, 0), 0, 0)] = some 2 := by decide +kernel
set_option maxRecDepth 100000 in
theorem k_closes {n : Nat} {I : px_I} {L : px_L} {R : px_R} (hg : px_G n R) (hs : 0 ≤ I 103 70 ∧ I 103 70 ≤ 24) : px_KS M_X12_closes [.ref 103] n I L R (fun r I2 L2 => (r = 0 ∨ r = 1) ∧ I2 = I ∧ mDL L L2) := by
  refine px_of (plainFor_of_name np_RX12) (fun _ _ _ => trivial) rfl ?_
  refine px_b rfl q_X12_closes_0 hg rfl trivial ?_
  exact px_go (l_closes2 hg L hs.1 hs.2 (fun r L2 hr h => ⟨rfl, rfl, r, rfl, hr, rfl, h⟩) 0 hs.1 (by decide) L (fun _ _ => rfl)) ⟨rfl, rfl, trivial⟩

theorem q_X12_isClosed_11 : px_bk 12 5 cX12_isClosed 11 [(.iload 4, (0, 0, 0, 0, 0), 0, 0), (.aload_n 0, (0, 0, 0, 0, 0), 0, 0), (.getfield 191, (12, 2, 0, 0, 0), 0, 0)] = some 17 ∧ px_t2 cX12_isClosed 17 .ge 107 = true := by decide +kernel
theorem q_X12_isClosed_107 : px_bk 12 5 cX12_isClosed 107 [(.aload_n 0, (0, 0, 0, 0, 0), 0, 0)] = some 108 ∧ px_tv cX12_isClosed 108 207 = true := by decide +kernel
theorem q_X12_isClosed_111 : px_bk 12 5 cX12_isClosed 111 [] = some 111 ∧ px_tr cX12_isClosed 111 .ireturn = true := by decide +kernel
theorem q_X12_isClosed_20 : px_bk 12 5 cX12_isClosed 20 [(.aload_n 0, (0, 0, 0, 0, 0), 0, 0), (.getfield 13, (12, 3, 3, 104, 0), 0, 0), (.iload 4, (0, 0, 0, 0, 0), 0, 0), (.iaload, (0, 0, 0, 0, 0), 0, 0), (.iload_n 1, (0, 0, 0, 0, 0), 0, 0)] = some 28 ∧ px_t2 cX12_isClosed 28 .ne 101 = true := by decide +kernel
theorem q_X12_isClosed_101 : px_bk 12 5 cX12_isClosed 101 [(.iinc 4 1, (0, 0, 0, 0, 0), 1, 0), (.goto (-93), (0, 0, 0, 0, 0), 0, 0)] = some 11 := by decide +kernel
theorem q_X12_isClosed_31 : px_bk 12 5 cX12_isClosed 31 [(.aload_n 0, (0, 0, 0, 0, 0), 0, 0), (.getfield 29, (12, 8, 3, 109, 0), 0, 0), (.iload 4, (0, 0, 0, 0, 0), 0, 0), (.iaload, (0, 0, 0, 0, 0), 0, 0), (.iload_n 2, (0, 0, 0, 0, 0), 0, 0)] = some 39 ∧ px_t2 cX12_isClosed 39 .gt 101 = true := by decide +kernel
theorem q_X12_isClosed_42 : px_bk 12 5 cX12_isClosed 42 [(.iload 4, (0, 0, 0, 0, 0), 0, 0), (.iload_n 3, (0, 0, 0, 0, 0), 0, 0)] = some 45 ∧ px_t2 cX12_isClosed 45 .eq 101 = true := by decide +kernel
theorem q_X12_isClosed_48 : px_bk 12 5 cX12_isClosed 48 [(.aload_n 0, (0, 0, 0, 0, 0), 0, 0), (.aload_n 0, (0, 0, 0, 0, 0), 0, 0), (.getfield 17, (12, 4, 3, 105, 0), 0, 0), (.iload 4, (0, 0, 0, 0, 0), 0, 0), (.iaload, (0, 0, 0, 0, 0), 0, 0), (.aload_n 0, (0, 0, 0, 0, 0), 0, 0), (.getfield 20, (12, 5, 3, 106, 0), 0, 0), (.iload 4, (0, 0, 0, 0, 0), 0, 0), (.iaload, (0, 0, 0, 0, 0), 0, 0), (.aload_n 0, (0, 0, 0, 0, 0), 0, 0), (.getfield 26, (12, 7, 3, 108, 0), 0, 0), (.iload 4, (0, 0, 0, 0, 0), 0, 0), (.iaload, (0, 0, 0, 0, 0), 0, 0), (.i2l, (0, 0, 0, 0, 0), 0, 0)] = some 71 ∧ px_tv cX12_isClosed 71 199 = true := by decide +kernel
theorem q_X12_isClosed_74 : px_bk 12 5 cX12_isClosed 74 [(.aload_n 0, (0, 0, 0, 0, 0), 0, 0), (.aload_n 0, (0, 0, 0, 0, 0), 0, 0), (.getfield 20, (12, 5, 3, 106, 0), 0, 0), (.iload 4, (0, 0, 0, 0, 0), 0, 0), (.iaload, (0, 0, 0, 0, 0), 0, 0), (.aload_n 0, (0, 0, 0, 0, 0), 0, 0), (.getfield 17, (12, 4, 3, 105, 0), 0, 0), (.iload 4, (0, 0, 0, 0, 0), 0, 0), (.iaload, (0, 0, 0, 0, 0), 0, 0), (.aload_n 0, (0, 0, 0, 0, 0), 0, 0), (.getfield 23, (12, 6, 3, 107, 0), 0, 0), (.iload 4, (0, 0, 0, 0, 0), 0, 0), (.iaload, (0, 0, 0, 0, 0), 0, 0), (.ineg, (0, 0, 0, 0, 0), 0, 0), (.i2l, (0, 0, 0, 0, 0), 0, 0)] = some 98 ∧ px_tv cX12_isClosed 98 199 = true := by decide +kernel
set_option maxRecDepth 100000 in
theorem l_isClosed {n : Nat} {R : px_R} (hg : px_G n R) {Q : px_Q} (a k w : Int32) {I0 I : px_I} (L : px_L) (hS : mS I) (hI : I = px_u I0 103 70 (I0 103 1)) (hI1 : I 103 70 = I 103 1) (hq : ∀ r L2, (r = 0 ∨ r = 1) → mDL L L2 → Q (some (.int r)) n I L2 R) : ∀ i : Int32, i ≤ I 103 2 → 0 ≤ i → ∀ L1, mDL L L1 → px M_X12_isClosed 0 0 11 [(0, .ref 103), (1, .int a), (2, .int k), (3, .int w), (4, .int i)] [] n I L1 R Q := by
  refine px_up _ (fun i ih hk => ?_)
  intro h0 L1 h1
  obtain ⟨hS1, hS2, hS3⟩ := id hS
  refine px_ige rfl q_X12_isClosed_11 hg rfl trivial (fun c17 => ?_) (fun c17 => ?_)
  · refine px_cVS (ci := 12) rfl q_X12_isClosed_107 hg rfl trivial lk_12_207 nm_X12_closes (k_closes hg (by grind)) rfl rfl (px_lit hg rfl) rfl rfl rfl ⟨rfl, rfl⟩ ?_
    intro x108 I108 L108 h108
    obtain ⟨hr, rfl, h108⟩ := h108
    refine px_rz rfl q_X12_isClosed_111 rfl rfl rfl hg rfl trivial (by first | exact Or.inl rfl | exact Or.inr rfl | grind) ?_
    exact hq _ _ hr (fun b hb => (h108 b hb).trans (h1 b hb))
  · have hS4 := hS3 i h0 (by grind)
    refine px_ine rfl q_X12_isClosed_20 hg rfl ⟨trivial, (by first | decide | (refine ⟨?_, ?_⟩ <;> grind) | grind)⟩ (fun c28 => ?_) (fun c28 => ?_)
    · refine px_b rfl q_X12_isClosed_101 hg rfl trivial ?_
      exact px_go (ih (i + 1) (by grind) (by grind) (by grind) _ (by first | assumption | (unfold mDL at *; grind))) ⟨rfl, rfl, rfl, rfl, rfl, trivial⟩
    · refine px_igt rfl q_X12_isClosed_31 hg rfl ⟨trivial, (by first | decide | (refine ⟨?_, ?_⟩ <;> grind) | grind)⟩ (fun c39 => ?_) (fun c39 => ?_)
      · refine px_b rfl q_X12_isClosed_101 hg rfl trivial ?_
        exact px_go (ih (i + 1) (by grind) (by grind) (by grind) _ (by first | assumption | (unfold mDL at *; grind))) ⟨rfl, rfl, rfl, rfl, rfl, trivial⟩
      · refine px_ieq rfl q_X12_isClosed_42 hg rfl trivial (fun c45 => ?_) (fun c45 => ?_)
        · refine px_b rfl q_X12_isClosed_101 hg rfl trivial ?_
          exact px_go (ih (i + 1) (by grind) (by grind) (by grind) _ (by first | assumption | (unfold mDL at *; grind))) ⟨rfl, rfl, rfl, rfl, rfl, trivial⟩
        · refine px_cVW (ci := 12) rfl q_X12_isClosed_48 hg rfl ⟨⟨⟨trivial, (by first | decide | (refine ⟨?_, ?_⟩ <;> grind) | grind)⟩, (by first | decide | (refine ⟨?_, ?_⟩ <;> grind) | grind)⟩, (by first | decide | (refine ⟨?_, ?_⟩ <;> grind) | grind)⟩ lk_12_199 nm_X12_bounds (k_bounds hg _ _ _ (by grind)) rfl rfl (px_lit hg rfl) rfl rfl rfl ⟨rfl, rfl⟩ ?_
          intro I71 L71 h71
          obtain ⟨rfl, h71⟩ := h71
          refine px_cVW (ci := 12) rfl q_X12_isClosed_74 hg rfl ⟨⟨⟨trivial, (by first | decide | (refine ⟨?_, ?_⟩ <;> grind) | grind)⟩, (by first | decide | (refine ⟨?_, ?_⟩ <;> grind) | grind)⟩, (by first | decide | (refine ⟨?_, ?_⟩ <;> grind) | grind)⟩ lk_12_199 nm_X12_bounds (k_bounds hg _ _ _ (by grind)) rfl rfl (px_lit hg rfl) rfl rfl rfl ⟨rfl, rfl⟩ ?_
          intro I98 L98 h98
          obtain ⟨rfl, h98⟩ := h98
          refine px_b rfl q_X12_isClosed_101 hg rfl trivial ?_
          exact px_go (ih (i + 1) (by grind) (by grind) (by grind) _ (by first | assumption | (unfold mDL at *; grind))) ⟨rfl, rfl, rfl, rfl, rfl, trivial⟩

theorem q_X12_isClosed_0 : px_bk 12 5 cX12_isClosed 0 [(.aload_n 0, (0, 0, 0, 0, 0), 0, 0), (.aload_n 0, (0, 0, 0, 0, 0), 0, 0), (.getfield 7, (12, 1, 0, 0, 0), 0, 0)] = some 5 ∧ px_tv cX12_isClosed 5 203 = true := by decide +kernel
theorem q_X12_isClosed_8 : px_bk 12 5 cX12_isClosed 8 [(.iconst 0, (0, 0, 0, 0, 0), 0, 0), (.istore 4, (0, 0, 0, 0, 0), 0, 0)] = some 11 := by decide +kernel
set_option maxRecDepth 100000 in
theorem k_isClosed {n : Nat} {I : px_I} {L : px_L} {R : px_R} (hg : px_G n R) (a k w : Int32) (hS : mS I) : px_KS M_X12_isClosed [.ref 103, .int a, .int k, .int w] n I L R (fun r I2 L2 => (r = 0 ∨ r = 1) ∧ I2 = px_u I 103 70 (I 103 1) ∧ mDL L L2) := by
  refine px_of (plainFor_of_name np_RX12) (fun _ _ _ => trivial) rfl ?_
  refine px_cVW (ci := 12) rfl q_X12_isClosed_0 hg rfl trivial lk_12_203 nm_X12_begins (k_begins hg _) rfl rfl (px_lit hg rfl) rfl rfl rfl ⟨rfl, rfl⟩ ?_
  intro I5 L5 h5
  obtain ⟨rfl, h5⟩ := h5
  refine px_b rfl q_X12_isClosed_8 hg rfl trivial ?_
  exact px_go (l_isClosed hg a k w L (by unfold mS at *; simpa [px_ur] using hS) rfl (by simp [px_ur]) (fun r L2 hr h => ⟨rfl, rfl, r, rfl, hr, rfl, h⟩) 0 (by unfold mS at hS; simp [px_ur]; grind) (by decide) _ h5) ⟨rfl, rfl, rfl, rfl, rfl, trivial⟩
end
section
/-! the reference: sights, galleries, counts, the tape -/
def mGap (L : px_L) (f t h : Int32) : Int32 := if ¬ h = 0 then (if 1000000000000 ≤ L 143 (24 * f + t).toNatClampNeg then -2000000000 else (L 143 (24 * f + t).toNatClampNeg).toInt32) else (if 1000000000000 ≤ L 143 (24 * t + f).toNatClampNeg then -2000000000 else (-(L 143 (24 * t + f).toNatClampNeg)).toInt32)
def mG (I : px_I) : Prop := ∀ g : Int32, 0 ≤ g → g ≤ 1 → (0 ≤ I 110 g.toNatClampNeg ∧ I 110 g.toNatClampNeg ≤ 20) ∧ ∀ p : Int32, 1 ≤ p → p < I 110 g.toNatClampNeg → 1 ≤ I 111 (20 * g + p).toNatClampNeg ∧ 1 ≤ I 112 (20 * g + p).toNatClampNeg ∧ 1 ≤ I 113 (20 * g + p).toNatClampNeg ∧ 1 ≤ I 114 (20 * g + p).toNatClampNeg
def mT (I : px_I) : Prop := ∀ k : Int32, 0 ≤ k → k < 40 → -1 ≤ I 116 k.toNatClampNeg ∧ I 116 k.toNatClampNeg < 24
def mM (I : px_I) : Prop := (0 ≤ I 103 16 ∧ I 103 16 ≤ 40) ∧ ∀ k : Int32, 0 ≤ k → k < I 103 16 → (0 ≤ I 117 k.toNatClampNeg ∧ I 117 k.toNatClampNeg ≤ 1) ∧ 0 ≤ I 118 k.toNatClampNeg ∧ I 118 k.toNatClampNeg < I 110 (I 117 k.toNatClampNeg).toNatClampNeg

theorem q_X12_closed_0 : px_bk 12 3 cX12_closed 0 [(.iload_n 1, (0, 0, 0, 0, 0), 0, 0)] = some 1 ∧ px_tS cX12_closed 1 180 = true := by decide +kernel
theorem q_X12_closed_4 : px_bk 12 3 cX12_closed 4 [] = some 4 ∧ px_t1 cX12_closed 4 .eq 14 = true := by decide +kernel
theorem q_X12_closed_14 : px_bk 12 3 cX12_closed 14 [(.iconst (-1), (0, 0, 0, 0, 0), -1, 0), (.goto 18, (0, 0, 0, 0, 0), 0, 0)] = some 33 ∧ px_tr cX12_closed 33 .ireturn = true := by decide +kernel
theorem q_X12_closed_7 : px_bk 12 3 cX12_closed 7 [(.iload_n 2, (0, 0, 0, 0, 0), 0, 0)] = some 8 ∧ px_tS cX12_closed 8 211 = true := by decide +kernel
theorem q_X12_closed_11 : px_bk 12 3 cX12_closed 11 [] = some 11 ∧ px_t1 cX12_closed 11 .ne 18 = true := by decide +kernel
theorem q_X12_closed_18 : px_bk 12 3 cX12_closed 18 [(.aload_n 0, (0, 0, 0, 0, 0), 0, 0), (.iload_n 1, (0, 0, 0, 0, 0), 0, 0), (.iload_n 2, (0, 0, 0, 0, 0), 0, 0), (.iconst (-1), (0, 0, 0, 0, 0), -1, 0)] = some 22 ∧ px_tv cX12_closed 22 214 = true := by decide +kernel
theorem q_X12_closed_25 : px_bk 12 3 cX12_closed 25 [] = some 25 ∧ px_t1 cX12_closed 25 .eq 32 = true := by decide +kernel
theorem q_X12_closed_32 : px_bk 12 3 cX12_closed 32 [(.iconst 0, (0, 0, 0, 0, 0), 0, 0)] = some 33 ∧ px_tr cX12_closed 33 .ireturn = true := by decide +kernel
theorem q_X12_closed_28 : px_bk 12 3 cX12_closed 28 [(.iconst 1, (0, 0, 0, 0, 0), 1, 0), (.goto 4, (0, 0, 0, 0, 0), 0, 0)] = some 33 ∧ px_tr cX12_closed 33 .ireturn = true := by decide +kernel
set_option maxRecDepth 100000 in
theorem k_closed {n : Nat} {I : px_I} {L : px_L} {R : px_R} (hg : px_G n R) (a k : Int32) (hS : mS I) : px_KS M_X12_closed [.ref 103, .int a, .int k] n I L R (fun r I2 L2 => mDI I I2 ∧ mDL L L2) := by
  refine px_of (plainFor_of_name np_RX12) (fun _ _ _ => trivial) rfl ?_
  refine px_cSP rfl q_X12_closed_0 hg rfl trivial lk_12_180 nm_X12_isAxis (k_isAxis hg _) rfl rfl rfl ⟨rfl, rfl⟩ ?_
  intro x1 h1
  refine px_eq rfl q_X12_closed_4 hg rfl trivial (fun c4 => ?_) (fun c4 => ?_)
  · replace h1 := px_bf h1 c4
    refine px_riS rfl q_X12_closed_14 rfl rfl rfl hg rfl trivial ⟨⟨rfl, rfl⟩, ?_⟩
    first | exact ⟨fun _ _ _ => rfl, fun _ _ => rfl⟩ | exact ⟨fun b j h => by simp [px_ur]; grind, by assumption⟩
  · replace h1 := px_bt h1 c4
    refine px_cSP rfl q_X12_closed_7 hg rfl trivial lk_12_211 nm_X12_isKnown (k_isKnown hg _) rfl rfl rfl ⟨rfl, rfl⟩ ?_
    intro x8 h8
    refine px_ne rfl q_X12_closed_11 hg rfl trivial (fun c11 => ?_) (fun c11 => ?_)
    · replace h8 := px_bt h8 c11
      refine px_cVS (ci := 12) rfl q_X12_closed_18 hg rfl trivial lk_12_214 nm_X12_isClosed (k_isClosed hg _ _ _ ‹_›) rfl rfl (px_lit hg rfl) rfl rfl rfl ⟨rfl, rfl⟩ ?_
      intro x22 I22 L22 h22
      obtain ⟨hr, rfl, h22⟩ := h22
      refine px_eq rfl q_X12_closed_25 hg rfl trivial (fun c25 => ?_) (fun c25 => ?_)
      · refine px_riS rfl q_X12_closed_32 rfl rfl rfl hg rfl trivial ⟨⟨rfl, rfl⟩, ?_⟩
        first | exact ⟨fun _ _ _ => rfl, fun _ _ => rfl⟩ | exact ⟨fun b j h => by simp [px_ur]; grind, by assumption⟩
      · refine px_riS rfl q_X12_closed_28 rfl rfl rfl hg rfl trivial ⟨⟨rfl, rfl⟩, ?_⟩
        first | exact ⟨fun _ _ _ => rfl, fun _ _ => rfl⟩ | exact ⟨fun b j h => by simp [px_ur]; grind, by assumption⟩
    · replace h8 := px_bf h8 c11
      refine px_riS rfl q_X12_closed_14 rfl rfl rfl hg rfl trivial ⟨⟨rfl, rfl⟩, ?_⟩
      first | exact ⟨fun _ _ _ => rfl, fun _ _ => rfl⟩ | exact ⟨fun b j h => by simp [px_ur]; grind, by assumption⟩

theorem q_X12_gapOf_0 : px_bk 12 6 cX12_gapOf 0 [(.iload_n 3, (0, 0, 0, 0, 0), 0, 0)] = some 1 ∧ px_t1 cX12_gapOf 1 .eq 18 = true := by decide +kernel
theorem q_X12_gapOf_18 : px_bk 12 6 cX12_gapOf 18 [(.aload_n 0, (0, 0, 0, 0, 0), 0, 0), (.getfield 155, (12, 69, 3, 143, 0), 0, 0), (.bipush 24, (0, 0, 0, 0, 0), 24, 0), (.iload_n 2, (0, 0, 0, 0, 0), 0, 0), (.imul, (0, 0, 0, 0, 0), 0, 0), (.iload_n 1, (0, 0, 0, 0, 0), 0, 0), (.iadd, (0, 0, 0, 0, 0), 0, 0), (.laload, (0, 0, 0, 0, 0), 0, 0), (.lstore 4, (0, 0, 0, 0, 0), 0, 0), (.lload 4, (0, 0, 0, 0, 0), 0, 0), (.ldc2_w 197, (0, 0, 0, 0, 0), 0, 1000000000000), (.lcmp, (0, 0, 0, 0, 0), 0, 0)] = some 37 ∧ px_t1 cX12_gapOf 37 .lt 45 = true := by decide +kernel
theorem q_X12_gapOf_45 : px_bk 12 6 cX12_gapOf 45 [(.iload_n 3, (0, 0, 0, 0, 0), 0, 0)] = some 46 ∧ px_t1 cX12_gapOf 46 .eq 54 = true := by decide +kernel
theorem q_X12_gapOf_54 : px_bk 12 6 cX12_gapOf 54 [(.lload 4, (0, 0, 0, 0, 0), 0, 0), (.lneg, (0, 0, 0, 0, 0), 0, 0), (.l2i, (0, 0, 0, 0, 0), 0, 0)] = some 58 ∧ px_tr cX12_gapOf 58 .ireturn = true := by decide +kernel
theorem q_X12_gapOf_49 : px_bk 12 6 cX12_gapOf 49 [(.lload 4, (0, 0, 0, 0, 0), 0, 0), (.goto 6, (0, 0, 0, 0, 0), 0, 0), (.l2i, (0, 0, 0, 0, 0), 0, 0)] = some 58 ∧ px_tr cX12_gapOf 58 .ireturn = true := by decide +kernel
theorem q_X12_gapOf_40 : px_bk 12 6 cX12_gapOf 40 [(.ldc 218, (0, 0, 0, 0, 0), -2000000000, 0), (.goto 16, (0, 0, 0, 0, 0), 0, 0)] = some 58 ∧ px_tr cX12_gapOf 58 .ireturn = true := by decide +kernel
theorem q_X12_gapOf_4 : px_bk 12 6 cX12_gapOf 4 [(.aload_n 0, (0, 0, 0, 0, 0), 0, 0), (.getfield 155, (12, 69, 3, 143, 0), 0, 0), (.bipush 24, (0, 0, 0, 0, 0), 24, 0), (.iload_n 1, (0, 0, 0, 0, 0), 0, 0), (.imul, (0, 0, 0, 0, 0), 0, 0), (.iload_n 2, (0, 0, 0, 0, 0), 0, 0), (.iadd, (0, 0, 0, 0, 0), 0, 0), (.laload, (0, 0, 0, 0, 0), 0, 0), (.goto 14, (0, 0, 0, 0, 0), 0, 0), (.lstore 4, (0, 0, 0, 0, 0), 0, 0), (.lload 4, (0, 0, 0, 0, 0), 0, 0), (.ldc2_w 197, (0, 0, 0, 0, 0), 0, 1000000000000), (.lcmp, (0, 0, 0, 0, 0), 0, 0)] = some 37 ∧ px_t1 cX12_gapOf 37 .lt 45 = true := by decide +kernel
set_option maxRecDepth 100000 in
theorem k_gapOf {n : Nat} {I : px_I} {L : px_L} {R : px_R} (hg : px_G n R) (f t h : Int32) (hf : 0 ≤ f ∧ f < 24) (ht : 0 ≤ t ∧ t < 24) : px_KP M_X12_gapOf [.ref 103, .int f, .int t, .int h] n I L R (fun r => r = mGap L f t h) := by
  refine px_of (plainFor_of_name np_RX12) (fun _ _ _ => trivial) rfl ?_
  refine px_eq rfl q_X12_gapOf_0 hg rfl trivial (fun c1 => ?_) (fun c1 => ?_)
  · refine px_llt rfl q_X12_gapOf_18 hg rfl ⟨trivial, (by first | decide | (refine ⟨?_, ?_⟩ <;> grind) | grind)⟩ (fun c37 => ?_) (fun c37 => ?_)
    · refine px_eq rfl q_X12_gapOf_45 hg rfl trivial (fun c46 => ?_) (fun c46 => ?_)
      · refine px_riP rfl q_X12_gapOf_54 rfl rfl rfl hg rfl trivial ⟨⟨rfl, rfl, rfl, rfl⟩, ?_⟩
        unfold mGap; grind
      · refine px_riP rfl q_X12_gapOf_49 rfl rfl rfl hg rfl trivial ⟨⟨rfl, rfl, rfl, rfl⟩, ?_⟩
        unfold mGap; grind
    · refine px_riP rfl q_X12_gapOf_40 rfl rfl rfl hg rfl trivial ⟨⟨rfl, rfl, rfl, rfl⟩, ?_⟩
      unfold mGap; grind
  · refine px_llt rfl q_X12_gapOf_4 hg rfl ⟨trivial, (by first | decide | (refine ⟨?_, ?_⟩ <;> grind) | grind)⟩ (fun c37 => ?_) (fun c37 => ?_)
    · refine px_eq rfl q_X12_gapOf_45 hg rfl trivial (fun c46 => ?_) (fun c46 => ?_)
      · refine px_riP rfl q_X12_gapOf_54 rfl rfl rfl hg rfl trivial ⟨⟨rfl, rfl, rfl, rfl⟩, ?_⟩
        unfold mGap; grind
      · refine px_riP rfl q_X12_gapOf_49 rfl rfl rfl hg rfl trivial ⟨⟨rfl, rfl, rfl, rfl⟩, ?_⟩
        unfold mGap; grind
    · refine px_riP rfl q_X12_gapOf_40 rfl rfl rfl hg rfl trivial ⟨⟨rfl, rfl, rfl, rfl⟩, ?_⟩
      unfold mGap; grind

theorem q_X12_gap_0 : px_bk 12 6 cX12_gap 0 [(.iload_n 1, (0, 0, 0, 0, 0), 0, 0)] = some 1 ∧ px_tS cX12_gap 1 180 = true := by decide +kernel
theorem q_X12_gap_4 : px_bk 12 6 cX12_gap 4 [] = some 4 ∧ px_t1 cX12_gap 4 .eq 42 = true := by decide +kernel
theorem q_X12_gap_42 : px_bk 12 6 cX12_gap 42 [(.ldc 218, (0, 0, 0, 0, 0), -2000000000, 0), (.goto 11, (0, 0, 0, 0, 0), 0, 0)] = some 55 ∧ px_tr cX12_gap 55 .ireturn = true := by decide +kernel
theorem q_X12_gap_7 : px_bk 12 6 cX12_gap 7 [(.aload_n 0, (0, 0, 0, 0, 0), 0, 0), (.iload_n 2, (0, 0, 0, 0, 0), 0, 0)] = some 9 ∧ px_tv cX12_gap 9 184 = true := by decide +kernel
theorem q_X12_gap_12 : px_bk 12 6 cX12_gap 12 [] = some 12 ∧ px_t1 cX12_gap 12 .eq 42 = true := by decide +kernel
theorem q_X12_gap_15 : px_bk 12 6 cX12_gap 15 [(.aload_n 0, (0, 0, 0, 0, 0), 0, 0), (.iload_n 3, (0, 0, 0, 0, 0), 0, 0)] = some 17 ∧ px_tv cX12_gap 17 184 = true := by decide +kernel
theorem q_X12_gap_20 : px_bk 12 6 cX12_gap 20 [] = some 20 ∧ px_t1 cX12_gap 20 .eq 42 = true := by decide +kernel
theorem q_X12_gap_23 : px_bk 12 6 cX12_gap 23 [(.iload 4, (0, 0, 0, 0, 0), 0, 0)] = some 25 ∧ px_tS cX12_gap 25 211 = true := by decide +kernel
theorem q_X12_gap_28 : px_bk 12 6 cX12_gap 28 [] = some 28 ∧ px_t1 cX12_gap 28 .eq 42 = true := by decide +kernel
theorem q_X12_gap_31 : px_bk 12 6 cX12_gap 31 [(.aload_n 0, (0, 0, 0, 0, 0), 0, 0), (.iload_n 1, (0, 0, 0, 0, 0), 0, 0), (.iload 4, (0, 0, 0, 0, 0), 0, 0), (.iconst (-1), (0, 0, 0, 0, 0), -1, 0)] = some 36 ∧ px_tv cX12_gap 36 214 = true := by decide +kernel
theorem q_X12_gap_39 : px_bk 12 6 cX12_gap 39 [] = some 39 ∧ px_t1 cX12_gap 39 .ne 47 = true := by decide +kernel
theorem q_X12_gap_47 : px_bk 12 6 cX12_gap 47 [(.aload_n 0, (0, 0, 0, 0, 0), 0, 0), (.iload_n 2, (0, 0, 0, 0, 0), 0, 0), (.iload_n 3, (0, 0, 0, 0, 0), 0, 0), (.iload 5, (0, 0, 0, 0, 0), 0, 0)] = some 52 ∧ px_tv cX12_gap 52 219 = true := by decide +kernel
theorem q_X12_gap_55 : px_bk 12 6 cX12_gap 55 [] = some 55 ∧ px_tr cX12_gap 55 .ireturn = true := by decide +kernel
set_option maxRecDepth 100000 in
theorem k_gap {n : Nat} {I : px_I} {L : px_L} {R : px_R} (hg : px_G n R) (a f t k h : Int32) (hS : mS I) : px_KS M_X12_gap [.ref 103, .int a, .int f, .int t, .int k, .int h] n I L R (fun r I2 L2 => mDI I I2 ∧ mDL L L2) := by
  refine px_of (plainFor_of_name np_RX12) (fun _ _ _ => trivial) rfl ?_
  refine px_cSP rfl q_X12_gap_0 hg rfl trivial lk_12_180 nm_X12_isAxis (k_isAxis hg _) rfl rfl rfl ⟨rfl, rfl⟩ ?_
  intro x1 h1
  refine px_eq rfl q_X12_gap_4 hg rfl trivial (fun c4 => ?_) (fun c4 => ?_)
  · replace h1 := px_bf h1 c4
    refine px_riS rfl q_X12_gap_42 rfl rfl rfl hg rfl trivial ⟨⟨rfl, rfl⟩, ?_⟩
    first | exact ⟨fun _ _ _ => rfl, fun _ _ => rfl⟩ | exact ⟨fun b j h => by simp [px_ur]; grind, by assumption⟩
  · replace h1 := px_bt h1 c4
    refine px_cVP (ci := 12) rfl q_X12_gap_7 hg rfl trivial lk_12_184 nm_X12_isStation (k_isStation hg _) rfl rfl (px_lit hg rfl) rfl rfl rfl ⟨rfl, rfl⟩ ?_
    intro x9 h9
    refine px_eq rfl q_X12_gap_12 hg rfl trivial (fun c12 => ?_) (fun c12 => ?_)
    · replace h9 := px_bf h9 c12
      refine px_riS rfl q_X12_gap_42 rfl rfl rfl hg rfl trivial ⟨⟨rfl, rfl⟩, ?_⟩
      first | exact ⟨fun _ _ _ => rfl, fun _ _ => rfl⟩ | exact ⟨fun b j h => by simp [px_ur]; grind, by assumption⟩
    · replace h9 := px_bt h9 c12
      refine px_cVP (ci := 12) rfl q_X12_gap_15 hg rfl trivial lk_12_184 nm_X12_isStation (k_isStation hg _) rfl rfl (px_lit hg rfl) rfl rfl rfl ⟨rfl, rfl⟩ ?_
      intro x17 h17
      refine px_eq rfl q_X12_gap_20 hg rfl trivial (fun c20 => ?_) (fun c20 => ?_)
      · replace h17 := px_bf h17 c20
        refine px_riS rfl q_X12_gap_42 rfl rfl rfl hg rfl trivial ⟨⟨rfl, rfl⟩, ?_⟩
        first | exact ⟨fun _ _ _ => rfl, fun _ _ => rfl⟩ | exact ⟨fun b j h => by simp [px_ur]; grind, by assumption⟩
      · replace h17 := px_bt h17 c20
        refine px_cSP rfl q_X12_gap_23 hg rfl trivial lk_12_211 nm_X12_isKnown (k_isKnown hg _) rfl rfl rfl ⟨rfl, rfl⟩ ?_
        intro x25 h25
        refine px_eq rfl q_X12_gap_28 hg rfl trivial (fun c28 => ?_) (fun c28 => ?_)
        · replace h25 := px_bf h25 c28
          refine px_riS rfl q_X12_gap_42 rfl rfl rfl hg rfl trivial ⟨⟨rfl, rfl⟩, ?_⟩
          first | exact ⟨fun _ _ _ => rfl, fun _ _ => rfl⟩ | exact ⟨fun b j h => by simp [px_ur]; grind, by assumption⟩
        · replace h25 := px_bt h25 c28
          refine px_cVS (ci := 12) rfl q_X12_gap_31 hg rfl trivial lk_12_214 nm_X12_isClosed (k_isClosed hg _ _ _ ‹_›) rfl rfl (px_lit hg rfl) rfl rfl rfl ⟨rfl, rfl⟩ ?_
          intro x36 I36 L36 h36
          obtain ⟨hr, rfl, h36⟩ := h36
          obtain ⟨hS1, hS2, hS3⟩ := id hS
          refine px_ne rfl q_X12_gap_39 hg rfl trivial (fun c39 => ?_) (fun c39 => ?_)
          · refine px_cVP (ci := 12) rfl q_X12_gap_47 hg rfl trivial lk_12_219 nm_X12_gapOf (k_gapOf hg _ _ _ (by grind) (by grind)) rfl rfl (px_lit hg rfl) rfl rfl rfl ⟨rfl, rfl⟩ ?_
            intro x52 h52
            refine px_riS rfl q_X12_gap_55 rfl rfl rfl hg rfl trivial ⟨⟨rfl, rfl⟩, ?_⟩
            first | exact ⟨fun _ _ _ => rfl, fun _ _ => rfl⟩ | exact ⟨fun b j h => by simp [px_ur]; grind, by assumption⟩
          · refine px_riS rfl q_X12_gap_42 rfl rfl rfl hg rfl trivial ⟨⟨rfl, rfl⟩, ?_⟩
            first | exact ⟨fun _ _ _ => rfl, fun _ _ => rfl⟩ | exact ⟨fun b j h => by simp [px_ur]; grind, by assumption⟩

theorem q_X12_span_0 : px_bk 12 5 cX12_span 0 [(.aload_n 0, (0, 0, 0, 0, 0), 0, 0), (.iload_n 1, (0, 0, 0, 0, 0), 0, 0), (.iconst 0, (0, 0, 0, 0, 0), 0, 0), (.iload_n 2, (0, 0, 0, 0, 0), 0, 0), (.iload_n 3, (0, 0, 0, 0, 0), 0, 0), (.iload 4, (0, 0, 0, 0, 0), 0, 0)] = some 7 ∧ px_tv cX12_span 7 223 = true := by decide +kernel
theorem q_X12_span_10 : px_bk 12 5 cX12_span 10 [] = some 10 ∧ px_tr cX12_span 10 .ireturn = true := by decide +kernel
set_option maxRecDepth 100000 in
theorem k_span {n : Nat} {I : px_I} {L : px_L} {R : px_R} (hg : px_G n R) (a t k h : Int32) (hS : mS I) : px_KS M_X12_span [.ref 103, .int a, .int t, .int k, .int h] n I L R (fun r I2 L2 => mDI I I2 ∧ mDL L L2) := by
  refine px_of (plainFor_of_name np_RX12) (fun _ _ _ => trivial) rfl ?_
  refine px_cVS (ci := 12) rfl q_X12_span_0 hg rfl trivial lk_12_223 nm_X12_gap (k_gap hg _ _ _ _ _ ‹_›) rfl rfl (px_lit hg rfl) rfl rfl rfl ⟨rfl, rfl⟩ ?_
  intro x7 I7 L7 h7
  refine px_riS rfl q_X12_span_10 rfl rfl rfl hg rfl trivial ⟨⟨rfl, rfl⟩, ?_⟩
  assumption

theorem q_X12_blamed_36 : px_bk 12 6 cX12_blamed 36 [(.iload 5, (0, 0, 0, 0, 0), 0, 0), (.aload_n 0, (0, 0, 0, 0, 0), 0, 0), (.getfield 191, (12, 2, 0, 0, 0), 0, 0)] = some 42 ∧ px_t2 cX12_blamed 42 .ge 95 = true := by decide +kernel
theorem q_X12_blamed_95 : px_bk 12 6 cX12_blamed 95 [(.iconst (-1), (0, 0, 0, 0, 0), -1, 0)] = some 96 ∧ px_tr cX12_blamed 96 .ireturn = true := by decide +kernel
theorem q_X12_blamed_45 : px_bk 12 6 cX12_blamed 45 [(.aload_n 0, (0, 0, 0, 0, 0), 0, 0), (.getfield 13, (12, 3, 3, 104, 0), 0, 0), (.iload 5, (0, 0, 0, 0, 0), 0, 0), (.iaload, (0, 0, 0, 0, 0), 0, 0), (.iload_n 1, (0, 0, 0, 0, 0), 0, 0)] = some 53 ∧ px_t2 cX12_blamed 53 .ne 89 = true := by decide +kernel
theorem q_X12_blamed_89 : px_bk 12 6 cX12_blamed 89 [(.iinc 5 1, (0, 0, 0, 0, 0), 1, 0), (.goto (-56), (0, 0, 0, 0, 0), 0, 0)] = some 36 := by decide +kernel
theorem q_X12_blamed_56 : px_bk 12 6 cX12_blamed 56 [(.aload_n 0, (0, 0, 0, 0, 0), 0, 0), (.getfield 29, (12, 8, 3, 109, 0), 0, 0), (.iload 5, (0, 0, 0, 0, 0), 0, 0), (.iaload, (0, 0, 0, 0, 0), 0, 0), (.iload_n 2, (0, 0, 0, 0, 0), 0, 0)] = some 64 ∧ px_t2 cX12_blamed 64 .gt 89 = true := by decide +kernel
theorem q_X12_blamed_67 : px_bk 12 6 cX12_blamed 67 [(.aload_n 0, (0, 0, 0, 0, 0), 0, 0), (.iload_n 1, (0, 0, 0, 0, 0), 0, 0), (.iload_n 2, (0, 0, 0, 0, 0), 0, 0), (.iload 5, (0, 0, 0, 0, 0), 0, 0)] = some 72 ∧ px_tv cX12_blamed 72 214 = true := by decide +kernel
theorem q_X12_blamed_75 : px_bk 12 6 cX12_blamed 75 [] = some 75 ∧ px_t1 cX12_blamed 75 .eq 89 = true := by decide +kernel
theorem q_X12_blamed_78 : px_bk 12 6 cX12_blamed 78 [(.iload 4, (0, 0, 0, 0, 0), 0, 0)] = some 80 ∧ px_t1 cX12_blamed 80 .ne 86 = true := by decide +kernel
theorem q_X12_blamed_86 : px_bk 12 6 cX12_blamed 86 [(.iinc 4 (-1), (0, 0, 0, 0, 0), -1, 0), (.iinc 5 1, (0, 0, 0, 0, 0), 1, 0), (.goto (-56), (0, 0, 0, 0, 0), 0, 0)] = some 36 := by decide +kernel
theorem q_X12_blamed_83 : px_bk 12 6 cX12_blamed 83 [(.iload 5, (0, 0, 0, 0, 0), 0, 0)] = some 85 ∧ px_tr cX12_blamed 85 .ireturn = true := by decide +kernel
set_option maxRecDepth 100000 in
theorem l_blamed {n : Nat} {R : px_R} (hg : px_G n R) {Q : px_Q} (a k i0 : Int32) {I0 : px_I} (L : px_L) (hS : mS I0) (hq : ∀ r I2 L2, mDI I0 I2 → mDL L L2 → Q (some (.int r)) n I2 L2 R) : ∀ i : Int32, i ≤ I0 103 2 → 0 ≤ i → ∀ (j : Int32) (I1 : px_I) (L1 : px_L), mS I1 → mDI I0 I1 → mDL L L1 → px M_X12_blamed 0 0 36 [(0, .ref 103), (1, .int a), (2, .int k), (3, .int i0), (4, .int j), (5, .int i)] [] n I1 L1 R Q := by
  refine px_up _ (fun i ih hk => ?_)
  intro h0 j I1 L1 hS1 hI1 hL1
  have he : I1 103 2 = I0 103 2 := hI1 103 2 (by decide)
  obtain ⟨hSa, hSb, hSc⟩ := id hS1
  refine px_ige rfl q_X12_blamed_36 hg rfl trivial (fun c42 => ?_) (fun c42 => ?_)
  · refine px_ri rfl q_X12_blamed_95 rfl rfl rfl hg rfl trivial ?_
    exact hq _ _ _ (by assumption) (by assumption)
  · refine px_ine rfl q_X12_blamed_45 hg rfl ⟨trivial, (by first | decide | (refine ⟨?_, ?_⟩ <;> grind) | grind)⟩ (fun c53 => ?_) (fun c53 => ?_)
    · refine px_b rfl q_X12_blamed_89 hg rfl trivial ?_
      exact px_go (ih (i + 1) (by grind) (by grind) (by grind) _ _ _ (by assumption) (by assumption) (by assumption)) ⟨rfl, rfl, rfl, rfl, rfl, rfl, trivial⟩
    · refine px_igt rfl q_X12_blamed_56 hg rfl ⟨trivial, (by first | decide | (refine ⟨?_, ?_⟩ <;> grind) | grind)⟩ (fun c64 => ?_) (fun c64 => ?_)
      · refine px_b rfl q_X12_blamed_89 hg rfl trivial ?_
        exact px_go (ih (i + 1) (by grind) (by grind) (by grind) _ _ _ (by assumption) (by assumption) (by assumption)) ⟨rfl, rfl, rfl, rfl, rfl, rfl, trivial⟩
      · refine px_cVS (ci := 12) rfl q_X12_blamed_67 hg rfl trivial lk_12_214 nm_X12_isClosed (k_isClosed hg _ _ _ ‹_›) rfl rfl (px_lit hg rfl) rfl rfl rfl ⟨rfl, rfl⟩ ?_
        intro x72 I72 L72 h72
        obtain ⟨hr, rfl, h72⟩ := h72
        have hS2 : mS (px_u I1 103 70 (I1 103 1)) := by unfold mS at *; simpa [px_ur] using hS1
        have hI2 : mDI I0 (px_u I1 103 70 (I1 103 1)) := fun b j h => by rw [← hI1 b j h]; simp [px_ur]; grind
        have hL2 : mDL L L72 := fun b h => (h72 b h).trans (hL1 b h)
        refine px_eq rfl q_X12_blamed_75 hg rfl trivial (fun c75 => ?_) (fun c75 => ?_)
        · refine px_b rfl q_X12_blamed_89 hg rfl trivial ?_
          exact px_go (ih (i + 1) (by grind) (by grind) (by grind) _ _ _ (by assumption) (by assumption) (by assumption)) ⟨rfl, rfl, rfl, rfl, rfl, rfl, trivial⟩
        · refine px_ne rfl q_X12_blamed_78 hg rfl trivial (fun c80 => ?_) (fun c80 => ?_)
          · refine px_b rfl q_X12_blamed_86 hg rfl trivial ?_
            exact px_go (ih (i + 1) (by grind) (by grind) (by grind) _ _ _ (by assumption) (by assumption) (by assumption)) ⟨rfl, rfl, rfl, rfl, rfl, rfl, trivial⟩
          · refine px_ri rfl q_X12_blamed_83 rfl rfl rfl hg rfl trivial ?_
            exact hq _ _ _ (by assumption) (by assumption)

theorem q_X12_blamed_0 : px_bk 12 6 cX12_blamed 0 [(.iload_n 1, (0, 0, 0, 0, 0), 0, 0)] = some 1 ∧ px_tS cX12_blamed 1 180 = true := by decide +kernel
theorem q_X12_blamed_4 : px_bk 12 6 cX12_blamed 4 [] = some 4 ∧ px_t1 cX12_blamed 4 .eq 28 = true := by decide +kernel
theorem q_X12_blamed_28 : px_bk 12 6 cX12_blamed 28 [(.iconst (-1), (0, 0, 0, 0, 0), -1, 0)] = some 29 ∧ px_tr cX12_blamed 29 .ireturn = true := by decide +kernel
theorem q_X12_blamed_7 : px_bk 12 6 cX12_blamed 7 [(.iload_n 2, (0, 0, 0, 0, 0), 0, 0)] = some 8 ∧ px_tS cX12_blamed 8 211 = true := by decide +kernel
theorem q_X12_blamed_11 : px_bk 12 6 cX12_blamed 11 [] = some 11 ∧ px_t1 cX12_blamed 11 .eq 28 = true := by decide +kernel
theorem q_X12_blamed_14 : px_bk 12 6 cX12_blamed 14 [(.iload_n 3, (0, 0, 0, 0, 0), 0, 0)] = some 15 ∧ px_t1 cX12_blamed 15 .lt 28 = true := by decide +kernel
theorem q_X12_blamed_18 : px_bk 12 6 cX12_blamed 18 [(.aload_n 0, (0, 0, 0, 0, 0), 0, 0), (.iload_n 1, (0, 0, 0, 0, 0), 0, 0), (.iload_n 2, (0, 0, 0, 0, 0), 0, 0), (.iconst (-1), (0, 0, 0, 0, 0), -1, 0)] = some 22 ∧ px_tv cX12_blamed 22 214 = true := by decide +kernel
theorem q_X12_blamed_25 : px_bk 12 6 cX12_blamed 25 [] = some 25 ∧ px_t1 cX12_blamed 25 .eq 30 = true := by decide +kernel
theorem q_X12_blamed_30 : px_bk 12 6 cX12_blamed 30 [(.iload_n 3, (0, 0, 0, 0, 0), 0, 0), (.istore 4, (0, 0, 0, 0, 0), 0, 0), (.iconst 0, (0, 0, 0, 0, 0), 0, 0), (.istore 5, (0, 0, 0, 0, 0), 0, 0)] = some 36 := by decide +kernel
set_option maxRecDepth 100000 in
theorem k_blamed {n : Nat} {I : px_I} {L : px_L} {R : px_R} (hg : px_G n R) (a k i : Int32) (hS : mS I) : px_KS M_X12_blamed [.ref 103, .int a, .int k, .int i] n I L R (fun r I2 L2 => mDI I I2 ∧ mDL L L2) := by
  refine px_of (plainFor_of_name np_RX12) (fun _ _ _ => trivial) rfl ?_
  refine px_cSP rfl q_X12_blamed_0 hg rfl trivial lk_12_180 nm_X12_isAxis (k_isAxis hg _) rfl rfl rfl ⟨rfl, rfl⟩ ?_
  intro x1 h1
  refine px_eq rfl q_X12_blamed_4 hg rfl trivial (fun c4 => ?_) (fun c4 => ?_)
  · replace h1 := px_bf h1 c4
    refine px_riS rfl q_X12_blamed_28 rfl rfl rfl hg rfl trivial ⟨⟨rfl, rfl⟩, ?_⟩
    first | exact ⟨fun _ _ _ => rfl, fun _ _ => rfl⟩ | exact ⟨fun b j h => by simp [px_ur]; grind, by assumption⟩
  · replace h1 := px_bt h1 c4
    refine px_cSP rfl q_X12_blamed_7 hg rfl trivial lk_12_211 nm_X12_isKnown (k_isKnown hg _) rfl rfl rfl ⟨rfl, rfl⟩ ?_
    intro x8 h8
    refine px_eq rfl q_X12_blamed_11 hg rfl trivial (fun c11 => ?_) (fun c11 => ?_)
    · replace h8 := px_bf h8 c11
      refine px_riS rfl q_X12_blamed_28 rfl rfl rfl hg rfl trivial ⟨⟨rfl, rfl⟩, ?_⟩
      first | exact ⟨fun _ _ _ => rfl, fun _ _ => rfl⟩ | exact ⟨fun b j h => by simp [px_ur]; grind, by assumption⟩
    · replace h8 := px_bt h8 c11
      refine px_lt rfl q_X12_blamed_14 hg rfl trivial (fun c15 => ?_) (fun c15 => ?_)
      · refine px_riS rfl q_X12_blamed_28 rfl rfl rfl hg rfl trivial ⟨⟨rfl, rfl⟩, ?_⟩
        first | exact ⟨fun _ _ _ => rfl, fun _ _ => rfl⟩ | exact ⟨fun b j h => by simp [px_ur]; grind, by assumption⟩
      · refine px_cVS (ci := 12) rfl q_X12_blamed_18 hg rfl trivial lk_12_214 nm_X12_isClosed (k_isClosed hg _ _ _ ‹_›) rfl rfl (px_lit hg rfl) rfl rfl rfl ⟨rfl, rfl⟩ ?_
        intro x22 I22 L22 h22
        obtain ⟨hr, rfl, h22⟩ := h22
        refine px_eq rfl q_X12_blamed_25 hg rfl trivial (fun c25 => ?_) (fun c25 => ?_)
        · refine px_b rfl q_X12_blamed_30 hg rfl trivial ?_
          exact px_go (l_blamed hg a k i L (I0 := px_u I 103 70 (I 103 1)) (by unfold mS at *; simpa [px_ur] using hS) (fun r I2 L2 h1 h2 => ⟨rfl, rfl, r, rfl, fun b j h => by rw [h1 b j h]; simp [px_ur]; grind, h2⟩) 0 (by unfold mS at hS; simp [px_ur]; grind) (by decide) i _ _ (by unfold mS at *; simpa [px_ur] using hS) (fun _ _ _ => rfl) h22) ⟨rfl, rfl, rfl, rfl, rfl, rfl, trivial⟩
        · refine px_riS rfl q_X12_blamed_28 rfl rfl rfl hg rfl trivial ⟨⟨rfl, rfl⟩, ?_⟩
          first | exact ⟨fun _ _ _ => rfl, fun _ _ => rfl⟩ | exact ⟨fun b j h => by simp [px_ur]; grind, by assumption⟩

theorem q_X12_isDug_129 : px_bk 12 7 cX12_isDug 129 [(.iload_n 3, (0, 0, 0, 0, 0), 0, 0), (.aload_n 0, (0, 0, 0, 0, 0), 0, 0), (.getfield 239, (12, 16, 0, 0, 0), 0, 0)] = some 134 ∧ px_t2 cX12_isDug 134 .ge 190 = true := by decide +kernel
theorem q_X12_isDug_190 : px_bk 12 7 cX12_isDug 190 [(.aload_n 0, (0, 0, 0, 0, 0), 0, 0)] = some 191 ∧ px_tv cX12_isDug 191 207 = true := by decide +kernel
theorem q_X12_isDug_194 : px_bk 12 7 cX12_isDug 194 [] = some 194 ∧ px_tr cX12_isDug 194 .ireturn = true := by decide +kernel
theorem q_X12_isDug_137 : px_bk 12 7 cX12_isDug 137 [(.aload_n 0, (0, 0, 0, 0, 0), 0, 0), (.getfield 53, (12, 17, 3, 117, 0), 0, 0), (.iload_n 3, (0, 0, 0, 0, 0), 0, 0), (.iaload, (0, 0, 0, 0, 0), 0, 0), (.iload_n 1, (0, 0, 0, 0, 0), 0, 0)] = some 144 ∧ px_t2 cX12_isDug 144 .ne 184 = true := by decide +kernel
theorem q_X12_isDug_184 : px_bk 12 7 cX12_isDug 184 [(.iinc 3 1, (0, 0, 0, 0, 0), 1, 0), (.goto (-58), (0, 0, 0, 0, 0), 0, 0)] = some 129 := by decide +kernel
theorem q_X12_isDug_147 : px_bk 12 7 cX12_isDug 147 [(.aload_n 0, (0, 0, 0, 0, 0), 0, 0), (.iload_n 2, (0, 0, 0, 0, 0), 0, 0), (.aload_n 0, (0, 0, 0, 0, 0), 0, 0), (.getfield 56, (12, 18, 3, 118, 0), 0, 0), (.iload_n 3, (0, 0, 0, 0, 0), 0, 0), (.iaload, (0, 0, 0, 0, 0), 0, 0), (.aload_n 0, (0, 0, 0, 0, 0), 0, 0), (.getfield 62, (12, 20, 3, 120, 0), 0, 0), (.iload_n 3, (0, 0, 0, 0, 0), 0, 0), (.iaload, (0, 0, 0, 0, 0), 0, 0), (.i2l, (0, 0, 0, 0, 0), 0, 0)] = some 162 ∧ px_tv cX12_isDug 162 199 = true := by decide +kernel
theorem q_X12_isDug_165 : px_bk 12 7 cX12_isDug 165 [(.aload_n 0, (0, 0, 0, 0, 0), 0, 0), (.aload_n 0, (0, 0, 0, 0, 0), 0, 0), (.getfield 56, (12, 18, 3, 118, 0), 0, 0), (.iload_n 3, (0, 0, 0, 0, 0), 0, 0), (.iaload, (0, 0, 0, 0, 0), 0, 0), (.iload_n 2, (0, 0, 0, 0, 0), 0, 0), (.aload_n 0, (0, 0, 0, 0, 0), 0, 0), (.getfield 59, (12, 19, 3, 119, 0), 0, 0), (.iload_n 3, (0, 0, 0, 0, 0), 0, 0), (.iaload, (0, 0, 0, 0, 0), 0, 0), (.ineg, (0, 0, 0, 0, 0), 0, 0), (.i2l, (0, 0, 0, 0, 0), 0, 0)] = some 181 ∧ px_tv cX12_isDug 181 199 = true := by decide +kernel
set_option maxRecDepth 100000 in
theorem l_isDug129 {n : Nat} {R : px_R} (hg : px_G n R) {Q : px_Q} (g z : Int32) {I : px_I} (L : px_L) (hM : mM I) (hz : z = I 110 g.toNatClampNeg ∧ 0 ≤ z ∧ z ≤ 20) (hs : I 103 70 = z + 1) (hg1 : 0 ≤ g ∧ g ≤ 1) (hq : ∀ r L2, (r = 0 ∨ r = 1) → mDL L L2 → Q (some (.int r)) n I L2 R) : ∀ i : Int32, i ≤ I 103 16 → 0 ≤ i → ∀ L1, mDL L L1 → px M_X12_isDug 0 0 129 [(0, .ref 103), (1, .int g), (2, .int z), (3, .int i)] [] n I L1 R Q := by
  refine px_up _ (fun i ih hk => ?_)
  intro h0 L1 h1
  obtain ⟨hM1, hM2⟩ := id hM
  refine px_ige rfl q_X12_isDug_129 hg rfl trivial (fun c134 => ?_) (fun c134 => ?_)
  · refine px_cVS (ci := 12) rfl q_X12_isDug_190 hg rfl trivial lk_12_207 nm_X12_closes (k_closes hg (by grind)) rfl rfl (px_lit hg rfl) rfl rfl rfl ⟨rfl, rfl⟩ ?_
    intro x191 I191 L191 h191
    obtain ⟨hr, rfl, h191⟩ := h191
    refine px_rz rfl q_X12_isDug_194 rfl rfl rfl hg rfl trivial (by first | exact Or.inl rfl | exact Or.inr rfl | grind) ?_
    exact hq _ _ hr (fun b hb => (h191 b hb).trans (h1 b hb))
  · have hM3 := hM2 i h0 (by grind)
    refine px_ine rfl q_X12_isDug_137 hg rfl ⟨trivial, (by first | decide | (refine ⟨?_, ?_⟩ <;> grind) | grind)⟩ (fun c144 => ?_) (fun c144 => ?_)
    · refine px_b rfl q_X12_isDug_184 hg rfl trivial ?_
      exact px_go (ih (i + 1) (by grind) (by grind) (by grind) _ (by first | assumption | (unfold mDL at *; grind))) ⟨rfl, rfl, rfl, rfl, trivial⟩
    · refine px_cVW (ci := 12) rfl q_X12_isDug_147 hg rfl ⟨⟨trivial, (by first | decide | (refine ⟨?_, ?_⟩ <;> grind) | grind)⟩, (by first | decide | (refine ⟨?_, ?_⟩ <;> grind) | grind)⟩ lk_12_199 nm_X12_bounds (k_bounds hg _ _ _ (by grind)) rfl rfl (px_lit hg rfl) rfl rfl rfl ⟨rfl, rfl⟩ ?_
      intro I162 L162 h162
      obtain ⟨rfl, h162⟩ := h162
      refine px_cVW (ci := 12) rfl q_X12_isDug_165 hg rfl ⟨⟨trivial, (by first | decide | (refine ⟨?_, ?_⟩ <;> grind) | grind)⟩, (by first | decide | (refine ⟨?_, ?_⟩ <;> grind) | grind)⟩ lk_12_199 nm_X12_bounds (k_bounds hg _ _ _ (by grind)) rfl rfl (px_lit hg rfl) rfl rfl rfl ⟨rfl, rfl⟩ ?_
      intro I181 L181 h181
      obtain ⟨rfl, h181⟩ := h181
      refine px_b rfl q_X12_isDug_184 hg rfl trivial ?_
      exact px_go (ih (i + 1) (by grind) (by grind) (by grind) _ (by first | assumption | (unfold mDL at *; grind))) ⟨rfl, rfl, rfl, rfl, trivial⟩

theorem q_X12_isDug_16 : px_bk 12 7 cX12_isDug 16 [(.iload_n 3, (0, 0, 0, 0, 0), 0, 0), (.aload_n 0, (0, 0, 0, 0, 0), 0, 0), (.getfield 32, (12, 9, 3, 110, 0), 0, 0), (.iload_n 1, (0, 0, 0, 0, 0), 0, 0), (.iaload, (0, 0, 0, 0, 0), 0, 0)] = some 23 ∧ px_t2 cX12_isDug 23 .ge 127 = true := by decide +kernel
theorem q_X12_isDug_127 : px_bk 12 7 cX12_isDug 127 [(.iconst 0, (0, 0, 0, 0, 0), 0, 0), (.istore_n 3, (0, 0, 0, 0, 0), 0, 0)] = some 129 := by decide +kernel
theorem q_X12_isDug_26 : px_bk 12 7 cX12_isDug 26 [(.aload_n 0, (0, 0, 0, 0, 0), 0, 0), (.iload_n 2, (0, 0, 0, 0, 0), 0, 0), (.iload_n 3, (0, 0, 0, 0, 0), 0, 0), (.ldc2_w 237, (0, 0, 0, 0, 0), 0, 20000)] = some 32 ∧ px_tv cX12_isDug 32 199 = true := by decide +kernel
theorem q_X12_isDug_35 : px_bk 12 7 cX12_isDug 35 [(.aload_n 0, (0, 0, 0, 0, 0), 0, 0), (.iload_n 3, (0, 0, 0, 0, 0), 0, 0), (.iload_n 2, (0, 0, 0, 0, 0), 0, 0), (.lconst 0, (0, 0, 0, 0, 0), 0, 0)] = some 39 ∧ px_tv cX12_isDug 39 199 = true := by decide +kernel
theorem q_X12_isDug_42 : px_bk 12 7 cX12_isDug 42 [(.iload_n 3, (0, 0, 0, 0, 0), 0, 0)] = some 43 ∧ px_t1 cX12_isDug 43 .le 121 = true := by decide +kernel
theorem q_X12_isDug_121 : px_bk 12 7 cX12_isDug 121 [(.iinc 3 1, (0, 0, 0, 0, 0), 1, 0), (.goto (-108), (0, 0, 0, 0, 0), 0, 0)] = some 16 := by decide +kernel
theorem q_X12_isDug_46 : px_bk 12 7 cX12_isDug 46 [(.bipush 20, (0, 0, 0, 0, 0), 20, 0), (.iload_n 1, (0, 0, 0, 0, 0), 0, 0), (.imul, (0, 0, 0, 0, 0), 0, 0), (.iload_n 3, (0, 0, 0, 0, 0), 0, 0), (.iadd, (0, 0, 0, 0, 0), 0, 0), (.istore 4, (0, 0, 0, 0, 0), 0, 0), (.aload_n 0, (0, 0, 0, 0, 0), 0, 0), (.getfield 35, (12, 10, 3, 111, 0), 0, 0), (.iload 4, (0, 0, 0, 0, 0), 0, 0), (.iaload, (0, 0, 0, 0, 0), 0, 0), (.aload_n 0, (0, 0, 0, 0, 0), 0, 0), (.getfield 44, (12, 13, 3, 114, 0), 0, 0), (.iload 4, (0, 0, 0, 0, 0), 0, 0), (.iaload, (0, 0, 0, 0, 0), 0, 0), (.iadd, (0, 0, 0, 0, 0), 0, 0), (.iconst 1, (0, 0, 0, 0, 0), 1, 0), (.isub, (0, 0, 0, 0, 0), 0, 0), (.aload_n 0, (0, 0, 0, 0, 0), 0, 0), (.getfield 44, (12, 13, 3, 114, 0), 0, 0), (.iload 4, (0, 0, 0, 0, 0), 0, 0), (.iaload, (0, 0, 0, 0, 0), 0, 0), (.idiv, (0, 0, 0, 0, 0), 0, 0), (.istore 5, (0, 0, 0, 0, 0), 0, 0), (.aload_n 0, (0, 0, 0, 0, 0), 0, 0), (.getfield 38, (12, 11, 3, 112, 0), 0, 0), (.iload 4, (0, 0, 0, 0, 0), 0, 0), (.iaload, (0, 0, 0, 0, 0), 0, 0), (.aload_n 0, (0, 0, 0, 0, 0), 0, 0), (.getfield 41, (12, 12, 3, 113, 0), 0, 0), (.iload 4, (0, 0, 0, 0, 0), 0, 0), (.iaload, (0, 0, 0, 0, 0), 0, 0), (.idiv, (0, 0, 0, 0, 0), 0, 0), (.istore 6, (0, 0, 0, 0, 0), 0, 0), (.aload_n 0, (0, 0, 0, 0, 0), 0, 0), (.iload_n 3, (0, 0, 0, 0, 0), 0, 0), (.iconst 1, (0, 0, 0, 0, 0), 1, 0), (.isub, (0, 0, 0, 0, 0), 0, 0), (.iload_n 3, (0, 0, 0, 0, 0), 0, 0), (.iload 6, (0, 0, 0, 0, 0), 0, 0), (.i2l, (0, 0, 0, 0, 0), 0, 0)] = some 106 ∧ px_tv cX12_isDug 106 199 = true := by decide +kernel
theorem q_X12_isDug_109 : px_bk 12 7 cX12_isDug 109 [(.aload_n 0, (0, 0, 0, 0, 0), 0, 0), (.iload_n 3, (0, 0, 0, 0, 0), 0, 0), (.iload_n 3, (0, 0, 0, 0, 0), 0, 0), (.iconst 1, (0, 0, 0, 0, 0), 1, 0), (.isub, (0, 0, 0, 0, 0), 0, 0), (.iload 5, (0, 0, 0, 0, 0), 0, 0), (.ineg, (0, 0, 0, 0, 0), 0, 0), (.i2l, (0, 0, 0, 0, 0), 0, 0)] = some 118 ∧ px_tv cX12_isDug 118 199 = true := by decide +kernel
set_option maxRecDepth 100000 in
theorem l_isDug16 {n : Nat} {R : px_R} (hg : px_G n R) {Q : px_Q} (g z : Int32) {I : px_I} (L : px_L) (hM : mM I) (hG : mG I) (hz : z = I 110 g.toNatClampNeg ∧ 0 ≤ z ∧ z ≤ 20) (hs : I 103 70 = z + 1) (hg1 : 0 ≤ g ∧ g ≤ 1) (hq : ∀ r L2, (r = 0 ∨ r = 1) → mDL L L2 → Q (some (.int r)) n I L2 R) : ∀ i : Int32, i ≤ z → 0 ≤ i → ∀ L1, mDL L L1 → px M_X12_isDug 0 0 16 [(0, .ref 103), (1, .int g), (2, .int z), (3, .int i)] [] n I L1 R Q := by
  refine px_up _ (fun i ih hk => ?_)
  intro h0 L1 h1
  obtain ⟨hG1, hG2⟩ := hG g hg1.1 hg1.2
  refine px_ige rfl q_X12_isDug_16 hg rfl ⟨trivial, (by first | decide | (refine ⟨?_, ?_⟩ <;> grind) | grind)⟩ (fun c23 => ?_) (fun c23 => ?_)
  · refine px_b rfl q_X12_isDug_127 hg rfl trivial ?_
    exact px_go (l_isDug129 hg g z L hM hz hs hg1 hq 0 (by unfold mM at hM; grind) (by decide) _ h1) ⟨rfl, rfl, rfl, rfl, trivial⟩
  · refine px_cVW (ci := 12) rfl q_X12_isDug_26 hg rfl trivial lk_12_199 nm_X12_bounds (k_bounds hg _ _ _ (by grind)) rfl rfl (px_lit hg rfl) rfl rfl rfl ⟨rfl, rfl⟩ ?_
    intro I32 L32 h32
    obtain ⟨rfl, h32⟩ := h32
    refine px_cVW (ci := 12) rfl q_X12_isDug_35 hg rfl trivial lk_12_199 nm_X12_bounds (k_bounds hg _ _ _ (by grind)) rfl rfl (px_lit hg rfl) rfl rfl rfl ⟨rfl, rfl⟩ ?_
    intro I39 L39 h39
    obtain ⟨rfl, h39⟩ := h39
    refine px_le rfl q_X12_isDug_42 hg rfl trivial (fun c43 => ?_) (fun c43 => ?_)
    · refine px_b rfl q_X12_isDug_121 hg rfl trivial ?_
      exact px_go (ih (i + 1) (by grind) (by grind) (by grind) _ (by first | assumption | (unfold mDL at *; grind))) ⟨rfl, rfl, rfl, rfl, trivial⟩
    · have hG3 := hG2 i (by grind) (by grind)
      refine px_cVW (ci := 12) rfl q_X12_isDug_46 hg rfl ⟨⟨⟨⟨⟨⟨⟨trivial, (by first | decide | (refine ⟨?_, ?_⟩ <;> grind) | grind)⟩, (by first | decide | (refine ⟨?_, ?_⟩ <;> grind) | grind)⟩, (by first | decide | (refine ⟨?_, ?_⟩ <;> grind) | grind)⟩, (by first | decide | (refine ⟨?_, ?_⟩ <;> grind) | grind)⟩, (by first | decide | (refine ⟨?_, ?_⟩ <;> grind) | grind)⟩, (by first | decide | (refine ⟨?_, ?_⟩ <;> grind) | grind)⟩, (by first | decide | (refine ⟨?_, ?_⟩ <;> grind) | grind)⟩ lk_12_199 nm_X12_bounds (k_bounds hg _ _ _ (by grind)) rfl rfl (px_lit hg rfl) rfl rfl rfl ⟨rfl, rfl⟩ ?_
      intro I106 L106 h106
      obtain ⟨rfl, h106⟩ := h106
      refine px_cVW (ci := 12) rfl q_X12_isDug_109 hg rfl trivial lk_12_199 nm_X12_bounds (k_bounds hg _ _ _ (by grind)) rfl rfl (px_lit hg rfl) rfl rfl rfl ⟨rfl, rfl⟩ ?_
      intro I118 L118 h118
      obtain ⟨rfl, h118⟩ := h118
      refine px_b rfl q_X12_isDug_121 hg rfl trivial ?_
      exact px_go (ih (i + 1) (by grind) (by grind) (by grind) _ (by first | assumption | (unfold mDL at *; grind))) ⟨rfl, rfl, rfl, rfl, trivial⟩

theorem q_X12_isDug_0 : px_bk 12 7 cX12_isDug 0 [(.aload_n 0, (0, 0, 0, 0, 0), 0, 0), (.getfield 32, (12, 9, 3, 110, 0), 0, 0), (.iload_n 1, (0, 0, 0, 0, 0), 0, 0), (.iaload, (0, 0, 0, 0, 0), 0, 0), (.istore_n 2, (0, 0, 0, 0, 0), 0, 0), (.aload_n 0, (0, 0, 0, 0, 0), 0, 0), (.iload_n 2, (0, 0, 0, 0, 0), 0, 0), (.iconst 1, (0, 0, 0, 0, 0), 1, 0), (.iadd, (0, 0, 0, 0, 0), 0, 0)] = some 11 ∧ px_tv cX12_isDug 11 203 = true := by decide +kernel
theorem q_X12_isDug_14 : px_bk 12 7 cX12_isDug 14 [(.iconst 0, (0, 0, 0, 0, 0), 0, 0), (.istore_n 3, (0, 0, 0, 0, 0), 0, 0)] = some 16 := by decide +kernel
set_option maxRecDepth 100000 in
theorem k_isDug {n : Nat} {I : px_I} {L : px_L} {R : px_R} (hg : px_G n R) (g : Int32) (hg1 : 0 ≤ g ∧ g ≤ 1) (hM : mM I) (hG : mG I) : px_KS M_X12_isDug [.ref 103, .int g] n I L R (fun r I2 L2 => (r = 0 ∨ r = 1) ∧ I2 = px_u I 103 70 (I 110 g.toNatClampNeg + 1) ∧ mDL L L2) := by
  refine px_of (plainFor_of_name np_RX12) (fun _ _ _ => trivial) rfl ?_
  obtain ⟨hG1, hG2⟩ := hG g hg1.1 hg1.2
  refine px_cVW (ci := 12) rfl q_X12_isDug_0 hg rfl ⟨trivial, (by first | decide | (refine ⟨?_, ?_⟩ <;> grind) | grind)⟩ lk_12_203 nm_X12_begins (k_begins hg _) rfl rfl (px_lit hg rfl) rfl rfl rfl ⟨rfl, rfl⟩ ?_
  intro I11 L11 h11
  obtain ⟨rfl, h11⟩ := h11
  refine px_b rfl q_X12_isDug_14 hg rfl trivial ?_
  exact px_go (l_isDug16 hg g _ L (by unfold mM at *; simpa [px_ur] using hM) (by unfold mG at *; simpa [px_ur] using hG) ⟨by simp [px_ur], hG1⟩ (by simp [px_ur]) hg1 (fun r L2 hr h => ⟨rfl, rfl, r, rfl, hr, rfl, h⟩) 0 hG1.1 (by decide) _ h11) ⟨rfl, rfl, rfl, rfl, trivial⟩

theorem q_X12_when_0 : px_bk 12 4 cX12_when 0 [(.aload_n 0, (0, 0, 0, 0, 0), 0, 0), (.iload_n 1, (0, 0, 0, 0, 0), 0, 0), (.iload_n 2, (0, 0, 0, 0, 0), 0, 0)] = some 3 ∧ px_tv cX12_when 3 233 = true := by decide +kernel
theorem q_X12_when_6 : px_bk 12 4 cX12_when 6 [] = some 6 ∧ px_t1 cX12_when 6 .eq 17 = true := by decide +kernel
theorem q_X12_when_17 : px_bk 12 4 cX12_when 17 [(.iconst (-1), (0, 0, 0, 0, 0), -1, 0), (.goto 15, (0, 0, 0, 0, 0), 0, 0)] = some 33 ∧ px_tr cX12_when 33 .ireturn = true := by decide +kernel
theorem q_X12_when_9 : px_bk 12 4 cX12_when 9 [(.aload_n 0, (0, 0, 0, 0, 0), 0, 0), (.iload_n 1, (0, 0, 0, 0, 0), 0, 0)] = some 11 ∧ px_tv cX12_when 11 242 = true := by decide +kernel
theorem q_X12_when_14 : px_bk 12 4 cX12_when 14 [] = some 14 ∧ px_t1 cX12_when 14 .ne 21 = true := by decide +kernel
theorem q_X12_when_21 : px_bk 12 4 cX12_when 21 [(.aload_n 0, (0, 0, 0, 0, 0), 0, 0), (.aload_n 0, (0, 0, 0, 0, 0), 0, 0), (.getfield 32, (12, 9, 3, 110, 0), 0, 0), (.iload_n 1, (0, 0, 0, 0, 0), 0, 0), (.iaload, (0, 0, 0, 0, 0), 0, 0), (.iload_n 2, (0, 0, 0, 0, 0), 0, 0), (.iload_n 3, (0, 0, 0, 0, 0), 0, 0)] = some 30 ∧ px_tv cX12_when 30 219 = true := by decide +kernel
theorem q_X12_when_33 : px_bk 12 4 cX12_when 33 [] = some 33 ∧ px_tr cX12_when 33 .ireturn = true := by decide +kernel
set_option maxRecDepth 100000 in
theorem k_when {n : Nat} {I : px_I} {L : px_L} {R : px_R} (hg : px_G n R) (g p h : Int32) (hM : mM I) (hG : mG I) : px_KS M_X12_when [.ref 103, .int g, .int p, .int h] n I L R (fun r I2 L2 => mDI I I2 ∧ mDL L L2) := by
  refine px_of (plainFor_of_name np_RX12) (fun _ _ _ => trivial) rfl ?_
  refine px_cVP (ci := 12) rfl q_X12_when_0 hg rfl trivial lk_12_233 nm_X12_isPeg (k_isPeg hg _ _) rfl rfl (px_lit hg rfl) rfl rfl rfl ⟨rfl, rfl⟩ ?_
  intro x3 h3
  refine px_eq rfl q_X12_when_6 hg rfl trivial (fun c6 => ?_) (fun c6 => ?_)
  · replace h3 := px_bf h3 c6
    refine px_riS rfl q_X12_when_17 rfl rfl rfl hg rfl trivial ⟨⟨rfl, rfl⟩, ?_⟩
    first | exact ⟨fun _ _ _ => rfl, fun _ _ => rfl⟩ | exact ⟨fun b j h => by simp [px_ur]; grind, by assumption⟩
  · replace h3 := px_bt h3 c6
    refine px_cVS (ci := 12) rfl q_X12_when_9 hg rfl trivial lk_12_242 nm_X12_isDug (k_isDug hg _ (by grind) ‹_› ‹_›) rfl rfl (px_lit hg rfl) rfl rfl rfl ⟨rfl, rfl⟩ ?_
    intro x11 I11 L11 h11
    obtain ⟨hr, rfl, h11⟩ := h11
    obtain ⟨hG1, hG2⟩ := hG g (by grind) (by grind)
    refine px_ne rfl q_X12_when_14 hg rfl trivial (fun c14 => ?_) (fun c14 => ?_)
    · refine px_cVP (ci := 12) rfl q_X12_when_21 hg rfl ⟨trivial, (by first | decide | (refine ⟨?_, ?_⟩ <;> grind) | grind)⟩ lk_12_219 nm_X12_gapOf (k_gapOf hg _ _ _ (by simp [px_ur]; grind) (by grind)) rfl rfl (px_lit hg rfl) rfl rfl rfl ⟨rfl, rfl⟩ ?_
      intro x30 h30
      refine px_riS rfl q_X12_when_33 rfl rfl rfl hg rfl trivial ⟨⟨rfl, rfl⟩, ?_⟩
      first | exact ⟨fun _ _ _ => rfl, fun _ _ => rfl⟩ | exact ⟨fun b j h => by simp [px_ur]; grind, by assumption⟩
    · refine px_riS rfl q_X12_when_17 rfl rfl rfl hg rfl trivial ⟨⟨rfl, rfl⟩, ?_⟩
      first | exact ⟨fun _ _ _ => rfl, fun _ _ => rfl⟩ | exact ⟨fun b j h => by simp [px_ur]; grind, by assumption⟩

theorem q_X12_between_0 : px_bk 12 5 cX12_between 0 [(.aload_n 0, (0, 0, 0, 0, 0), 0, 0), (.iload_n 1, (0, 0, 0, 0, 0), 0, 0), (.iload_n 2, (0, 0, 0, 0, 0), 0, 0)] = some 3 ∧ px_tv cX12_between 3 233 = true := by decide +kernel
theorem q_X12_between_6 : px_bk 12 5 cX12_between 6 [] = some 6 ∧ px_t1 cX12_between 6 .eq 31 = true := by decide +kernel
theorem q_X12_between_31 : px_bk 12 5 cX12_between 31 [(.iconst (-1), (0, 0, 0, 0, 0), -1, 0), (.goto 11, (0, 0, 0, 0, 0), 0, 0)] = some 43 ∧ px_tr cX12_between 43 .ireturn = true := by decide +kernel
theorem q_X12_between_9 : px_bk 12 5 cX12_between 9 [(.aload_n 0, (0, 0, 0, 0, 0), 0, 0), (.iload_n 1, (0, 0, 0, 0, 0), 0, 0), (.iload_n 3, (0, 0, 0, 0, 0), 0, 0)] = some 12 ∧ px_tv cX12_between 12 233 = true := by decide +kernel
theorem q_X12_between_15 : px_bk 12 5 cX12_between 15 [] = some 15 ∧ px_t1 cX12_between 15 .eq 31 = true := by decide +kernel
theorem q_X12_between_18 : px_bk 12 5 cX12_between 18 [(.iload_n 2, (0, 0, 0, 0, 0), 0, 0), (.iload_n 3, (0, 0, 0, 0, 0), 0, 0)] = some 20 ∧ px_t2 cX12_between 20 .ge 31 = true := by decide +kernel
theorem q_X12_between_23 : px_bk 12 5 cX12_between 23 [(.aload_n 0, (0, 0, 0, 0, 0), 0, 0), (.iload_n 1, (0, 0, 0, 0, 0), 0, 0)] = some 25 ∧ px_tv cX12_between 25 242 = true := by decide +kernel
theorem q_X12_between_28 : px_bk 12 5 cX12_between 28 [] = some 28 ∧ px_t1 cX12_between 28 .ne 35 = true := by decide +kernel
theorem q_X12_between_35 : px_bk 12 5 cX12_between 35 [(.aload_n 0, (0, 0, 0, 0, 0), 0, 0), (.iload_n 2, (0, 0, 0, 0, 0), 0, 0), (.iload_n 3, (0, 0, 0, 0, 0), 0, 0), (.iload 4, (0, 0, 0, 0, 0), 0, 0)] = some 40 ∧ px_tv cX12_between 40 219 = true := by decide +kernel
theorem q_X12_between_43 : px_bk 12 5 cX12_between 43 [] = some 43 ∧ px_tr cX12_between 43 .ireturn = true := by decide +kernel
set_option maxRecDepth 100000 in
theorem k_between {n : Nat} {I : px_I} {L : px_L} {R : px_R} (hg : px_G n R) (g p t h : Int32) (hM : mM I) (hG : mG I) : px_KS M_X12_between [.ref 103, .int g, .int p, .int t, .int h] n I L R (fun r I2 L2 => mDI I I2 ∧ mDL L L2) := by
  refine px_of (plainFor_of_name np_RX12) (fun _ _ _ => trivial) rfl ?_
  refine px_cVP (ci := 12) rfl q_X12_between_0 hg rfl trivial lk_12_233 nm_X12_isPeg (k_isPeg hg _ _) rfl rfl (px_lit hg rfl) rfl rfl rfl ⟨rfl, rfl⟩ ?_
  intro x3 h3
  refine px_eq rfl q_X12_between_6 hg rfl trivial (fun c6 => ?_) (fun c6 => ?_)
  · replace h3 := px_bf h3 c6
    refine px_riS rfl q_X12_between_31 rfl rfl rfl hg rfl trivial ⟨⟨rfl, rfl⟩, ?_⟩
    first | exact ⟨fun _ _ _ => rfl, fun _ _ => rfl⟩ | exact ⟨fun b j h => by simp [px_ur]; grind, by assumption⟩
  · replace h3 := px_bt h3 c6
    refine px_cVP (ci := 12) rfl q_X12_between_9 hg rfl trivial lk_12_233 nm_X12_isPeg (k_isPeg hg _ _) rfl rfl (px_lit hg rfl) rfl rfl rfl ⟨rfl, rfl⟩ ?_
    intro x12 h12
    refine px_eq rfl q_X12_between_15 hg rfl trivial (fun c15 => ?_) (fun c15 => ?_)
    · replace h12 := px_bf h12 c15
      refine px_riS rfl q_X12_between_31 rfl rfl rfl hg rfl trivial ⟨⟨rfl, rfl⟩, ?_⟩
      first | exact ⟨fun _ _ _ => rfl, fun _ _ => rfl⟩ | exact ⟨fun b j h => by simp [px_ur]; grind, by assumption⟩
    · replace h12 := px_bt h12 c15
      refine px_ige rfl q_X12_between_18 hg rfl trivial (fun c20 => ?_) (fun c20 => ?_)
      · refine px_riS rfl q_X12_between_31 rfl rfl rfl hg rfl trivial ⟨⟨rfl, rfl⟩, ?_⟩
        first | exact ⟨fun _ _ _ => rfl, fun _ _ => rfl⟩ | exact ⟨fun b j h => by simp [px_ur]; grind, by assumption⟩
      · refine px_cVS (ci := 12) rfl q_X12_between_23 hg rfl trivial lk_12_242 nm_X12_isDug (k_isDug hg _ (by grind) ‹_› ‹_›) rfl rfl (px_lit hg rfl) rfl rfl rfl ⟨rfl, rfl⟩ ?_
        intro x25 I25 L25 h25
        obtain ⟨hr, rfl, h25⟩ := h25
        obtain ⟨hG1, hG2⟩ := hG g (by grind) (by grind)
        refine px_ne rfl q_X12_between_28 hg rfl trivial (fun c28 => ?_) (fun c28 => ?_)
        · refine px_cVP (ci := 12) rfl q_X12_between_35 hg rfl trivial lk_12_219 nm_X12_gapOf (k_gapOf hg _ _ _ (by grind) (by grind)) rfl rfl (px_lit hg rfl) rfl rfl rfl ⟨rfl, rfl⟩ ?_
          intro x40 h40
          refine px_riS rfl q_X12_between_43 rfl rfl rfl hg rfl trivial ⟨⟨rfl, rfl⟩, ?_⟩
          first | exact ⟨fun _ _ _ => rfl, fun _ _ => rfl⟩ | exact ⟨fun b j h => by simp [px_ur]; grind, by assumption⟩
        · refine px_riS rfl q_X12_between_31 rfl rfl rfl hg rfl trivial ⟨⟨rfl, rfl⟩, ?_⟩
          first | exact ⟨fun _ _ _ => rfl, fun _ _ => rfl⟩ | exact ⟨fun b j h => by simp [px_ur]; grind, by assumption⟩
end
section
def mP0 (I : px_I) (g : Int32) : Int32 := if I 110 g.toNatClampNeg = 0 then 1 else I 110 g.toNatClampNeg
def mReach (I : px_I) (g lo hi sl fa w st : Int32) : px_I := px_u (px_u (px_u (px_u (px_u (px_u (px_u (px_u I 110 g.toNatClampNeg (mP0 I g)) 111 (20 * g + mP0 I g).toNatClampNeg lo) 112 (20 * g + mP0 I g).toNatClampNeg hi) 113 (20 * g + mP0 I g).toNatClampNeg sl) 114 (20 * g + mP0 I g).toNatClampNeg fa) 115 (20 * g + mP0 I g).toNatClampNeg w) 116 (20 * g + mP0 I g).toNatClampNeg st) 110 g.toNatClampNeg (mP0 I g + 1)
def mReachOk (I : px_I) (g lo hi sl fa w st : Int32) : Prop := (0 ≤ g ∧ g ≤ 1) ∧ (1 ≤ lo ∧ lo ≤ 1000000) ∧ (lo ≤ hi ∧ hi ≤ 1000000) ∧ (1 ≤ sl ∧ sl ≤ 10000) ∧ (sl ≤ fa ∧ fa ≤ 10000) ∧ (100 ≤ w ∧ w ≤ 5000) ∧ (st = -1 ∨ (0 ≤ st ∧ st ≤ I 103 1 - 1)) ∧ I 110 g.toNatClampNeg ≠ 20
def mMark (I : px_I) (g p f t : Int32) : px_I := px_u (px_u (px_u (px_u (px_u I 117 (I 103 16).toNatClampNeg g) 118 (I 103 16).toNatClampNeg p) 119 (I 103 16).toNatClampNeg f) 120 (I 103 16).toNatClampNeg t) 103 16 (I 103 16 + 1)
def mPegOk (I : px_I) (g p : Int32) : Prop := 0 ≤ g ∧ g ≤ 1 ∧ 0 ≤ p ∧ p ≤ I 110 g.toNatClampNeg - 1
def mLo (I : px_I) (L : px_L) (u lo : Int32) : Int64 := if 0 < I 103 21 ∧ (1000 * lo.toInt64 + u.toInt64 - 1) / u.toInt64 < L 103 22 then L 103 22 else (1000 * lo.toInt64 + u.toInt64 - 1) / u.toInt64
def mHi (I : px_I) (L : px_L) (u hi : Int32) : Int64 := if 0 < I 103 21 ∧ L 103 23 < 1000 * hi.toInt64 / u.toInt64 then L 103 23 else 1000 * hi.toInt64 / u.toInt64
def mCountOk (I : px_I) (L : px_L) (u lo hi : Int32) : Prop := (1 ≤ u ∧ u ≤ 9999) ∧ (1 ≤ lo ∧ lo ≤ 2000000) ∧ (lo ≤ hi ∧ hi ≤ 2000000) ∧ I 103 21 ≠ 30 ∧ mLo I L u lo ≤ mHi I L u hi
def mB (x : Int32) : Int32 := x.toInt8.toInt32.toInt8.toInt32
def mPut (I : px_I) (x : Int32) : px_I := px_u (px_u (px_u (px_u (px_u I 121 (I 103 25).toNatClampNeg (mB (x >>> (24 &&& 31)))) 121 (I 103 25 + 1).toNatClampNeg (mB (x >>> (16 &&& 31)))) 121 (I 103 25 + 2).toNatClampNeg (mB (x >>> (8 &&& 31)))) 121 (I 103 25 + 3).toNatClampNeg (mB x)) 103 25 (I 103 25 + 4)
theorem mPut_25 (I : px_I) (x : Int32) : mPut I x 103 25 = I 103 25 + 4 := by simp [mPut, px_ur]
theorem mK {g p P : Int32} (h : 0 ≤ g ∧ g ≤ 1 ∧ 0 ≤ p ∧ p ≤ P - 1) (hP : 0 ≤ P ∧ P ≤ 20) : (0 ≤ 20 * g + p ∧ 20 * g + p < 40) ∧ p < P := by
  have h1 : p < P := by grind
  have h2 : p < 20 := by grind
  exact ⟨⟨by grind, by grind⟩, h1⟩
theorem px_nz64 {x : Int32} (h : 1 ≤ x) : ¬ x.toInt64 = 0 := by
  intro h2
  have h3 : x.toInt64.toInt = 0 := by rw [h2]; rfl
  rw [Int32.toInt_toInt64] at h3
  have := Int32.le_iff_toInt_le.mp h
  rw [h3] at this
  exact absurd this (by decide)

theorem q_X12_reach_0 : px_bk 12 9 cX12_reach 0 [(.iload_n 1, (0, 0, 0, 0, 0), 0, 0), (.i2l, (0, 0, 0, 0, 0), 0, 0), (.lconst 0, (0, 0, 0, 0, 0), 0, 0), (.lconst 1, (0, 0, 0, 0, 0), 0, 1)] = some 4 ∧ px_tS cX12_reach 4 167 = true := by decide +kernel
theorem q_X12_reach_7 : px_bk 12 9 cX12_reach 7 [] = some 7 ∧ px_t1 cX12_reach 7 .eq 104 = true := by decide +kernel
theorem q_X12_reach_104 : px_bk 12 9 cX12_reach 104 [(.iconst (-1), (0, 0, 0, 0, 0), -1, 0)] = some 105 ∧ px_tr cX12_reach 105 .ireturn = true := by decide +kernel
theorem q_X12_reach_10 : px_bk 12 9 cX12_reach 10 [(.iload_n 2, (0, 0, 0, 0, 0), 0, 0), (.i2l, (0, 0, 0, 0, 0), 0, 0), (.lconst 1, (0, 0, 0, 0, 0), 0, 1), (.ldc2_w 189, (0, 0, 0, 0, 0), 0, 1000000)] = some 16 ∧ px_tS cX12_reach 16 167 = true := by decide +kernel
theorem q_X12_reach_19 : px_bk 12 9 cX12_reach 19 [] = some 19 ∧ px_t1 cX12_reach 19 .eq 104 = true := by decide +kernel
theorem q_X12_reach_22 : px_bk 12 9 cX12_reach 22 [(.iload_n 3, (0, 0, 0, 0, 0), 0, 0), (.i2l, (0, 0, 0, 0, 0), 0, 0), (.iload_n 2, (0, 0, 0, 0, 0), 0, 0), (.i2l, (0, 0, 0, 0, 0), 0, 0), (.ldc2_w 189, (0, 0, 0, 0, 0), 0, 1000000)] = some 29 ∧ px_tS cX12_reach 29 167 = true := by decide +kernel
theorem q_X12_reach_32 : px_bk 12 9 cX12_reach 32 [] = some 32 ∧ px_t1 cX12_reach 32 .eq 104 = true := by decide +kernel
theorem q_X12_reach_35 : px_bk 12 9 cX12_reach 35 [(.iload 4, (0, 0, 0, 0, 0), 0, 0), (.i2l, (0, 0, 0, 0, 0), 0, 0), (.lconst 1, (0, 0, 0, 0, 0), 0, 1), (.ldc2_w 227, (0, 0, 0, 0, 0), 0, 10000)] = some 42 ∧ px_tS cX12_reach 42 167 = true := by decide +kernel
theorem q_X12_reach_45 : px_bk 12 9 cX12_reach 45 [] = some 45 ∧ px_t1 cX12_reach 45 .eq 104 = true := by decide +kernel
theorem q_X12_reach_48 : px_bk 12 9 cX12_reach 48 [(.iload 5, (0, 0, 0, 0, 0), 0, 0), (.i2l, (0, 0, 0, 0, 0), 0, 0), (.iload 4, (0, 0, 0, 0, 0), 0, 0), (.i2l, (0, 0, 0, 0, 0), 0, 0), (.ldc2_w 227, (0, 0, 0, 0, 0), 0, 10000)] = some 57 ∧ px_tS cX12_reach 57 167 = true := by decide +kernel
theorem q_X12_reach_60 : px_bk 12 9 cX12_reach 60 [] = some 60 ∧ px_t1 cX12_reach 60 .eq 104 = true := by decide +kernel
theorem q_X12_reach_63 : px_bk 12 9 cX12_reach 63 [(.iload 6, (0, 0, 0, 0, 0), 0, 0), (.i2l, (0, 0, 0, 0, 0), 0, 0), (.ldc2_w 229, (0, 0, 0, 0, 0), 0, 100), (.ldc2_w 231, (0, 0, 0, 0, 0), 0, 5000)] = some 72 ∧ px_tS cX12_reach 72 167 = true := by decide +kernel
theorem q_X12_reach_75 : px_bk 12 9 cX12_reach 75 [] = some 75 ∧ px_t1 cX12_reach 75 .eq 104 = true := by decide +kernel
theorem q_X12_reach_78 : px_bk 12 9 cX12_reach 78 [(.iload 7, (0, 0, 0, 0, 0), 0, 0), (.iconst (-1), (0, 0, 0, 0, 0), -1, 0)] = some 81 ∧ px_t2 cX12_reach 81 .eq 93 = true := by decide +kernel
theorem q_X12_reach_93 : px_bk 12 9 cX12_reach 93 [(.aload_n 0, (0, 0, 0, 0, 0), 0, 0), (.getfield 32, (12, 9, 3, 110, 0), 0, 0), (.iload_n 1, (0, 0, 0, 0, 0), 0, 0), (.iaload, (0, 0, 0, 0, 0), 0, 0), (.bipush 20, (0, 0, 0, 0, 0), 20, 0)] = some 101 ∧ px_t2 cX12_reach 101 .ne 106 = true := by decide +kernel
theorem q_X12_reach_106 : px_bk 12 9 cX12_reach 106 [(.aload_n 0, (0, 0, 0, 0, 0), 0, 0), (.getfield 32, (12, 9, 3, 110, 0), 0, 0), (.iload_n 1, (0, 0, 0, 0, 0), 0, 0), (.aload_n 0, (0, 0, 0, 0, 0), 0, 0), (.getfield 32, (12, 9, 3, 110, 0), 0, 0), (.iload_n 1, (0, 0, 0, 0, 0), 0, 0), (.iaload, (0, 0, 0, 0, 0), 0, 0)] = some 117 ∧ px_t1 cX12_reach 117 .ne 124 = true := by decide +kernel
theorem q_X12_reach_124 : px_bk 12 9 cX12_reach 124 [(.aload_n 0, (0, 0, 0, 0, 0), 0, 0), (.getfield 32, (12, 9, 3, 110, 0), 0, 0), (.iload_n 1, (0, 0, 0, 0, 0), 0, 0), (.iaload, (0, 0, 0, 0, 0), 0, 0), (.iastore, (0, 0, 0, 0, 0), 0, 0), (.bipush 20, (0, 0, 0, 0, 0), 20, 0), (.iload_n 1, (0, 0, 0, 0, 0), 0, 0), (.imul, (0, 0, 0, 0, 0), 0, 0), (.aload_n 0, (0, 0, 0, 0, 0), 0, 0), (.getfield 32, (12, 9, 3, 110, 0), 0, 0), (.iload_n 1, (0, 0, 0, 0, 0), 0, 0), (.iaload, (0, 0, 0, 0, 0), 0, 0), (.iadd, (0, 0, 0, 0, 0), 0, 0), (.istore 8, (0, 0, 0, 0, 0), 0, 0), (.aload_n 0, (0, 0, 0, 0, 0), 0, 0), (.getfield 35, (12, 10, 3, 111, 0), 0, 0), (.iload 8, (0, 0, 0, 0, 0), 0, 0), (.iload_n 2, (0, 0, 0, 0, 0), 0, 0), (.iastore, (0, 0, 0, 0, 0), 0, 0), (.aload_n 0, (0, 0, 0, 0, 0), 0, 0), (.getfield 38, (12, 11, 3, 112, 0), 0, 0), (.iload 8, (0, 0, 0, 0, 0), 0, 0), (.iload_n 3, (0, 0, 0, 0, 0), 0, 0), (.iastore, (0, 0, 0, 0, 0), 0, 0), (.aload_n 0, (0, 0, 0, 0, 0), 0, 0), (.getfield 41, (12, 12, 3, 113, 0), 0, 0), (.iload 8, (0, 0, 0, 0, 0), 0, 0), (.iload 4, (0, 0, 0, 0, 0), 0, 0), (.iastore, (0, 0, 0, 0, 0), 0, 0), (.aload_n 0, (0, 0, 0, 0, 0), 0, 0), (.getfield 44, (12, 13, 3, 114, 0), 0, 0), (.iload 8, (0, 0, 0, 0, 0), 0, 0), (.iload 5, (0, 0, 0, 0, 0), 0, 0), (.iastore, (0, 0, 0, 0, 0), 0, 0), (.aload_n 0, (0, 0, 0, 0, 0), 0, 0), (.getfield 47, (12, 14, 3, 115, 0), 0, 0), (.iload 8, (0, 0, 0, 0, 0), 0, 0), (.iload 6, (0, 0, 0, 0, 0), 0, 0), (.iastore, (0, 0, 0, 0, 0), 0, 0), (.aload_n 0, (0, 0, 0, 0, 0), 0, 0), (.getfield 50, (12, 15, 3, 116, 0), 0, 0), (.iload 8, (0, 0, 0, 0, 0), 0, 0), (.iload 7, (0, 0, 0, 0, 0), 0, 0), (.iastore, (0, 0, 0, 0, 0), 0, 0), (.aload_n 0, (0, 0, 0, 0, 0), 0, 0), (.getfield 32, (12, 9, 3, 110, 0), 0, 0), (.iload_n 1, (0, 0, 0, 0, 0), 0, 0), (.dup2, (0, 0, 0, 0, 0), 0, 0), (.iaload, (0, 0, 0, 0, 0), 0, 0), (.iconst 1, (0, 0, 0, 0, 0), 1, 0), (.iadd, (0, 0, 0, 0, 0), 0, 0), (.iastore, (0, 0, 0, 0, 0), 0, 0), (.aload_n 0, (0, 0, 0, 0, 0), 0, 0), (.getfield 32, (12, 9, 3, 110, 0), 0, 0), (.iload_n 1, (0, 0, 0, 0, 0), 0, 0), (.iaload, (0, 0, 0, 0, 0), 0, 0), (.iconst 1, (0, 0, 0, 0, 0), 1, 0), (.isub, (0, 0, 0, 0, 0), 0, 0)] = some 214 ∧ px_tr cX12_reach 214 .ireturn = true := by decide +kernel
theorem q_X12_reach_120 : px_bk 12 9 cX12_reach 120 [(.iconst 1, (0, 0, 0, 0, 0), 1, 0), (.goto 9, (0, 0, 0, 0, 0), 0, 0), (.iastore, (0, 0, 0, 0, 0), 0, 0), (.bipush 20, (0, 0, 0, 0, 0), 20, 0), (.iload_n 1, (0, 0, 0, 0, 0), 0, 0), (.imul, (0, 0, 0, 0, 0), 0, 0), (.aload_n 0, (0, 0, 0, 0, 0), 0, 0), (.getfield 32, (12, 9, 3, 110, 0), 0, 0), (.iload_n 1, (0, 0, 0, 0, 0), 0, 0), (.iaload, (0, 0, 0, 0, 0), 0, 0), (.iadd, (0, 0, 0, 0, 0), 0, 0), (.istore 8, (0, 0, 0, 0, 0), 0, 0), (.aload_n 0, (0, 0, 0, 0, 0), 0, 0), (.getfield 35, (12, 10, 3, 111, 0), 0, 0), (.iload 8, (0, 0, 0, 0, 0), 0, 0), (.iload_n 2, (0, 0, 0, 0, 0), 0, 0), (.iastore, (0, 0, 0, 0, 0), 0, 0), (.aload_n 0, (0, 0, 0, 0, 0), 0, 0), (.getfield 38, (12, 11, 3, 112, 0), 0, 0), (.iload 8, (0, 0, 0, 0, 0), 0, 0), (.iload_n 3, (0, 0, 0, 0, 0), 0, 0), (.iastore, (0, 0, 0, 0, 0), 0, 0), (.aload_n 0, (0, 0, 0, 0, 0), 0, 0), (.getfield 41, (12, 12, 3, 113, 0), 0, 0), (.iload 8, (0, 0, 0, 0, 0), 0, 0), (.iload 4, (0, 0, 0, 0, 0), 0, 0), (.iastore, (0, 0, 0, 0, 0), 0, 0), (.aload_n 0, (0, 0, 0, 0, 0), 0, 0), (.getfield 44, (12, 13, 3, 114, 0), 0, 0), (.iload 8, (0, 0, 0, 0, 0), 0, 0), (.iload 5, (0, 0, 0, 0, 0), 0, 0), (.iastore, (0, 0, 0, 0, 0), 0, 0), (.aload_n 0, (0, 0, 0, 0, 0), 0, 0), (.getfield 47, (12, 14, 3, 115, 0), 0, 0), (.iload 8, (0, 0, 0, 0, 0), 0, 0), (.iload 6, (0, 0, 0, 0, 0), 0, 0), (.iastore, (0, 0, 0, 0, 0), 0, 0), (.aload_n 0, (0, 0, 0, 0, 0), 0, 0), (.getfield 50, (12, 15, 3, 116, 0), 0, 0), (.iload 8, (0, 0, 0, 0, 0), 0, 0), (.iload 7, (0, 0, 0, 0, 0), 0, 0), (.iastore, (0, 0, 0, 0, 0), 0, 0), (.aload_n 0, (0, 0, 0, 0, 0), 0, 0), (.getfield 32, (12, 9, 3, 110, 0), 0, 0), (.iload_n 1, (0, 0, 0, 0, 0), 0, 0), (.dup2, (0, 0, 0, 0, 0), 0, 0), (.iaload, (0, 0, 0, 0, 0), 0, 0), (.iconst 1, (0, 0, 0, 0, 0), 1, 0), (.iadd, (0, 0, 0, 0, 0), 0, 0), (.iastore, (0, 0, 0, 0, 0), 0, 0), (.aload_n 0, (0, 0, 0, 0, 0), 0, 0), (.getfield 32, (12, 9, 3, 110, 0), 0, 0), (.iload_n 1, (0, 0, 0, 0, 0), 0, 0), (.iaload, (0, 0, 0, 0, 0), 0, 0), (.iconst 1, (0, 0, 0, 0, 0), 1, 0), (.isub, (0, 0, 0, 0, 0), 0, 0)] = some 214 ∧ px_tr cX12_reach 214 .ireturn = true := by decide +kernel
theorem q_X12_reach_84 : px_bk 12 9 cX12_reach 84 [(.aload_n 0, (0, 0, 0, 0, 0), 0, 0), (.iload 7, (0, 0, 0, 0, 0), 0, 0)] = some 87 ∧ px_tv cX12_reach 87 184 = true := by decide +kernel
theorem q_X12_reach_90 : px_bk 12 9 cX12_reach 90 [] = some 90 ∧ px_t1 cX12_reach 90 .eq 104 = true := by decide +kernel
set_option maxRecDepth 100000 in
theorem k_reach {n : Nat} {I : px_I} {L : px_L} {R : px_R} (hg : px_G n R) (g lo hi sl fa w st : Int32) (hG : mG I) : px_KS M_X12_reach [.ref 103, .int g, .int lo, .int hi, .int sl, .int fa, .int w, .int st] n I L R (fun r I2 L2 => L2 = L ∧ ((mReachOk I g lo hi sl fa w st ∧ r = mP0 I g ∧ I2 = mReach I g lo hi sl fa w st) ∨ (¬ mReachOk I g lo hi sl fa w st ∧ r = -1 ∧ I2 = I))) := by
  refine px_of (plainFor_of_name np_RX12) (fun _ _ _ => trivial) rfl ?_
  refine px_cSP rfl q_X12_reach_0 hg rfl trivial lk_12_167 nm_X12_in (k_inI hg _ (0) (1) (by decide) (by decide)) rfl rfl rfl ⟨rfl, rfl⟩ ?_
  intro x4 h4
  refine px_eq rfl q_X12_reach_7 hg rfl trivial (fun c7 => ?_) (fun c7 => ?_)
  · replace h4 := px_bf h4 c7
    refine px_riS rfl q_X12_reach_104 rfl rfl rfl hg rfl trivial ⟨⟨rfl, rfl⟩, ?_⟩
    refine ⟨rfl, Or.inr ⟨?_, rfl, rfl⟩⟩
    unfold mReachOk
    grind only
  · replace h4 := px_bt h4 c7
    refine px_cSP rfl q_X12_reach_10 hg rfl trivial lk_12_167 nm_X12_in (k_inI hg _ (1) (1000000) (by decide) (by decide)) rfl rfl rfl ⟨rfl, rfl⟩ ?_
    intro x16 h16
    refine px_eq rfl q_X12_reach_19 hg rfl trivial (fun c19 => ?_) (fun c19 => ?_)
    · replace h16 := px_bf h16 c19
      refine px_riS rfl q_X12_reach_104 rfl rfl rfl hg rfl trivial ⟨⟨rfl, rfl⟩, ?_⟩
      refine ⟨rfl, Or.inr ⟨?_, rfl, rfl⟩⟩
      unfold mReachOk
      grind only
    · replace h16 := px_bt h16 c19
      refine px_cSP rfl q_X12_reach_22 hg rfl trivial lk_12_167 nm_X12_in (k_inI hg _ _ (1000000) rfl (by decide)) rfl rfl rfl ⟨rfl, rfl⟩ ?_
      intro x29 h29
      refine px_eq rfl q_X12_reach_32 hg rfl trivial (fun c32 => ?_) (fun c32 => ?_)
      · replace h29 := px_bf h29 c32
        refine px_riS rfl q_X12_reach_104 rfl rfl rfl hg rfl trivial ⟨⟨rfl, rfl⟩, ?_⟩
        refine ⟨rfl, Or.inr ⟨?_, rfl, rfl⟩⟩
        unfold mReachOk
        grind only
      · replace h29 := px_bt h29 c32
        refine px_cSP rfl q_X12_reach_35 hg rfl trivial lk_12_167 nm_X12_in (k_inI hg _ (1) (10000) (by decide) (by decide)) rfl rfl rfl ⟨rfl, rfl⟩ ?_
        intro x42 h42
        refine px_eq rfl q_X12_reach_45 hg rfl trivial (fun c45 => ?_) (fun c45 => ?_)
        · replace h42 := px_bf h42 c45
          refine px_riS rfl q_X12_reach_104 rfl rfl rfl hg rfl trivial ⟨⟨rfl, rfl⟩, ?_⟩
          refine ⟨rfl, Or.inr ⟨?_, rfl, rfl⟩⟩
          unfold mReachOk
          grind only
        · replace h42 := px_bt h42 c45
          refine px_cSP rfl q_X12_reach_48 hg rfl trivial lk_12_167 nm_X12_in (k_inI hg _ _ (10000) rfl (by decide)) rfl rfl rfl ⟨rfl, rfl⟩ ?_
          intro x57 h57
          refine px_eq rfl q_X12_reach_60 hg rfl trivial (fun c60 => ?_) (fun c60 => ?_)
          · replace h57 := px_bf h57 c60
            refine px_riS rfl q_X12_reach_104 rfl rfl rfl hg rfl trivial ⟨⟨rfl, rfl⟩, ?_⟩
            refine ⟨rfl, Or.inr ⟨?_, rfl, rfl⟩⟩
            unfold mReachOk
            grind only
          · replace h57 := px_bt h57 c60
            refine px_cSP rfl q_X12_reach_63 hg rfl trivial lk_12_167 nm_X12_in (k_inI hg _ (100) (5000) (by decide) (by decide)) rfl rfl rfl ⟨rfl, rfl⟩ ?_
            intro x72 h72
            refine px_eq rfl q_X12_reach_75 hg rfl trivial (fun c75 => ?_) (fun c75 => ?_)
            · replace h72 := px_bf h72 c75
              refine px_riS rfl q_X12_reach_104 rfl rfl rfl hg rfl trivial ⟨⟨rfl, rfl⟩, ?_⟩
              refine ⟨rfl, Or.inr ⟨?_, rfl, rfl⟩⟩
              unfold mReachOk
              grind only
            · replace h72 := px_bt h72 c75
              refine px_ieq rfl q_X12_reach_78 hg rfl trivial (fun c81 => ?_) (fun c81 => ?_)
              · obtain ⟨hG1, -⟩ := hG g h4.1 h4.2
                have hg2 : 0 ≤ g ∧ g < 2 := by grind
                refine px_ine rfl q_X12_reach_93 hg rfl ⟨trivial, (by first | with_reducible assumption | (simp only [px_ur, ↓reduceIte]; with_reducible assumption))⟩ (fun c101 => ?_) (fun c101 => ?_)
                · refine px_ne rfl q_X12_reach_106 hg rfl ⟨trivial, (by first | with_reducible assumption | (simp only [px_ur, ↓reduceIte]; with_reducible assumption))⟩ (fun c117 => ?_) (fun c117 => ?_)
                  · have e : mP0 I g = I 110 g.toNatClampNeg := by unfold mP0; grind
                    have hk9 : 0 ≤ 20 * g + I 110 g.toNatClampNeg ∧ 20 * g + I 110 g.toNatClampNeg < 40 := by grind
                    refine px_riS rfl q_X12_reach_124 rfl rfl rfl hg rfl ⟨⟨⟨⟨⟨⟨⟨⟨⟨⟨⟨⟨trivial, (by first | with_reducible assumption | (simp only [px_ur, ↓reduceIte]; with_reducible assumption))⟩, (by first | with_reducible assumption | (simp only [px_ur, ↓reduceIte]; with_reducible assumption))⟩, (by first | with_reducible assumption | (simp only [px_ur, ↓reduceIte]; with_reducible assumption))⟩, (by first | with_reducible assumption | (simp only [px_ur, ↓reduceIte]; with_reducible assumption))⟩, (by first | with_reducible assumption | (simp only [px_ur, ↓reduceIte]; with_reducible assumption))⟩, (by first | with_reducible assumption | (simp only [px_ur, ↓reduceIte]; with_reducible assumption))⟩, (by first | with_reducible assumption | (simp only [px_ur, ↓reduceIte]; with_reducible assumption))⟩, (by first | with_reducible assumption | (simp only [px_ur, ↓reduceIte]; with_reducible assumption))⟩, (by first | with_reducible assumption | (simp only [px_ur, ↓reduceIte]; with_reducible assumption))⟩, (by first | with_reducible assumption | (simp only [px_ur, ↓reduceIte]; with_reducible assumption))⟩, (by first | with_reducible assumption | (simp only [px_ur, ↓reduceIte]; with_reducible assumption))⟩, (by first | with_reducible assumption | (simp only [px_ur, ↓reduceIte]; with_reducible assumption))⟩ ⟨⟨rfl, rfl⟩, ?_⟩
                    refine ⟨rfl, Or.inl ⟨by unfold mReachOk; grind, by simp [px_ur, e], by unfold mReach; simp [px_ur, e]⟩⟩
                  · have e : mP0 I g = 1 := by unfold mP0; grind
                    have hk9 : 0 ≤ 20 * g + 1 ∧ 20 * g + 1 < 40 := by grind
                    refine px_riS rfl q_X12_reach_120 rfl rfl rfl hg rfl ⟨⟨⟨⟨⟨⟨⟨⟨⟨⟨⟨trivial, (by first | with_reducible assumption | (simp only [px_ur, ↓reduceIte]; with_reducible assumption))⟩, (by first | with_reducible assumption | (simp only [px_ur, ↓reduceIte]; with_reducible assumption))⟩, (by first | with_reducible assumption | (simp only [px_ur, ↓reduceIte]; with_reducible assumption))⟩, (by first | with_reducible assumption | (simp only [px_ur, ↓reduceIte]; with_reducible assumption))⟩, (by first | with_reducible assumption | (simp only [px_ur, ↓reduceIte]; with_reducible assumption))⟩, (by first | with_reducible assumption | (simp only [px_ur, ↓reduceIte]; with_reducible assumption))⟩, (by first | with_reducible assumption | (simp only [px_ur, ↓reduceIte]; with_reducible assumption))⟩, (by first | with_reducible assumption | (simp only [px_ur, ↓reduceIte]; with_reducible assumption))⟩, (by first | with_reducible assumption | (simp only [px_ur, ↓reduceIte]; with_reducible assumption))⟩, (by first | with_reducible assumption | (simp only [px_ur, ↓reduceIte]; with_reducible assumption))⟩, (by first | with_reducible assumption | (simp only [px_ur, ↓reduceIte]; with_reducible assumption))⟩ ⟨⟨rfl, rfl⟩, ?_⟩
                    refine ⟨rfl, Or.inl ⟨by unfold mReachOk; grind, by simp [px_ur, e], by unfold mReach; simp [px_ur, e]⟩⟩
                · refine px_riS rfl q_X12_reach_104 rfl rfl rfl hg rfl trivial ⟨⟨rfl, rfl⟩, ?_⟩
                  refine ⟨rfl, Or.inr ⟨?_, rfl, rfl⟩⟩
                  unfold mReachOk
                  grind only
              · refine px_cVP (ci := 12) rfl q_X12_reach_84 hg rfl trivial lk_12_184 nm_X12_isStation (k_isStation hg _) rfl rfl (px_lit hg rfl) rfl rfl rfl ⟨rfl, rfl⟩ ?_
                intro x87 h87
                refine px_eq rfl q_X12_reach_90 hg rfl trivial (fun c90 => ?_) (fun c90 => ?_)
                · replace h87 := px_bf h87 c90
                  refine px_riS rfl q_X12_reach_104 rfl rfl rfl hg rfl trivial ⟨⟨rfl, rfl⟩, ?_⟩
                  refine ⟨rfl, Or.inr ⟨?_, rfl, rfl⟩⟩
                  unfold mReachOk
                  grind only
                · replace h87 := px_bt h87 c90
                  obtain ⟨hG1, -⟩ := hG g h4.1 h4.2
                  have hg2 : 0 ≤ g ∧ g < 2 := by grind
                  refine px_ine rfl q_X12_reach_93 hg rfl ⟨trivial, (by first | with_reducible assumption | (simp only [px_ur, ↓reduceIte]; with_reducible assumption))⟩ (fun c101 => ?_) (fun c101 => ?_)
                  · refine px_ne rfl q_X12_reach_106 hg rfl ⟨trivial, (by first | with_reducible assumption | (simp only [px_ur, ↓reduceIte]; with_reducible assumption))⟩ (fun c117 => ?_) (fun c117 => ?_)
                    · have e : mP0 I g = I 110 g.toNatClampNeg := by unfold mP0; grind
                      have hk9 : 0 ≤ 20 * g + I 110 g.toNatClampNeg ∧ 20 * g + I 110 g.toNatClampNeg < 40 := by grind
                      refine px_riS rfl q_X12_reach_124 rfl rfl rfl hg rfl ⟨⟨⟨⟨⟨⟨⟨⟨⟨⟨⟨⟨trivial, (by first | with_reducible assumption | (simp only [px_ur, ↓reduceIte]; with_reducible assumption))⟩, (by first | with_reducible assumption | (simp only [px_ur, ↓reduceIte]; with_reducible assumption))⟩, (by first | with_reducible assumption | (simp only [px_ur, ↓reduceIte]; with_reducible assumption))⟩, (by first | with_reducible assumption | (simp only [px_ur, ↓reduceIte]; with_reducible assumption))⟩, (by first | with_reducible assumption | (simp only [px_ur, ↓reduceIte]; with_reducible assumption))⟩, (by first | with_reducible assumption | (simp only [px_ur, ↓reduceIte]; with_reducible assumption))⟩, (by first | with_reducible assumption | (simp only [px_ur, ↓reduceIte]; with_reducible assumption))⟩, (by first | with_reducible assumption | (simp only [px_ur, ↓reduceIte]; with_reducible assumption))⟩, (by first | with_reducible assumption | (simp only [px_ur, ↓reduceIte]; with_reducible assumption))⟩, (by first | with_reducible assumption | (simp only [px_ur, ↓reduceIte]; with_reducible assumption))⟩, (by first | with_reducible assumption | (simp only [px_ur, ↓reduceIte]; with_reducible assumption))⟩, (by first | with_reducible assumption | (simp only [px_ur, ↓reduceIte]; with_reducible assumption))⟩ ⟨⟨rfl, rfl⟩, ?_⟩
                      refine ⟨rfl, Or.inl ⟨by unfold mReachOk; grind, by simp [px_ur, e], by unfold mReach; simp [px_ur, e]⟩⟩
                    · have e : mP0 I g = 1 := by unfold mP0; grind
                      have hk9 : 0 ≤ 20 * g + 1 ∧ 20 * g + 1 < 40 := by grind
                      refine px_riS rfl q_X12_reach_120 rfl rfl rfl hg rfl ⟨⟨⟨⟨⟨⟨⟨⟨⟨⟨⟨trivial, (by first | with_reducible assumption | (simp only [px_ur, ↓reduceIte]; with_reducible assumption))⟩, (by first | with_reducible assumption | (simp only [px_ur, ↓reduceIte]; with_reducible assumption))⟩, (by first | with_reducible assumption | (simp only [px_ur, ↓reduceIte]; with_reducible assumption))⟩, (by first | with_reducible assumption | (simp only [px_ur, ↓reduceIte]; with_reducible assumption))⟩, (by first | with_reducible assumption | (simp only [px_ur, ↓reduceIte]; with_reducible assumption))⟩, (by first | with_reducible assumption | (simp only [px_ur, ↓reduceIte]; with_reducible assumption))⟩, (by first | with_reducible assumption | (simp only [px_ur, ↓reduceIte]; with_reducible assumption))⟩, (by first | with_reducible assumption | (simp only [px_ur, ↓reduceIte]; with_reducible assumption))⟩, (by first | with_reducible assumption | (simp only [px_ur, ↓reduceIte]; with_reducible assumption))⟩, (by first | with_reducible assumption | (simp only [px_ur, ↓reduceIte]; with_reducible assumption))⟩, (by first | with_reducible assumption | (simp only [px_ur, ↓reduceIte]; with_reducible assumption))⟩ ⟨⟨rfl, rfl⟩, ?_⟩
                      refine ⟨rfl, Or.inl ⟨by unfold mReachOk; grind, by simp [px_ur, e], by unfold mReach; simp [px_ur, e]⟩⟩
                  · refine px_riS rfl q_X12_reach_104 rfl rfl rfl hg rfl trivial ⟨⟨rfl, rfl⟩, ?_⟩
                    refine ⟨rfl, Or.inr ⟨?_, rfl, rfl⟩⟩
                    unfold mReachOk
                    grind only

theorem q_X12_mouth_0 : px_bk 12 3 cX12_mouth 0 [(.iload_n 1, (0, 0, 0, 0, 0), 0, 0), (.i2l, (0, 0, 0, 0, 0), 0, 0), (.lconst 0, (0, 0, 0, 0, 0), 0, 0), (.lconst 1, (0, 0, 0, 0, 0), 0, 1)] = some 4 ∧ px_tS cX12_mouth 4 167 = true := by decide +kernel
theorem q_X12_mouth_7 : px_bk 12 3 cX12_mouth 7 [] = some 7 ∧ px_t1 cX12_mouth 7 .eq 18 = true := by decide +kernel
theorem q_X12_mouth_18 : px_bk 12 3 cX12_mouth 18 [(.iconst 0, (0, 0, 0, 0, 0), 0, 0)] = some 19 ∧ px_tr cX12_mouth 19 .ireturn = true := by decide +kernel
theorem q_X12_mouth_10 : px_bk 12 3 cX12_mouth 10 [(.aload_n 0, (0, 0, 0, 0, 0), 0, 0), (.iload_n 2, (0, 0, 0, 0, 0), 0, 0)] = some 12 ∧ px_tv cX12_mouth 12 184 = true := by decide +kernel
theorem q_X12_mouth_15 : px_bk 12 3 cX12_mouth 15 [] = some 15 ∧ px_t1 cX12_mouth 15 .ne 20 = true := by decide +kernel
theorem q_X12_mouth_20 : px_bk 12 3 cX12_mouth 20 [(.aload_n 0, (0, 0, 0, 0, 0), 0, 0), (.getfield 50, (12, 15, 3, 116, 0), 0, 0), (.bipush 20, (0, 0, 0, 0, 0), 20, 0), (.iload_n 1, (0, 0, 0, 0, 0), 0, 0), (.imul, (0, 0, 0, 0, 0), 0, 0), (.iload_n 2, (0, 0, 0, 0, 0), 0, 0), (.iastore, (0, 0, 0, 0, 0), 0, 0), (.iconst 1, (0, 0, 0, 0, 0), 1, 0)] = some 31 ∧ px_tr cX12_mouth 31 .ireturn = true := by decide +kernel
set_option maxRecDepth 100000 in
theorem k_mouth {n : Nat} {I : px_I} {L : px_L} {R : px_R} (hg : px_G n R) (g st : Int32) : px_KS M_X12_mouth [.ref 103, .int g, .int st] n I L R (fun r I2 L2 => L2 = L ∧ (((0 ≤ g ∧ g ≤ 1) ∧ (0 ≤ st ∧ st ≤ I 103 1 - 1) ∧ r = 1 ∧ I2 = px_u I 116 (20 * g).toNatClampNeg st) ∨ (¬ ((0 ≤ g ∧ g ≤ 1) ∧ (0 ≤ st ∧ st ≤ I 103 1 - 1)) ∧ r = 0 ∧ I2 = I))) := by
  refine px_of (plainFor_of_name np_RX12) (fun _ _ _ => trivial) rfl ?_
  refine px_cSP rfl q_X12_mouth_0 hg rfl trivial lk_12_167 nm_X12_in (k_inI hg _ (0) (1) (by decide) (by decide)) rfl rfl rfl ⟨rfl, rfl⟩ ?_
  intro x4 h4
  refine px_eq rfl q_X12_mouth_7 hg rfl trivial (fun c7 => ?_) (fun c7 => ?_)
  · replace h4 := px_bf h4 c7
    refine px_rzS rfl q_X12_mouth_18 rfl rfl rfl hg rfl trivial ⟨⟨rfl, rfl⟩, (by first | exact Or.inl rfl | exact Or.inr rfl | grind), ?_⟩
    grind
  · replace h4 := px_bt h4 c7
    refine px_cVP (ci := 12) rfl q_X12_mouth_10 hg rfl trivial lk_12_184 nm_X12_isStation (k_isStation hg _) rfl rfl (px_lit hg rfl) rfl rfl rfl ⟨rfl, rfl⟩ ?_
    intro x12 h12
    refine px_ne rfl q_X12_mouth_15 hg rfl trivial (fun c15 => ?_) (fun c15 => ?_)
    · replace h12 := px_bt h12 c15
      refine px_rzS rfl q_X12_mouth_20 rfl rfl rfl hg rfl ⟨trivial, (by first | decide | (refine ⟨?_, ?_⟩ <;> grind) | grind)⟩ ⟨⟨rfl, rfl⟩, (by first | exact Or.inl rfl | exact Or.inr rfl | grind), ?_⟩
      grind
    · replace h12 := px_bf h12 c15
      refine px_rzS rfl q_X12_mouth_18 rfl rfl rfl hg rfl trivial ⟨⟨rfl, rfl⟩, (by first | exact Or.inl rfl | exact Or.inr rfl | grind), ?_⟩
      grind

theorem q_X12_mark_0 : px_bk 12 5 cX12_mark 0 [(.aload_n 0, (0, 0, 0, 0, 0), 0, 0), (.iload_n 1, (0, 0, 0, 0, 0), 0, 0), (.iload_n 2, (0, 0, 0, 0, 0), 0, 0)] = some 3 ∧ px_tv cX12_mark 3 233 = true := by decide +kernel
theorem q_X12_mark_6 : px_bk 12 5 cX12_mark 6 [] = some 6 ∧ px_t1 cX12_mark 6 .eq 44 = true := by decide +kernel
theorem q_X12_mark_44 : px_bk 12 5 cX12_mark 44 [(.iconst (-1), (0, 0, 0, 0, 0), -1, 0)] = some 45 ∧ px_tr cX12_mark 45 .ireturn = true := by decide +kernel
theorem q_X12_mark_9 : px_bk 12 5 cX12_mark 9 [(.iload_n 3, (0, 0, 0, 0, 0), 0, 0), (.i2l, (0, 0, 0, 0, 0), 0, 0), (.lconst 0, (0, 0, 0, 0, 0), 0, 0), (.ldc2_w 237, (0, 0, 0, 0, 0), 0, 20000)] = some 15 ∧ px_tS cX12_mark 15 167 = true := by decide +kernel
theorem q_X12_mark_18 : px_bk 12 5 cX12_mark 18 [] = some 18 ∧ px_t1 cX12_mark 18 .eq 44 = true := by decide +kernel
theorem q_X12_mark_21 : px_bk 12 5 cX12_mark 21 [(.iload 4, (0, 0, 0, 0, 0), 0, 0), (.i2l, (0, 0, 0, 0, 0), 0, 0), (.iload_n 3, (0, 0, 0, 0, 0), 0, 0), (.i2l, (0, 0, 0, 0, 0), 0, 0), (.ldc2_w 237, (0, 0, 0, 0, 0), 0, 20000)] = some 29 ∧ px_tS cX12_mark 29 167 = true := by decide +kernel
theorem q_X12_mark_32 : px_bk 12 5 cX12_mark 32 [] = some 32 ∧ px_t1 cX12_mark 32 .eq 44 = true := by decide +kernel
theorem q_X12_mark_35 : px_bk 12 5 cX12_mark 35 [(.aload_n 0, (0, 0, 0, 0, 0), 0, 0), (.getfield 239, (12, 16, 0, 0, 0), 0, 0), (.bipush 40, (0, 0, 0, 0, 0), 40, 0)] = some 41 ∧ px_t2 cX12_mark 41 .ne 46 = true := by decide +kernel
theorem q_X12_mark_46 : px_bk 12 5 cX12_mark 46 [(.aload_n 0, (0, 0, 0, 0, 0), 0, 0), (.getfield 53, (12, 17, 3, 117, 0), 0, 0), (.aload_n 0, (0, 0, 0, 0, 0), 0, 0), (.getfield 239, (12, 16, 0, 0, 0), 0, 0), (.iload_n 1, (0, 0, 0, 0, 0), 0, 0), (.iastore, (0, 0, 0, 0, 0), 0, 0), (.aload_n 0, (0, 0, 0, 0, 0), 0, 0), (.getfield 56, (12, 18, 3, 118, 0), 0, 0), (.aload_n 0, (0, 0, 0, 0, 0), 0, 0), (.getfield 239, (12, 16, 0, 0, 0), 0, 0), (.iload_n 2, (0, 0, 0, 0, 0), 0, 0), (.iastore, (0, 0, 0, 0, 0), 0, 0), (.aload_n 0, (0, 0, 0, 0, 0), 0, 0), (.getfield 59, (12, 19, 3, 119, 0), 0, 0), (.aload_n 0, (0, 0, 0, 0, 0), 0, 0), (.getfield 239, (12, 16, 0, 0, 0), 0, 0), (.iload_n 3, (0, 0, 0, 0, 0), 0, 0), (.iastore, (0, 0, 0, 0, 0), 0, 0), (.aload_n 0, (0, 0, 0, 0, 0), 0, 0), (.getfield 62, (12, 20, 3, 120, 0), 0, 0), (.aload_n 0, (0, 0, 0, 0, 0), 0, 0), (.getfield 239, (12, 16, 0, 0, 0), 0, 0), (.iload 4, (0, 0, 0, 0, 0), 0, 0), (.iastore, (0, 0, 0, 0, 0), 0, 0), (.aload_n 0, (0, 0, 0, 0, 0), 0, 0), (.dup, (0, 0, 0, 0, 0), 0, 0), (.getfield 239, (12, 16, 0, 0, 0), 0, 0), (.iconst 1, (0, 0, 0, 0, 0), 1, 0), (.iadd, (0, 0, 0, 0, 0), 0, 0), (.putfield 239, (12, 16, 0, 0, 0), 0, 0), (.aload_n 0, (0, 0, 0, 0, 0), 0, 0), (.getfield 239, (12, 16, 0, 0, 0), 0, 0)] = some 101 ∧ px_tr cX12_mark 101 .ireturn = true := by decide +kernel
set_option maxRecDepth 100000 in
theorem k_mark {n : Nat} {I : px_I} {L : px_L} {R : px_R} (hg : px_G n R) (g p f t : Int32) (hm : 0 ≤ I 103 16 ∧ I 103 16 ≤ 40) : px_KS M_X12_mark [.ref 103, .int g, .int p, .int f, .int t] n I L R (fun r I2 L2 => L2 = L ∧ (((mPegOk I g p ∧ (0 ≤ f ∧ f ≤ 20000) ∧ (f ≤ t ∧ t ≤ 20000) ∧ I 103 16 ≠ 40) ∧ r = I 103 16 + 1 ∧ I2 = mMark I g p f t) ∨ (¬ (mPegOk I g p ∧ (0 ≤ f ∧ f ≤ 20000) ∧ (f ≤ t ∧ t ≤ 20000) ∧ I 103 16 ≠ 40) ∧ r = -1 ∧ I2 = I))) := by
  refine px_of (plainFor_of_name np_RX12) (fun _ _ _ => trivial) rfl ?_
  refine px_cVP (ci := 12) rfl q_X12_mark_0 hg rfl trivial lk_12_233 nm_X12_isPeg (k_isPeg hg _ _) rfl rfl (px_lit hg rfl) rfl rfl rfl ⟨rfl, rfl⟩ ?_
  intro x3 h3
  refine px_eq rfl q_X12_mark_6 hg rfl trivial (fun c6 => ?_) (fun c6 => ?_)
  · replace h3 := px_bf h3 c6
    refine px_riS rfl q_X12_mark_44 rfl rfl rfl hg rfl trivial ⟨⟨rfl, rfl⟩, ?_⟩
    first | exact ⟨rfl, Or.inl ⟨by unfold mPegOk; grind, rfl, rfl⟩⟩ | exact ⟨rfl, Or.inr ⟨by unfold mPegOk; grind, rfl, rfl⟩⟩
  · replace h3 := px_bt h3 c6
    refine px_cSP rfl q_X12_mark_9 hg rfl trivial lk_12_167 nm_X12_in (k_inI hg _ (0) (20000) (by decide) (by decide)) rfl rfl rfl ⟨rfl, rfl⟩ ?_
    intro x15 h15
    refine px_eq rfl q_X12_mark_18 hg rfl trivial (fun c18 => ?_) (fun c18 => ?_)
    · replace h15 := px_bf h15 c18
      refine px_riS rfl q_X12_mark_44 rfl rfl rfl hg rfl trivial ⟨⟨rfl, rfl⟩, ?_⟩
      first | exact ⟨rfl, Or.inl ⟨by unfold mPegOk; grind, rfl, rfl⟩⟩ | exact ⟨rfl, Or.inr ⟨by unfold mPegOk; grind, rfl, rfl⟩⟩
    · replace h15 := px_bt h15 c18
      refine px_cSP rfl q_X12_mark_21 hg rfl trivial lk_12_167 nm_X12_in (k_inI hg _ _ (20000) rfl (by decide)) rfl rfl rfl ⟨rfl, rfl⟩ ?_
      intro x29 h29
      refine px_eq rfl q_X12_mark_32 hg rfl trivial (fun c32 => ?_) (fun c32 => ?_)
      · replace h29 := px_bf h29 c32
        refine px_riS rfl q_X12_mark_44 rfl rfl rfl hg rfl trivial ⟨⟨rfl, rfl⟩, ?_⟩
        first | exact ⟨rfl, Or.inl ⟨by unfold mPegOk; grind, rfl, rfl⟩⟩ | exact ⟨rfl, Or.inr ⟨by unfold mPegOk; grind, rfl, rfl⟩⟩
      · replace h29 := px_bt h29 c32
        refine px_ine rfl q_X12_mark_35 hg rfl trivial (fun c41 => ?_) (fun c41 => ?_)
        · refine px_riS rfl q_X12_mark_46 rfl rfl rfl hg rfl ⟨⟨⟨⟨trivial, (by first | decide | (refine ⟨?_, ?_⟩ <;> grind) | grind)⟩, (by first | decide | (refine ⟨?_, ?_⟩ <;> grind) | grind)⟩, (by first | decide | (refine ⟨?_, ?_⟩ <;> grind) | grind)⟩, (by first | decide | (refine ⟨?_, ?_⟩ <;> grind) | grind)⟩ ⟨⟨rfl, rfl⟩, ?_⟩
          first | exact ⟨rfl, Or.inl ⟨by unfold mPegOk; grind, rfl, rfl⟩⟩ | exact ⟨rfl, Or.inr ⟨by unfold mPegOk; grind, rfl, rfl⟩⟩
        · refine px_riS rfl q_X12_mark_44 rfl rfl rfl hg rfl trivial ⟨⟨rfl, rfl⟩, ?_⟩
          first | exact ⟨rfl, Or.inl ⟨by unfold mPegOk; grind, rfl, rfl⟩⟩ | exact ⟨rfl, Or.inr ⟨by unfold mPegOk; grind, rfl, rfl⟩⟩

theorem q_X12_lamps_70 : px_bk 12 11 cX12_lamps 70 [(.iload 8, (0, 0, 0, 0, 0), 0, 0), (.iload 5, (0, 0, 0, 0, 0), 0, 0)] = some 74 ∧ px_t2 cX12_lamps 74 .gt 137 = true := by decide +kernel
theorem q_X12_lamps_137 : px_bk 12 11 cX12_lamps 137 [(.iload 7, (0, 0, 0, 0, 0), 0, 0)] = some 139 ∧ px_t1 cX12_lamps 139 .eq 146 = true := by decide +kernel
theorem q_X12_lamps_146 : px_bk 12 11 cX12_lamps 146 [(.iconst 0, (0, 0, 0, 0, 0), 0, 0)] = some 147 ∧ px_tr cX12_lamps 147 .ireturn = true := by decide +kernel
theorem q_X12_lamps_142 : px_bk 12 11 cX12_lamps 142 [(.iconst 1, (0, 0, 0, 0, 0), 1, 0), (.goto 4, (0, 0, 0, 0, 0), 0, 0)] = some 147 ∧ px_tr cX12_lamps 147 .ireturn = true := by decide +kernel
theorem q_X12_lamps_77 : px_bk 12 11 cX12_lamps 77 [(.iload_n 3, (0, 0, 0, 0, 0), 0, 0), (.i2l, (0, 0, 0, 0, 0), 0, 0), (.iload 8, (0, 0, 0, 0, 0), 0, 0), (.i2l, (0, 0, 0, 0, 0), 0, 0), (.lmul, (0, 0, 0, 0, 0), 0, 0), (.lstore 9, (0, 0, 0, 0, 0), 0, 0), (.iload 7, (0, 0, 0, 0, 0), 0, 0)] = some 87 ∧ px_t1 cX12_lamps 87 .ne 124 = true := by decide +kernel
theorem q_X12_lamps_124 : px_bk 12 11 cX12_lamps 124 [(.iconst 1, (0, 0, 0, 0, 0), 1, 0), (.goto 4, (0, 0, 0, 0, 0), 0, 0), (.istore 7, (0, 0, 0, 0, 0), 0, 0), (.iinc 8 1, (0, 0, 0, 0, 0), 1, 0), (.goto (-64), (0, 0, 0, 0, 0), 0, 0)] = some 70 := by decide +kernel
theorem q_X12_lamps_90 : px_bk 12 11 cX12_lamps 90 [(.lload 9, (0, 0, 0, 0, 0), 0, 0), (.aload_n 0, (0, 0, 0, 0, 0), 0, 0), (.getfield 38, (12, 11, 3, 112, 0), 0, 0), (.iload 6, (0, 0, 0, 0, 0), 0, 0), (.iaload, (0, 0, 0, 0, 0), 0, 0), (.i2l, (0, 0, 0, 0, 0), 0, 0), (.lcmp, (0, 0, 0, 0, 0), 0, 0)] = some 101 ∧ px_t1 cX12_lamps 101 .gt 128 = true := by decide +kernel
theorem q_X12_lamps_128 : px_bk 12 11 cX12_lamps 128 [(.iconst 0, (0, 0, 0, 0, 0), 0, 0), (.istore 7, (0, 0, 0, 0, 0), 0, 0), (.iinc 8 1, (0, 0, 0, 0, 0), 1, 0), (.goto (-64), (0, 0, 0, 0, 0), 0, 0)] = some 70 := by decide +kernel
theorem q_X12_lamps_104 : px_bk 12 11 cX12_lamps 104 [(.lload 9, (0, 0, 0, 0, 0), 0, 0), (.iload 8, (0, 0, 0, 0, 0), 0, 0), (.i2l, (0, 0, 0, 0, 0), 0, 0), (.ladd, (0, 0, 0, 0, 0), 0, 0), (.lconst 1, (0, 0, 0, 0, 0), 0, 1), (.lsub, (0, 0, 0, 0, 0), 0, 0), (.aload_n 0, (0, 0, 0, 0, 0), 0, 0), (.getfield 35, (12, 10, 3, 111, 0), 0, 0), (.iload 6, (0, 0, 0, 0, 0), 0, 0), (.iaload, (0, 0, 0, 0, 0), 0, 0), (.i2l, (0, 0, 0, 0, 0), 0, 0), (.lcmp, (0, 0, 0, 0, 0), 0, 0)] = some 121 ∧ px_t1 cX12_lamps 121 .lt 128 = true := by decide +kernel
set_option maxRecDepth 100000 in
theorem l_lamps {n : Nat} {R : px_R} (hg : px_G n R) {Q : px_Q} (g p h lo hi k : Int32) {I : px_I} {L : px_L} (hk : 0 ≤ k ∧ k < 40) (hh : hi ≤ 100000) (hlo : 1 ≤ lo) (hq : ∀ r, (r = 0 ∨ r = 1) → Q (some (.int r)) n I L R) : ∀ d : Int32, d ≤ 100001 → lo ≤ d → ∀ (b : Int32), (b = 0 ∨ b = 1) → px M_X12_lamps 0 0 70 [(0, .ref 103), (1, .int g), (2, .int p), (3, .int h), (4, .int lo), (5, .int hi), (6, .int k), (7, .int b), (8, .int d)] [] n I L R Q := by
  refine px_up _ (fun d ih hk1 => ?_)
  intro h0 b hb
  refine px_igt rfl q_X12_lamps_70 hg rfl trivial (fun c74 => ?_) (fun c74 => ?_)
  · refine px_eq rfl q_X12_lamps_137 hg rfl trivial (fun c139 => ?_) (fun c139 => ?_)
    · refine px_ri rfl q_X12_lamps_146 rfl rfl rfl hg rfl trivial ?_
      first | exact hq _ (Or.inl rfl) | exact hq _ (Or.inr rfl)
    · refine px_ri rfl q_X12_lamps_142 rfl rfl rfl hg rfl trivial ?_
      first | exact hq _ (Or.inl rfl) | exact hq _ (Or.inr rfl)
  · refine px_ne rfl q_X12_lamps_77 hg rfl trivial (fun c87 => ?_) (fun c87 => ?_)
    · refine px_b rfl q_X12_lamps_124 hg rfl trivial ?_
      exact px_go (ih (d + 1) (by grind) (by grind) (by grind) _ (by first | exact Or.inl rfl | exact Or.inr rfl)) ⟨rfl, rfl, rfl, rfl, rfl, rfl, rfl, rfl, rfl, trivial⟩
    · refine px_lgt rfl q_X12_lamps_90 hg rfl ⟨trivial, (by first | decide | (refine ⟨?_, ?_⟩ <;> grind) | grind)⟩ (fun c101 => ?_) (fun c101 => ?_)
      · refine px_b rfl q_X12_lamps_128 hg rfl trivial ?_
        exact px_go (ih (d + 1) (by grind) (by grind) (by grind) _ (by first | exact Or.inl rfl | exact Or.inr rfl)) ⟨rfl, rfl, rfl, rfl, rfl, rfl, rfl, rfl, rfl, trivial⟩
      · refine px_llt rfl q_X12_lamps_104 hg rfl ⟨trivial, (by first | decide | (refine ⟨?_, ?_⟩ <;> grind) | grind)⟩ (fun c121 => ?_) (fun c121 => ?_)
        · refine px_b rfl q_X12_lamps_128 hg rfl trivial ?_
          exact px_go (ih (d + 1) (by grind) (by grind) (by grind) _ (by first | exact Or.inl rfl | exact Or.inr rfl)) ⟨rfl, rfl, rfl, rfl, rfl, rfl, rfl, rfl, rfl, trivial⟩
        · refine px_b rfl q_X12_lamps_124 hg rfl trivial ?_
          exact px_go (ih (d + 1) (by grind) (by grind) (by grind) _ (by first | exact Or.inl rfl | exact Or.inr rfl)) ⟨rfl, rfl, rfl, rfl, rfl, rfl, rfl, rfl, rfl, trivial⟩

theorem q_X12_lamps_0 : px_bk 12 11 cX12_lamps 0 [(.aload_n 0, (0, 0, 0, 0, 0), 0, 0), (.iload_n 1, (0, 0, 0, 0, 0), 0, 0), (.iload_n 2, (0, 0, 0, 0, 0), 0, 0)] = some 3 ∧ px_tv cX12_lamps 3 233 = true := by decide +kernel
theorem q_X12_lamps_6 : px_bk 12 11 cX12_lamps 6 [] = some 6 ∧ px_t1 cX12_lamps 6 .eq 53 = true := by decide +kernel
theorem q_X12_lamps_53 : px_bk 12 11 cX12_lamps 53 [(.iconst (-1), (0, 0, 0, 0, 0), -1, 0)] = some 54 ∧ px_tr cX12_lamps 54 .ireturn = true := by decide +kernel
theorem q_X12_lamps_9 : px_bk 12 11 cX12_lamps 9 [(.iload_n 2, (0, 0, 0, 0, 0), 0, 0)] = some 10 ∧ px_t1 cX12_lamps 10 .eq 53 = true := by decide +kernel
theorem q_X12_lamps_13 : px_bk 12 11 cX12_lamps 13 [(.iload_n 3, (0, 0, 0, 0, 0), 0, 0), (.i2l, (0, 0, 0, 0, 0), 0, 0), (.lconst 0, (0, 0, 0, 0, 0), 0, 0), (.ldc2_w 173, (0, 0, 0, 0, 0), 0, 9999)] = some 19 ∧ px_tS cX12_lamps 19 167 = true := by decide +kernel
theorem q_X12_lamps_22 : px_bk 12 11 cX12_lamps 22 [] = some 22 ∧ px_t1 cX12_lamps 22 .eq 53 = true := by decide +kernel
theorem q_X12_lamps_25 : px_bk 12 11 cX12_lamps 25 [(.iload 4, (0, 0, 0, 0, 0), 0, 0), (.i2l, (0, 0, 0, 0, 0), 0, 0), (.lconst 1, (0, 0, 0, 0, 0), 0, 1), (.ldc2_w 245, (0, 0, 0, 0, 0), 0, 100000)] = some 32 ∧ px_tS cX12_lamps 32 167 = true := by decide +kernel
theorem q_X12_lamps_35 : px_bk 12 11 cX12_lamps 35 [] = some 35 ∧ px_t1 cX12_lamps 35 .eq 53 = true := by decide +kernel
theorem q_X12_lamps_38 : px_bk 12 11 cX12_lamps 38 [(.iload 5, (0, 0, 0, 0, 0), 0, 0), (.i2l, (0, 0, 0, 0, 0), 0, 0), (.iload 4, (0, 0, 0, 0, 0), 0, 0), (.i2l, (0, 0, 0, 0, 0), 0, 0), (.ldc2_w 245, (0, 0, 0, 0, 0), 0, 100000)] = some 47 ∧ px_tS cX12_lamps 47 167 = true := by decide +kernel
theorem q_X12_lamps_50 : px_bk 12 11 cX12_lamps 50 [] = some 50 ∧ px_t1 cX12_lamps 50 .ne 55 = true := by decide +kernel
theorem q_X12_lamps_55 : px_bk 12 11 cX12_lamps 55 [(.bipush 20, (0, 0, 0, 0, 0), 20, 0), (.iload_n 1, (0, 0, 0, 0, 0), 0, 0), (.imul, (0, 0, 0, 0, 0), 0, 0), (.iload_n 2, (0, 0, 0, 0, 0), 0, 0), (.iadd, (0, 0, 0, 0, 0), 0, 0), (.istore 6, (0, 0, 0, 0, 0), 0, 0), (.iconst 0, (0, 0, 0, 0, 0), 0, 0), (.istore 7, (0, 0, 0, 0, 0), 0, 0), (.iload 4, (0, 0, 0, 0, 0), 0, 0), (.istore 8, (0, 0, 0, 0, 0), 0, 0)] = some 70 := by decide +kernel
set_option maxRecDepth 100000 in
theorem k_lamps {n : Nat} {I : px_I} {L : px_L} {R : px_R} (hg : px_G n R) (g p h lo hi : Int32) (hG : mG I) : px_KP M_X12_lamps [.ref 103, .int g, .int p, .int h, .int lo, .int hi] n I L R (fun r => True) := by
  refine px_of (plainFor_of_name np_RX12) (fun _ _ _ => trivial) rfl ?_
  refine px_cVP (ci := 12) rfl q_X12_lamps_0 hg rfl trivial lk_12_233 nm_X12_isPeg (k_isPeg hg _ _) rfl rfl (px_lit hg rfl) rfl rfl rfl ⟨rfl, rfl⟩ ?_
  intro x3 h3
  refine px_eq rfl q_X12_lamps_6 hg rfl trivial (fun c6 => ?_) (fun c6 => ?_)
  · replace h3 := px_bf h3 c6
    refine px_riP rfl q_X12_lamps_53 rfl rfl rfl hg rfl trivial ⟨⟨rfl, rfl, rfl, rfl⟩, ?_⟩
    trivial
  · replace h3 := px_bt h3 c6
    refine px_eq rfl q_X12_lamps_9 hg rfl trivial (fun c10 => ?_) (fun c10 => ?_)
    · refine px_riP rfl q_X12_lamps_53 rfl rfl rfl hg rfl trivial ⟨⟨rfl, rfl, rfl, rfl⟩, ?_⟩
      trivial
    · refine px_cSP rfl q_X12_lamps_13 hg rfl trivial lk_12_167 nm_X12_in (k_inI hg _ (0) (9999) (by decide) (by decide)) rfl rfl rfl ⟨rfl, rfl⟩ ?_
      intro x19 h19
      refine px_eq rfl q_X12_lamps_22 hg rfl trivial (fun c22 => ?_) (fun c22 => ?_)
      · replace h19 := px_bf h19 c22
        refine px_riP rfl q_X12_lamps_53 rfl rfl rfl hg rfl trivial ⟨⟨rfl, rfl, rfl, rfl⟩, ?_⟩
        trivial
      · replace h19 := px_bt h19 c22
        refine px_cSP rfl q_X12_lamps_25 hg rfl trivial lk_12_167 nm_X12_in (k_inI hg _ (1) (100000) (by decide) (by decide)) rfl rfl rfl ⟨rfl, rfl⟩ ?_
        intro x32 h32
        refine px_eq rfl q_X12_lamps_35 hg rfl trivial (fun c35 => ?_) (fun c35 => ?_)
        · replace h32 := px_bf h32 c35
          refine px_riP rfl q_X12_lamps_53 rfl rfl rfl hg rfl trivial ⟨⟨rfl, rfl, rfl, rfl⟩, ?_⟩
          trivial
        · replace h32 := px_bt h32 c35
          refine px_cSP rfl q_X12_lamps_38 hg rfl trivial lk_12_167 nm_X12_in (k_inI hg _ _ (100000) rfl (by decide)) rfl rfl rfl ⟨rfl, rfl⟩ ?_
          intro x47 h47
          refine px_ne rfl q_X12_lamps_50 hg rfl trivial (fun c50 => ?_) (fun c50 => ?_)
          · replace h47 := px_bt h47 c50
            refine px_b rfl q_X12_lamps_55 hg rfl trivial ?_
            obtain ⟨hG1, -⟩ := hG g h3.1 h3.2.1
            have hk9 := (mK h3 hG1).1
            exact px_go (l_lamps hg g p h lo hi (20 * g + p) hk9 h47.2 h32.1 (fun r hr => ⟨rfl, rfl, r, rfl, rfl, rfl, trivial⟩) lo (Int32.le_trans h32.2 (by decide)) (Int32.le_refl _) 0 (Or.inl rfl)) ⟨rfl, rfl, rfl, rfl, rfl, rfl, rfl, rfl, rfl, trivial⟩
          · replace h47 := px_bf h47 c50
            refine px_riP rfl q_X12_lamps_53 rfl rfl rfl hg rfl trivial ⟨⟨rfl, rfl, rfl, rfl⟩, ?_⟩
            trivial

theorem q_X12_count_0 : px_bk 12 8 cX12_count 0 [(.iload_n 1, (0, 0, 0, 0, 0), 0, 0), (.i2l, (0, 0, 0, 0, 0), 0, 0), (.lconst 1, (0, 0, 0, 0, 0), 0, 1), (.ldc2_w 173, (0, 0, 0, 0, 0), 0, 9999)] = some 6 ∧ px_tS cX12_count 6 167 = true := by decide +kernel
theorem q_X12_count_9 : px_bk 12 8 cX12_count 9 [] = some 9 ∧ px_t1 cX12_count 9 .eq 46 = true := by decide +kernel
theorem q_X12_count_46 : px_bk 12 8 cX12_count 46 [(.iconst (-1), (0, 0, 0, 0, 0), -1, 0)] = some 47 ∧ px_tr cX12_count 47 .ireturn = true := by decide +kernel
theorem q_X12_count_12 : px_bk 12 8 cX12_count 12 [(.iload_n 2, (0, 0, 0, 0, 0), 0, 0), (.i2l, (0, 0, 0, 0, 0), 0, 0), (.lconst 1, (0, 0, 0, 0, 0), 0, 1), (.ldc2_w 247, (0, 0, 0, 0, 0), 0, 2000000)] = some 18 ∧ px_tS cX12_count 18 167 = true := by decide +kernel
theorem q_X12_count_21 : px_bk 12 8 cX12_count 21 [] = some 21 ∧ px_t1 cX12_count 21 .eq 46 = true := by decide +kernel
theorem q_X12_count_24 : px_bk 12 8 cX12_count 24 [(.iload_n 3, (0, 0, 0, 0, 0), 0, 0), (.i2l, (0, 0, 0, 0, 0), 0, 0), (.iload_n 2, (0, 0, 0, 0, 0), 0, 0), (.i2l, (0, 0, 0, 0, 0), 0, 0), (.ldc2_w 247, (0, 0, 0, 0, 0), 0, 2000000)] = some 31 ∧ px_tS cX12_count 31 167 = true := by decide +kernel
theorem q_X12_count_34 : px_bk 12 8 cX12_count 34 [] = some 34 ∧ px_t1 cX12_count 34 .eq 46 = true := by decide +kernel
theorem q_X12_count_37 : px_bk 12 8 cX12_count 37 [(.aload_n 0, (0, 0, 0, 0, 0), 0, 0), (.getfield 249, (12, 21, 0, 0, 0), 0, 0), (.bipush 30, (0, 0, 0, 0, 0), 30, 0)] = some 43 ∧ px_t2 cX12_count 43 .ne 48 = true := by decide +kernel
theorem q_X12_count_48 : px_bk 12 8 cX12_count 48 [(.ldc2_w 175, (0, 0, 0, 0, 0), 0, 1000), (.iload_n 2, (0, 0, 0, 0, 0), 0, 0), (.i2l, (0, 0, 0, 0, 0), 0, 0), (.lmul, (0, 0, 0, 0, 0), 0, 0), (.iload_n 1, (0, 0, 0, 0, 0), 0, 0), (.i2l, (0, 0, 0, 0, 0), 0, 0), (.ladd, (0, 0, 0, 0, 0), 0, 0), (.lconst 1, (0, 0, 0, 0, 0), 0, 1), (.lsub, (0, 0, 0, 0, 0), 0, 0), (.iload_n 1, (0, 0, 0, 0, 0), 0, 0), (.i2l, (0, 0, 0, 0, 0), 0, 0), (.ldiv, (0, 0, 0, 0, 0), 0, 0), (.lstore 4, (0, 0, 0, 0, 0), 0, 0), (.ldc2_w 175, (0, 0, 0, 0, 0), 0, 1000), (.iload_n 3, (0, 0, 0, 0, 0), 0, 0), (.i2l, (0, 0, 0, 0, 0), 0, 0), (.lmul, (0, 0, 0, 0, 0), 0, 0), (.iload_n 1, (0, 0, 0, 0, 0), 0, 0), (.i2l, (0, 0, 0, 0, 0), 0, 0), (.ldiv, (0, 0, 0, 0, 0), 0, 0), (.lstore 6, (0, 0, 0, 0, 0), 0, 0), (.aload_n 0, (0, 0, 0, 0, 0), 0, 0), (.getfield 249, (12, 21, 0, 0, 0), 0, 0)] = some 79 ∧ px_t1 cX12_count 79 .le 99 = true := by decide +kernel
theorem q_X12_count_99 : px_bk 12 8 cX12_count 99 [(.lload 4, (0, 0, 0, 0, 0), 0, 0), (.lstore 4, (0, 0, 0, 0, 0), 0, 0), (.aload_n 0, (0, 0, 0, 0, 0), 0, 0), (.getfield 249, (12, 21, 0, 0, 0), 0, 0)] = some 107 ∧ px_t1 cX12_count 107 .le 127 = true := by decide +kernel
theorem q_X12_count_127 : px_bk 12 8 cX12_count 127 [(.lload 6, (0, 0, 0, 0, 0), 0, 0), (.lstore 6, (0, 0, 0, 0, 0), 0, 0), (.lload 4, (0, 0, 0, 0, 0), 0, 0), (.lload 6, (0, 0, 0, 0, 0), 0, 0), (.lcmp, (0, 0, 0, 0, 0), 0, 0)] = some 136 ∧ px_t1 cX12_count 136 .le 141 = true := by decide +kernel
theorem q_X12_count_141 : px_bk 12 8 cX12_count 141 [(.aload_n 0, (0, 0, 0, 0, 0), 0, 0), (.lload 4, (0, 0, 0, 0, 0), 0, 0), (.putfield 252, (12, 22, 1, 0, 0), 0, 0), (.aload_n 0, (0, 0, 0, 0, 0), 0, 0), (.lload 6, (0, 0, 0, 0, 0), 0, 0), (.putfield 256, (12, 23, 1, 0, 0), 0, 0), (.aload_n 0, (0, 0, 0, 0, 0), 0, 0), (.dup, (0, 0, 0, 0, 0), 0, 0), (.getfield 249, (12, 21, 0, 0, 0), 0, 0), (.iconst 1, (0, 0, 0, 0, 0), 1, 0), (.iadd, (0, 0, 0, 0, 0), 0, 0), (.putfield 249, (12, 21, 0, 0, 0), 0, 0), (.aload_n 0, (0, 0, 0, 0, 0), 0, 0), (.getfield 249, (12, 21, 0, 0, 0), 0, 0)] = some 167 ∧ px_tr cX12_count 167 .ireturn = true := by decide +kernel
theorem q_X12_count_139 : px_bk 12 8 cX12_count 139 [(.iconst (-1), (0, 0, 0, 0, 0), -1, 0)] = some 140 ∧ px_tr cX12_count 140 .ireturn = true := by decide +kernel
theorem q_X12_count_110 : px_bk 12 8 cX12_count 110 [(.aload_n 0, (0, 0, 0, 0, 0), 0, 0), (.getfield 256, (12, 23, 1, 0, 0), 0, 0), (.lload 6, (0, 0, 0, 0, 0), 0, 0), (.lcmp, (0, 0, 0, 0, 0), 0, 0)] = some 117 ∧ px_t1 cX12_count 117 .ge 127 = true := by decide +kernel
theorem q_X12_count_120 : px_bk 12 8 cX12_count 120 [(.aload_n 0, (0, 0, 0, 0, 0), 0, 0), (.getfield 256, (12, 23, 1, 0, 0), 0, 0), (.goto 5, (0, 0, 0, 0, 0), 0, 0), (.lstore 6, (0, 0, 0, 0, 0), 0, 0), (.lload 4, (0, 0, 0, 0, 0), 0, 0), (.lload 6, (0, 0, 0, 0, 0), 0, 0), (.lcmp, (0, 0, 0, 0, 0), 0, 0)] = some 136 ∧ px_t1 cX12_count 136 .le 141 = true := by decide +kernel
theorem q_X12_count_82 : px_bk 12 8 cX12_count 82 [(.aload_n 0, (0, 0, 0, 0, 0), 0, 0), (.getfield 252, (12, 22, 1, 0, 0), 0, 0), (.lload 4, (0, 0, 0, 0, 0), 0, 0), (.lcmp, (0, 0, 0, 0, 0), 0, 0)] = some 89 ∧ px_t1 cX12_count 89 .le 99 = true := by decide +kernel
theorem q_X12_count_92 : px_bk 12 8 cX12_count 92 [(.aload_n 0, (0, 0, 0, 0, 0), 0, 0), (.getfield 252, (12, 22, 1, 0, 0), 0, 0), (.goto 5, (0, 0, 0, 0, 0), 0, 0), (.lstore 4, (0, 0, 0, 0, 0), 0, 0), (.aload_n 0, (0, 0, 0, 0, 0), 0, 0), (.getfield 249, (12, 21, 0, 0, 0), 0, 0)] = some 107 ∧ px_t1 cX12_count 107 .le 127 = true := by decide +kernel
set_option maxRecDepth 100000 in
theorem k_count {n : Nat} {I : px_I} {L : px_L} {R : px_R} (hg : px_G n R) (u lo hi : Int32) : px_KS M_X12_count [.ref 103, .int u, .int lo, .int hi] n I L R (fun r I2 L2 => (mCountOk I L u lo hi ∧ r = I 103 21 + 1 ∧ I2 = px_u I 103 21 (I 103 21 + 1) ∧ L2 = px_u (px_u L 103 22 (mLo I L u lo)) 103 23 (mHi I L u hi)) ∨ (¬ mCountOk I L u lo hi ∧ r = -1 ∧ I2 = I ∧ L2 = L)) := by
  refine px_of (plainFor_of_name np_RX12) (fun _ _ _ => trivial) rfl ?_
  refine px_cSP rfl q_X12_count_0 hg rfl trivial lk_12_167 nm_X12_in (k_inI hg _ (1) (9999) (by decide) (by decide)) rfl rfl rfl ⟨rfl, rfl⟩ ?_
  intro x6 h6
  refine px_eq rfl q_X12_count_9 hg rfl trivial (fun c9 => ?_) (fun c9 => ?_)
  · replace h6 := px_bf h6 c9
    refine px_riS rfl q_X12_count_46 rfl rfl rfl hg rfl trivial ⟨⟨rfl, rfl⟩, ?_⟩
    first | exact Or.inr ⟨by unfold mCountOk mLo mHi; grind, rfl, rfl, rfl⟩ | exact Or.inl ⟨by unfold mCountOk mLo mHi; grind, rfl, rfl, by unfold mLo mHi; grind⟩
  · replace h6 := px_bt h6 c9
    refine px_cSP rfl q_X12_count_12 hg rfl trivial lk_12_167 nm_X12_in (k_inI hg _ (1) (2000000) (by decide) (by decide)) rfl rfl rfl ⟨rfl, rfl⟩ ?_
    intro x18 h18
    refine px_eq rfl q_X12_count_21 hg rfl trivial (fun c21 => ?_) (fun c21 => ?_)
    · replace h18 := px_bf h18 c21
      refine px_riS rfl q_X12_count_46 rfl rfl rfl hg rfl trivial ⟨⟨rfl, rfl⟩, ?_⟩
      first | exact Or.inr ⟨by unfold mCountOk mLo mHi; grind, rfl, rfl, rfl⟩ | exact Or.inl ⟨by unfold mCountOk mLo mHi; grind, rfl, rfl, by unfold mLo mHi; grind⟩
    · replace h18 := px_bt h18 c21
      refine px_cSP rfl q_X12_count_24 hg rfl trivial lk_12_167 nm_X12_in (k_inI hg _ _ (2000000) rfl (by decide)) rfl rfl rfl ⟨rfl, rfl⟩ ?_
      intro x31 h31
      refine px_eq rfl q_X12_count_34 hg rfl trivial (fun c34 => ?_) (fun c34 => ?_)
      · replace h31 := px_bf h31 c34
        refine px_riS rfl q_X12_count_46 rfl rfl rfl hg rfl trivial ⟨⟨rfl, rfl⟩, ?_⟩
        first | exact Or.inr ⟨by unfold mCountOk mLo mHi; grind, rfl, rfl, rfl⟩ | exact Or.inl ⟨by unfold mCountOk mLo mHi; grind, rfl, rfl, by unfold mLo mHi; grind⟩
      · replace h31 := px_bt h31 c34
        refine px_ine rfl q_X12_count_37 hg rfl trivial (fun c43 => ?_) (fun c43 => ?_)
        · refine px_le rfl q_X12_count_48 hg rfl ⟨⟨trivial, (px_nz64 (by grind))⟩, (px_nz64 (by grind))⟩ (fun c79 => ?_) (fun c79 => ?_)
          · refine px_le rfl q_X12_count_99 hg rfl trivial (fun c107 => ?_) (fun c107 => ?_)
            · refine px_lle rfl q_X12_count_127 hg rfl trivial (fun c136 => ?_) (fun c136 => ?_)
              · refine px_riS rfl q_X12_count_141 rfl rfl rfl hg rfl trivial ⟨⟨rfl, rfl⟩, ?_⟩
                first | exact Or.inr ⟨by unfold mCountOk mLo mHi; grind, rfl, rfl, rfl⟩ | exact Or.inl ⟨by unfold mCountOk mLo mHi; grind, rfl, rfl, by unfold mLo mHi; grind⟩
              · refine px_riS rfl q_X12_count_139 rfl rfl rfl hg rfl trivial ⟨⟨rfl, rfl⟩, ?_⟩
                first | exact Or.inr ⟨by unfold mCountOk mLo mHi; grind, rfl, rfl, rfl⟩ | exact Or.inl ⟨by unfold mCountOk mLo mHi; grind, rfl, rfl, by unfold mLo mHi; grind⟩
            · refine px_lge rfl q_X12_count_110 hg rfl trivial (fun c117 => ?_) (fun c117 => ?_)
              · refine px_lle rfl q_X12_count_127 hg rfl trivial (fun c136 => ?_) (fun c136 => ?_)
                · refine px_riS rfl q_X12_count_141 rfl rfl rfl hg rfl trivial ⟨⟨rfl, rfl⟩, ?_⟩
                  first | exact Or.inr ⟨by unfold mCountOk mLo mHi; grind, rfl, rfl, rfl⟩ | exact Or.inl ⟨by unfold mCountOk mLo mHi; grind, rfl, rfl, by unfold mLo mHi; grind⟩
                · refine px_riS rfl q_X12_count_139 rfl rfl rfl hg rfl trivial ⟨⟨rfl, rfl⟩, ?_⟩
                  first | exact Or.inr ⟨by unfold mCountOk mLo mHi; grind, rfl, rfl, rfl⟩ | exact Or.inl ⟨by unfold mCountOk mLo mHi; grind, rfl, rfl, by unfold mLo mHi; grind⟩
              · refine px_lle rfl q_X12_count_120 hg rfl trivial (fun c136 => ?_) (fun c136 => ?_)
                · refine px_riS rfl q_X12_count_141 rfl rfl rfl hg rfl trivial ⟨⟨rfl, rfl⟩, ?_⟩
                  first | exact Or.inr ⟨by unfold mCountOk mLo mHi; grind, rfl, rfl, rfl⟩ | exact Or.inl ⟨by unfold mCountOk mLo mHi; grind, rfl, rfl, by unfold mLo mHi; grind⟩
                · refine px_riS rfl q_X12_count_139 rfl rfl rfl hg rfl trivial ⟨⟨rfl, rfl⟩, ?_⟩
                  first | exact Or.inr ⟨by unfold mCountOk mLo mHi; grind, rfl, rfl, rfl⟩ | exact Or.inl ⟨by unfold mCountOk mLo mHi; grind, rfl, rfl, by unfold mLo mHi; grind⟩
          · refine px_lle rfl q_X12_count_82 hg rfl trivial (fun c89 => ?_) (fun c89 => ?_)
            · refine px_le rfl q_X12_count_99 hg rfl trivial (fun c107 => ?_) (fun c107 => ?_)
              · refine px_lle rfl q_X12_count_127 hg rfl trivial (fun c136 => ?_) (fun c136 => ?_)
                · refine px_riS rfl q_X12_count_141 rfl rfl rfl hg rfl trivial ⟨⟨rfl, rfl⟩, ?_⟩
                  first | exact Or.inr ⟨by unfold mCountOk mLo mHi; grind, rfl, rfl, rfl⟩ | exact Or.inl ⟨by unfold mCountOk mLo mHi; grind, rfl, rfl, by unfold mLo mHi; grind⟩
                · refine px_riS rfl q_X12_count_139 rfl rfl rfl hg rfl trivial ⟨⟨rfl, rfl⟩, ?_⟩
                  first | exact Or.inr ⟨by unfold mCountOk mLo mHi; grind, rfl, rfl, rfl⟩ | exact Or.inl ⟨by unfold mCountOk mLo mHi; grind, rfl, rfl, by unfold mLo mHi; grind⟩
              · refine px_lge rfl q_X12_count_110 hg rfl trivial (fun c117 => ?_) (fun c117 => ?_)
                · refine px_lle rfl q_X12_count_127 hg rfl trivial (fun c136 => ?_) (fun c136 => ?_)
                  · refine px_riS rfl q_X12_count_141 rfl rfl rfl hg rfl trivial ⟨⟨rfl, rfl⟩, ?_⟩
                    first | exact Or.inr ⟨by unfold mCountOk mLo mHi; grind, rfl, rfl, rfl⟩ | exact Or.inl ⟨by unfold mCountOk mLo mHi; grind, rfl, rfl, by unfold mLo mHi; grind⟩
                  · refine px_riS rfl q_X12_count_139 rfl rfl rfl hg rfl trivial ⟨⟨rfl, rfl⟩, ?_⟩
                    first | exact Or.inr ⟨by unfold mCountOk mLo mHi; grind, rfl, rfl, rfl⟩ | exact Or.inl ⟨by unfold mCountOk mLo mHi; grind, rfl, rfl, by unfold mLo mHi; grind⟩
                · refine px_lle rfl q_X12_count_120 hg rfl trivial (fun c136 => ?_) (fun c136 => ?_)
                  · refine px_riS rfl q_X12_count_141 rfl rfl rfl hg rfl trivial ⟨⟨rfl, rfl⟩, ?_⟩
                    first | exact Or.inr ⟨by unfold mCountOk mLo mHi; grind, rfl, rfl, rfl⟩ | exact Or.inl ⟨by unfold mCountOk mLo mHi; grind, rfl, rfl, by unfold mLo mHi; grind⟩
                  · refine px_riS rfl q_X12_count_139 rfl rfl rfl hg rfl trivial ⟨⟨rfl, rfl⟩, ?_⟩
                    first | exact Or.inr ⟨by unfold mCountOk mLo mHi; grind, rfl, rfl, rfl⟩ | exact Or.inl ⟨by unfold mCountOk mLo mHi; grind, rfl, rfl, by unfold mLo mHi; grind⟩
            · refine px_le rfl q_X12_count_92 hg rfl trivial (fun c107 => ?_) (fun c107 => ?_)
              · refine px_lle rfl q_X12_count_127 hg rfl trivial (fun c136 => ?_) (fun c136 => ?_)
                · refine px_riS rfl q_X12_count_141 rfl rfl rfl hg rfl trivial ⟨⟨rfl, rfl⟩, ?_⟩
                  first | exact Or.inr ⟨by unfold mCountOk mLo mHi; grind, rfl, rfl, rfl⟩ | exact Or.inl ⟨by unfold mCountOk mLo mHi; grind, rfl, rfl, by unfold mLo mHi; grind⟩
                · refine px_riS rfl q_X12_count_139 rfl rfl rfl hg rfl trivial ⟨⟨rfl, rfl⟩, ?_⟩
                  first | exact Or.inr ⟨by unfold mCountOk mLo mHi; grind, rfl, rfl, rfl⟩ | exact Or.inl ⟨by unfold mCountOk mLo mHi; grind, rfl, rfl, by unfold mLo mHi; grind⟩
              · refine px_lge rfl q_X12_count_110 hg rfl trivial (fun c117 => ?_) (fun c117 => ?_)
                · refine px_lle rfl q_X12_count_127 hg rfl trivial (fun c136 => ?_) (fun c136 => ?_)
                  · refine px_riS rfl q_X12_count_141 rfl rfl rfl hg rfl trivial ⟨⟨rfl, rfl⟩, ?_⟩
                    first | exact Or.inr ⟨by unfold mCountOk mLo mHi; grind, rfl, rfl, rfl⟩ | exact Or.inl ⟨by unfold mCountOk mLo mHi; grind, rfl, rfl, by unfold mLo mHi; grind⟩
                  · refine px_riS rfl q_X12_count_139 rfl rfl rfl hg rfl trivial ⟨⟨rfl, rfl⟩, ?_⟩
                    first | exact Or.inr ⟨by unfold mCountOk mLo mHi; grind, rfl, rfl, rfl⟩ | exact Or.inl ⟨by unfold mCountOk mLo mHi; grind, rfl, rfl, by unfold mLo mHi; grind⟩
                · refine px_lle rfl q_X12_count_120 hg rfl trivial (fun c136 => ?_) (fun c136 => ?_)
                  · refine px_riS rfl q_X12_count_141 rfl rfl rfl hg rfl trivial ⟨⟨rfl, rfl⟩, ?_⟩
                    first | exact Or.inr ⟨by unfold mCountOk mLo mHi; grind, rfl, rfl, rfl⟩ | exact Or.inl ⟨by unfold mCountOk mLo mHi; grind, rfl, rfl, by unfold mLo mHi; grind⟩
                  · refine px_riS rfl q_X12_count_139 rfl rfl rfl hg rfl trivial ⟨⟨rfl, rfl⟩, ?_⟩
                    first | exact Or.inr ⟨by unfold mCountOk mLo mHi; grind, rfl, rfl, rfl⟩ | exact Or.inl ⟨by unfold mCountOk mLo mHi; grind, rfl, rfl, by unfold mLo mHi; grind⟩
        · refine px_riS rfl q_X12_count_46 rfl rfl rfl hg rfl trivial ⟨⟨rfl, rfl⟩, ?_⟩
          first | exact Or.inr ⟨by unfold mCountOk mLo mHi; grind, rfl, rfl, rfl⟩ | exact Or.inl ⟨by unfold mCountOk mLo mHi; grind, rfl, rfl, by unfold mLo mHi; grind⟩

theorem q_X12_unit_0 : px_bk 12 2 cX12_unit 0 [(.aload_n 0, (0, 0, 0, 0, 0), 0, 0), (.getfield 249, (12, 21, 0, 0, 0), 0, 0)] = some 4 ∧ px_t1 cX12_unit 4 .ne 11 = true := by decide +kernel
theorem q_X12_unit_11 : px_bk 12 2 cX12_unit 11 [(.iload_n 1, (0, 0, 0, 0, 0), 0, 0)] = some 12 ∧ px_t1 cX12_unit 12 .eq 22 = true := by decide +kernel
theorem q_X12_unit_22 : px_bk 12 2 cX12_unit 22 [(.aload_n 0, (0, 0, 0, 0, 0), 0, 0), (.getfield 252, (12, 22, 1, 0, 0), 0, 0), (.l2i, (0, 0, 0, 0, 0), 0, 0)] = some 27 ∧ px_tr cX12_unit 27 .ireturn = true := by decide +kernel
theorem q_X12_unit_15 : px_bk 12 2 cX12_unit 15 [(.aload_n 0, (0, 0, 0, 0, 0), 0, 0), (.getfield 256, (12, 23, 1, 0, 0), 0, 0), (.goto 7, (0, 0, 0, 0, 0), 0, 0), (.l2i, (0, 0, 0, 0, 0), 0, 0)] = some 27 ∧ px_tr cX12_unit 27 .ireturn = true := by decide +kernel
theorem q_X12_unit_7 : px_bk 12 2 cX12_unit 7 [(.iconst (-1), (0, 0, 0, 0, 0), -1, 0), (.goto 19, (0, 0, 0, 0, 0), 0, 0)] = some 27 ∧ px_tr cX12_unit 27 .ireturn = true := by decide +kernel
set_option maxRecDepth 100000 in
theorem k_unit {n : Nat} {I : px_I} {L : px_L} {R : px_R} (hg : px_G n R) (h : Int32) : px_KP M_X12_unit [.ref 103, .int h] n I L R (fun r => r = if I 103 21 = 0 then -1 else if ¬ h = 0 then (L 103 23).toInt32 else (L 103 22).toInt32) := by
  refine px_of (plainFor_of_name np_RX12) (fun _ _ _ => trivial) rfl ?_
  refine px_ne rfl q_X12_unit_0 hg rfl trivial (fun c4 => ?_) (fun c4 => ?_)
  · refine px_eq rfl q_X12_unit_11 hg rfl trivial (fun c12 => ?_) (fun c12 => ?_)
    · refine px_riP rfl q_X12_unit_22 rfl rfl rfl hg rfl trivial ⟨⟨rfl, rfl, rfl, rfl⟩, ?_⟩
      grind
    · refine px_riP rfl q_X12_unit_15 rfl rfl rfl hg rfl trivial ⟨⟨rfl, rfl, rfl, rfl⟩, ?_⟩
      grind
  · refine px_riP rfl q_X12_unit_7 rfl rfl rfl hg rfl trivial ⟨⟨rfl, rfl, rfl, rfl⟩, ?_⟩
    grind

theorem q_X12_put_0 : px_bk 12 2 cX12_put 0 [(.aload_n 0, (0, 0, 0, 0, 0), 0, 0), (.getfield 65, (12, 24, 3, 121, 0), 0, 0), (.aload_n 0, (0, 0, 0, 0, 0), 0, 0), (.getfield 259, (12, 25, 0, 0, 0), 0, 0), (.iload_n 1, (0, 0, 0, 0, 0), 0, 0), (.bipush 24, (0, 0, 0, 0, 0), 24, 0), (.ishr, (0, 0, 0, 0, 0), 0, 0), (.i2b, (0, 0, 0, 0, 0), 0, 0), (.bastore, (0, 0, 0, 0, 0), 0, 0), (.aload_n 0, (0, 0, 0, 0, 0), 0, 0), (.getfield 65, (12, 24, 3, 121, 0), 0, 0), (.aload_n 0, (0, 0, 0, 0, 0), 0, 0), (.getfield 259, (12, 25, 0, 0, 0), 0, 0), (.iconst 1, (0, 0, 0, 0, 0), 1, 0), (.iadd, (0, 0, 0, 0, 0), 0, 0), (.iload_n 1, (0, 0, 0, 0, 0), 0, 0), (.bipush 16, (0, 0, 0, 0, 0), 16, 0), (.ishr, (0, 0, 0, 0, 0), 0, 0), (.i2b, (0, 0, 0, 0, 0), 0, 0), (.bastore, (0, 0, 0, 0, 0), 0, 0), (.aload_n 0, (0, 0, 0, 0, 0), 0, 0), (.getfield 65, (12, 24, 3, 121, 0), 0, 0), (.aload_n 0, (0, 0, 0, 0, 0), 0, 0), (.getfield 259, (12, 25, 0, 0, 0), 0, 0), (.iconst 2, (0, 0, 0, 0, 0), 2, 0), (.iadd, (0, 0, 0, 0, 0), 0, 0), (.iload_n 1, (0, 0, 0, 0, 0), 0, 0), (.bipush 8, (0, 0, 0, 0, 0), 8, 0), (.ishr, (0, 0, 0, 0, 0), 0, 0), (.i2b, (0, 0, 0, 0, 0), 0, 0), (.bastore, (0, 0, 0, 0, 0), 0, 0), (.aload_n 0, (0, 0, 0, 0, 0), 0, 0), (.getfield 65, (12, 24, 3, 121, 0), 0, 0), (.aload_n 0, (0, 0, 0, 0, 0), 0, 0), (.getfield 259, (12, 25, 0, 0, 0), 0, 0), (.iconst 3, (0, 0, 0, 0, 0), 3, 0), (.iadd, (0, 0, 0, 0, 0), 0, 0), (.iload_n 1, (0, 0, 0, 0, 0), 0, 0), (.i2b, (0, 0, 0, 0, 0), 0, 0), (.bastore, (0, 0, 0, 0, 0), 0, 0), (.aload_n 0, (0, 0, 0, 0, 0), 0, 0), (.dup, (0, 0, 0, 0, 0), 0, 0), (.getfield 259, (12, 25, 0, 0, 0), 0, 0), (.iconst 4, (0, 0, 0, 0, 0), 4, 0), (.iadd, (0, 0, 0, 0, 0), 0, 0), (.putfield 259, (12, 25, 0, 0, 0), 0, 0)] = some 69 ∧ px_tr cX12_put 69 .return_ = true := by decide +kernel
set_option maxRecDepth 100000 in
theorem k_put {n : Nat} {I : px_I} {L : px_L} {R : px_R} (hg : px_G n R) (x : Int32) (ht : 0 ≤ I 103 25 ∧ I 103 25 ≤ 396) : px_KV M_X12_put [.ref 103, .int x] n I L R (fun I2 L2 => I2 = mPut I x ∧ L2 = L) := by
  refine px_of (plainFor_of_name np_RX12) (fun _ _ _ => trivial) rfl ?_
  refine px_rvW rfl q_X12_put_0 rfl rfl rfl hg rfl ⟨⟨⟨⟨trivial, (by first | decide | (refine ⟨?_, ?_⟩ <;> grind) | grind)⟩, (by first | decide | (refine ⟨?_, ?_⟩ <;> grind) | grind)⟩, (by first | decide | (refine ⟨?_, ?_⟩ <;> grind) | grind)⟩, (by first | decide | (refine ⟨?_, ?_⟩ <;> grind) | grind)⟩ ⟨⟨rfl, rfl⟩, ?_⟩
  exact ⟨rfl, rfl⟩

theorem q_X12_feed_0 : px_bk 12 6 cX12_feed 0 [(.aload_n 0, (0, 0, 0, 0, 0), 0, 0), (.getfield 259, (12, 25, 0, 0, 0), 0, 0), (.bipush 20, (0, 0, 0, 0, 0), 20, 0), (.iadd, (0, 0, 0, 0, 0), 0, 0), (.sipush 400, (0, 0, 0, 0, 0), 400, 0)] = some 10 ∧ px_t2 cX12_feed 10 .le 15 = true := by decide +kernel
theorem q_X12_feed_15 : px_bk 12 6 cX12_feed 15 [(.aload_n 0, (0, 0, 0, 0, 0), 0, 0), (.iload_n 1, (0, 0, 0, 0, 0), 0, 0)] = some 17 ∧ px_tv cX12_feed 17 262 = true := by decide +kernel
theorem q_X12_feed_20 : px_bk 12 6 cX12_feed 20 [(.aload_n 0, (0, 0, 0, 0, 0), 0, 0), (.iload_n 2, (0, 0, 0, 0, 0), 0, 0)] = some 22 ∧ px_tv cX12_feed 22 262 = true := by decide +kernel
theorem q_X12_feed_25 : px_bk 12 6 cX12_feed 25 [(.aload_n 0, (0, 0, 0, 0, 0), 0, 0), (.iload_n 3, (0, 0, 0, 0, 0), 0, 0)] = some 27 ∧ px_tv cX12_feed 27 262 = true := by decide +kernel
theorem q_X12_feed_30 : px_bk 12 6 cX12_feed 30 [(.aload_n 0, (0, 0, 0, 0, 0), 0, 0), (.iload 4, (0, 0, 0, 0, 0), 0, 0)] = some 33 ∧ px_tv cX12_feed 33 262 = true := by decide +kernel
theorem q_X12_feed_36 : px_bk 12 6 cX12_feed 36 [(.aload_n 0, (0, 0, 0, 0, 0), 0, 0), (.iload 5, (0, 0, 0, 0, 0), 0, 0)] = some 39 ∧ px_tv cX12_feed 39 262 = true := by decide +kernel
theorem q_X12_feed_42 : px_bk 12 6 cX12_feed 42 [(.aload_n 0, (0, 0, 0, 0, 0), 0, 0), (.getfield 259, (12, 25, 0, 0, 0), 0, 0)] = some 46 ∧ px_tr cX12_feed 46 .ireturn = true := by decide +kernel
theorem q_X12_feed_13 : px_bk 12 6 cX12_feed 13 [(.iconst (-1), (0, 0, 0, 0, 0), -1, 0)] = some 14 ∧ px_tr cX12_feed 14 .ireturn = true := by decide +kernel
set_option maxRecDepth 100000 in
theorem k_feed {n : Nat} {I : px_I} {L : px_L} {R : px_R} (hg : px_G n R) (a b c d e : Int32) (ht : 0 ≤ I 103 25 ∧ I 103 25 ≤ 400) : px_KS M_X12_feed [.ref 103, .int a, .int b, .int c, .int d, .int e] n I L R (fun r I2 L2 => L2 = L ∧ ((I 103 25 + 20 ≤ 400 ∧ r = I 103 25 + 20 ∧ I2 = mPut (mPut (mPut (mPut (mPut I a) b) c) d) e) ∨ (¬ I 103 25 + 20 ≤ 400 ∧ r = -1 ∧ I2 = I))) := by
  refine px_of (plainFor_of_name np_RX12) (fun _ _ _ => trivial) rfl ?_
  refine px_ile rfl q_X12_feed_0 hg rfl trivial (fun c10 => ?_) (fun c10 => ?_)
  · refine px_cVW (ci := 12) rfl q_X12_feed_15 hg rfl trivial lk_12_262 nm_X12_put (k_put hg _ (by grind)) rfl rfl (px_lit hg rfl) rfl rfl rfl ⟨rfl, rfl⟩ ?_
    intro I17 L17 h17
    have e17 := congrFun (congrFun h17.1 103) 25
    rw [mPut_25] at e17
    refine px_cVW (ci := 12) rfl q_X12_feed_20 hg rfl trivial lk_12_262 nm_X12_put (k_put hg _ (by grind)) rfl rfl (px_lit hg rfl) rfl rfl rfl ⟨rfl, rfl⟩ ?_
    intro I22 L22 h22
    have e22 := congrFun (congrFun h22.1 103) 25
    rw [mPut_25] at e22
    refine px_cVW (ci := 12) rfl q_X12_feed_25 hg rfl trivial lk_12_262 nm_X12_put (k_put hg _ (by grind)) rfl rfl (px_lit hg rfl) rfl rfl rfl ⟨rfl, rfl⟩ ?_
    intro I27 L27 h27
    have e27 := congrFun (congrFun h27.1 103) 25
    rw [mPut_25] at e27
    refine px_cVW (ci := 12) rfl q_X12_feed_30 hg rfl trivial lk_12_262 nm_X12_put (k_put hg _ (by grind)) rfl rfl (px_lit hg rfl) rfl rfl rfl ⟨rfl, rfl⟩ ?_
    intro I33 L33 h33
    have e33 := congrFun (congrFun h33.1 103) 25
    rw [mPut_25] at e33
    refine px_cVW (ci := 12) rfl q_X12_feed_36 hg rfl trivial lk_12_262 nm_X12_put (k_put hg _ (by grind)) rfl rfl (px_lit hg rfl) rfl rfl rfl ⟨rfl, rfl⟩ ?_
    intro I39 L39 h39
    have e39 := congrFun (congrFun h39.1 103) 25
    rw [mPut_25] at e39
    refine px_riS rfl q_X12_feed_42 rfl rfl rfl hg rfl trivial ⟨⟨rfl, rfl⟩, ?_⟩
    grind
  · refine px_riS rfl q_X12_feed_13 rfl rfl rfl hg rfl trivial ⟨⟨rfl, rfl⟩, ?_⟩
    grind

theorem q_X12_end_0 : px_bk 12 2 cX12_end 0 [(.iload_n 1, (0, 0, 0, 0, 0), 0, 0), (.i2l, (0, 0, 0, 0, 0), 0, 0), (.lconst 0, (0, 0, 0, 0, 0), 0, 0), (.aload_n 0, (0, 0, 0, 0, 0), 0, 0), (.getfield 259, (12, 25, 0, 0, 0), 0, 0), (.i2l, (0, 0, 0, 0, 0), 0, 0)] = some 8 ∧ px_tS cX12_end 8 167 = true := by decide +kernel
theorem q_X12_end_11 : px_bk 12 2 cX12_end 11 [] = some 11 ∧ px_t1 cX12_end 11 .ne 16 = true := by decide +kernel
theorem q_X12_end_16 : px_bk 12 2 cX12_end 16 [(.aload_n 0, (0, 0, 0, 0, 0), 0, 0), (.iload_n 1, (0, 0, 0, 0, 0), 0, 0), (.putfield 259, (12, 25, 0, 0, 0), 0, 0), (.iload_n 1, (0, 0, 0, 0, 0), 0, 0)] = some 22 ∧ px_tr cX12_end 22 .ireturn = true := by decide +kernel
theorem q_X12_end_14 : px_bk 12 2 cX12_end 14 [(.iconst (-1), (0, 0, 0, 0, 0), -1, 0)] = some 15 ∧ px_tr cX12_end 15 .ireturn = true := by decide +kernel
set_option maxRecDepth 100000 in
theorem k_end {n : Nat} {I : px_I} {L : px_L} {R : px_R} (hg : px_G n R) (x : Int32) : px_KS M_X12_end [.ref 103, .int x] n I L R (fun r I2 L2 => L2 = L ∧ ((0 ≤ x ∧ x ≤ I 103 25 ∧ r = x ∧ I2 = px_u I 103 25 x) ∨ (¬ (0 ≤ x ∧ x ≤ I 103 25) ∧ r = -1 ∧ I2 = I))) := by
  refine px_of (plainFor_of_name np_RX12) (fun _ _ _ => trivial) rfl ?_
  refine px_cSP rfl q_X12_end_0 hg rfl trivial lk_12_167 nm_X12_in (k_inI hg _ (0) _ (by decide) rfl) rfl rfl rfl ⟨rfl, rfl⟩ ?_
  intro x8 h8
  refine px_ne rfl q_X12_end_11 hg rfl trivial (fun c11 => ?_) (fun c11 => ?_)
  · replace h8 := px_bt h8 c11
    refine px_riS rfl q_X12_end_16 rfl rfl rfl hg rfl trivial ⟨⟨rfl, rfl⟩, ?_⟩
    grind
  · replace h8 := px_bf h8 c11
    refine px_riS rfl q_X12_end_14 rfl rfl rfl hg rfl trivial ⟨⟨rfl, rfl⟩, ?_⟩
    grind

theorem q_X12_fault_0 : px_bk 12 2 cX12_fault 0 [(.iload_n 1, (0, 0, 0, 0, 0), 0, 0)] = some 1 ∧ px_t1 cX12_fault 1 .ne 11 = true := by decide +kernel
theorem q_X12_fault_11 : px_bk 12 2 cX12_fault 11 [(.iload_n 1, (0, 0, 0, 0, 0), 0, 0), (.iconst 1, (0, 0, 0, 0, 0), 1, 0)] = some 13 ∧ px_t2 cX12_fault 13 .ne 23 = true := by decide +kernel
theorem q_X12_fault_23 : px_bk 12 2 cX12_fault 23 [(.iconst (-1), (0, 0, 0, 0, 0), -1, 0)] = some 24 ∧ px_tr cX12_fault 24 .ireturn = true := by decide +kernel
theorem q_X12_fault_16 : px_bk 12 2 cX12_fault 16 [(.aload_n 0, (0, 0, 0, 0, 0), 0, 0), (.getfield 72, (12, 34, 0, 0, 0), 0, 0), (.goto 4, (0, 0, 0, 0, 0), 0, 0)] = some 24 ∧ px_tr cX12_fault 24 .ireturn = true := by decide +kernel
theorem q_X12_fault_4 : px_bk 12 2 cX12_fault 4 [(.aload_n 0, (0, 0, 0, 0, 0), 0, 0), (.getfield 69, (12, 33, 0, 0, 0), 0, 0), (.goto 16, (0, 0, 0, 0, 0), 0, 0)] = some 24 ∧ px_tr cX12_fault 24 .ireturn = true := by decide +kernel
set_option maxRecDepth 100000 in
theorem k_fault {n : Nat} {I : px_I} {L : px_L} {R : px_R} (hg : px_G n R) (x : Int32) : px_KP M_X12_fault [.ref 103, .int x] n I L R (fun r => r = if x = 0 then I 103 33 else if x = 1 then I 103 34 else -1) := by
  refine px_of (plainFor_of_name np_RX12) (fun _ _ _ => trivial) rfl ?_
  refine px_ne rfl q_X12_fault_0 hg rfl trivial (fun c1 => ?_) (fun c1 => ?_)
  · refine px_ine rfl q_X12_fault_11 hg rfl trivial (fun c13 => ?_) (fun c13 => ?_)
    · refine px_riP rfl q_X12_fault_23 rfl rfl rfl hg rfl trivial ⟨⟨rfl, rfl, rfl, rfl⟩, ?_⟩
      grind
    · refine px_riP rfl q_X12_fault_16 rfl rfl rfl hg rfl trivial ⟨⟨rfl, rfl, rfl, rfl⟩, ?_⟩
      grind
  · refine px_riP rfl q_X12_fault_4 rfl rfl rfl hg rfl trivial ⟨⟨rfl, rfl, rfl, rfl⟩, ?_⟩
    grind

theorem q_X12_tools_0 : px_bk 12 6 cX12_tools 0 [(.iload_n 1, (0, 0, 0, 0, 0), 0, 0), (.i2l, (0, 0, 0, 0, 0), 0, 0), (.lconst 0, (0, 0, 0, 0, 0), 0, 0), (.ldc2_w 175, (0, 0, 0, 0, 0), 0, 1000)] = some 6 ∧ px_tS cX12_tools 6 167 = true := by decide +kernel
theorem q_X12_tools_9 : px_bk 12 6 cX12_tools 9 [] = some 9 ∧ px_t1 cX12_tools 9 .eq 62 = true := by decide +kernel
theorem q_X12_tools_62 : px_bk 12 6 cX12_tools 62 [(.iconst 0, (0, 0, 0, 0, 0), 0, 0)] = some 63 ∧ px_tr cX12_tools 63 .ireturn = true := by decide +kernel
theorem q_X12_tools_12 : px_bk 12 6 cX12_tools 12 [(.iload_n 2, (0, 0, 0, 0, 0), 0, 0), (.i2l, (0, 0, 0, 0, 0), 0, 0), (.lconst 0, (0, 0, 0, 0, 0), 0, 0), (.ldc2_w 175, (0, 0, 0, 0, 0), 0, 1000)] = some 18 ∧ px_tS cX12_tools 18 167 = true := by decide +kernel
theorem q_X12_tools_21 : px_bk 12 6 cX12_tools 21 [] = some 21 ∧ px_t1 cX12_tools 21 .eq 62 = true := by decide +kernel
theorem q_X12_tools_24 : px_bk 12 6 cX12_tools 24 [(.iload_n 3, (0, 0, 0, 0, 0), 0, 0), (.i2l, (0, 0, 0, 0, 0), 0, 0), (.lconst 0, (0, 0, 0, 0, 0), 0, 0), (.ldc2_w 175, (0, 0, 0, 0, 0), 0, 1000)] = some 30 ∧ px_tS cX12_tools 30 167 = true := by decide +kernel
theorem q_X12_tools_33 : px_bk 12 6 cX12_tools 33 [] = some 33 ∧ px_t1 cX12_tools 33 .eq 62 = true := by decide +kernel
theorem q_X12_tools_36 : px_bk 12 6 cX12_tools 36 [(.iload 4, (0, 0, 0, 0, 0), 0, 0), (.i2l, (0, 0, 0, 0, 0), 0, 0), (.lconst 0, (0, 0, 0, 0, 0), 0, 0), (.ldc2_w 227, (0, 0, 0, 0, 0), 0, 10000)] = some 43 ∧ px_tS cX12_tools 43 167 = true := by decide +kernel
theorem q_X12_tools_46 : px_bk 12 6 cX12_tools 46 [] = some 46 ∧ px_t1 cX12_tools 46 .eq 62 = true := by decide +kernel
theorem q_X12_tools_49 : px_bk 12 6 cX12_tools 49 [(.iload 5, (0, 0, 0, 0, 0), 0, 0), (.i2l, (0, 0, 0, 0, 0), 0, 0), (.lconst 0, (0, 0, 0, 0, 0), 0, 0), (.ldc2_w 175, (0, 0, 0, 0, 0), 0, 1000)] = some 56 ∧ px_tS cX12_tools 56 167 = true := by decide +kernel
theorem q_X12_tools_59 : px_bk 12 6 cX12_tools 59 [] = some 59 ∧ px_t1 cX12_tools 59 .ne 64 = true := by decide +kernel
theorem q_X12_tools_64 : px_bk 12 6 cX12_tools 64 [(.aload_n 0, (0, 0, 0, 0, 0), 0, 0), (.iload_n 1, (0, 0, 0, 0, 0), 0, 0), (.putfield 106, (12, 47, 0, 0, 0), 0, 0), (.aload_n 0, (0, 0, 0, 0, 0), 0, 0), (.iload_n 2, (0, 0, 0, 0, 0), 0, 0), (.putfield 109, (12, 48, 0, 0, 0), 0, 0), (.aload_n 0, (0, 0, 0, 0, 0), 0, 0), (.iload_n 3, (0, 0, 0, 0, 0), 0, 0), (.putfield 112, (12, 49, 0, 0, 0), 0, 0), (.aload_n 0, (0, 0, 0, 0, 0), 0, 0), (.iload 4, (0, 0, 0, 0, 0), 0, 0), (.putfield 115, (12, 50, 0, 0, 0), 0, 0), (.aload_n 0, (0, 0, 0, 0, 0), 0, 0), (.iload 5, (0, 0, 0, 0, 0), 0, 0), (.putfield 118, (12, 51, 0, 0, 0), 0, 0), (.iconst 1, (0, 0, 0, 0, 0), 1, 0)] = some 92 ∧ px_tr cX12_tools 92 .ireturn = true := by decide +kernel
set_option maxRecDepth 100000 in
theorem k_tools {n : Nat} {I : px_I} {L : px_L} {R : px_R} (hg : px_G n R) (a b c d e : Int32) : px_KS M_X12_tools [.ref 103, .int a, .int b, .int c, .int d, .int e] n I L R (fun r I2 L2 => L2 = L ∧ ((((0 ≤ a ∧ a ≤ 1000) ∧ (0 ≤ b ∧ b ≤ 1000) ∧ (0 ≤ c ∧ c ≤ 1000) ∧ (0 ≤ d ∧ d ≤ 10000) ∧ (0 ≤ e ∧ e ≤ 1000)) ∧ r = 1 ∧ I2 = px_u (px_u (px_u (px_u (px_u I 103 47 a) 103 48 b) 103 49 c) 103 50 d) 103 51 e) ∨ (¬ ((0 ≤ a ∧ a ≤ 1000) ∧ (0 ≤ b ∧ b ≤ 1000) ∧ (0 ≤ c ∧ c ≤ 1000) ∧ (0 ≤ d ∧ d ≤ 10000) ∧ (0 ≤ e ∧ e ≤ 1000)) ∧ r = 0 ∧ I2 = I))) := by
  refine px_of (plainFor_of_name np_RX12) (fun _ _ _ => trivial) rfl ?_
  refine px_cSP rfl q_X12_tools_0 hg rfl trivial lk_12_167 nm_X12_in (k_inI hg _ (0) (1000) (by decide) (by decide)) rfl rfl rfl ⟨rfl, rfl⟩ ?_
  intro x6 h6
  refine px_eq rfl q_X12_tools_9 hg rfl trivial (fun c9 => ?_) (fun c9 => ?_)
  · replace h6 := px_bf h6 c9
    refine px_rzS rfl q_X12_tools_62 rfl rfl rfl hg rfl trivial ⟨⟨rfl, rfl⟩, (by first | exact Or.inl rfl | exact Or.inr rfl | grind), ?_⟩
    grind
  · replace h6 := px_bt h6 c9
    refine px_cSP rfl q_X12_tools_12 hg rfl trivial lk_12_167 nm_X12_in (k_inI hg _ (0) (1000) (by decide) (by decide)) rfl rfl rfl ⟨rfl, rfl⟩ ?_
    intro x18 h18
    refine px_eq rfl q_X12_tools_21 hg rfl trivial (fun c21 => ?_) (fun c21 => ?_)
    · replace h18 := px_bf h18 c21
      refine px_rzS rfl q_X12_tools_62 rfl rfl rfl hg rfl trivial ⟨⟨rfl, rfl⟩, (by first | exact Or.inl rfl | exact Or.inr rfl | grind), ?_⟩
      grind
    · replace h18 := px_bt h18 c21
      refine px_cSP rfl q_X12_tools_24 hg rfl trivial lk_12_167 nm_X12_in (k_inI hg _ (0) (1000) (by decide) (by decide)) rfl rfl rfl ⟨rfl, rfl⟩ ?_
      intro x30 h30
      refine px_eq rfl q_X12_tools_33 hg rfl trivial (fun c33 => ?_) (fun c33 => ?_)
      · replace h30 := px_bf h30 c33
        refine px_rzS rfl q_X12_tools_62 rfl rfl rfl hg rfl trivial ⟨⟨rfl, rfl⟩, (by first | exact Or.inl rfl | exact Or.inr rfl | grind), ?_⟩
        grind
      · replace h30 := px_bt h30 c33
        refine px_cSP rfl q_X12_tools_36 hg rfl trivial lk_12_167 nm_X12_in (k_inI hg _ (0) (10000) (by decide) (by decide)) rfl rfl rfl ⟨rfl, rfl⟩ ?_
        intro x43 h43
        refine px_eq rfl q_X12_tools_46 hg rfl trivial (fun c46 => ?_) (fun c46 => ?_)
        · replace h43 := px_bf h43 c46
          refine px_rzS rfl q_X12_tools_62 rfl rfl rfl hg rfl trivial ⟨⟨rfl, rfl⟩, (by first | exact Or.inl rfl | exact Or.inr rfl | grind), ?_⟩
          grind
        · replace h43 := px_bt h43 c46
          refine px_cSP rfl q_X12_tools_49 hg rfl trivial lk_12_167 nm_X12_in (k_inI hg _ (0) (1000) (by decide) (by decide)) rfl rfl rfl ⟨rfl, rfl⟩ ?_
          intro x56 h56
          refine px_ne rfl q_X12_tools_59 hg rfl trivial (fun c59 => ?_) (fun c59 => ?_)
          · replace h56 := px_bt h56 c59
            refine px_rzS rfl q_X12_tools_64 rfl rfl rfl hg rfl trivial ⟨⟨rfl, rfl⟩, (by first | exact Or.inl rfl | exact Or.inr rfl | grind), ?_⟩
            grind
          · replace h56 := px_bf h56 c59
            refine px_rzS rfl q_X12_tools_62 rfl rfl rfl hg rfl trivial ⟨⟨rfl, rfl⟩, (by first | exact Or.inl rfl | exact Or.inr rfl | grind), ?_⟩
            grind

theorem q_X12_there_0 : px_bk 12 4 cX12_there 0 [(.iload_n 1, (0, 0, 0, 0, 0), 0, 0)] = some 1 ∧ px_tS cX12_there 1 180 = true := by decide +kernel
theorem q_X12_there_4 : px_bk 12 4 cX12_there 4 [] = some 4 ∧ px_t1 cX12_there 4 .eq 34 = true := by decide +kernel
theorem q_X12_there_34 : px_bk 12 4 cX12_there 34 [(.iconst 0, (0, 0, 0, 0, 0), 0, 0)] = some 35 ∧ px_tr cX12_there 35 .ireturn = true := by decide +kernel
theorem q_X12_there_7 : px_bk 12 4 cX12_there 7 [(.iload_n 2, (0, 0, 0, 0, 0), 0, 0), (.i2l, (0, 0, 0, 0, 0), 0, 0), (.ldc2_w 187, (0, 0, 0, 0, 0), 0, -1000000), (.ldc2_w 189, (0, 0, 0, 0, 0), 0, 1000000)] = some 15 ∧ px_tS cX12_there 15 167 = true := by decide +kernel
theorem q_X12_there_18 : px_bk 12 4 cX12_there 18 [] = some 18 ∧ px_t1 cX12_there 18 .eq 34 = true := by decide +kernel
theorem q_X12_there_21 : px_bk 12 4 cX12_there 21 [(.iload_n 3, (0, 0, 0, 0, 0), 0, 0), (.i2l, (0, 0, 0, 0, 0), 0, 0), (.iload_n 2, (0, 0, 0, 0, 0), 0, 0), (.i2l, (0, 0, 0, 0, 0), 0, 0), (.ldc2_w 189, (0, 0, 0, 0, 0), 0, 1000000)] = some 28 ∧ px_tS cX12_there 28 167 = true := by decide +kernel
theorem q_X12_there_31 : px_bk 12 4 cX12_there 31 [] = some 31 ∧ px_t1 cX12_there 31 .ne 36 = true := by decide +kernel
theorem q_X12_there_36 : px_bk 12 4 cX12_there 36 [(.aload_n 0, (0, 0, 0, 0, 0), 0, 0), (.getfield 131, (12, 56, 3, 135, 0), 0, 0), (.iload_n 1, (0, 0, 0, 0, 0), 0, 0), (.iload_n 2, (0, 0, 0, 0, 0), 0, 0), (.iastore, (0, 0, 0, 0, 0), 0, 0), (.aload_n 0, (0, 0, 0, 0, 0), 0, 0), (.getfield 134, (12, 57, 3, 136, 0), 0, 0), (.iload_n 1, (0, 0, 0, 0, 0), 0, 0), (.iload_n 3, (0, 0, 0, 0, 0), 0, 0), (.iastore, (0, 0, 0, 0, 0), 0, 0), (.iconst 1, (0, 0, 0, 0, 0), 1, 0)] = some 51 ∧ px_tr cX12_there 51 .ireturn = true := by decide +kernel
set_option maxRecDepth 100000 in
theorem k_there {n : Nat} {I : px_I} {L : px_L} {R : px_R} (hg : px_G n R) (a lo hi : Int32) : px_KS M_X12_there [.ref 103, .int a, .int lo, .int hi] n I L R (fun r I2 L2 => L2 = L ∧ ((((0 ≤ a ∧ a ≤ 2) ∧ (-1000000 ≤ lo ∧ lo ≤ 1000000) ∧ (lo ≤ hi ∧ hi ≤ 1000000)) ∧ r = 1 ∧ I2 = px_u (px_u I 135 a.toNatClampNeg lo) 136 a.toNatClampNeg hi) ∨ (¬ ((0 ≤ a ∧ a ≤ 2) ∧ (-1000000 ≤ lo ∧ lo ≤ 1000000) ∧ (lo ≤ hi ∧ hi ≤ 1000000)) ∧ r = 0 ∧ I2 = I))) := by
  refine px_of (plainFor_of_name np_RX12) (fun _ _ _ => trivial) rfl ?_
  refine px_cSP rfl q_X12_there_0 hg rfl trivial lk_12_180 nm_X12_isAxis (k_isAxis hg _) rfl rfl rfl ⟨rfl, rfl⟩ ?_
  intro x1 h1
  refine px_eq rfl q_X12_there_4 hg rfl trivial (fun c4 => ?_) (fun c4 => ?_)
  · replace h1 := px_bf h1 c4
    refine px_rzS rfl q_X12_there_34 rfl rfl rfl hg rfl trivial ⟨⟨rfl, rfl⟩, (by first | exact Or.inl rfl | exact Or.inr rfl | grind), ?_⟩
    grind
  · replace h1 := px_bt h1 c4
    refine px_cSP rfl q_X12_there_7 hg rfl trivial lk_12_167 nm_X12_in (k_inI hg _ (-1000000) (1000000) (by decide) (by decide)) rfl rfl rfl ⟨rfl, rfl⟩ ?_
    intro x15 h15
    refine px_eq rfl q_X12_there_18 hg rfl trivial (fun c18 => ?_) (fun c18 => ?_)
    · replace h15 := px_bf h15 c18
      refine px_rzS rfl q_X12_there_34 rfl rfl rfl hg rfl trivial ⟨⟨rfl, rfl⟩, (by first | exact Or.inl rfl | exact Or.inr rfl | grind), ?_⟩
      grind
    · replace h15 := px_bt h15 c18
      refine px_cSP rfl q_X12_there_21 hg rfl trivial lk_12_167 nm_X12_in (k_inI hg _ _ (1000000) rfl (by decide)) rfl rfl rfl ⟨rfl, rfl⟩ ?_
      intro x28 h28
      refine px_ne rfl q_X12_there_31 hg rfl trivial (fun c31 => ?_) (fun c31 => ?_)
      · replace h28 := px_bt h28 c31
        refine px_rzS rfl q_X12_there_36 rfl rfl rfl hg rfl ⟨⟨trivial, (by first | decide | (refine ⟨?_, ?_⟩ <;> grind) | grind)⟩, (by first | decide | (refine ⟨?_, ?_⟩ <;> grind) | grind)⟩ ⟨⟨rfl, rfl⟩, (by first | exact Or.inl rfl | exact Or.inr rfl | grind), ?_⟩
        grind
      · replace h28 := px_bf h28 c31
        refine px_rzS rfl q_X12_there_34 rfl rfl rfl hg rfl trivial ⟨⟨rfl, rfl⟩, (by first | exact Or.inl rfl | exact Or.inr rfl | grind), ?_⟩
        grind

theorem q_X12_seek_0 : px_bk 12 7 cX12_seek 0 [(.iload_n 1, (0, 0, 0, 0, 0), 0, 0), (.i2l, (0, 0, 0, 0, 0), 0, 0), (.lconst 0, (0, 0, 0, 0, 0), 0, 0), (.ldc2_w 442, (0, 0, 0, 0, 0), 0, 9)] = some 6 ∧ px_tS cX12_seek 6 167 = true := by decide +kernel
theorem q_X12_seek_9 : px_bk 12 7 cX12_seek 9 [] = some 9 ∧ px_t1 cX12_seek 9 .eq 83 = true := by decide +kernel
theorem q_X12_seek_83 : px_bk 12 7 cX12_seek 83 [(.iconst 0, (0, 0, 0, 0, 0), 0, 0)] = some 84 ∧ px_tr cX12_seek 84 .ireturn = true := by decide +kernel
theorem q_X12_seek_12 : px_bk 12 7 cX12_seek 12 [(.iload_n 2, (0, 0, 0, 0, 0), 0, 0), (.i2l, (0, 0, 0, 0, 0), 0, 0), (.lconst 0, (0, 0, 0, 0, 0), 0, 0), (.ldc2_w 442, (0, 0, 0, 0, 0), 0, 9)] = some 18 ∧ px_tS cX12_seek 18 167 = true := by decide +kernel
theorem q_X12_seek_21 : px_bk 12 7 cX12_seek 21 [] = some 21 ∧ px_t1 cX12_seek 21 .eq 83 = true := by decide +kernel
theorem q_X12_seek_24 : px_bk 12 7 cX12_seek 24 [(.iload_n 3, (0, 0, 0, 0, 0), 0, 0), (.i2l, (0, 0, 0, 0, 0), 0, 0), (.lconst 0, (0, 0, 0, 0, 0), 0, 0), (.ldc2_w 442, (0, 0, 0, 0, 0), 0, 9)] = some 30 ∧ px_tS cX12_seek 30 167 = true := by decide +kernel
theorem q_X12_seek_33 : px_bk 12 7 cX12_seek 33 [] = some 33 ∧ px_t1 cX12_seek 33 .eq 83 = true := by decide +kernel
theorem q_X12_seek_36 : px_bk 12 7 cX12_seek 36 [(.iload_n 1, (0, 0, 0, 0, 0), 0, 0), (.iload_n 2, (0, 0, 0, 0, 0), 0, 0), (.iadd, (0, 0, 0, 0, 0), 0, 0), (.iload_n 3, (0, 0, 0, 0, 0), 0, 0), (.iadd, (0, 0, 0, 0, 0), 0, 0)] = some 41 ∧ px_t1 cX12_seek 41 .eq 83 = true := by decide +kernel
theorem q_X12_seek_44 : px_bk 12 7 cX12_seek 44 [(.iload 4, (0, 0, 0, 0, 0), 0, 0), (.i2l, (0, 0, 0, 0, 0), 0, 0), (.lconst 0, (0, 0, 0, 0, 0), 0, 0), (.ldc2_w 444, (0, 0, 0, 0, 0), 0, 40)] = some 51 ∧ px_tS cX12_seek 51 167 = true := by decide +kernel
theorem q_X12_seek_54 : px_bk 12 7 cX12_seek 54 [] = some 54 ∧ px_t1 cX12_seek 54 .eq 83 = true := by decide +kernel
theorem q_X12_seek_57 : px_bk 12 7 cX12_seek 57 [(.iload 5, (0, 0, 0, 0, 0), 0, 0), (.i2l, (0, 0, 0, 0, 0), 0, 0), (.lconst 0, (0, 0, 0, 0, 0), 0, 0), (.ldc2_w 446, (0, 0, 0, 0, 0), 0, 3)] = some 64 ∧ px_tS cX12_seek 64 167 = true := by decide +kernel
theorem q_X12_seek_67 : px_bk 12 7 cX12_seek 67 [] = some 67 ∧ px_t1 cX12_seek 67 .eq 83 = true := by decide +kernel
theorem q_X12_seek_70 : px_bk 12 7 cX12_seek 70 [(.iload 6, (0, 0, 0, 0, 0), 0, 0), (.i2l, (0, 0, 0, 0, 0), 0, 0), (.lconst 0, (0, 0, 0, 0, 0), 0, 0), (.ldc2_w 448, (0, 0, 0, 0, 0), 0, 20)] = some 77 ∧ px_tS cX12_seek 77 167 = true := by decide +kernel
theorem q_X12_seek_80 : px_bk 12 7 cX12_seek 80 [] = some 80 ∧ px_t1 cX12_seek 80 .ne 85 = true := by decide +kernel
theorem q_X12_seek_85 : px_bk 12 7 cX12_seek 85 [(.aload_n 0, (0, 0, 0, 0, 0), 0, 0), (.getfield 137, (12, 58, 3, 137, 0), 0, 0), (.iconst 0, (0, 0, 0, 0, 0), 0, 0), (.iload_n 1, (0, 0, 0, 0, 0), 0, 0), (.iastore, (0, 0, 0, 0, 0), 0, 0), (.aload_n 0, (0, 0, 0, 0, 0), 0, 0), (.getfield 137, (12, 58, 3, 137, 0), 0, 0), (.iconst 1, (0, 0, 0, 0, 0), 1, 0), (.iload_n 2, (0, 0, 0, 0, 0), 0, 0), (.iastore, (0, 0, 0, 0, 0), 0, 0), (.aload_n 0, (0, 0, 0, 0, 0), 0, 0), (.getfield 137, (12, 58, 3, 137, 0), 0, 0), (.iconst 2, (0, 0, 0, 0, 0), 2, 0), (.iload_n 3, (0, 0, 0, 0, 0), 0, 0), (.iastore, (0, 0, 0, 0, 0), 0, 0), (.aload_n 0, (0, 0, 0, 0, 0), 0, 0), (.iload 4, (0, 0, 0, 0, 0), 0, 0), (.putfield 450, (12, 59, 0, 0, 0), 0, 0), (.aload_n 0, (0, 0, 0, 0, 0), 0, 0), (.iload 5, (0, 0, 0, 0, 0), 0, 0), (.putfield 453, (12, 60, 0, 0, 0), 0, 0), (.aload_n 0, (0, 0, 0, 0, 0), 0, 0), (.iload 6, (0, 0, 0, 0, 0), 0, 0), (.putfield 456, (12, 61, 0, 0, 0), 0, 0), (.iconst 1, (0, 0, 0, 0, 0), 1, 0)] = some 125 ∧ px_tr cX12_seek 125 .ireturn = true := by decide +kernel
set_option maxRecDepth 100000 in
theorem k_seek {n : Nat} {I : px_I} {L : px_L} {R : px_R} (hg : px_G n R) (a b c d e f : Int32) : px_KS M_X12_seek [.ref 103, .int a, .int b, .int c, .int d, .int e, .int f] n I L R (fun r I2 L2 => L2 = L ∧ ((((0 ≤ a ∧ a ≤ 9) ∧ (0 ≤ b ∧ b ≤ 9) ∧ (0 ≤ c ∧ c ≤ 9) ∧ a + b + c ≠ 0 ∧ (0 ≤ d ∧ d ≤ 40) ∧ (0 ≤ e ∧ e ≤ 3) ∧ (0 ≤ f ∧ f ≤ 20)) ∧ r = 1 ∧ I2 = px_u (px_u (px_u (px_u (px_u (px_u I 137 0 a) 137 1 b) 137 2 c) 103 59 d) 103 60 e) 103 61 f) ∨ (¬ ((0 ≤ a ∧ a ≤ 9) ∧ (0 ≤ b ∧ b ≤ 9) ∧ (0 ≤ c ∧ c ≤ 9) ∧ a + b + c ≠ 0 ∧ (0 ≤ d ∧ d ≤ 40) ∧ (0 ≤ e ∧ e ≤ 3) ∧ (0 ≤ f ∧ f ≤ 20)) ∧ r = 0 ∧ I2 = I))) := by
  refine px_of (plainFor_of_name np_RX12) (fun _ _ _ => trivial) rfl ?_
  refine px_cSP rfl q_X12_seek_0 hg rfl trivial lk_12_167 nm_X12_in (k_inI hg _ (0) (9) (by decide) (by decide)) rfl rfl rfl ⟨rfl, rfl⟩ ?_
  intro x6 h6
  refine px_eq rfl q_X12_seek_9 hg rfl trivial (fun c9 => ?_) (fun c9 => ?_)
  · replace h6 := px_bf h6 c9
    refine px_rzS rfl q_X12_seek_83 rfl rfl rfl hg rfl trivial ⟨⟨rfl, rfl⟩, (by first | exact Or.inl rfl | exact Or.inr rfl | grind), ?_⟩
    first | exact ⟨rfl, Or.inl ⟨by grind, rfl, rfl⟩⟩ | exact ⟨rfl, Or.inr ⟨by grind, rfl, rfl⟩⟩
  · replace h6 := px_bt h6 c9
    refine px_cSP rfl q_X12_seek_12 hg rfl trivial lk_12_167 nm_X12_in (k_inI hg _ (0) (9) (by decide) (by decide)) rfl rfl rfl ⟨rfl, rfl⟩ ?_
    intro x18 h18
    refine px_eq rfl q_X12_seek_21 hg rfl trivial (fun c21 => ?_) (fun c21 => ?_)
    · replace h18 := px_bf h18 c21
      refine px_rzS rfl q_X12_seek_83 rfl rfl rfl hg rfl trivial ⟨⟨rfl, rfl⟩, (by first | exact Or.inl rfl | exact Or.inr rfl | grind), ?_⟩
      first | exact ⟨rfl, Or.inl ⟨by grind, rfl, rfl⟩⟩ | exact ⟨rfl, Or.inr ⟨by grind, rfl, rfl⟩⟩
    · replace h18 := px_bt h18 c21
      refine px_cSP rfl q_X12_seek_24 hg rfl trivial lk_12_167 nm_X12_in (k_inI hg _ (0) (9) (by decide) (by decide)) rfl rfl rfl ⟨rfl, rfl⟩ ?_
      intro x30 h30
      refine px_eq rfl q_X12_seek_33 hg rfl trivial (fun c33 => ?_) (fun c33 => ?_)
      · replace h30 := px_bf h30 c33
        refine px_rzS rfl q_X12_seek_83 rfl rfl rfl hg rfl trivial ⟨⟨rfl, rfl⟩, (by first | exact Or.inl rfl | exact Or.inr rfl | grind), ?_⟩
        first | exact ⟨rfl, Or.inl ⟨by grind, rfl, rfl⟩⟩ | exact ⟨rfl, Or.inr ⟨by grind, rfl, rfl⟩⟩
      · replace h30 := px_bt h30 c33
        refine px_eq rfl q_X12_seek_36 hg rfl trivial (fun c41 => ?_) (fun c41 => ?_)
        · refine px_rzS rfl q_X12_seek_83 rfl rfl rfl hg rfl trivial ⟨⟨rfl, rfl⟩, (by first | exact Or.inl rfl | exact Or.inr rfl | grind), ?_⟩
          first | exact ⟨rfl, Or.inl ⟨by grind, rfl, rfl⟩⟩ | exact ⟨rfl, Or.inr ⟨by grind, rfl, rfl⟩⟩
        · refine px_cSP rfl q_X12_seek_44 hg rfl trivial lk_12_167 nm_X12_in (k_inI hg _ (0) (40) (by decide) (by decide)) rfl rfl rfl ⟨rfl, rfl⟩ ?_
          intro x51 h51
          refine px_eq rfl q_X12_seek_54 hg rfl trivial (fun c54 => ?_) (fun c54 => ?_)
          · replace h51 := px_bf h51 c54
            refine px_rzS rfl q_X12_seek_83 rfl rfl rfl hg rfl trivial ⟨⟨rfl, rfl⟩, (by first | exact Or.inl rfl | exact Or.inr rfl | grind), ?_⟩
            first | exact ⟨rfl, Or.inl ⟨by grind, rfl, rfl⟩⟩ | exact ⟨rfl, Or.inr ⟨by grind, rfl, rfl⟩⟩
          · replace h51 := px_bt h51 c54
            refine px_cSP rfl q_X12_seek_57 hg rfl trivial lk_12_167 nm_X12_in (k_inI hg _ (0) (3) (by decide) (by decide)) rfl rfl rfl ⟨rfl, rfl⟩ ?_
            intro x64 h64
            refine px_eq rfl q_X12_seek_67 hg rfl trivial (fun c67 => ?_) (fun c67 => ?_)
            · replace h64 := px_bf h64 c67
              refine px_rzS rfl q_X12_seek_83 rfl rfl rfl hg rfl trivial ⟨⟨rfl, rfl⟩, (by first | exact Or.inl rfl | exact Or.inr rfl | grind), ?_⟩
              first | exact ⟨rfl, Or.inl ⟨by grind, rfl, rfl⟩⟩ | exact ⟨rfl, Or.inr ⟨by grind, rfl, rfl⟩⟩
            · replace h64 := px_bt h64 c67
              refine px_cSP rfl q_X12_seek_70 hg rfl trivial lk_12_167 nm_X12_in (k_inI hg _ (0) (20) (by decide) (by decide)) rfl rfl rfl ⟨rfl, rfl⟩ ?_
              intro x77 h77
              refine px_ne rfl q_X12_seek_80 hg rfl trivial (fun c80 => ?_) (fun c80 => ?_)
              · replace h77 := px_bt h77 c80
                refine px_rzS rfl q_X12_seek_85 rfl rfl rfl hg rfl ⟨⟨⟨trivial, (by first | decide | (refine ⟨?_, ?_⟩ <;> grind) | grind)⟩, (by first | decide | (refine ⟨?_, ?_⟩ <;> grind) | grind)⟩, (by first | decide | (refine ⟨?_, ?_⟩ <;> grind) | grind)⟩ ⟨⟨rfl, rfl⟩, (by first | exact Or.inl rfl | exact Or.inr rfl | grind), ?_⟩
                first | exact ⟨rfl, Or.inl ⟨by grind, rfl, rfl⟩⟩ | exact ⟨rfl, Or.inr ⟨by grind, rfl, rfl⟩⟩
              · replace h77 := px_bf h77 c80
                refine px_rzS rfl q_X12_seek_83 rfl rfl rfl hg rfl trivial ⟨⟨rfl, rfl⟩, (by first | exact Or.inl rfl | exact Or.inr rfl | grind), ?_⟩
                first | exact ⟨rfl, Or.inl ⟨by grind, rfl, rfl⟩⟩ | exact ⟨rfl, Or.inr ⟨by grind, rfl, rfl⟩⟩

theorem q_X12_table_0 : px_bk 12 3 cX12_table 0 [(.iload_n 1, (0, 0, 0, 0, 0), 0, 0), (.i2l, (0, 0, 0, 0, 0), 0, 0), (.lconst 0, (0, 0, 0, 0, 0), 0, 0), (.ldc2_w 442, (0, 0, 0, 0, 0), 0, 9)] = some 6 ∧ px_tS cX12_table 6 167 = true := by decide +kernel
theorem q_X12_table_9 : px_bk 12 3 cX12_table 9 [] = some 9 ∧ px_t1 cX12_table 9 .eq 24 = true := by decide +kernel
theorem q_X12_table_24 : px_bk 12 3 cX12_table 24 [(.iconst 0, (0, 0, 0, 0, 0), 0, 0)] = some 25 ∧ px_tr cX12_table 25 .ireturn = true := by decide +kernel
theorem q_X12_table_12 : px_bk 12 3 cX12_table 12 [(.iload_n 2, (0, 0, 0, 0, 0), 0, 0), (.i2l, (0, 0, 0, 0, 0), 0, 0), (.lconst 0, (0, 0, 0, 0, 0), 0, 0), (.ldc2_w 175, (0, 0, 0, 0, 0), 0, 1000)] = some 18 ∧ px_tS cX12_table 18 167 = true := by decide +kernel
theorem q_X12_table_21 : px_bk 12 3 cX12_table 21 [] = some 21 ∧ px_t1 cX12_table 21 .ne 26 = true := by decide +kernel
theorem q_X12_table_26 : px_bk 12 3 cX12_table 26 [(.aload_n 0, (0, 0, 0, 0, 0), 0, 0), (.getfield 140, (12, 62, 3, 138, 0), 0, 0), (.iload_n 1, (0, 0, 0, 0, 0), 0, 0), (.iload_n 2, (0, 0, 0, 0, 0), 0, 0), (.iastore, (0, 0, 0, 0, 0), 0, 0), (.iconst 1, (0, 0, 0, 0, 0), 1, 0)] = some 34 ∧ px_tr cX12_table 34 .ireturn = true := by decide +kernel
set_option maxRecDepth 100000 in
theorem k_table {n : Nat} {I : px_I} {L : px_L} {R : px_R} (hg : px_G n R) (c v : Int32) : px_KS M_X12_table [.ref 103, .int c, .int v] n I L R (fun r I2 L2 => L2 = L ∧ ((((0 ≤ c ∧ c ≤ 9) ∧ (0 ≤ v ∧ v ≤ 1000)) ∧ r = 1 ∧ I2 = px_u I 138 c.toNatClampNeg v) ∨ (¬ ((0 ≤ c ∧ c ≤ 9) ∧ (0 ≤ v ∧ v ≤ 1000)) ∧ r = 0 ∧ I2 = I))) := by
  refine px_of (plainFor_of_name np_RX12) (fun _ _ _ => trivial) rfl ?_
  refine px_cSP rfl q_X12_table_0 hg rfl trivial lk_12_167 nm_X12_in (k_inI hg _ (0) (9) (by decide) (by decide)) rfl rfl rfl ⟨rfl, rfl⟩ ?_
  intro x6 h6
  refine px_eq rfl q_X12_table_9 hg rfl trivial (fun c9 => ?_) (fun c9 => ?_)
  · replace h6 := px_bf h6 c9
    refine px_rzS rfl q_X12_table_24 rfl rfl rfl hg rfl trivial ⟨⟨rfl, rfl⟩, (by first | exact Or.inl rfl | exact Or.inr rfl | grind), ?_⟩
    grind
  · replace h6 := px_bt h6 c9
    refine px_cSP rfl q_X12_table_12 hg rfl trivial lk_12_167 nm_X12_in (k_inI hg _ (0) (1000) (by decide) (by decide)) rfl rfl rfl ⟨rfl, rfl⟩ ?_
    intro x18 h18
    refine px_ne rfl q_X12_table_21 hg rfl trivial (fun c21 => ?_) (fun c21 => ?_)
    · replace h18 := px_bt h18 c21
      refine px_rzS rfl q_X12_table_26 rfl rfl rfl hg rfl ⟨trivial, (by first | decide | (refine ⟨?_, ?_⟩ <;> grind) | grind)⟩ ⟨⟨rfl, rfl⟩, (by first | exact Or.inl rfl | exact Or.inr rfl | grind), ?_⟩
      grind
    · replace h18 := px_bf h18 c21
      refine px_rzS rfl q_X12_table_24 rfl rfl rfl hg rfl trivial ⟨⟨rfl, rfl⟩, (by first | exact Or.inl rfl | exact Or.inr rfl | grind), ?_⟩
      grind

theorem q_X12_repair_0 : px_bk 12 4 cX12_repair 0 [(.aload_n 0, (0, 0, 0, 0, 0), 0, 0), (.iload_n 1, (0, 0, 0, 0, 0), 0, 0), (.iload_n 2, (0, 0, 0, 0, 0), 0, 0)] = some 3 ∧ px_tv cX12_repair 3 233 = true := by decide +kernel
theorem q_X12_repair_6 : px_bk 12 4 cX12_repair 6 [] = some 6 ∧ px_t1 cX12_repair 6 .eq 34 = true := by decide +kernel
theorem q_X12_repair_34 : px_bk 12 4 cX12_repair 34 [(.iconst (-1), (0, 0, 0, 0, 0), -1, 0)] = some 35 ∧ px_tr cX12_repair 35 .ireturn = true := by decide +kernel
theorem q_X12_repair_9 : px_bk 12 4 cX12_repair 9 [(.iload_n 2, (0, 0, 0, 0, 0), 0, 0)] = some 10 ∧ px_t1 cX12_repair 10 .eq 34 = true := by decide +kernel
theorem q_X12_repair_13 : px_bk 12 4 cX12_repair 13 [(.iload_n 3, (0, 0, 0, 0, 0), 0, 0), (.i2l, (0, 0, 0, 0, 0), 0, 0), (.lconst 0, (0, 0, 0, 0, 0), 0, 0), (.ldc2_w 231, (0, 0, 0, 0, 0), 0, 5000)] = some 19 ∧ px_tS cX12_repair 19 167 = true := by decide +kernel
theorem q_X12_repair_22 : px_bk 12 4 cX12_repair 22 [] = some 22 ∧ px_t1 cX12_repair 22 .eq 34 = true := by decide +kernel
theorem q_X12_repair_25 : px_bk 12 4 cX12_repair 25 [(.aload_n 0, (0, 0, 0, 0, 0), 0, 0), (.getfield 469, (12, 63, 0, 0, 0), 0, 0), (.bipush 30, (0, 0, 0, 0, 0), 30, 0)] = some 31 ∧ px_t2 cX12_repair 31 .ne 36 = true := by decide +kernel
theorem q_X12_repair_36 : px_bk 12 4 cX12_repair 36 [(.aload_n 0, (0, 0, 0, 0, 0), 0, 0), (.getfield 143, (12, 64, 3, 139, 0), 0, 0), (.aload_n 0, (0, 0, 0, 0, 0), 0, 0), (.getfield 469, (12, 63, 0, 0, 0), 0, 0), (.iload_n 1, (0, 0, 0, 0, 0), 0, 0), (.iastore, (0, 0, 0, 0, 0), 0, 0), (.aload_n 0, (0, 0, 0, 0, 0), 0, 0), (.getfield 146, (12, 65, 3, 140, 0), 0, 0), (.aload_n 0, (0, 0, 0, 0, 0), 0, 0), (.getfield 469, (12, 63, 0, 0, 0), 0, 0), (.iload_n 2, (0, 0, 0, 0, 0), 0, 0), (.iastore, (0, 0, 0, 0, 0), 0, 0), (.aload_n 0, (0, 0, 0, 0, 0), 0, 0), (.getfield 149, (12, 66, 3, 141, 0), 0, 0), (.aload_n 0, (0, 0, 0, 0, 0), 0, 0), (.getfield 469, (12, 63, 0, 0, 0), 0, 0), (.iload_n 3, (0, 0, 0, 0, 0), 0, 0), (.iastore, (0, 0, 0, 0, 0), 0, 0), (.aload_n 0, (0, 0, 0, 0, 0), 0, 0), (.getfield 152, (12, 67, 3, 142, 0), 0, 0), (.aload_n 0, (0, 0, 0, 0, 0), 0, 0), (.getfield 469, (12, 63, 0, 0, 0), 0, 0), (.aload_n 0, (0, 0, 0, 0, 0), 0, 0), (.getfield 177, (12, 0, 0, 0, 0), 0, 0), (.iastore, (0, 0, 0, 0, 0), 0, 0), (.aload_n 0, (0, 0, 0, 0, 0), 0, 0), (.dup, (0, 0, 0, 0, 0), 0, 0), (.getfield 469, (12, 63, 0, 0, 0), 0, 0), (.iconst 1, (0, 0, 0, 0, 0), 1, 0), (.iadd, (0, 0, 0, 0, 0), 0, 0), (.putfield 469, (12, 63, 0, 0, 0), 0, 0), (.aload_n 0, (0, 0, 0, 0, 0), 0, 0), (.getfield 469, (12, 63, 0, 0, 0), 0, 0)] = some 93 ∧ px_tr cX12_repair 93 .ireturn = true := by decide +kernel
set_option maxRecDepth 100000 in
theorem k_repair {n : Nat} {I : px_I} {L : px_L} {R : px_R} (hg : px_G n R) (g p y : Int32) (hr : 0 ≤ I 103 63 ∧ I 103 63 ≤ 30) : px_KS M_X12_repair [.ref 103, .int g, .int p, .int y] n I L R (fun r I2 L2 => L2 = L ∧ (((mPegOk I g p ∧ p ≠ 0 ∧ (0 ≤ y ∧ y ≤ 5000) ∧ I 103 63 ≠ 30) ∧ r = I 103 63 + 1 ∧ I2 = px_u (px_u (px_u (px_u (px_u I 139 (I 103 63).toNatClampNeg g) 140 (I 103 63).toNatClampNeg p) 141 (I 103 63).toNatClampNeg y) 142 (I 103 63).toNatClampNeg (I 103 0)) 103 63 (I 103 63 + 1)) ∨ (¬ (mPegOk I g p ∧ p ≠ 0 ∧ (0 ≤ y ∧ y ≤ 5000) ∧ I 103 63 ≠ 30) ∧ r = -1 ∧ I2 = I))) := by
  refine px_of (plainFor_of_name np_RX12) (fun _ _ _ => trivial) rfl ?_
  refine px_cVP (ci := 12) rfl q_X12_repair_0 hg rfl trivial lk_12_233 nm_X12_isPeg (k_isPeg hg _ _) rfl rfl (px_lit hg rfl) rfl rfl rfl ⟨rfl, rfl⟩ ?_
  intro x3 h3
  refine px_eq rfl q_X12_repair_6 hg rfl trivial (fun c6 => ?_) (fun c6 => ?_)
  · replace h3 := px_bf h3 c6
    refine px_riS rfl q_X12_repair_34 rfl rfl rfl hg rfl trivial ⟨⟨rfl, rfl⟩, ?_⟩
    first | exact ⟨rfl, Or.inl ⟨by unfold mPegOk; grind, rfl, rfl⟩⟩ | exact ⟨rfl, Or.inr ⟨by unfold mPegOk; grind, rfl, rfl⟩⟩
  · replace h3 := px_bt h3 c6
    refine px_eq rfl q_X12_repair_9 hg rfl trivial (fun c10 => ?_) (fun c10 => ?_)
    · refine px_riS rfl q_X12_repair_34 rfl rfl rfl hg rfl trivial ⟨⟨rfl, rfl⟩, ?_⟩
      first | exact ⟨rfl, Or.inl ⟨by unfold mPegOk; grind, rfl, rfl⟩⟩ | exact ⟨rfl, Or.inr ⟨by unfold mPegOk; grind, rfl, rfl⟩⟩
    · refine px_cSP rfl q_X12_repair_13 hg rfl trivial lk_12_167 nm_X12_in (k_inI hg _ (0) (5000) (by decide) (by decide)) rfl rfl rfl ⟨rfl, rfl⟩ ?_
      intro x19 h19
      refine px_eq rfl q_X12_repair_22 hg rfl trivial (fun c22 => ?_) (fun c22 => ?_)
      · replace h19 := px_bf h19 c22
        refine px_riS rfl q_X12_repair_34 rfl rfl rfl hg rfl trivial ⟨⟨rfl, rfl⟩, ?_⟩
        first | exact ⟨rfl, Or.inl ⟨by unfold mPegOk; grind, rfl, rfl⟩⟩ | exact ⟨rfl, Or.inr ⟨by unfold mPegOk; grind, rfl, rfl⟩⟩
      · replace h19 := px_bt h19 c22
        refine px_ine rfl q_X12_repair_25 hg rfl trivial (fun c31 => ?_) (fun c31 => ?_)
        · refine px_riS rfl q_X12_repair_36 rfl rfl rfl hg rfl ⟨⟨⟨⟨trivial, (by first | decide | (refine ⟨?_, ?_⟩ <;> grind) | grind)⟩, (by first | decide | (refine ⟨?_, ?_⟩ <;> grind) | grind)⟩, (by first | decide | (refine ⟨?_, ?_⟩ <;> grind) | grind)⟩, (by first | decide | (refine ⟨?_, ?_⟩ <;> grind) | grind)⟩ ⟨⟨rfl, rfl⟩, ?_⟩
          first | exact ⟨rfl, Or.inl ⟨by unfold mPegOk; grind, rfl, rfl⟩⟩ | exact ⟨rfl, Or.inr ⟨by unfold mPegOk; grind, rfl, rfl⟩⟩
        · refine px_riS rfl q_X12_repair_34 rfl rfl rfl hg rfl trivial ⟨⟨rfl, rfl⟩, ?_⟩
          first | exact ⟨rfl, Or.inl ⟨by unfold mPegOk; grind, rfl, rfl⟩⟩ | exact ⟨rfl, Or.inr ⟨by unfold mPegOk; grind, rfl, rfl⟩⟩

theorem q_X12_lime_0 : px_bk 12 2 cX12_lime 0 [(.iload_n 1, (0, 0, 0, 0, 0), 0, 0), (.i2l, (0, 0, 0, 0, 0), 0, 0), (.lconst 0, (0, 0, 0, 0, 0), 0, 0), (.ldc2_w 175, (0, 0, 0, 0, 0), 0, 1000)] = some 6 ∧ px_tS cX12_lime 6 167 = true := by decide +kernel
theorem q_X12_lime_9 : px_bk 12 2 cX12_lime 9 [] = some 9 ∧ px_t1 cX12_lime 9 .ne 14 = true := by decide +kernel
theorem q_X12_lime_14 : px_bk 12 2 cX12_lime 14 [(.aload_n 0, (0, 0, 0, 0, 0), 0, 0), (.iload_n 1, (0, 0, 0, 0, 0), 0, 0), (.putfield 472, (12, 68, 0, 0, 0), 0, 0), (.iconst 1, (0, 0, 0, 0, 0), 1, 0)] = some 20 ∧ px_tr cX12_lime 20 .ireturn = true := by decide +kernel
theorem q_X12_lime_12 : px_bk 12 2 cX12_lime 12 [(.iconst 0, (0, 0, 0, 0, 0), 0, 0)] = some 13 ∧ px_tr cX12_lime 13 .ireturn = true := by decide +kernel
set_option maxRecDepth 100000 in
theorem k_lime {n : Nat} {I : px_I} {L : px_L} {R : px_R} (hg : px_G n R) (v : Int32) : px_KS M_X12_lime [.ref 103, .int v] n I L R (fun r I2 L2 => L2 = L ∧ ((0 ≤ v ∧ v ≤ 1000 ∧ r = 1 ∧ I2 = px_u I 103 68 v) ∨ (¬ (0 ≤ v ∧ v ≤ 1000) ∧ r = 0 ∧ I2 = I))) := by
  refine px_of (plainFor_of_name np_RX12) (fun _ _ _ => trivial) rfl ?_
  refine px_cSP rfl q_X12_lime_0 hg rfl trivial lk_12_167 nm_X12_in (k_inI hg _ (0) (1000) (by decide) (by decide)) rfl rfl rfl ⟨rfl, rfl⟩ ?_
  intro x6 h6
  refine px_ne rfl q_X12_lime_9 hg rfl trivial (fun c9 => ?_) (fun c9 => ?_)
  · replace h6 := px_bt h6 c9
    refine px_rzS rfl q_X12_lime_14 rfl rfl rfl hg rfl trivial ⟨⟨rfl, rfl⟩, (by first | exact Or.inl rfl | exact Or.inr rfl | grind), ?_⟩
    grind
  · replace h6 := px_bf h6 c9
    refine px_rzS rfl q_X12_lime_12 rfl rfl rfl hg rfl trivial ⟨⟨rfl, rfl⟩, (by first | exact Or.inl rfl | exact Or.inr rfl | grind), ?_⟩
    grind
end
section
/-! the reference: flow, seeking, what is asked about -/
def mRL (L L2 : px_L) : Prop := ∀ b, b ≠ 132 → L2 b = L b
def mNL (L L2 : px_L) : Prop := ∀ b, b ≠ 145 → b ≠ 146 → L2 b = L b
def mF (I : px_I) (g p : Int32) : Prop := (0 ≤ g ∧ g ≤ 1) ∧ 1 ≤ p ∧ p < I 110 g.toNatClampNeg ∧ 0 ≤ I 116 (20 * g + p).toNatClampNeg ∧ 0 ≤ I 116 (20 * g + p - 1).toNatClampNeg
theorem mK2 {g p P : Int32} (h1 : 0 ≤ g) (h2 : g ≤ 1) (h3 : 1 ≤ p) (h4 : p < P) (hP : P ≤ 20) : (0 ≤ 20 * g + p ∧ 20 * g + p < 40) ∧ (0 ≤ 20 * g + p - 1 ∧ 20 * g + p - 1 < 40) := by
  have h5 : p < 20 := by grind
  exact ⟨⟨by grind, by grind⟩, ⟨by grind, by grind⟩⟩
theorem px_le64 (x y : Int64) (h : x ≤ y) (h2 : y ≤ x) : x = y := by
  apply Int64.toInt_inj.mp
  have := Int64.le_iff_toInt_le.mp h
  have := Int64.le_iff_toInt_le.mp h2
  omega
theorem mCls {t : Int64} (h1 : 1 ≤ t) (h2 : t ≤ 16) : 0 ≤ (1 + t / 2).toInt32 ∧ (1 + t / 2).toInt32 < 10 := by
  have h3 := Int64.le_iff_toInt_le.mp h1
  have h4 := Int64.le_iff_toInt_le.mp h2
  have e1 : (1 : Int64).toInt = 1 := by decide
  have e2 : (16 : Int64).toInt = 16 := by decide
  rw [e1] at h3
  rw [e2] at h4
  have h5 : ∀ k : Nat, k < 17 → 1 ≤ k → 0 ≤ (1 + (Int64.ofNat k) / 2).toInt32 ∧ (1 + (Int64.ofNat k) / 2).toInt32 < 10 := by decide
  have h6 : t = Int64.ofNat t.toInt.toNat := by
    apply Int64.toInt_inj.mp
    rw [Int64.toInt_ofNat_of_lt (by omega)]
    omega
  rw [h6]
  exact h5 _ (by omega) (by omega)

theorem q_X12_off_0 : px_bk 12 5 cX12_off 0 [(.iload_n 1, (0, 0, 0, 0, 0), 0, 0), (.iload_n 2, (0, 0, 0, 0, 0), 0, 0), (.iadd, (0, 0, 0, 0, 0), 0, 0), (.istore 4, (0, 0, 0, 0, 0), 0, 0), (.iload_n 3, (0, 0, 0, 0, 0), 0, 0), (.aload_n 0, (0, 0, 0, 0, 0), 0, 0), (.getfield 450, (12, 59, 0, 0, 0), 0, 0)] = some 10 ∧ px_t2 cX12_off 10 .le 16 = true := by decide +kernel
theorem q_X12_off_16 : px_bk 12 5 cX12_off 16 [(.iload 4, (0, 0, 0, 0, 0), 0, 0)] = some 18 ∧ px_t1 cX12_off 18 .le 44 = true := by decide +kernel
theorem q_X12_off_44 : px_bk 12 5 cX12_off 44 [(.iload 4, (0, 0, 0, 0, 0), 0, 0), (.aload_n 0, (0, 0, 0, 0, 0), 0, 0), (.getfield 453, (12, 60, 0, 0, 0), 0, 0), (.ineg, (0, 0, 0, 0, 0), 0, 0)] = some 51 ∧ px_t2 cX12_off 51 .ge 64 = true := by decide +kernel
theorem q_X12_off_64 : px_bk 12 5 cX12_off 64 [(.iconst 0, (0, 0, 0, 0, 0), 0, 0)] = some 65 ∧ px_tr cX12_off 65 .ireturn = true := by decide +kernel
theorem q_X12_off_54 : px_bk 12 5 cX12_off 54 [(.iload 4, (0, 0, 0, 0, 0), 0, 0), (.aload_n 0, (0, 0, 0, 0, 0), 0, 0), (.getfield 453, (12, 60, 0, 0, 0), 0, 0), (.iadd, (0, 0, 0, 0, 0), 0, 0), (.goto 4, (0, 0, 0, 0, 0), 0, 0)] = some 65 ∧ px_tr cX12_off 65 .ireturn = true := by decide +kernel
theorem q_X12_off_21 : px_bk 12 5 cX12_off 21 [(.iload 4, (0, 0, 0, 0, 0), 0, 0), (.aload_n 0, (0, 0, 0, 0, 0), 0, 0), (.getfield 453, (12, 60, 0, 0, 0), 0, 0)] = some 27 ∧ px_t2 cX12_off 27 .le 40 = true := by decide +kernel
theorem q_X12_off_40 : px_bk 12 5 cX12_off 40 [(.iconst 0, (0, 0, 0, 0, 0), 0, 0), (.goto 24, (0, 0, 0, 0, 0), 0, 0)] = some 65 ∧ px_tr cX12_off 65 .ireturn = true := by decide +kernel
theorem q_X12_off_30 : px_bk 12 5 cX12_off 30 [(.iload 4, (0, 0, 0, 0, 0), 0, 0), (.aload_n 0, (0, 0, 0, 0, 0), 0, 0), (.getfield 453, (12, 60, 0, 0, 0), 0, 0), (.isub, (0, 0, 0, 0, 0), 0, 0), (.goto 28, (0, 0, 0, 0, 0), 0, 0)] = some 65 ∧ px_tr cX12_off 65 .ireturn = true := by decide +kernel
theorem q_X12_off_13 : px_bk 12 5 cX12_off 13 [(.iload 4, (0, 0, 0, 0, 0), 0, 0)] = some 15 ∧ px_tr cX12_off 15 .ireturn = true := by decide +kernel
set_option maxRecDepth 100000 in
theorem k_off {n : Nat} {I : px_I} {L : px_L} {R : px_R} (hg : px_G n R) (o b a : Int32) (h1 : -64 ≤ o + b) (h2 : o + b ≤ 64) (hp : 0 ≤ I 103 60) : px_KP M_X12_off [.ref 103, .int o, .int b, .int a] n I L R (fun r => -64 ≤ r ∧ r ≤ 64) := by
  refine px_of (plainFor_of_name np_RX12) (fun _ _ _ => trivial) rfl ?_
  refine px_ile rfl q_X12_off_0 hg rfl trivial (fun c10 => ?_) (fun c10 => ?_)
  · refine px_le rfl q_X12_off_16 hg rfl trivial (fun c18 => ?_) (fun c18 => ?_)
    · refine px_ige rfl q_X12_off_44 hg rfl trivial (fun c51 => ?_) (fun c51 => ?_)
      · refine px_riP rfl q_X12_off_64 rfl rfl rfl hg rfl trivial ⟨⟨rfl, rfl, rfl, rfl⟩, ?_⟩
        refine ⟨?_, ?_⟩ <;> grind
      · refine px_riP rfl q_X12_off_54 rfl rfl rfl hg rfl trivial ⟨⟨rfl, rfl, rfl, rfl⟩, ?_⟩
        refine ⟨?_, ?_⟩ <;> grind
    · refine px_ile rfl q_X12_off_21 hg rfl trivial (fun c27 => ?_) (fun c27 => ?_)
      · refine px_riP rfl q_X12_off_40 rfl rfl rfl hg rfl trivial ⟨⟨rfl, rfl, rfl, rfl⟩, ?_⟩
        refine ⟨?_, ?_⟩ <;> grind
      · refine px_riP rfl q_X12_off_30 rfl rfl rfl hg rfl trivial ⟨⟨rfl, rfl, rfl, rfl⟩, ?_⟩
        refine ⟨?_, ?_⟩ <;> grind
  · refine px_riP rfl q_X12_off_13 rfl rfl rfl hg rfl trivial ⟨⟨rfl, rfl, rfl, rfl⟩, ?_⟩
    refine ⟨?_, ?_⟩ <;> grind

theorem q_X12_along_0 : px_bk 12 4 cX12_along 0 [(.iload_n 0, (0, 0, 0, 0, 0), 0, 0), (.bipush 16, (0, 0, 0, 0, 0), 16, 0), (.irem, (0, 0, 0, 0, 0), 0, 0), (.istore_n 1, (0, 0, 0, 0, 0), 0, 0), (.iload_n 1, (0, 0, 0, 0, 0), 0, 0), (.bipush 8, (0, 0, 0, 0, 0), 8, 0), (.irem, (0, 0, 0, 0, 0), 0, 0), (.istore_n 2, (0, 0, 0, 0, 0), 0, 0), (.iload_n 2, (0, 0, 0, 0, 0), 0, 0)] = some 11 ∧ px_t1 cX12_along 11 .ne 20 = true := by decide +kernel
theorem q_X12_along_20 : px_bk 12 4 cX12_along 20 [(.iload_n 2, (0, 0, 0, 0, 0), 0, 0), (.iconst 1, (0, 0, 0, 0, 0), 1, 0)] = some 22 ∧ px_t2 cX12_along 22 .ne 31 = true := by decide +kernel
theorem q_X12_along_31 : px_bk 12 4 cX12_along 31 [(.iload_n 2, (0, 0, 0, 0, 0), 0, 0), (.iconst 2, (0, 0, 0, 0, 0), 2, 0)] = some 33 ∧ px_t2 cX12_along 33 .ne 42 = true := by decide +kernel
theorem q_X12_along_42 : px_bk 12 4 cX12_along 42 [(.iload_n 2, (0, 0, 0, 0, 0), 0, 0), (.iconst 3, (0, 0, 0, 0, 0), 3, 0)] = some 44 ∧ px_t2 cX12_along 44 .ne 53 = true := by decide +kernel
theorem q_X12_along_53 : px_bk 12 4 cX12_along 53 [(.iload_n 2, (0, 0, 0, 0, 0), 0, 0), (.iconst 4, (0, 0, 0, 0, 0), 4, 0)] = some 55 ∧ px_t2 cX12_along 55 .ne 62 = true := by decide +kernel
theorem q_X12_along_62 : px_bk 12 4 cX12_along 62 [(.iload_n 2, (0, 0, 0, 0, 0), 0, 0), (.iconst 5, (0, 0, 0, 0, 0), 5, 0)] = some 64 ∧ px_t2 cX12_along 64 .ne 73 = true := by decide +kernel
theorem q_X12_along_73 : px_bk 12 4 cX12_along 73 [(.iload_n 2, (0, 0, 0, 0, 0), 0, 0), (.bipush 6, (0, 0, 0, 0, 0), 6, 0)] = some 76 ∧ px_t2 cX12_along 76 .ne 85 = true := by decide +kernel
theorem q_X12_along_85 : px_bk 12 4 cX12_along 85 [(.sipush (-924), (0, 0, 0, 0, 0), -924, 0), (.istore_n 3, (0, 0, 0, 0, 0), 0, 0), (.iload_n 1, (0, 0, 0, 0, 0), 0, 0), (.bipush 8, (0, 0, 0, 0, 0), 8, 0)] = some 92 ∧ px_t2 cX12_along 92 .ge 99 = true := by decide +kernel
theorem q_X12_along_99 : px_bk 12 4 cX12_along 99 [(.iload_n 3, (0, 0, 0, 0, 0), 0, 0), (.ineg, (0, 0, 0, 0, 0), 0, 0)] = some 101 ∧ px_tr cX12_along 101 .ireturn = true := by decide +kernel
theorem q_X12_along_95 : px_bk 12 4 cX12_along 95 [(.iload_n 3, (0, 0, 0, 0, 0), 0, 0), (.goto 5, (0, 0, 0, 0, 0), 0, 0)] = some 101 ∧ px_tr cX12_along 101 .ireturn = true := by decide +kernel
theorem q_X12_along_79 : px_bk 12 4 cX12_along 79 [(.sipush (-707), (0, 0, 0, 0, 0), -707, 0), (.goto 6, (0, 0, 0, 0, 0), 0, 0), (.istore_n 3, (0, 0, 0, 0, 0), 0, 0), (.iload_n 1, (0, 0, 0, 0, 0), 0, 0), (.bipush 8, (0, 0, 0, 0, 0), 8, 0)] = some 92 ∧ px_t2 cX12_along 92 .ge 99 = true := by decide +kernel
theorem q_X12_along_67 : px_bk 12 4 cX12_along 67 [(.sipush (-383), (0, 0, 0, 0, 0), -383, 0), (.goto 18, (0, 0, 0, 0, 0), 0, 0), (.istore_n 3, (0, 0, 0, 0, 0), 0, 0), (.iload_n 1, (0, 0, 0, 0, 0), 0, 0), (.bipush 8, (0, 0, 0, 0, 0), 8, 0)] = some 92 ∧ px_t2 cX12_along 92 .ge 99 = true := by decide +kernel
theorem q_X12_along_58 : px_bk 12 4 cX12_along 58 [(.iconst 0, (0, 0, 0, 0, 0), 0, 0), (.goto 29, (0, 0, 0, 0, 0), 0, 0), (.istore_n 3, (0, 0, 0, 0, 0), 0, 0), (.iload_n 1, (0, 0, 0, 0, 0), 0, 0), (.bipush 8, (0, 0, 0, 0, 0), 8, 0)] = some 92 ∧ px_t2 cX12_along 92 .ge 99 = true := by decide +kernel
theorem q_X12_along_47 : px_bk 12 4 cX12_along 47 [(.sipush 383, (0, 0, 0, 0, 0), 383, 0), (.goto 38, (0, 0, 0, 0, 0), 0, 0), (.istore_n 3, (0, 0, 0, 0, 0), 0, 0), (.iload_n 1, (0, 0, 0, 0, 0), 0, 0), (.bipush 8, (0, 0, 0, 0, 0), 8, 0)] = some 92 ∧ px_t2 cX12_along 92 .ge 99 = true := by decide +kernel
theorem q_X12_along_36 : px_bk 12 4 cX12_along 36 [(.sipush 707, (0, 0, 0, 0, 0), 707, 0), (.goto 49, (0, 0, 0, 0, 0), 0, 0), (.istore_n 3, (0, 0, 0, 0, 0), 0, 0), (.iload_n 1, (0, 0, 0, 0, 0), 0, 0), (.bipush 8, (0, 0, 0, 0, 0), 8, 0)] = some 92 ∧ px_t2 cX12_along 92 .ge 99 = true := by decide +kernel
theorem q_X12_along_25 : px_bk 12 4 cX12_along 25 [(.sipush 924, (0, 0, 0, 0, 0), 924, 0), (.goto 60, (0, 0, 0, 0, 0), 0, 0), (.istore_n 3, (0, 0, 0, 0, 0), 0, 0), (.iload_n 1, (0, 0, 0, 0, 0), 0, 0), (.bipush 8, (0, 0, 0, 0, 0), 8, 0)] = some 92 ∧ px_t2 cX12_along 92 .ge 99 = true := by decide +kernel
theorem q_X12_along_14 : px_bk 12 4 cX12_along 14 [(.sipush 1000, (0, 0, 0, 0, 0), 1000, 0), (.goto 71, (0, 0, 0, 0, 0), 0, 0), (.istore_n 3, (0, 0, 0, 0, 0), 0, 0), (.iload_n 1, (0, 0, 0, 0, 0), 0, 0), (.bipush 8, (0, 0, 0, 0, 0), 8, 0)] = some 92 ∧ px_t2 cX12_along 92 .ge 99 = true := by decide +kernel
set_option maxRecDepth 100000 in
theorem k_along {n : Nat} {I : px_I} {L : px_L} {R : px_R} (hg : px_G n R) (x : Int32) : px_KP M_X12_along [.int x] n I L R (fun r => True) := by
  refine px_of (plainFor_of_name np_RX12) (fun _ _ _ => trivial) rfl ?_
  refine px_ne rfl q_X12_along_0 hg rfl ⟨⟨trivial, (by first | decide | (refine ⟨?_, ?_⟩ <;> grind) | grind)⟩, (by first | decide | (refine ⟨?_, ?_⟩ <;> grind) | grind)⟩ (fun c11 => ?_) (fun c11 => ?_)
  · refine px_ine rfl q_X12_along_20 hg rfl trivial (fun c22 => ?_) (fun c22 => ?_)
    · refine px_ine rfl q_X12_along_31 hg rfl trivial (fun c33 => ?_) (fun c33 => ?_)
      · refine px_ine rfl q_X12_along_42 hg rfl trivial (fun c44 => ?_) (fun c44 => ?_)
        · refine px_ine rfl q_X12_along_53 hg rfl trivial (fun c55 => ?_) (fun c55 => ?_)
          · refine px_ine rfl q_X12_along_62 hg rfl trivial (fun c64 => ?_) (fun c64 => ?_)
            · refine px_ine rfl q_X12_along_73 hg rfl trivial (fun c76 => ?_) (fun c76 => ?_)
              · refine px_ige rfl q_X12_along_85 hg rfl trivial (fun c92 => ?_) (fun c92 => ?_)
                · refine px_riP rfl q_X12_along_99 rfl rfl rfl hg rfl trivial ⟨⟨rfl, rfl, rfl, rfl⟩, ?_⟩
                  trivial
                · refine px_riP rfl q_X12_along_95 rfl rfl rfl hg rfl trivial ⟨⟨rfl, rfl, rfl, rfl⟩, ?_⟩
                  trivial
              · refine px_ige rfl q_X12_along_79 hg rfl trivial (fun c92 => ?_) (fun c92 => ?_)
                · refine px_riP rfl q_X12_along_99 rfl rfl rfl hg rfl trivial ⟨⟨rfl, rfl, rfl, rfl⟩, ?_⟩
                  trivial
                · refine px_riP rfl q_X12_along_95 rfl rfl rfl hg rfl trivial ⟨⟨rfl, rfl, rfl, rfl⟩, ?_⟩
                  trivial
            · refine px_ige rfl q_X12_along_67 hg rfl trivial (fun c92 => ?_) (fun c92 => ?_)
              · refine px_riP rfl q_X12_along_99 rfl rfl rfl hg rfl trivial ⟨⟨rfl, rfl, rfl, rfl⟩, ?_⟩
                trivial
              · refine px_riP rfl q_X12_along_95 rfl rfl rfl hg rfl trivial ⟨⟨rfl, rfl, rfl, rfl⟩, ?_⟩
                trivial
          · refine px_ige rfl q_X12_along_58 hg rfl trivial (fun c92 => ?_) (fun c92 => ?_)
            · refine px_riP rfl q_X12_along_99 rfl rfl rfl hg rfl trivial ⟨⟨rfl, rfl, rfl, rfl⟩, ?_⟩
              trivial
            · refine px_riP rfl q_X12_along_95 rfl rfl rfl hg rfl trivial ⟨⟨rfl, rfl, rfl, rfl⟩, ?_⟩
              trivial
        · refine px_ige rfl q_X12_along_47 hg rfl trivial (fun c92 => ?_) (fun c92 => ?_)
          · refine px_riP rfl q_X12_along_99 rfl rfl rfl hg rfl trivial ⟨⟨rfl, rfl, rfl, rfl⟩, ?_⟩
            trivial
          · refine px_riP rfl q_X12_along_95 rfl rfl rfl hg rfl trivial ⟨⟨rfl, rfl, rfl, rfl⟩, ?_⟩
            trivial
      · refine px_ige rfl q_X12_along_36 hg rfl trivial (fun c92 => ?_) (fun c92 => ?_)
        · refine px_riP rfl q_X12_along_99 rfl rfl rfl hg rfl trivial ⟨⟨rfl, rfl, rfl, rfl⟩, ?_⟩
          trivial
        · refine px_riP rfl q_X12_along_95 rfl rfl rfl hg rfl trivial ⟨⟨rfl, rfl, rfl, rfl⟩, ?_⟩
          trivial
    · refine px_ige rfl q_X12_along_25 hg rfl trivial (fun c92 => ?_) (fun c92 => ?_)
      · refine px_riP rfl q_X12_along_99 rfl rfl rfl hg rfl trivial ⟨⟨rfl, rfl, rfl, rfl⟩, ?_⟩
        trivial
      · refine px_riP rfl q_X12_along_95 rfl rfl rfl hg rfl trivial ⟨⟨rfl, rfl, rfl, rfl⟩, ?_⟩
        trivial
  · refine px_ige rfl q_X12_along_14 hg rfl trivial (fun c92 => ?_) (fun c92 => ?_)
    · refine px_riP rfl q_X12_along_99 rfl rfl rfl hg rfl trivial ⟨⟨rfl, rfl, rfl, rfl⟩, ?_⟩
      trivial
    · refine px_riP rfl q_X12_along_95 rfl rfl rfl hg rfl trivial ⟨⟨rfl, rfl, rfl, rfl⟩, ?_⟩
      trivial

theorem q_X12_up_0 : px_bk 12 4 cX12_up 0 [(.lload_n 0, (0, 0, 0, 0, 0), 0, 0), (.lload_n 2, (0, 0, 0, 0, 0), 0, 0), (.ladd, (0, 0, 0, 0, 0), 0, 0), (.lconst 1, (0, 0, 0, 0, 0), 0, 1), (.lsub, (0, 0, 0, 0, 0), 0, 0), (.lload_n 2, (0, 0, 0, 0, 0), 0, 0), (.ldiv, (0, 0, 0, 0, 0), 0, 0)] = some 7 ∧ px_tr cX12_up 7 .lreturn = true := by decide +kernel
set_option maxRecDepth 100000 in
theorem k_up {n : Nat} {I : px_I} {L : px_L} {R : px_R} (hg : px_G n R) (v b : Int64) (hb : ¬ b = 0) : px_KQ M_X12_up [.long v, .long b] n I L R (fun r => True) := by
  refine px_of (plainFor_of_name np_RX12) (fun _ _ _ => trivial) rfl ?_
  refine px_rlQ rfl q_X12_up_0 rfl rfl rfl hg rfl ⟨trivial, hb⟩ ⟨⟨rfl, rfl, rfl, rfl⟩, ?_⟩
  trivial

theorem q_X12_size_0 : px_bk 12 1 cX12_size 0 [(.iload_n 0, (0, 0, 0, 0, 0), 0, 0)] = some 1 ∧ px_t1 cX12_size 1 .ge 9 = true := by decide +kernel
theorem q_X12_size_9 : px_bk 12 1 cX12_size 9 [(.iload_n 0, (0, 0, 0, 0, 0), 0, 0)] = some 10 ∧ px_tr cX12_size 10 .ireturn = true := by decide +kernel
theorem q_X12_size_4 : px_bk 12 1 cX12_size 4 [(.iload_n 0, (0, 0, 0, 0, 0), 0, 0), (.ineg, (0, 0, 0, 0, 0), 0, 0), (.goto 4, (0, 0, 0, 0, 0), 0, 0)] = some 10 ∧ px_tr cX12_size 10 .ireturn = true := by decide +kernel
set_option maxRecDepth 100000 in
theorem k_size {n : Nat} {I : px_I} {L : px_L} {R : px_R} (hg : px_G n R) (x : Int32) : px_KP M_X12_size [.int x] n I L R (fun r => r = if x < 0 then 0 - x else x) := by
  refine px_of (plainFor_of_name np_RX12) (fun _ _ _ => trivial) rfl ?_
  refine px_ge rfl q_X12_size_0 hg rfl trivial (fun c1 => ?_) (fun c1 => ?_)
  · refine px_riP rfl q_X12_size_9 rfl rfl rfl hg rfl trivial ⟨⟨rfl, rfl, rfl, rfl⟩, ?_⟩
    grind
  · refine px_riP rfl q_X12_size_4 rfl rfl rfl hg rfl trivial ⟨⟨rfl, rfl, rfl, rfl⟩, ?_⟩
    grind

theorem q_X12_down_0 : px_bk 12 4 cX12_down 0 [(.lload_n 0, (0, 0, 0, 0, 0), 0, 0), (.lconst 0, (0, 0, 0, 0, 0), 0, 0), (.lcmp, (0, 0, 0, 0, 0), 0, 0)] = some 3 ∧ px_t1 cX12_down 3 .lt 12 = true := by decide +kernel
theorem q_X12_down_12 : px_bk 12 4 cX12_down 12 [(.lload_n 2, (0, 0, 0, 0, 0), 0, 0), (.lconst 1, (0, 0, 0, 0, 0), 0, 1), (.lsub, (0, 0, 0, 0, 0), 0, 0), (.lload_n 0, (0, 0, 0, 0, 0), 0, 0), (.lsub, (0, 0, 0, 0, 0), 0, 0), (.lload_n 2, (0, 0, 0, 0, 0), 0, 0), (.ldiv, (0, 0, 0, 0, 0), 0, 0), (.lneg, (0, 0, 0, 0, 0), 0, 0)] = some 20 ∧ px_tr cX12_down 20 .lreturn = true := by decide +kernel
theorem q_X12_down_6 : px_bk 12 4 cX12_down 6 [(.lload_n 0, (0, 0, 0, 0, 0), 0, 0), (.lload_n 2, (0, 0, 0, 0, 0), 0, 0), (.ldiv, (0, 0, 0, 0, 0), 0, 0), (.goto 11, (0, 0, 0, 0, 0), 0, 0)] = some 20 ∧ px_tr cX12_down 20 .lreturn = true := by decide +kernel
set_option maxRecDepth 100000 in
theorem k_down {n : Nat} {I : px_I} {L : px_L} {R : px_R} (hg : px_G n R) (v b : Int64) (hb : ¬ b = 0) : px_KQ M_X12_down [.long v, .long b] n I L R (fun r => True) := by
  refine px_of (plainFor_of_name np_RX12) (fun _ _ _ => trivial) rfl ?_
  refine px_llt rfl q_X12_down_0 hg rfl trivial (fun c3 => ?_) (fun c3 => ?_)
  · refine px_rlQ rfl q_X12_down_12 rfl rfl rfl hg rfl ⟨trivial, hb⟩ ⟨⟨rfl, rfl, rfl, rfl⟩, ?_⟩
    trivial
  · refine px_rlQ rfl q_X12_down_6 rfl rfl rfl hg rfl ⟨trivial, hb⟩ ⟨⟨rfl, rfl, rfl, rfl⟩, ?_⟩
    trivial

theorem q_X12_isFirst_0 : px_bk 12 1 cX12_isFirst 0 [(.iload_n 0, (0, 0, 0, 0, 0), 0, 0), (.i2l, (0, 0, 0, 0, 0), 0, 0), (.lconst 0, (0, 0, 0, 0, 0), 0, 0), (.ldc2_w 416, (0, 0, 0, 0, 0), 0, 95)] = some 6 ∧ px_tS cX12_isFirst 6 167 = true := by decide +kernel
theorem q_X12_isFirst_9 : px_bk 12 1 cX12_isFirst 9 [] = some 9 ∧ px_tr cX12_isFirst 9 .ireturn = true := by decide +kernel
set_option maxRecDepth 100000 in
theorem k_isFirst {n : Nat} {I : px_I} {L : px_L} {R : px_R} (hg : px_G n R) (x : Int32) : px_KP M_X12_isFirst [.int x] n I L R (fun r => (r = 1 ∧ 0 ≤ x ∧ x ≤ 95) ∨ (r = 0 ∧ ¬ (0 ≤ x ∧ x ≤ 95))) := by
  refine px_of (plainFor_of_name np_RX12) (fun _ _ _ => trivial) rfl ?_
  refine px_cSP rfl q_X12_isFirst_0 hg rfl trivial lk_12_167 nm_X12_in (k_inI hg _ (0) (95) (by decide) (by decide)) rfl rfl rfl ⟨rfl, rfl⟩ ?_
  intro x6 h6
  refine px_rzP rfl q_X12_isFirst_9 rfl rfl rfl hg rfl trivial ⟨⟨rfl, rfl, rfl, rfl⟩, (by first | exact Or.inl rfl | exact Or.inr rfl | grind), ?_⟩
  grind

theorem q_X12_isWay_0 : px_bk 12 2 cX12_isWay 0 [(.iload_n 1, (0, 0, 0, 0, 0), 0, 0), (.i2l, (0, 0, 0, 0, 0), 0, 0), (.lconst 0, (0, 0, 0, 0, 0), 0, 0), (.ldc2_w 364, (0, 0, 0, 0, 0), 0, 5)] = some 6 ∧ px_tS cX12_isWay 6 167 = true := by decide +kernel
theorem q_X12_isWay_9 : px_bk 12 2 cX12_isWay 9 [] = some 9 ∧ px_t1 cX12_isWay 9 .eq 26 = true := by decide +kernel
theorem q_X12_isWay_26 : px_bk 12 2 cX12_isWay 26 [(.iconst 0, (0, 0, 0, 0, 0), 0, 0)] = some 27 ∧ px_tr cX12_isWay 27 .ireturn = true := by decide +kernel
theorem q_X12_isWay_12 : px_bk 12 2 cX12_isWay 12 [(.aload_n 0, (0, 0, 0, 0, 0), 0, 0), (.getfield 97, (12, 44, 3, 129, 0), 0, 0), (.iload_n 1, (0, 0, 0, 0, 0), 0, 0), (.iaload, (0, 0, 0, 0, 0), 0, 0), (.iconst 1, (0, 0, 0, 0, 0), 1, 0)] = some 19 ∧ px_t2 cX12_isWay 19 .ne 26 = true := by decide +kernel
theorem q_X12_isWay_22 : px_bk 12 2 cX12_isWay 22 [(.iconst 1, (0, 0, 0, 0, 0), 1, 0), (.goto 4, (0, 0, 0, 0, 0), 0, 0)] = some 27 ∧ px_tr cX12_isWay 27 .ireturn = true := by decide +kernel
set_option maxRecDepth 100000 in
theorem k_isWay {n : Nat} {I : px_I} {L : px_L} {R : px_R} (hg : px_G n R) (x : Int32) : px_KP M_X12_isWay [.ref 103, .int x] n I L R (fun r => (r = 1 ∧ (0 ≤ x ∧ x ≤ 5) ∧ I 129 x.toNatClampNeg = 1) ∨ (r = 0 ∧ ¬ ((0 ≤ x ∧ x ≤ 5) ∧ I 129 x.toNatClampNeg = 1))) := by
  refine px_of (plainFor_of_name np_RX12) (fun _ _ _ => trivial) rfl ?_
  refine px_cSP rfl q_X12_isWay_0 hg rfl trivial lk_12_167 nm_X12_in (k_inI hg _ (0) (5) (by decide) (by decide)) rfl rfl rfl ⟨rfl, rfl⟩ ?_
  intro x6 h6
  refine px_eq rfl q_X12_isWay_9 hg rfl trivial (fun c9 => ?_) (fun c9 => ?_)
  · replace h6 := px_bf h6 c9
    refine px_rzP rfl q_X12_isWay_26 rfl rfl rfl hg rfl trivial ⟨⟨rfl, rfl, rfl, rfl⟩, (by first | exact Or.inl rfl | exact Or.inr rfl | grind), ?_⟩
    grind
  · replace h6 := px_bt h6 c9
    refine px_ine rfl q_X12_isWay_12 hg rfl ⟨trivial, (by first | decide | (refine ⟨?_, ?_⟩ <;> grind) | grind)⟩ (fun c19 => ?_) (fun c19 => ?_)
    · refine px_rzP rfl q_X12_isWay_26 rfl rfl rfl hg rfl trivial ⟨⟨rfl, rfl, rfl, rfl⟩, (by first | exact Or.inl rfl | exact Or.inr rfl | grind), ?_⟩
      grind
    · refine px_rzP rfl q_X12_isWay_22 rfl rfl rfl hg rfl trivial ⟨⟨rfl, rfl, rfl, rfl⟩, (by first | exact Or.inl rfl | exact Or.inr rfl | grind), ?_⟩
      grind

theorem q_X12_areAsked_0 : px_bk 12 5 cX12_areAsked 0 [(.iload_n 1, (0, 0, 0, 0, 0), 0, 0)] = some 1 ∧ px_tS cX12_areAsked 1 424 = true := by decide +kernel
theorem q_X12_areAsked_4 : px_bk 12 5 cX12_areAsked 4 [] = some 4 ∧ px_t1 cX12_areAsked 4 .eq 57 = true := by decide +kernel
theorem q_X12_areAsked_57 : px_bk 12 5 cX12_areAsked 57 [(.iconst 0, (0, 0, 0, 0, 0), 0, 0)] = some 58 ∧ px_tr cX12_areAsked 58 .ireturn = true := by decide +kernel
theorem q_X12_areAsked_7 : px_bk 12 5 cX12_areAsked 7 [(.iload_n 3, (0, 0, 0, 0, 0), 0, 0)] = some 8 ∧ px_tS cX12_areAsked 8 424 = true := by decide +kernel
theorem q_X12_areAsked_11 : px_bk 12 5 cX12_areAsked 11 [] = some 11 ∧ px_t1 cX12_areAsked 11 .eq 57 = true := by decide +kernel
theorem q_X12_areAsked_14 : px_bk 12 5 cX12_areAsked 14 [(.aload_n 0, (0, 0, 0, 0, 0), 0, 0), (.iload_n 1, (0, 0, 0, 0, 0), 0, 0), (.bipush 16, (0, 0, 0, 0, 0), 16, 0), (.idiv, (0, 0, 0, 0, 0), 0, 0)] = some 19 ∧ px_tv cX12_areAsked 19 406 = true := by decide +kernel
theorem q_X12_areAsked_22 : px_bk 12 5 cX12_areAsked 22 [] = some 22 ∧ px_t1 cX12_areAsked 22 .eq 57 = true := by decide +kernel
theorem q_X12_areAsked_25 : px_bk 12 5 cX12_areAsked 25 [(.aload_n 0, (0, 0, 0, 0, 0), 0, 0), (.iload_n 3, (0, 0, 0, 0, 0), 0, 0), (.bipush 16, (0, 0, 0, 0, 0), 16, 0), (.idiv, (0, 0, 0, 0, 0), 0, 0)] = some 30 ∧ px_tv cX12_areAsked 30 406 = true := by decide +kernel
theorem q_X12_areAsked_33 : px_bk 12 5 cX12_areAsked 33 [] = some 33 ∧ px_t1 cX12_areAsked 33 .eq 57 = true := by decide +kernel
theorem q_X12_areAsked_36 : px_bk 12 5 cX12_areAsked 36 [(.aload_n 0, (0, 0, 0, 0, 0), 0, 0), (.iload_n 2, (0, 0, 0, 0, 0), 0, 0)] = some 38 ∧ px_tv cX12_areAsked 38 184 = true := by decide +kernel
theorem q_X12_areAsked_41 : px_bk 12 5 cX12_areAsked 41 [] = some 41 ∧ px_t1 cX12_areAsked 41 .eq 57 = true := by decide +kernel
theorem q_X12_areAsked_44 : px_bk 12 5 cX12_areAsked 44 [(.aload_n 0, (0, 0, 0, 0, 0), 0, 0), (.iload 4, (0, 0, 0, 0, 0), 0, 0)] = some 47 ∧ px_tv cX12_areAsked 47 184 = true := by decide +kernel
theorem q_X12_areAsked_50 : px_bk 12 5 cX12_areAsked 50 [] = some 50 ∧ px_t1 cX12_areAsked 50 .eq 57 = true := by decide +kernel
theorem q_X12_areAsked_53 : px_bk 12 5 cX12_areAsked 53 [(.iconst 1, (0, 0, 0, 0, 0), 1, 0), (.goto 4, (0, 0, 0, 0, 0), 0, 0)] = some 58 ∧ px_tr cX12_areAsked 58 .ireturn = true := by decide +kernel
set_option maxRecDepth 100000 in
theorem k_areAsked {n : Nat} {I : px_I} {L : px_L} {R : px_R} (hg : px_G n R) (a f b t : Int32) : px_KP M_X12_areAsked [.ref 103, .int a, .int f, .int b, .int t] n I L R (fun r => (r = 1 ∧ (0 ≤ a ∧ a ≤ 95) ∧ (0 ≤ b ∧ b ≤ 95) ∧ ((0 ≤ a / 16 ∧ a / 16 ≤ 5) ∧ I 129 (a / 16).toNatClampNeg = 1) ∧ ((0 ≤ b / 16 ∧ b / 16 ≤ 5) ∧ I 129 (b / 16).toNatClampNeg = 1) ∧ (0 ≤ f ∧ f ≤ I 103 1 - 1) ∧ (0 ≤ t ∧ t ≤ I 103 1 - 1)) ∨ (r = 0 ∧ ¬ ((0 ≤ a ∧ a ≤ 95) ∧ (0 ≤ b ∧ b ≤ 95) ∧ ((0 ≤ a / 16 ∧ a / 16 ≤ 5) ∧ I 129 (a / 16).toNatClampNeg = 1) ∧ ((0 ≤ b / 16 ∧ b / 16 ≤ 5) ∧ I 129 (b / 16).toNatClampNeg = 1) ∧ (0 ≤ f ∧ f ≤ I 103 1 - 1) ∧ (0 ≤ t ∧ t ≤ I 103 1 - 1)))) := by
  refine px_of (plainFor_of_name np_RX12) (fun _ _ _ => trivial) rfl ?_
  refine px_cSP rfl q_X12_areAsked_0 hg rfl trivial lk_12_424 nm_X12_isFirst (k_isFirst hg _) rfl rfl rfl ⟨rfl, rfl⟩ ?_
  intro x1 h1
  refine px_eq rfl q_X12_areAsked_4 hg rfl trivial (fun c4 => ?_) (fun c4 => ?_)
  · replace h1 := px_bf h1 c4
    refine px_rzP rfl q_X12_areAsked_57 rfl rfl rfl hg rfl trivial ⟨⟨rfl, rfl, rfl, rfl⟩, (by first | exact Or.inl rfl | exact Or.inr rfl | grind), ?_⟩
    first | exact Or.inl ⟨rfl, by with_reducible assumption, by with_reducible assumption, by with_reducible assumption, by with_reducible assumption, by with_reducible assumption, by with_reducible assumption⟩ | exact Or.inr ⟨rfl, fun ⟨z1, z2, z3, z4, z5, z6⟩ => by contradiction⟩
  · replace h1 := px_bt h1 c4
    refine px_cSP rfl q_X12_areAsked_7 hg rfl trivial lk_12_424 nm_X12_isFirst (k_isFirst hg _) rfl rfl rfl ⟨rfl, rfl⟩ ?_
    intro x8 h8
    refine px_eq rfl q_X12_areAsked_11 hg rfl trivial (fun c11 => ?_) (fun c11 => ?_)
    · replace h8 := px_bf h8 c11
      refine px_rzP rfl q_X12_areAsked_57 rfl rfl rfl hg rfl trivial ⟨⟨rfl, rfl, rfl, rfl⟩, (by first | exact Or.inl rfl | exact Or.inr rfl | grind), ?_⟩
      first | exact Or.inl ⟨rfl, by with_reducible assumption, by with_reducible assumption, by with_reducible assumption, by with_reducible assumption, by with_reducible assumption, by with_reducible assumption⟩ | exact Or.inr ⟨rfl, fun ⟨z1, z2, z3, z4, z5, z6⟩ => by contradiction⟩
    · replace h8 := px_bt h8 c11
      refine px_cVP (ci := 12) rfl q_X12_areAsked_14 hg rfl ⟨trivial, (by decide)⟩ lk_12_406 nm_X12_isWay (k_isWay hg _) rfl rfl (px_lit hg rfl) rfl rfl rfl ⟨rfl, rfl⟩ ?_
      intro x19 h19
      refine px_eq rfl q_X12_areAsked_22 hg rfl trivial (fun c22 => ?_) (fun c22 => ?_)
      · replace h19 := px_bf h19 c22
        refine px_rzP rfl q_X12_areAsked_57 rfl rfl rfl hg rfl trivial ⟨⟨rfl, rfl, rfl, rfl⟩, (by first | exact Or.inl rfl | exact Or.inr rfl | grind), ?_⟩
        first | exact Or.inl ⟨rfl, by with_reducible assumption, by with_reducible assumption, by with_reducible assumption, by with_reducible assumption, by with_reducible assumption, by with_reducible assumption⟩ | exact Or.inr ⟨rfl, fun ⟨z1, z2, z3, z4, z5, z6⟩ => by contradiction⟩
      · replace h19 := px_bt h19 c22
        refine px_cVP (ci := 12) rfl q_X12_areAsked_25 hg rfl ⟨trivial, (by decide)⟩ lk_12_406 nm_X12_isWay (k_isWay hg _) rfl rfl (px_lit hg rfl) rfl rfl rfl ⟨rfl, rfl⟩ ?_
        intro x30 h30
        refine px_eq rfl q_X12_areAsked_33 hg rfl trivial (fun c33 => ?_) (fun c33 => ?_)
        · replace h30 := px_bf h30 c33
          refine px_rzP rfl q_X12_areAsked_57 rfl rfl rfl hg rfl trivial ⟨⟨rfl, rfl, rfl, rfl⟩, (by first | exact Or.inl rfl | exact Or.inr rfl | grind), ?_⟩
          first | exact Or.inl ⟨rfl, by with_reducible assumption, by with_reducible assumption, by with_reducible assumption, by with_reducible assumption, by with_reducible assumption, by with_reducible assumption⟩ | exact Or.inr ⟨rfl, fun ⟨z1, z2, z3, z4, z5, z6⟩ => by contradiction⟩
        · replace h30 := px_bt h30 c33
          refine px_cVP (ci := 12) rfl q_X12_areAsked_36 hg rfl trivial lk_12_184 nm_X12_isStation (k_isStation hg _) rfl rfl (px_lit hg rfl) rfl rfl rfl ⟨rfl, rfl⟩ ?_
          intro x38 h38
          refine px_eq rfl q_X12_areAsked_41 hg rfl trivial (fun c41 => ?_) (fun c41 => ?_)
          · replace h38 := px_bf h38 c41
            refine px_rzP rfl q_X12_areAsked_57 rfl rfl rfl hg rfl trivial ⟨⟨rfl, rfl, rfl, rfl⟩, (by first | exact Or.inl rfl | exact Or.inr rfl | grind), ?_⟩
            first | exact Or.inl ⟨rfl, by with_reducible assumption, by with_reducible assumption, by with_reducible assumption, by with_reducible assumption, by with_reducible assumption, by with_reducible assumption⟩ | exact Or.inr ⟨rfl, fun ⟨z1, z2, z3, z4, z5, z6⟩ => by contradiction⟩
          · replace h38 := px_bt h38 c41
            refine px_cVP (ci := 12) rfl q_X12_areAsked_44 hg rfl trivial lk_12_184 nm_X12_isStation (k_isStation hg _) rfl rfl (px_lit hg rfl) rfl rfl rfl ⟨rfl, rfl⟩ ?_
            intro x47 h47
            refine px_eq rfl q_X12_areAsked_50 hg rfl trivial (fun c50 => ?_) (fun c50 => ?_)
            · replace h47 := px_bf h47 c50
              refine px_rzP rfl q_X12_areAsked_57 rfl rfl rfl hg rfl trivial ⟨⟨rfl, rfl, rfl, rfl⟩, (by first | exact Or.inl rfl | exact Or.inr rfl | grind), ?_⟩
              first | exact Or.inl ⟨rfl, by with_reducible assumption, by with_reducible assumption, by with_reducible assumption, by with_reducible assumption, by with_reducible assumption, by with_reducible assumption⟩ | exact Or.inr ⟨rfl, fun ⟨z1, z2, z3, z4, z5, z6⟩ => by contradiction⟩
            · replace h47 := px_bt h47 c50
              refine px_rzP rfl q_X12_areAsked_53 rfl rfl rfl hg rfl trivial ⟨⟨rfl, rfl, rfl, rfl⟩, (by first | exact Or.inl rfl | exact Or.inr rfl | grind), ?_⟩
              first | exact Or.inl ⟨rfl, by with_reducible assumption, by with_reducible assumption, by with_reducible assumption, by with_reducible assumption, by with_reducible assumption, by with_reducible assumption⟩ | exact Or.inr ⟨rfl, fun ⟨z1, z2, z3, z4, z5, z6⟩ => by contradiction⟩

theorem q_X12_lets_0 : px_bk 12 5 cX12_lets 0 [(.lload_n 1, (0, 0, 0, 0, 0), 0, 0), (.lconst 1, (0, 0, 0, 0, 0), 0, 1), (.lcmp, (0, 0, 0, 0, 0), 0, 0)] = some 3 ∧ px_t1 cX12_lets 3 .ge 10 = true := by decide +kernel
theorem q_X12_lets_10 : px_bk 12 5 cX12_lets 10 [(.lload_n 1, (0, 0, 0, 0, 0), 0, 0), (.ldc2_w 390, (0, 0, 0, 0, 0), 0, 16), (.lcmp, (0, 0, 0, 0, 0), 0, 0)] = some 15 ∧ px_t1 cX12_lets 15 .le 23 = true := by decide +kernel
theorem q_X12_lets_23 : px_bk 12 5 cX12_lets 23 [(.lconst 1, (0, 0, 0, 0, 0), 0, 1), (.lload_n 1, (0, 0, 0, 0, 0), 0, 0), (.ldc2_w 171, (0, 0, 0, 0, 0), 0, 2), (.ldiv, (0, 0, 0, 0, 0), 0, 0), (.ladd, (0, 0, 0, 0, 0), 0, 0), (.l2i, (0, 0, 0, 0, 0), 0, 0), (.istore 4, (0, 0, 0, 0, 0), 0, 0), (.aload_n 0, (0, 0, 0, 0, 0), 0, 0), (.getfield 140, (12, 62, 3, 138, 0), 0, 0), (.iload 4, (0, 0, 0, 0, 0), 0, 0), (.iaload, (0, 0, 0, 0, 0), 0, 0), (.iload_n 3, (0, 0, 0, 0, 0), 0, 0), (.imul, (0, 0, 0, 0, 0), 0, 0), (.bipush 100, (0, 0, 0, 0, 0), 100, 0), (.idiv, (0, 0, 0, 0, 0), 0, 0)] = some 45 ∧ px_tr cX12_lets 45 .ireturn = true := by decide +kernel
theorem q_X12_lets_18 : px_bk 12 5 cX12_lets 18 [(.bipush 9, (0, 0, 0, 0, 0), 9, 0), (.goto 11, (0, 0, 0, 0, 0), 0, 0), (.istore 4, (0, 0, 0, 0, 0), 0, 0), (.aload_n 0, (0, 0, 0, 0, 0), 0, 0), (.getfield 140, (12, 62, 3, 138, 0), 0, 0), (.iload 4, (0, 0, 0, 0, 0), 0, 0), (.iaload, (0, 0, 0, 0, 0), 0, 0), (.iload_n 3, (0, 0, 0, 0, 0), 0, 0), (.imul, (0, 0, 0, 0, 0), 0, 0), (.bipush 100, (0, 0, 0, 0, 0), 100, 0), (.idiv, (0, 0, 0, 0, 0), 0, 0)] = some 45 ∧ px_tr cX12_lets 45 .ireturn = true := by decide +kernel
theorem q_X12_lets_6 : px_bk 12 5 cX12_lets 6 [(.iconst 0, (0, 0, 0, 0, 0), 0, 0), (.goto 24, (0, 0, 0, 0, 0), 0, 0), (.istore 4, (0, 0, 0, 0, 0), 0, 0), (.aload_n 0, (0, 0, 0, 0, 0), 0, 0), (.getfield 140, (12, 62, 3, 138, 0), 0, 0), (.iload 4, (0, 0, 0, 0, 0), 0, 0), (.iaload, (0, 0, 0, 0, 0), 0, 0), (.iload_n 3, (0, 0, 0, 0, 0), 0, 0), (.imul, (0, 0, 0, 0, 0), 0, 0), (.bipush 100, (0, 0, 0, 0, 0), 100, 0), (.idiv, (0, 0, 0, 0, 0), 0, 0)] = some 45 ∧ px_tr cX12_lets 45 .ireturn = true := by decide +kernel
set_option maxRecDepth 100000 in
theorem k_lets {n : Nat} {I : px_I} {L : px_L} {R : px_R} (hg : px_G n R) (t : Int64) (w : Int32) : px_KP M_X12_lets [.ref 103, .long t, .int w] n I L R (fun r => True) := by
  refine px_of (plainFor_of_name np_RX12) (fun _ _ _ => trivial) rfl ?_
  refine px_lge rfl q_X12_lets_0 hg rfl trivial (fun c3 => ?_) (fun c3 => ?_)
  · refine px_lle rfl q_X12_lets_10 hg rfl trivial (fun c15 => ?_) (fun c15 => ?_)
    · refine px_riP rfl q_X12_lets_23 rfl rfl rfl hg rfl ⟨⟨⟨trivial, (by first | decide | exact mCls (by grind) (by grind))⟩, (by first | decide | exact mCls (by grind) (by grind))⟩, (by first | decide | exact mCls (by grind) (by grind))⟩ ⟨⟨rfl, rfl, rfl, rfl⟩, ?_⟩
      trivial
    · refine px_riP rfl q_X12_lets_18 rfl rfl rfl hg rfl ⟨⟨trivial, (by first | decide | exact mCls (by grind) (by grind))⟩, (by first | decide | exact mCls (by grind) (by grind))⟩ ⟨⟨rfl, rfl, rfl, rfl⟩, ?_⟩
      trivial
  · refine px_riP rfl q_X12_lets_6 rfl rfl rfl hg rfl ⟨⟨trivial, (by first | decide | exact mCls (by grind) (by grind))⟩, (by first | decide | exact mCls (by grind) (by grind))⟩ ⟨⟨rfl, rfl, rfl, rfl⟩, ?_⟩
    trivial

theorem q_X12_widthOf_6 : px_bk 12 8 cX12_widthOf 6 [(.iload 6, (0, 0, 0, 0, 0), 0, 0), (.aload_n 0, (0, 0, 0, 0, 0), 0, 0), (.getfield 469, (12, 63, 0, 0, 0), 0, 0)] = some 12 ∧ px_t2 cX12_widthOf 12 .ge 104 = true := by decide +kernel
theorem q_X12_widthOf_104 : px_bk 12 8 cX12_widthOf 104 [(.aload_n 0, (0, 0, 0, 0, 0), 0, 0), (.getfield 47, (12, 14, 3, 115, 0), 0, 0), (.bipush 20, (0, 0, 0, 0, 0), 20, 0), (.iload_n 1, (0, 0, 0, 0, 0), 0, 0), (.imul, (0, 0, 0, 0, 0), 0, 0), (.iload_n 2, (0, 0, 0, 0, 0), 0, 0), (.iadd, (0, 0, 0, 0, 0), 0, 0), (.iaload, (0, 0, 0, 0, 0), 0, 0), (.iconst 2, (0, 0, 0, 0, 0), 2, 0), (.aload_n 0, (0, 0, 0, 0, 0), 0, 0), (.getfield 472, (12, 68, 0, 0, 0), 0, 0), (.iload_n 3, (0, 0, 0, 0, 0), 0, 0), (.iload 5, (0, 0, 0, 0, 0), 0, 0), (.isub, (0, 0, 0, 0, 0), 0, 0), (.imul, (0, 0, 0, 0, 0), 0, 0), (.bipush 100, (0, 0, 0, 0, 0), 100, 0), (.idiv, (0, 0, 0, 0, 0), 0, 0), (.imul, (0, 0, 0, 0, 0), 0, 0), (.isub, (0, 0, 0, 0, 0), 0, 0), (.istore 6, (0, 0, 0, 0, 0), 0, 0), (.iload 6, (0, 0, 0, 0, 0), 0, 0)] = some 134 ∧ px_t1 cX12_widthOf 134 .ge 141 = true := by decide +kernel
theorem q_X12_widthOf_141 : px_bk 12 8 cX12_widthOf 141 [(.iload 6, (0, 0, 0, 0, 0), 0, 0)] = some 143 ∧ px_tr cX12_widthOf 143 .ireturn = true := by decide +kernel
theorem q_X12_widthOf_137 : px_bk 12 8 cX12_widthOf 137 [(.iconst 0, (0, 0, 0, 0, 0), 0, 0), (.goto 5, (0, 0, 0, 0, 0), 0, 0)] = some 143 ∧ px_tr cX12_widthOf 143 .ireturn = true := by decide +kernel
theorem q_X12_widthOf_15 : px_bk 12 8 cX12_widthOf 15 [(.aload_n 0, (0, 0, 0, 0, 0), 0, 0), (.getfield 143, (12, 64, 3, 139, 0), 0, 0), (.iload 6, (0, 0, 0, 0, 0), 0, 0), (.iaload, (0, 0, 0, 0, 0), 0, 0), (.iload_n 1, (0, 0, 0, 0, 0), 0, 0)] = some 23 ∧ px_t2 cX12_widthOf 23 .ne 64 = true := by decide +kernel
theorem q_X12_widthOf_64 : px_bk 12 8 cX12_widthOf 64 [(.iconst 0, (0, 0, 0, 0, 0), 0, 0), (.istore 7, (0, 0, 0, 0, 0), 0, 0), (.iload 7, (0, 0, 0, 0, 0), 0, 0)] = some 69 ∧ px_t1 cX12_widthOf 69 .eq 94 = true := by decide +kernel
theorem q_X12_widthOf_94 : px_bk 12 8 cX12_widthOf 94 [(.iload 5, (0, 0, 0, 0, 0), 0, 0), (.istore 5, (0, 0, 0, 0, 0), 0, 0), (.iinc 6 1, (0, 0, 0, 0, 0), 1, 0), (.goto (-95), (0, 0, 0, 0, 0), 0, 0)] = some 6 := by decide +kernel
theorem q_X12_widthOf_72 : px_bk 12 8 cX12_widthOf 72 [(.aload_n 0, (0, 0, 0, 0, 0), 0, 0), (.getfield 149, (12, 66, 3, 141, 0), 0, 0), (.iload 6, (0, 0, 0, 0, 0), 0, 0), (.iaload, (0, 0, 0, 0, 0), 0, 0), (.iload 5, (0, 0, 0, 0, 0), 0, 0)] = some 81 ∧ px_t2 cX12_widthOf 81 .le 94 = true := by decide +kernel
theorem q_X12_widthOf_84 : px_bk 12 8 cX12_widthOf 84 [(.aload_n 0, (0, 0, 0, 0, 0), 0, 0), (.getfield 149, (12, 66, 3, 141, 0), 0, 0), (.iload 6, (0, 0, 0, 0, 0), 0, 0), (.iaload, (0, 0, 0, 0, 0), 0, 0), (.goto 5, (0, 0, 0, 0, 0), 0, 0), (.istore 5, (0, 0, 0, 0, 0), 0, 0), (.iinc 6 1, (0, 0, 0, 0, 0), 1, 0), (.goto (-95), (0, 0, 0, 0, 0), 0, 0)] = some 6 := by decide +kernel
theorem q_X12_widthOf_26 : px_bk 12 8 cX12_widthOf 26 [(.aload_n 0, (0, 0, 0, 0, 0), 0, 0), (.getfield 146, (12, 65, 3, 140, 0), 0, 0), (.iload 6, (0, 0, 0, 0, 0), 0, 0), (.iaload, (0, 0, 0, 0, 0), 0, 0), (.iload_n 2, (0, 0, 0, 0, 0), 0, 0)] = some 34 ∧ px_t2 cX12_widthOf 34 .ne 64 = true := by decide +kernel
theorem q_X12_widthOf_37 : px_bk 12 8 cX12_widthOf 37 [(.aload_n 0, (0, 0, 0, 0, 0), 0, 0), (.getfield 152, (12, 67, 3, 142, 0), 0, 0), (.iload 6, (0, 0, 0, 0, 0), 0, 0), (.iaload, (0, 0, 0, 0, 0), 0, 0), (.iload 4, (0, 0, 0, 0, 0), 0, 0)] = some 46 ∧ px_t2 cX12_widthOf 46 .gt 64 = true := by decide +kernel
theorem q_X12_widthOf_49 : px_bk 12 8 cX12_widthOf 49 [(.aload_n 0, (0, 0, 0, 0, 0), 0, 0), (.getfield 149, (12, 66, 3, 141, 0), 0, 0), (.iload 6, (0, 0, 0, 0, 0), 0, 0), (.iaload, (0, 0, 0, 0, 0), 0, 0), (.iload_n 3, (0, 0, 0, 0, 0), 0, 0)] = some 57 ∧ px_t2 cX12_widthOf 57 .gt 64 = true := by decide +kernel
theorem q_X12_widthOf_60 : px_bk 12 8 cX12_widthOf 60 [(.iconst 1, (0, 0, 0, 0, 0), 1, 0), (.goto 4, (0, 0, 0, 0, 0), 0, 0), (.istore 7, (0, 0, 0, 0, 0), 0, 0), (.iload 7, (0, 0, 0, 0, 0), 0, 0)] = some 69 ∧ px_t1 cX12_widthOf 69 .eq 94 = true := by decide +kernel
set_option maxRecDepth 100000 in
theorem l_widthOf {n : Nat} {R : px_R} (hg : px_G n R) {Q : px_Q} (g p y k : Int32) {I : px_I} {L : px_L} (hr : 0 ≤ I 103 63 ∧ I 103 63 ≤ 30) (hk : 0 ≤ 20 * g + p ∧ 20 * g + p < 40) (hq : ∀ r, Q (some (.int r)) n I L R) : ∀ i : Int32, i ≤ I 103 63 → 0 ≤ i → ∀ f : Int32, px M_X12_widthOf 0 0 6 [(0, .ref 103), (1, .int g), (2, .int p), (3, .int y), (4, .int k), (5, .int f), (6, .int i)] [] n I L R Q := by
  refine px_up _ (fun i ih hi => ?_)
  intro h0 f
  refine px_ige rfl q_X12_widthOf_6 hg rfl trivial (fun c12 => ?_) (fun c12 => ?_)
  · refine px_ge rfl q_X12_widthOf_104 hg rfl ⟨⟨trivial, (by first | decide | with_reducible assumption | (refine ⟨?_, ?_⟩ <;> grind))⟩, (by first | decide | with_reducible assumption | (refine ⟨?_, ?_⟩ <;> grind))⟩ (fun c134 => ?_) (fun c134 => ?_)
    · refine px_ri rfl q_X12_widthOf_141 rfl rfl rfl hg rfl trivial ?_
      exact hq _
    · refine px_ri rfl q_X12_widthOf_137 rfl rfl rfl hg rfl trivial ?_
      exact hq _
  · refine px_ine rfl q_X12_widthOf_15 hg rfl ⟨trivial, (by first | decide | with_reducible assumption | (refine ⟨?_, ?_⟩ <;> grind))⟩ (fun c23 => ?_) (fun c23 => ?_)
    · refine px_eq rfl q_X12_widthOf_64 hg rfl trivial (fun c69 => ?_) (fun c69 => ?_)
      · refine px_b rfl q_X12_widthOf_94 hg rfl trivial ?_
        exact px_go (ih (i + 1) (by grind) (by grind) (by grind) _) ⟨rfl, rfl, rfl, rfl, rfl, rfl, rfl, trivial⟩
      · refine px_ile rfl q_X12_widthOf_72 hg rfl ⟨trivial, (by first | decide | with_reducible assumption | (refine ⟨?_, ?_⟩ <;> grind))⟩ (fun c81 => ?_) (fun c81 => ?_)
        · refine px_b rfl q_X12_widthOf_94 hg rfl trivial ?_
          exact px_go (ih (i + 1) (by grind) (by grind) (by grind) _) ⟨rfl, rfl, rfl, rfl, rfl, rfl, rfl, trivial⟩
        · refine px_b rfl q_X12_widthOf_84 hg rfl ⟨trivial, (by first | decide | with_reducible assumption | (refine ⟨?_, ?_⟩ <;> grind))⟩ ?_
          exact px_go (ih (i + 1) (by grind) (by grind) (by grind) _) ⟨rfl, rfl, rfl, rfl, rfl, rfl, rfl, trivial⟩
    · refine px_ine rfl q_X12_widthOf_26 hg rfl ⟨trivial, (by first | decide | with_reducible assumption | (refine ⟨?_, ?_⟩ <;> grind))⟩ (fun c34 => ?_) (fun c34 => ?_)
      · refine px_eq rfl q_X12_widthOf_64 hg rfl trivial (fun c69 => ?_) (fun c69 => ?_)
        · refine px_b rfl q_X12_widthOf_94 hg rfl trivial ?_
          exact px_go (ih (i + 1) (by grind) (by grind) (by grind) _) ⟨rfl, rfl, rfl, rfl, rfl, rfl, rfl, trivial⟩
        · refine px_ile rfl q_X12_widthOf_72 hg rfl ⟨trivial, (by first | decide | with_reducible assumption | (refine ⟨?_, ?_⟩ <;> grind))⟩ (fun c81 => ?_) (fun c81 => ?_)
          · refine px_b rfl q_X12_widthOf_94 hg rfl trivial ?_
            exact px_go (ih (i + 1) (by grind) (by grind) (by grind) _) ⟨rfl, rfl, rfl, rfl, rfl, rfl, rfl, trivial⟩
          · refine px_b rfl q_X12_widthOf_84 hg rfl ⟨trivial, (by first | decide | with_reducible assumption | (refine ⟨?_, ?_⟩ <;> grind))⟩ ?_
            exact px_go (ih (i + 1) (by grind) (by grind) (by grind) _) ⟨rfl, rfl, rfl, rfl, rfl, rfl, rfl, trivial⟩
      · refine px_igt rfl q_X12_widthOf_37 hg rfl ⟨trivial, (by first | decide | with_reducible assumption | (refine ⟨?_, ?_⟩ <;> grind))⟩ (fun c46 => ?_) (fun c46 => ?_)
        · refine px_eq rfl q_X12_widthOf_64 hg rfl trivial (fun c69 => ?_) (fun c69 => ?_)
          · refine px_b rfl q_X12_widthOf_94 hg rfl trivial ?_
            exact px_go (ih (i + 1) (by grind) (by grind) (by grind) _) ⟨rfl, rfl, rfl, rfl, rfl, rfl, rfl, trivial⟩
          · refine px_ile rfl q_X12_widthOf_72 hg rfl ⟨trivial, (by first | decide | with_reducible assumption | (refine ⟨?_, ?_⟩ <;> grind))⟩ (fun c81 => ?_) (fun c81 => ?_)
            · refine px_b rfl q_X12_widthOf_94 hg rfl trivial ?_
              exact px_go (ih (i + 1) (by grind) (by grind) (by grind) _) ⟨rfl, rfl, rfl, rfl, rfl, rfl, rfl, trivial⟩
            · refine px_b rfl q_X12_widthOf_84 hg rfl ⟨trivial, (by first | decide | with_reducible assumption | (refine ⟨?_, ?_⟩ <;> grind))⟩ ?_
              exact px_go (ih (i + 1) (by grind) (by grind) (by grind) _) ⟨rfl, rfl, rfl, rfl, rfl, rfl, rfl, trivial⟩
        · refine px_igt rfl q_X12_widthOf_49 hg rfl ⟨trivial, (by first | decide | with_reducible assumption | (refine ⟨?_, ?_⟩ <;> grind))⟩ (fun c57 => ?_) (fun c57 => ?_)
          · refine px_eq rfl q_X12_widthOf_64 hg rfl trivial (fun c69 => ?_) (fun c69 => ?_)
            · refine px_b rfl q_X12_widthOf_94 hg rfl trivial ?_
              exact px_go (ih (i + 1) (by grind) (by grind) (by grind) _) ⟨rfl, rfl, rfl, rfl, rfl, rfl, rfl, trivial⟩
            · refine px_ile rfl q_X12_widthOf_72 hg rfl ⟨trivial, (by first | decide | with_reducible assumption | (refine ⟨?_, ?_⟩ <;> grind))⟩ (fun c81 => ?_) (fun c81 => ?_)
              · refine px_b rfl q_X12_widthOf_94 hg rfl trivial ?_
                exact px_go (ih (i + 1) (by grind) (by grind) (by grind) _) ⟨rfl, rfl, rfl, rfl, rfl, rfl, rfl, trivial⟩
              · refine px_b rfl q_X12_widthOf_84 hg rfl ⟨trivial, (by first | decide | with_reducible assumption | (refine ⟨?_, ?_⟩ <;> grind))⟩ ?_
                exact px_go (ih (i + 1) (by grind) (by grind) (by grind) _) ⟨rfl, rfl, rfl, rfl, rfl, rfl, rfl, trivial⟩
          · refine px_eq rfl q_X12_widthOf_60 hg rfl trivial (fun c69 => ?_) (fun c69 => ?_)
            · refine px_b rfl q_X12_widthOf_94 hg rfl trivial ?_
              exact px_go (ih (i + 1) (by grind) (by grind) (by grind) _) ⟨rfl, rfl, rfl, rfl, rfl, rfl, rfl, trivial⟩
            · refine px_ile rfl q_X12_widthOf_72 hg rfl ⟨trivial, (by first | decide | with_reducible assumption | (refine ⟨?_, ?_⟩ <;> grind))⟩ (fun c81 => ?_) (fun c81 => ?_)
              · refine px_b rfl q_X12_widthOf_94 hg rfl trivial ?_
                exact px_go (ih (i + 1) (by grind) (by grind) (by grind) _) ⟨rfl, rfl, rfl, rfl, rfl, rfl, rfl, trivial⟩
              · refine px_b rfl q_X12_widthOf_84 hg rfl ⟨trivial, (by first | decide | with_reducible assumption | (refine ⟨?_, ?_⟩ <;> grind))⟩ ?_
                exact px_go (ih (i + 1) (by grind) (by grind) (by grind) _) ⟨rfl, rfl, rfl, rfl, rfl, rfl, rfl, trivial⟩

theorem q_X12_widthOf_0 : px_bk 12 8 cX12_widthOf 0 [(.iconst 0, (0, 0, 0, 0, 0), 0, 0), (.istore 5, (0, 0, 0, 0, 0), 0, 0), (.iconst 0, (0, 0, 0, 0, 0), 0, 0), (.istore 6, (0, 0, 0, 0, 0), 0, 0)] = some 6 := by decide +kernel
set_option maxRecDepth 100000 in
theorem k_widthOf {n : Nat} {I : px_I} {L : px_L} {R : px_R} (hg : px_G n R) (g p y k : Int32) (hr : 0 ≤ I 103 63 ∧ I 103 63 ≤ 30) (hk : 0 ≤ 20 * g + p ∧ 20 * g + p < 40) : px_KP M_X12_widthOf [.ref 103, .int g, .int p, .int y, .int k] n I L R (fun r => True) := by
  refine px_of (plainFor_of_name np_RX12) (fun _ _ _ => trivial) rfl ?_
  refine px_b rfl q_X12_widthOf_0 hg rfl trivial ?_
  exact px_go (l_widthOf hg g p y k hr hk (fun r => ⟨rfl, rfl, r, rfl, rfl, rfl, trivial⟩) 0 hr.1 (by decide) 0) ⟨rfl, rfl, rfl, rfl, rfl, rfl, rfl, trivial⟩

theorem q_X12_letsBy_0 : px_bk 12 9 cX12_letsBy 0 [(.bipush 20, (0, 0, 0, 0, 0), 20, 0), (.iload_n 1, (0, 0, 0, 0, 0), 0, 0), (.imul, (0, 0, 0, 0, 0), 0, 0), (.iload_n 2, (0, 0, 0, 0, 0), 0, 0), (.iadd, (0, 0, 0, 0, 0), 0, 0), (.istore 6, (0, 0, 0, 0, 0), 0, 0), (.aload_n 0, (0, 0, 0, 0, 0), 0, 0), (.aload_n 0, (0, 0, 0, 0, 0), 0, 0), (.getfield 50, (12, 15, 3, 116, 0), 0, 0), (.iload 6, (0, 0, 0, 0, 0), 0, 0), (.iaload, (0, 0, 0, 0, 0), 0, 0), (.aload_n 0, (0, 0, 0, 0, 0), 0, 0), (.getfield 50, (12, 15, 3, 116, 0), 0, 0), (.iload 6, (0, 0, 0, 0, 0), 0, 0), (.iconst 1, (0, 0, 0, 0, 0), 1, 0), (.isub, (0, 0, 0, 0, 0), 0, 0), (.iaload, (0, 0, 0, 0, 0), 0, 0), (.iload 5, (0, 0, 0, 0, 0), 0, 0)] = some 27 ∧ px_tv cX12_letsBy 27 219 = true := by decide +kernel
theorem q_X12_letsBy_30 : px_bk 12 9 cX12_letsBy 30 [(.i2l, (0, 0, 0, 0, 0), 0, 0), (.lstore 7, (0, 0, 0, 0, 0), 0, 0), (.aload_n 0, (0, 0, 0, 0, 0), 0, 0), (.ldc2_w 175, (0, 0, 0, 0, 0), 0, 1000), (.lload 7, (0, 0, 0, 0, 0), 0, 0), (.lmul, (0, 0, 0, 0, 0), 0, 0), (.iload 5, (0, 0, 0, 0, 0), 0, 0)] = some 42 ∧ px_t1 cX12_letsBy 42 .eq 56 = true := by decide +kernel
theorem q_X12_letsBy_56 : px_bk 12 9 cX12_letsBy 56 [(.aload_n 0, (0, 0, 0, 0, 0), 0, 0), (.getfield 38, (12, 11, 3, 112, 0), 0, 0), (.iload 6, (0, 0, 0, 0, 0), 0, 0), (.iaload, (0, 0, 0, 0, 0), 0, 0), (.i2l, (0, 0, 0, 0, 0), 0, 0)] = some 64 ∧ px_tS cX12_letsBy 64 475 = true := by decide +kernel
theorem q_X12_letsBy_67 : px_bk 12 9 cX12_letsBy 67 [(.aload_n 0, (0, 0, 0, 0, 0), 0, 0), (.iload_n 1, (0, 0, 0, 0, 0), 0, 0), (.iload_n 2, (0, 0, 0, 0, 0), 0, 0), (.iload_n 3, (0, 0, 0, 0, 0), 0, 0), (.iload 4, (0, 0, 0, 0, 0), 0, 0)] = some 73 ∧ px_tv cX12_letsBy 73 478 = true := by decide +kernel
theorem q_X12_letsBy_76 : px_bk 12 9 cX12_letsBy 76 [] = some 76 ∧ px_tv cX12_letsBy 76 481 = true := by decide +kernel
theorem q_X12_letsBy_79 : px_bk 12 9 cX12_letsBy 79 [] = some 79 ∧ px_tr cX12_letsBy 79 .ireturn = true := by decide +kernel
theorem q_X12_letsBy_45 : px_bk 12 9 cX12_letsBy 45 [(.aload_n 0, (0, 0, 0, 0, 0), 0, 0), (.getfield 35, (12, 10, 3, 111, 0), 0, 0), (.iload 6, (0, 0, 0, 0, 0), 0, 0), (.iaload, (0, 0, 0, 0, 0), 0, 0), (.i2l, (0, 0, 0, 0, 0), 0, 0), (.goto 11, (0, 0, 0, 0, 0), 0, 0)] = some 64 ∧ px_tS cX12_letsBy 64 475 = true := by decide +kernel
set_option maxRecDepth 100000 in
theorem k_letsBy {n : Nat} {I : px_I} {L : px_L} {R : px_R} (hg : px_G n R) (g p y k h : Int32) (hr : 0 ≤ I 103 63 ∧ I 103 63 ≤ 30) (hG : mG I) (hT : mT I) (hF : mF I g p) : px_KP M_X12_letsBy [.ref 103, .int g, .int p, .int y, .int k, .int h] n I L R (fun r => True) := by
  refine px_of (plainFor_of_name np_RX12) (fun _ _ _ => trivial) rfl ?_
  obtain ⟨⟨f1, f2⟩, f3, f4, f5, f6⟩ := hF
  obtain ⟨hG1, hG2⟩ := hG g f1 f2
  have hK := mK2 f1 f2 f3 f4 hG1.2
  have hk := hK.1
  have hk1 := hK.2
  obtain ⟨g1, g2, -, -⟩ := hG2 p f3 f4
  have t1 := hT _ hk.1 hk.2
  have t2 := hT _ hk1.1 hk1.2
  have u1 : 0 ≤ I 116 (20 * g + p).toNatClampNeg ∧ I 116 (20 * g + p).toNatClampNeg < 24 := ⟨f5, t1.2⟩
  have u2 : 0 ≤ I 116 (20 * g + p - 1).toNatClampNeg ∧ I 116 (20 * g + p - 1).toNatClampNeg < 24 := ⟨f6, t2.2⟩
  have z1 := px_nz64 g1
  have z2 := px_nz64 g2
  refine px_cVP (ci := 12) rfl q_X12_letsBy_0 hg rfl ⟨⟨trivial, (by with_reducible assumption)⟩, (by with_reducible assumption)⟩ lk_12_219 nm_X12_gapOf (k_gapOf hg _ _ _ u1 u2) rfl rfl (px_lit hg rfl) rfl rfl rfl ⟨rfl, rfl⟩ ?_
  intro x27 h27
  refine px_eq rfl q_X12_letsBy_30 hg rfl trivial (fun c42 => ?_) (fun c42 => ?_)
  · refine px_cSQ rfl q_X12_letsBy_56 hg rfl ⟨trivial, (by with_reducible assumption)⟩ lk_12_475 nm_X12_down (k_down hg _ _ (by assumption)) rfl rfl rfl ⟨rfl, rfl⟩ ?_
    intro x64 h64
    refine px_cVP (ci := 12) rfl q_X12_letsBy_67 hg rfl trivial lk_12_478 nm_X12_widthOf (k_widthOf hg _ _ _ _ (by assumption) (by assumption)) rfl rfl (px_lit hg rfl) rfl rfl rfl ⟨rfl, rfl⟩ ?_
    intro x73 h73
    refine px_cVP (ci := 12) rfl q_X12_letsBy_76 hg rfl trivial lk_12_481 nm_X12_lets (k_lets hg _ _) rfl rfl (px_lit hg rfl) rfl rfl rfl ⟨rfl, rfl⟩ ?_
    intro x76 h76
    refine px_riP rfl q_X12_letsBy_79 rfl rfl rfl hg rfl trivial ⟨⟨rfl, rfl, rfl, rfl⟩, ?_⟩
    trivial
  · refine px_cSQ rfl q_X12_letsBy_45 hg rfl ⟨trivial, (by with_reducible assumption)⟩ lk_12_475 nm_X12_down (k_down hg _ _ (by assumption)) rfl rfl rfl ⟨rfl, rfl⟩ ?_
    intro x64 h64
    refine px_cVP (ci := 12) rfl q_X12_letsBy_67 hg rfl trivial lk_12_478 nm_X12_widthOf (k_widthOf hg _ _ _ _ (by assumption) (by assumption)) rfl rfl (px_lit hg rfl) rfl rfl rfl ⟨rfl, rfl⟩ ?_
    intro x73 h73
    refine px_cVP (ci := 12) rfl q_X12_letsBy_76 hg rfl trivial lk_12_481 nm_X12_lets (k_lets hg _ _) rfl rfl (px_lit hg rfl) rfl rfl rfl ⟨rfl, rfl⟩ ?_
    intro x76 h76
    refine px_riP rfl q_X12_letsBy_79 rfl rfl rfl hg rfl trivial ⟨⟨rfl, rfl, rfl, rfl⟩, ?_⟩
    trivial

theorem q_X12_narrowest_6 : px_bk 12 7 cX12_narrowest 6 [(.iload 6, (0, 0, 0, 0, 0), 0, 0), (.aload_n 0, (0, 0, 0, 0, 0), 0, 0), (.getfield 32, (12, 9, 3, 110, 0), 0, 0), (.iload_n 1, (0, 0, 0, 0, 0), 0, 0), (.iaload, (0, 0, 0, 0, 0), 0, 0)] = some 14 ∧ px_t2 cX12_narrowest 14 .ge 57 = true := by decide +kernel
theorem q_X12_narrowest_57 : px_bk 12 7 cX12_narrowest 57 [(.iload 5, (0, 0, 0, 0, 0), 0, 0)] = some 59 ∧ px_tr cX12_narrowest 59 .ireturn = true := by decide +kernel
theorem q_X12_narrowest_17 : px_bk 12 7 cX12_narrowest 17 [(.aload_n 0, (0, 0, 0, 0, 0), 0, 0), (.iload_n 1, (0, 0, 0, 0, 0), 0, 0), (.iload 6, (0, 0, 0, 0, 0), 0, 0), (.iload_n 2, (0, 0, 0, 0, 0), 0, 0), (.iload_n 3, (0, 0, 0, 0, 0), 0, 0), (.iload 4, (0, 0, 0, 0, 0), 0, 0)] = some 25 ∧ px_tv cX12_narrowest 25 485 = true := by decide +kernel
theorem q_X12_narrowest_28 : px_bk 12 7 cX12_narrowest 28 [(.aload_n 0, (0, 0, 0, 0, 0), 0, 0), (.iload_n 1, (0, 0, 0, 0, 0), 0, 0), (.iload 5, (0, 0, 0, 0, 0), 0, 0), (.iload_n 2, (0, 0, 0, 0, 0), 0, 0), (.iload_n 3, (0, 0, 0, 0, 0), 0, 0), (.iload 4, (0, 0, 0, 0, 0), 0, 0)] = some 36 ∧ px_tv cX12_narrowest 36 485 = true := by decide +kernel
theorem q_X12_narrowest_39 : px_bk 12 7 cX12_narrowest 39 [] = some 39 ∧ px_t2 cX12_narrowest 39 .ge 47 = true := by decide +kernel
theorem q_X12_narrowest_47 : px_bk 12 7 cX12_narrowest 47 [(.iload 5, (0, 0, 0, 0, 0), 0, 0), (.istore 5, (0, 0, 0, 0, 0), 0, 0), (.iinc 6 1, (0, 0, 0, 0, 0), 1, 0), (.goto (-48), (0, 0, 0, 0, 0), 0, 0)] = some 6 := by decide +kernel
theorem q_X12_narrowest_42 : px_bk 12 7 cX12_narrowest 42 [(.iload 6, (0, 0, 0, 0, 0), 0, 0), (.goto 5, (0, 0, 0, 0, 0), 0, 0), (.istore 5, (0, 0, 0, 0, 0), 0, 0), (.iinc 6 1, (0, 0, 0, 0, 0), 1, 0), (.goto (-48), (0, 0, 0, 0, 0), 0, 0)] = some 6 := by decide +kernel
set_option maxRecDepth 100000 in
theorem l_narrowest {n : Nat} {R : px_R} (hg : px_G n R) {Q : px_Q} (g y k h : Int32) {I : px_I} {L : px_L} (hr : 0 ≤ I 103 63 ∧ I 103 63 ≤ 30) (hG : mG I) (hT : mT I) (hg1 : 0 ≤ g ∧ g ≤ 1) (hF : ∀ p, 1 ≤ p → p < I 110 g.toNatClampNeg → mF I g p) (hP : I 110 g.toNatClampNeg ≤ 20) (hq : ∀ r, 1 ≤ r → r < I 110 g.toNatClampNeg → Q (some (.int r)) n I L R) : ∀ i : Int32, i ≤ I 110 g.toNatClampNeg → 1 ≤ i → ∀ f : Int32, 1 ≤ f → f < I 110 g.toNatClampNeg → px M_X12_narrowest 0 0 6 [(0, .ref 103), (1, .int g), (2, .int y), (3, .int k), (4, .int h), (5, .int f), (6, .int i)] [] n I L R Q := by
  refine px_up _ (fun i ih hi => ?_)
  intro h0 f h1 h2
  have hf := hF f h1 h2
  refine px_ige rfl q_X12_narrowest_6 hg rfl ⟨trivial, (by first | decide | (refine ⟨?_, ?_⟩ <;> grind) | grind)⟩ (fun c14 => ?_) (fun c14 => ?_)
  · refine px_ri rfl q_X12_narrowest_57 rfl rfl rfl hg rfl trivial ?_
    exact hq _ h1 h2
  · have hi2 := hF i h0 (by grind)
    refine px_cVP (ci := 12) rfl q_X12_narrowest_17 hg rfl trivial lk_12_485 nm_X12_letsBy (k_letsBy hg _ _ _ _ _ (by assumption) (by assumption) (by assumption) (by assumption)) rfl rfl (px_lit hg rfl) rfl rfl rfl ⟨rfl, rfl⟩ ?_
    intro x25 h25
    refine px_cVP (ci := 12) rfl q_X12_narrowest_28 hg rfl trivial lk_12_485 nm_X12_letsBy (k_letsBy hg _ _ _ _ _ (by assumption) (by assumption) (by assumption) (by assumption)) rfl rfl (px_lit hg rfl) rfl rfl rfl ⟨rfl, rfl⟩ ?_
    intro x36 h36
    refine px_ige rfl q_X12_narrowest_39 hg rfl trivial (fun c39 => ?_) (fun c39 => ?_)
    · refine px_b rfl q_X12_narrowest_47 hg rfl trivial ?_
      exact px_go (ih (i + 1) (by grind) (by grind) (by grind) _ (by assumption) (by grind)) ⟨rfl, rfl, rfl, rfl, rfl, rfl, rfl, trivial⟩
    · refine px_b rfl q_X12_narrowest_42 hg rfl trivial ?_
      exact px_go (ih (i + 1) (by grind) (by grind) (by grind) _ (by assumption) (by grind)) ⟨rfl, rfl, rfl, rfl, rfl, rfl, rfl, trivial⟩

theorem q_X12_narrowest_0 : px_bk 12 7 cX12_narrowest 0 [(.iconst 1, (0, 0, 0, 0, 0), 1, 0), (.istore 5, (0, 0, 0, 0, 0), 0, 0), (.iconst 2, (0, 0, 0, 0, 0), 2, 0), (.istore 6, (0, 0, 0, 0, 0), 0, 0)] = some 6 := by decide +kernel
set_option maxRecDepth 100000 in
theorem k_narrowest {n : Nat} {I : px_I} {L : px_L} {R : px_R} (hg : px_G n R) (g y k h : Int32) (hr : 0 ≤ I 103 63 ∧ I 103 63 ≤ 30) (hG : mG I) (hT : mT I) (hg1 : 0 ≤ g ∧ g ≤ 1) (h1 : 1 < I 110 g.toNatClampNeg) (hF : ∀ p, 1 ≤ p → p < I 110 g.toNatClampNeg → mF I g p) : px_KP M_X12_narrowest [.ref 103, .int g, .int y, .int k, .int h] n I L R (fun r => 1 ≤ r ∧ r < I 110 g.toNatClampNeg) := by
  refine px_of (plainFor_of_name np_RX12) (fun _ _ _ => trivial) rfl ?_
  refine px_b rfl q_X12_narrowest_0 hg rfl trivial ?_
  exact px_go (l_narrowest hg g y k h hr hG hT hg1 hF (hG g hg1.1 hg1.2).1.2 (fun r h1 h2 => ⟨rfl, rfl, r, rfl, rfl, rfl, h1, h2⟩) 2 (by grind) (by decide) 1 (by decide) h1) ⟨rfl, rfl, rfl, rfl, rfl, rfl, rfl, trivial⟩

theorem q_X12_about_28 : px_bk 12 4 cX12_about 28 [(.iload_n 3, (0, 0, 0, 0, 0), 0, 0), (.bipush 6, (0, 0, 0, 0, 0), 6, 0)] = some 31 ∧ px_t2 cX12_about 31 .ge 51 = true := by decide +kernel
theorem q_X12_about_51 : px_bk 12 4 cX12_about 51 [(.iload_n 1, (0, 0, 0, 0, 0), 0, 0)] = some 52 := by decide +kernel
theorem q_X12_about_52S : decode cX12_about 52 = .ok (.tableswitch 116 0 10 #[60, 65, 70, 75, 82, 89, 94, 99, 101, 106, 111], 60) := by decide +kernel
theorem q_X12_about_112 : px_bk 12 4 cX12_about 112 [(.aload_n 0, (0, 0, 0, 0, 0), 0, 0), (.getfield 177, (12, 0, 0, 0, 0), 0, 0)] = some 116 ∧ px_tr cX12_about 116 .ireturn = true := by decide +kernel
theorem q_X12_about_117 : px_bk 12 4 cX12_about 117 [(.aload_n 0, (0, 0, 0, 0, 0), 0, 0), (.getfield 7, (12, 1, 0, 0, 0), 0, 0)] = some 121 ∧ px_tr cX12_about 121 .ireturn = true := by decide +kernel
theorem q_X12_about_122 : px_bk 12 4 cX12_about 122 [(.aload_n 0, (0, 0, 0, 0, 0), 0, 0), (.getfield 191, (12, 2, 0, 0, 0), 0, 0)] = some 126 ∧ px_tr cX12_about 126 .ireturn = true := by decide +kernel
theorem q_X12_about_127 : px_bk 12 4 cX12_about 127 [(.aload_n 0, (0, 0, 0, 0, 0), 0, 0), (.getfield 32, (12, 9, 3, 110, 0), 0, 0), (.iconst 0, (0, 0, 0, 0, 0), 0, 0), (.iaload, (0, 0, 0, 0, 0), 0, 0)] = some 133 ∧ px_tr cX12_about 133 .ireturn = true := by decide +kernel
theorem q_X12_about_134 : px_bk 12 4 cX12_about 134 [(.aload_n 0, (0, 0, 0, 0, 0), 0, 0), (.getfield 32, (12, 9, 3, 110, 0), 0, 0), (.iconst 1, (0, 0, 0, 0, 0), 1, 0), (.iaload, (0, 0, 0, 0, 0), 0, 0)] = some 140 ∧ px_tr cX12_about 140 .ireturn = true := by decide +kernel
theorem q_X12_about_141 : px_bk 12 4 cX12_about 141 [(.aload_n 0, (0, 0, 0, 0, 0), 0, 0), (.getfield 239, (12, 16, 0, 0, 0), 0, 0)] = some 145 ∧ px_tr cX12_about 145 .ireturn = true := by decide +kernel
theorem q_X12_about_146 : px_bk 12 4 cX12_about 146 [(.aload_n 0, (0, 0, 0, 0, 0), 0, 0), (.getfield 249, (12, 21, 0, 0, 0), 0, 0)] = some 150 ∧ px_tr cX12_about 150 .ireturn = true := by decide +kernel
theorem q_X12_about_151 : px_bk 12 4 cX12_about 151 [(.iload_n 2, (0, 0, 0, 0, 0), 0, 0)] = some 152 ∧ px_tr cX12_about 152 .ireturn = true := by decide +kernel
theorem q_X12_about_153 : px_bk 12 4 cX12_about 153 [(.aload_n 0, (0, 0, 0, 0, 0), 0, 0), (.getfield 469, (12, 63, 0, 0, 0), 0, 0)] = some 157 ∧ px_tr cX12_about 157 .ireturn = true := by decide +kernel
theorem q_X12_about_158 : px_bk 12 4 cX12_about 158 [(.aload_n 0, (0, 0, 0, 0, 0), 0, 0), (.getfield 472, (12, 68, 0, 0, 0), 0, 0)] = some 162 ∧ px_tr cX12_about 162 .ireturn = true := by decide +kernel
theorem q_X12_about_163 : px_bk 12 4 cX12_about 163 [(.aload_n 0, (0, 0, 0, 0, 0), 0, 0), (.getfield 259, (12, 25, 0, 0, 0), 0, 0)] = some 167 ∧ px_tr cX12_about 167 .ireturn = true := by decide +kernel
theorem q_X12_about_168 : px_bk 12 4 cX12_about 168 [(.iconst (-1), (0, 0, 0, 0, 0), -1, 0)] = some 169 ∧ px_tr cX12_about 169 .ireturn = true := by decide +kernel
theorem q_X12_about_34 : px_bk 12 4 cX12_about 34 [(.iload_n 2, (0, 0, 0, 0, 0), 0, 0), (.aload_n 0, (0, 0, 0, 0, 0), 0, 0), (.getfield 97, (12, 44, 3, 129, 0), 0, 0), (.iload_n 3, (0, 0, 0, 0, 0), 0, 0), (.iaload, (0, 0, 0, 0, 0), 0, 0), (.iload_n 3, (0, 0, 0, 0, 0), 0, 0), (.ishl, (0, 0, 0, 0, 0), 0, 0), (.ior, (0, 0, 0, 0, 0), 0, 0), (.istore_n 2, (0, 0, 0, 0, 0), 0, 0), (.iinc 3 1, (0, 0, 0, 0, 0), 1, 0), (.goto (-20), (0, 0, 0, 0, 0), 0, 0)] = some 28 := by decide +kernel
set_option maxRecDepth 100000 in
theorem l_about {n : Nat} {R : px_R} (hg : px_G n R) {Q : px_Q} (w : Int32) {I : px_I} {L : px_L} (hq : ∀ r, Q (some (.int r)) n I L R) : ∀ i : Int32, i ≤ 6 → 0 ≤ i → ∀ f : Int32, px M_X12_about 0 0 28 [(0, .ref 103), (1, .int w), (2, .int f), (3, .int i)] [] n I L R Q := by
  refine px_up _ (fun i ih hi => ?_)
  intro h0 f
  refine px_ige rfl q_X12_about_28 hg rfl trivial (fun c31 => ?_) (fun c31 => ?_)
  · refine px_b rfl q_X12_about_51 hg rfl trivial ?_
    by_cases s52_0 : w = 0
    · refine px_swI (tgt := 112) (off := 60) q_X12_about_52S s52_0 (by decide) (by decide) (by decide) (by decide) ?_
      refine px_ri rfl q_X12_about_112 rfl rfl rfl hg rfl trivial ?_
      exact hq _
    by_cases s52_1 : w = 1
    · refine px_swI (tgt := 117) (off := 65) q_X12_about_52S s52_1 (by decide) (by decide) (by decide) (by decide) ?_
      refine px_ri rfl q_X12_about_117 rfl rfl rfl hg rfl trivial ?_
      exact hq _
    by_cases s52_2 : w = 2
    · refine px_swI (tgt := 122) (off := 70) q_X12_about_52S s52_2 (by decide) (by decide) (by decide) (by decide) ?_
      refine px_ri rfl q_X12_about_122 rfl rfl rfl hg rfl trivial ?_
      exact hq _
    by_cases s52_3 : w = 3
    · refine px_swI (tgt := 127) (off := 75) q_X12_about_52S s52_3 (by decide) (by decide) (by decide) (by decide) ?_
      refine px_ri rfl q_X12_about_127 rfl rfl rfl hg rfl ⟨trivial, (by first | decide | (refine ⟨?_, ?_⟩ <;> grind) | grind)⟩ ?_
      exact hq _
    by_cases s52_4 : w = 4
    · refine px_swI (tgt := 134) (off := 82) q_X12_about_52S s52_4 (by decide) (by decide) (by decide) (by decide) ?_
      refine px_ri rfl q_X12_about_134 rfl rfl rfl hg rfl ⟨trivial, (by first | decide | (refine ⟨?_, ?_⟩ <;> grind) | grind)⟩ ?_
      exact hq _
    by_cases s52_5 : w = 5
    · refine px_swI (tgt := 141) (off := 89) q_X12_about_52S s52_5 (by decide) (by decide) (by decide) (by decide) ?_
      refine px_ri rfl q_X12_about_141 rfl rfl rfl hg rfl trivial ?_
      exact hq _
    by_cases s52_6 : w = 6
    · refine px_swI (tgt := 146) (off := 94) q_X12_about_52S s52_6 (by decide) (by decide) (by decide) (by decide) ?_
      refine px_ri rfl q_X12_about_146 rfl rfl rfl hg rfl trivial ?_
      exact hq _
    by_cases s52_7 : w = 7
    · refine px_swI (tgt := 151) (off := 99) q_X12_about_52S s52_7 (by decide) (by decide) (by decide) (by decide) ?_
      refine px_ri rfl q_X12_about_151 rfl rfl rfl hg rfl trivial ?_
      exact hq _
    by_cases s52_8 : w = 8
    · refine px_swI (tgt := 153) (off := 101) q_X12_about_52S s52_8 (by decide) (by decide) (by decide) (by decide) ?_
      refine px_ri rfl q_X12_about_153 rfl rfl rfl hg rfl trivial ?_
      exact hq _
    by_cases s52_9 : w = 9
    · refine px_swI (tgt := 158) (off := 106) q_X12_about_52S s52_9 (by decide) (by decide) (by decide) (by decide) ?_
      refine px_ri rfl q_X12_about_158 rfl rfl rfl hg rfl trivial ?_
      exact hq _
    by_cases s52_10 : w = 10
    · refine px_swI (tgt := 163) (off := 111) q_X12_about_52S s52_10 (by decide) (by decide) (by decide) (by decide) ?_
      refine px_ri rfl q_X12_about_163 rfl rfl rfl hg rfl trivial ?_
      exact hq _
    refine px_swO (tgt := 168) q_X12_about_52S (px_out 0 10 (by decide) (fun k9 h8 h9 => ?_)) (by decide) ?_
    · match k9, h8, h9 with
      | 0, _, _ => exact s52_0
      | 1, _, _ => exact s52_1
      | 2, _, _ => exact s52_2
      | 3, _, _ => exact s52_3
      | 4, _, _ => exact s52_4
      | 5, _, _ => exact s52_5
      | 6, _, _ => exact s52_6
      | 7, _, _ => exact s52_7
      | 8, _, _ => exact s52_8
      | 9, _, _ => exact s52_9
      | 10, _, _ => exact s52_10
      | k9 + 11, _, h9 => exact absurd h9 (by omega)
    refine px_ri rfl q_X12_about_168 rfl rfl rfl hg rfl trivial ?_
    exact hq _
  · refine px_b rfl q_X12_about_34 hg rfl ⟨trivial, (by first | decide | (refine ⟨?_, ?_⟩ <;> grind) | grind)⟩ ?_
    exact px_go (ih (i + 1) (by grind) (by grind) (by grind) _) ⟨rfl, rfl, rfl, rfl, trivial⟩

theorem q_X12_about_0 : px_bk 12 4 cX12_about 0 [(.iload_n 1, (0, 0, 0, 0, 0), 0, 0), (.i2l, (0, 0, 0, 0, 0), 0, 0), (.ldc2_w 448, (0, 0, 0, 0, 0), 0, 20), (.ldc2_w 495, (0, 0, 0, 0, 0), 0, 29)] = some 8 ∧ px_tS cX12_about 8 167 = true := by decide +kernel
theorem q_X12_about_11 : px_bk 12 4 cX12_about 11 [] = some 11 ∧ px_t1 cX12_about 11 .eq 24 = true := by decide +kernel
theorem q_X12_about_24 : px_bk 12 4 cX12_about 24 [(.iconst 0, (0, 0, 0, 0, 0), 0, 0), (.istore_n 2, (0, 0, 0, 0, 0), 0, 0), (.iconst 0, (0, 0, 0, 0, 0), 0, 0), (.istore_n 3, (0, 0, 0, 0, 0), 0, 0)] = some 28 := by decide +kernel
theorem q_X12_about_14 : px_bk 12 4 cX12_about 14 [(.aload_n 0, (0, 0, 0, 0, 0), 0, 0), (.getfield 140, (12, 62, 3, 138, 0), 0, 0), (.iload_n 1, (0, 0, 0, 0, 0), 0, 0), (.bipush 20, (0, 0, 0, 0, 0), 20, 0), (.isub, (0, 0, 0, 0, 0), 0, 0), (.iaload, (0, 0, 0, 0, 0), 0, 0)] = some 23 ∧ px_tr cX12_about 23 .ireturn = true := by decide +kernel
set_option maxRecDepth 100000 in
theorem k_about {n : Nat} {I : px_I} {L : px_L} {R : px_R} (hg : px_G n R) (w : Int32) : px_KP M_X12_about [.ref 103, .int w] n I L R (fun r => True) := by
  refine px_of (plainFor_of_name np_RX12) (fun _ _ _ => trivial) rfl ?_
  refine px_cSP rfl q_X12_about_0 hg rfl trivial lk_12_167 nm_X12_in (k_inI hg _ (20) (29) (by decide) (by decide)) rfl rfl rfl ⟨rfl, rfl⟩ ?_
  intro x8 h8
  refine px_eq rfl q_X12_about_11 hg rfl trivial (fun c11 => ?_) (fun c11 => ?_)
  · replace h8 := px_bf h8 c11
    refine px_b rfl q_X12_about_24 hg rfl trivial ?_
    exact px_go (l_about hg w (fun r => ⟨rfl, rfl, r, rfl, rfl, rfl, trivial⟩) 0 (by decide) (by decide) 0) ⟨rfl, rfl, rfl, rfl, trivial⟩
  · replace h8 := px_bt h8 c11
    refine px_riP rfl q_X12_about_14 rfl rfl rfl hg rfl ⟨trivial, (by first | decide | (refine ⟨?_, ?_⟩ <;> grind) | grind)⟩ ⟨⟨rfl, rfl, rfl, rfl⟩, ?_⟩
    trivial
end
section
def mPS (I : px_I) (g P i : Int32) : Prop := ∀ j : Int32, 0 ≤ j → j < i → j < P → 0 ≤ I 116 (20 * g + j).toNatClampNeg
theorem mK3 {g p P : Int32} (h1 : 0 ≤ g) (h2 : g ≤ 1) (h3 : 0 ≤ p) (h4 : p < P) (hP : P ≤ 20) : 0 ≤ 20 * g + p ∧ 20 * g + p < 40 := by
  have h5 : p < 20 := by grind
  exact ⟨by grind, by grind⟩
theorem mPS.up {I : px_I} {g P i : Int32} (h : mPS I g P i) (h1 : ¬ I 116 (20 * g + i).toNatClampNeg < 0) (hi : i < 20) : mPS I g P (i + 1) := fun j j1 j2 j3 => by
  by_cases hj : j < i
  · exact h j j1 hj j3
  · have e : j = i := by grind
    rw [e]
    exact Int32.not_lt.mp h1
theorem mF_of {I : px_I} {g : Int32} (hg1 : 0 ≤ g ∧ g ≤ 1) (hP : I 110 g.toNatClampNeg ≤ 20) (h : mPS I g (I 110 g.toNatClampNeg) 20) : ∀ p : Int32, 1 ≤ p → p < I 110 g.toNatClampNeg → mF I g p := by
  intro p h1 h2
  have h3 : p < 20 := by grind
  refine ⟨hg1, h1, h2, h p (by grind) h3 h2, ?_⟩
  have h4 := h (p - 1) (by grind) (by grind) (by grind)
  have e : 20 * g + (p - 1) = 20 * g + p - 1 := by grind
  rw [e] at h4
  exact h4

theorem q_X12_isFlow_113 : px_bk 12 7 cX12_isFlow 113 [(.iload 5, (0, 0, 0, 0, 0), 0, 0), (.bipush 20, (0, 0, 0, 0, 0), 20, 0)] = some 117 ∧ px_t2 cX12_isFlow 117 .ge 210 = true := by decide +kernel
theorem q_X12_isFlow_210 : px_bk 12 7 cX12_isFlow 210 [(.iload 4, (0, 0, 0, 0, 0), 0, 0)] = some 212 ∧ px_tr cX12_isFlow 212 .ireturn = true := by decide +kernel
theorem q_X12_isFlow_120 : px_bk 12 7 cX12_isFlow 120 [(.iload 4, (0, 0, 0, 0, 0), 0, 0)] = some 122 ∧ px_t1 cX12_isFlow 122 .eq 210 = true := by decide +kernel
theorem q_X12_isFlow_125 : px_bk 12 7 cX12_isFlow 125 [(.iload 5, (0, 0, 0, 0, 0), 0, 0), (.aload_n 0, (0, 0, 0, 0, 0), 0, 0), (.getfield 32, (12, 9, 3, 110, 0), 0, 0), (.iload_n 1, (0, 0, 0, 0, 0), 0, 0), (.iaload, (0, 0, 0, 0, 0), 0, 0)] = some 133 ∧ px_t2 cX12_isFlow 133 .ge 210 = true := by decide +kernel
theorem q_X12_isFlow_136 : px_bk 12 7 cX12_isFlow 136 [(.bipush 20, (0, 0, 0, 0, 0), 20, 0), (.iload_n 1, (0, 0, 0, 0, 0), 0, 0), (.imul, (0, 0, 0, 0, 0), 0, 0), (.iload 5, (0, 0, 0, 0, 0), 0, 0), (.iadd, (0, 0, 0, 0, 0), 0, 0), (.istore 6, (0, 0, 0, 0, 0), 0, 0), (.aload_n 0, (0, 0, 0, 0, 0), 0, 0), (.aload_n 0, (0, 0, 0, 0, 0), 0, 0), (.getfield 50, (12, 15, 3, 116, 0), 0, 0), (.iload 6, (0, 0, 0, 0, 0), 0, 0), (.iaload, (0, 0, 0, 0, 0), 0, 0), (.aload_n 0, (0, 0, 0, 0, 0), 0, 0), (.getfield 50, (12, 15, 3, 116, 0), 0, 0), (.iload 6, (0, 0, 0, 0, 0), 0, 0), (.iconst 1, (0, 0, 0, 0, 0), 1, 0), (.isub, (0, 0, 0, 0, 0), 0, 0), (.iaload, (0, 0, 0, 0, 0), 0, 0), (.iconst 0, (0, 0, 0, 0, 0), 0, 0)] = some 163 ∧ px_tv cX12_isFlow 163 219 = true := by decide +kernel
theorem q_X12_isFlow_166 : px_bk 12 7 cX12_isFlow 166 [(.ldc 218, (0, 0, 0, 0, 0), -2000000000, 0)] = some 168 ∧ px_t2 cX12_isFlow 168 .eq 201 = true := by decide +kernel
theorem q_X12_isFlow_201 : px_bk 12 7 cX12_isFlow 201 [(.iconst 0, (0, 0, 0, 0, 0), 0, 0), (.istore 4, (0, 0, 0, 0, 0), 0, 0), (.iinc 5 1, (0, 0, 0, 0, 0), 1, 0), (.goto (-94), (0, 0, 0, 0, 0), 0, 0)] = some 113 := by decide +kernel
theorem q_X12_isFlow_171 : px_bk 12 7 cX12_isFlow 171 [(.aload_n 0, (0, 0, 0, 0, 0), 0, 0), (.aload_n 0, (0, 0, 0, 0, 0), 0, 0), (.getfield 50, (12, 15, 3, 116, 0), 0, 0), (.iload 6, (0, 0, 0, 0, 0), 0, 0), (.iaload, (0, 0, 0, 0, 0), 0, 0), (.aload_n 0, (0, 0, 0, 0, 0), 0, 0), (.getfield 50, (12, 15, 3, 116, 0), 0, 0), (.iload 6, (0, 0, 0, 0, 0), 0, 0), (.iconst 1, (0, 0, 0, 0, 0), 1, 0), (.isub, (0, 0, 0, 0, 0), 0, 0), (.iaload, (0, 0, 0, 0, 0), 0, 0), (.iconst 1, (0, 0, 0, 0, 0), 1, 0)] = some 189 ∧ px_tv cX12_isFlow 189 219 = true := by decide +kernel
theorem q_X12_isFlow_192 : px_bk 12 7 cX12_isFlow 192 [(.ldc 218, (0, 0, 0, 0, 0), -2000000000, 0)] = some 194 ∧ px_t2 cX12_isFlow 194 .eq 201 = true := by decide +kernel
theorem q_X12_isFlow_197 : px_bk 12 7 cX12_isFlow 197 [(.iconst 1, (0, 0, 0, 0, 0), 1, 0), (.goto 4, (0, 0, 0, 0, 0), 0, 0), (.istore 4, (0, 0, 0, 0, 0), 0, 0), (.iinc 5 1, (0, 0, 0, 0, 0), 1, 0), (.goto (-94), (0, 0, 0, 0, 0), 0, 0)] = some 113 := by decide +kernel
set_option maxRecDepth 100000 in
theorem l_isFlow113 {n : Nat} {R : px_R} (hg : px_G n R) {Q : px_Q} (g y k : Int32) {I : px_I} {L : px_L} (hG : mG I) (hT : mT I) (b0 : Int32) (hb0 : b0 = 0 ∨ (b0 = 1 ∧ (0 ≤ g ∧ g ≤ 1) ∧ 1 < I 110 g.toNatClampNeg ∧ mPS I g (I 110 g.toNatClampNeg) 20)) (hq : ∀ r, (r = 0 ∨ (r = 1 ∧ b0 = 1)) → Q (some (.int r)) n I L R) : ∀ i : Int32, i ≤ 20 → 1 ≤ i → ∀ b : Int32, (b = 0 ∨ (b = 1 ∧ b0 = 1)) → px M_X12_isFlow 0 0 113 [(0, .ref 103), (1, .int g), (2, .int y), (3, .int k), (4, .int b), (5, .int i)] [] n I L R Q := by
  refine px_up _ (fun i ih hi => ?_)
  intro h0 b hb
  refine px_ige rfl q_X12_isFlow_113 hg rfl trivial (fun c117 => ?_) (fun c117 => ?_)
  · refine px_rz rfl q_X12_isFlow_210 rfl rfl rfl hg rfl trivial (by first | exact Or.inl rfl | exact Or.inr rfl | grind) ?_
    exact hq _ (by grind)
  · refine px_eq rfl q_X12_isFlow_120 hg rfl trivial (fun c122 => ?_) (fun c122 => ?_)
    · refine px_rz rfl q_X12_isFlow_210 rfl rfl rfl hg rfl trivial (by first | exact Or.inl rfl | exact Or.inr rfl | grind) ?_
      exact hq _ (by grind)
    · have hb1 : b0 = 1 := by grind
      have hb2 : (0 ≤ g ∧ g ≤ 1) ∧ 1 < I 110 g.toNatClampNeg ∧ mPS I g (I 110 g.toNatClampNeg) 20 := by grind
      obtain ⟨⟨g1, g2⟩, g3, g4⟩ := hb2
      refine px_ige rfl q_X12_isFlow_125 hg rfl ⟨trivial, (by first | (refine ⟨?_, ?_⟩ <;> grind))⟩ (fun c133 => ?_) (fun c133 => ?_)
      · refine px_rz rfl q_X12_isFlow_210 rfl rfl rfl hg rfl trivial (by first | exact Or.inl rfl | exact Or.inr rfl | grind) ?_
        exact hq _ (by grind)
      · obtain ⟨hG1, hG2⟩ := hG g g1 g2
        have hm := mF_of ⟨g1, g2⟩ hG1.2 g4 i h0 (by grind)
        have hK := mK2 g1 g2 h0 (by grind) hG1.2
        have hk := hK.1
        have hk1 := hK.2
        have t1 := hT _ hk.1 hk.2
        have t2 := hT _ hk1.1 hk1.2
        have u1 : 0 ≤ I 116 (20 * g + i).toNatClampNeg ∧ I 116 (20 * g + i).toNatClampNeg < 24 := ⟨hm.2.2.2.1, t1.2⟩
        have u2 : 0 ≤ I 116 (20 * g + i - 1).toNatClampNeg ∧ I 116 (20 * g + i - 1).toNatClampNeg < 24 := ⟨hm.2.2.2.2, t2.2⟩
        refine px_cVP (ci := 12) rfl q_X12_isFlow_136 hg rfl ⟨⟨trivial, (by with_reducible assumption)⟩, (by with_reducible assumption)⟩ lk_12_219 nm_X12_gapOf (k_gapOf hg _ _ _ u1 u2) rfl rfl (px_lit hg rfl) rfl rfl rfl ⟨rfl, rfl⟩ ?_
        intro x163 h163
        refine px_ieq rfl q_X12_isFlow_166 hg rfl trivial (fun c168 => ?_) (fun c168 => ?_)
        · refine px_b rfl q_X12_isFlow_201 hg rfl trivial ?_
          exact px_go (ih (i + 1) (by grind) (by grind) (by grind) _ (by first | exact Or.inl rfl | exact Or.inr ⟨rfl, hb1⟩)) ⟨rfl, rfl, rfl, rfl, rfl, rfl, trivial⟩
        · refine px_cVP (ci := 12) rfl q_X12_isFlow_171 hg rfl ⟨⟨trivial, (by with_reducible assumption)⟩, (by with_reducible assumption)⟩ lk_12_219 nm_X12_gapOf (k_gapOf hg _ _ _ u1 u2) rfl rfl (px_lit hg rfl) rfl rfl rfl ⟨rfl, rfl⟩ ?_
          intro x189 h189
          refine px_ieq rfl q_X12_isFlow_192 hg rfl trivial (fun c194 => ?_) (fun c194 => ?_)
          · refine px_b rfl q_X12_isFlow_201 hg rfl trivial ?_
            exact px_go (ih (i + 1) (by grind) (by grind) (by grind) _ (by first | exact Or.inl rfl | exact Or.inr ⟨rfl, hb1⟩)) ⟨rfl, rfl, rfl, rfl, rfl, rfl, trivial⟩
          · refine px_b rfl q_X12_isFlow_197 hg rfl trivial ?_
            exact px_go (ih (i + 1) (by grind) (by grind) (by grind) _ (by first | exact Or.inl rfl | exact Or.inr ⟨rfl, hb1⟩)) ⟨rfl, rfl, rfl, rfl, rfl, rfl, trivial⟩

theorem q_X12_isFlow_59 : px_bk 12 7 cX12_isFlow 59 [(.iload 5, (0, 0, 0, 0, 0), 0, 0), (.bipush 20, (0, 0, 0, 0, 0), 20, 0)] = some 63 ∧ px_t2 cX12_isFlow 63 .ge 110 = true := by decide +kernel
theorem q_X12_isFlow_110 : px_bk 12 7 cX12_isFlow 110 [(.iconst 1, (0, 0, 0, 0, 0), 1, 0), (.istore 5, (0, 0, 0, 0, 0), 0, 0)] = some 113 := by decide +kernel
theorem q_X12_isFlow_66 : px_bk 12 7 cX12_isFlow 66 [(.iload 4, (0, 0, 0, 0, 0), 0, 0)] = some 68 ∧ px_t1 cX12_isFlow 68 .eq 110 = true := by decide +kernel
theorem q_X12_isFlow_71 : px_bk 12 7 cX12_isFlow 71 [(.iload 5, (0, 0, 0, 0, 0), 0, 0), (.aload_n 0, (0, 0, 0, 0, 0), 0, 0), (.getfield 32, (12, 9, 3, 110, 0), 0, 0), (.iload_n 1, (0, 0, 0, 0, 0), 0, 0), (.iaload, (0, 0, 0, 0, 0), 0, 0)] = some 79 ∧ px_t2 cX12_isFlow 79 .ge 110 = true := by decide +kernel
theorem q_X12_isFlow_82 : px_bk 12 7 cX12_isFlow 82 [(.aload_n 0, (0, 0, 0, 0, 0), 0, 0), (.getfield 50, (12, 15, 3, 116, 0), 0, 0), (.bipush 20, (0, 0, 0, 0, 0), 20, 0), (.iload_n 1, (0, 0, 0, 0, 0), 0, 0), (.imul, (0, 0, 0, 0, 0), 0, 0), (.iload 5, (0, 0, 0, 0, 0), 0, 0), (.iadd, (0, 0, 0, 0, 0), 0, 0), (.iaload, (0, 0, 0, 0, 0), 0, 0)] = some 94 ∧ px_t1 cX12_isFlow 94 .lt 101 = true := by decide +kernel
theorem q_X12_isFlow_101 : px_bk 12 7 cX12_isFlow 101 [(.iconst 0, (0, 0, 0, 0, 0), 0, 0), (.istore 4, (0, 0, 0, 0, 0), 0, 0), (.iinc 5 1, (0, 0, 0, 0, 0), 1, 0), (.goto (-48), (0, 0, 0, 0, 0), 0, 0)] = some 59 := by decide +kernel
theorem q_X12_isFlow_97 : px_bk 12 7 cX12_isFlow 97 [(.iconst 1, (0, 0, 0, 0, 0), 1, 0), (.goto 4, (0, 0, 0, 0, 0), 0, 0), (.istore 4, (0, 0, 0, 0, 0), 0, 0), (.iinc 5 1, (0, 0, 0, 0, 0), 1, 0), (.goto (-48), (0, 0, 0, 0, 0), 0, 0)] = some 59 := by decide +kernel
set_option maxRecDepth 100000 in
theorem l_isFlow59 {n : Nat} {R : px_R} (hg : px_G n R) {Q : px_Q} (g y k : Int32) {I : px_I} {L : px_L} (hG : mG I) (hT : mT I) (b0 : Int32) (hb0 : b0 = 0 ∨ (b0 = 1 ∧ (0 ≤ g ∧ g ≤ 1) ∧ 1 < I 110 g.toNatClampNeg)) (hq : ∀ r, (r = 0 ∨ (r = 1 ∧ (0 ≤ g ∧ g ≤ 1) ∧ 1 < I 110 g.toNatClampNeg ∧ mPS I g (I 110 g.toNatClampNeg) 20)) → Q (some (.int r)) n I L R) : ∀ i : Int32, i ≤ 20 → 0 ≤ i → ∀ b : Int32, (b = 0 ∨ (b = 1 ∧ b0 = 1 ∧ mPS I g (I 110 g.toNatClampNeg) i)) → px M_X12_isFlow 0 0 59 [(0, .ref 103), (1, .int g), (2, .int y), (3, .int k), (4, .int b), (5, .int i)] [] n I L R Q := by
  refine px_up _ (fun i ih hi => ?_)
  intro h0 b hb
  refine px_ige rfl q_X12_isFlow_59 hg rfl trivial (fun c63 => ?_) (fun c63 => ?_)
  · refine px_b rfl q_X12_isFlow_110 hg rfl trivial ?_
    have hB : ∃ b1 : Int32, (b = b1) ∧ (b1 = 0 ∨ (b1 = 1 ∧ (0 ≤ g ∧ g ≤ 1) ∧ 1 < I 110 g.toNatClampNeg ∧ mPS I g (I 110 g.toNatClampNeg) 20)) := by
      refine ⟨b, rfl, ?_⟩
      rcases hb with hb | ⟨hb, hc, hd⟩
      · exact Or.inl hb
      · have he : (0 ≤ g ∧ g ≤ 1) ∧ 1 < I 110 g.toNatClampNeg := by grind
        refine Or.inr ⟨hb, he.1, he.2, fun j j1 j2 j3 => hd j j1 ?_ j3⟩
        have hP := (hG g he.1.1 he.1.2).1.2
        grind
    obtain ⟨b1, hB1, hB2⟩ := hB
    exact px_go (l_isFlow113 hg g y k hG hT b1 hB2 (fun r hr => hq r (by rcases hr with hr | ⟨hr, hc⟩; exact Or.inl hr; exact Or.inr ⟨hr, (hB2.resolve_left (by rw [hc]; decide)).2⟩)) 1 (by decide) (by decide) b (by rcases hB2 with h | h; exact Or.inl (hB1.trans h); exact Or.inr ⟨hB1.trans h.1, h.1⟩)) ⟨rfl, rfl, rfl, rfl, rfl, rfl, trivial⟩
  · refine px_eq rfl q_X12_isFlow_66 hg rfl trivial (fun c68 => ?_) (fun c68 => ?_)
    · refine px_b rfl q_X12_isFlow_110 hg rfl trivial ?_
      have hB : ∃ b1 : Int32, (b = b1) ∧ (b1 = 0 ∨ (b1 = 1 ∧ (0 ≤ g ∧ g ≤ 1) ∧ 1 < I 110 g.toNatClampNeg ∧ mPS I g (I 110 g.toNatClampNeg) 20)) := by
        refine ⟨b, rfl, ?_⟩
        rcases hb with hb | ⟨hb, hc, hd⟩
        · exact Or.inl hb
        · have he : (0 ≤ g ∧ g ≤ 1) ∧ 1 < I 110 g.toNatClampNeg := by grind
          refine Or.inr ⟨hb, he.1, he.2, fun j j1 j2 j3 => hd j j1 ?_ j3⟩
          have hP := (hG g he.1.1 he.1.2).1.2
          grind
      obtain ⟨b1, hB1, hB2⟩ := hB
      exact px_go (l_isFlow113 hg g y k hG hT b1 hB2 (fun r hr => hq r (by rcases hr with hr | ⟨hr, hc⟩; exact Or.inl hr; exact Or.inr ⟨hr, (hB2.resolve_left (by rw [hc]; decide)).2⟩)) 1 (by decide) (by decide) b (by rcases hB2 with h | h; exact Or.inl (hB1.trans h); exact Or.inr ⟨hB1.trans h.1, h.1⟩)) ⟨rfl, rfl, rfl, rfl, rfl, rfl, trivial⟩
    · have hb2 : b0 = 1 ∧ mPS I g (I 110 g.toNatClampNeg) i := by grind
      have hb3 : (0 ≤ g ∧ g ≤ 1) ∧ 1 < I 110 g.toNatClampNeg := by grind
      obtain ⟨⟨g1, g2⟩, g3⟩ := hb3
      obtain ⟨hG1, hG2⟩ := hG g g1 g2
      refine px_ige rfl q_X12_isFlow_71 hg rfl ⟨trivial, (by first | (refine ⟨?_, ?_⟩ <;> grind))⟩ (fun c79 => ?_) (fun c79 => ?_)
      · refine px_b rfl q_X12_isFlow_110 hg rfl trivial ?_
        have hB : ∃ b1 : Int32, (b = b1) ∧ (b1 = 0 ∨ (b1 = 1 ∧ (0 ≤ g ∧ g ≤ 1) ∧ 1 < I 110 g.toNatClampNeg ∧ mPS I g (I 110 g.toNatClampNeg) 20)) := by
          refine ⟨b, rfl, ?_⟩
          rcases hb with hb | ⟨hb, hc, hd⟩
          · exact Or.inl hb
          · have he : (0 ≤ g ∧ g ≤ 1) ∧ 1 < I 110 g.toNatClampNeg := by grind
            refine Or.inr ⟨hb, he.1, he.2, fun j j1 j2 j3 => hd j j1 ?_ j3⟩
            have hP := (hG g he.1.1 he.1.2).1.2
            grind
        obtain ⟨b1, hB1, hB2⟩ := hB
        exact px_go (l_isFlow113 hg g y k hG hT b1 hB2 (fun r hr => hq r (by rcases hr with hr | ⟨hr, hc⟩; exact Or.inl hr; exact Or.inr ⟨hr, (hB2.resolve_left (by rw [hc]; decide)).2⟩)) 1 (by decide) (by decide) b (by rcases hB2 with h | h; exact Or.inl (hB1.trans h); exact Or.inr ⟨hB1.trans h.1, h.1⟩)) ⟨rfl, rfl, rfl, rfl, rfl, rfl, trivial⟩
      · have hk := mK3 g1 g2 h0 (by grind) hG1.2
        refine px_lt rfl q_X12_isFlow_82 hg rfl ⟨trivial, (by with_reducible assumption)⟩ (fun c94 => ?_) (fun c94 => ?_)
        · refine px_b rfl q_X12_isFlow_101 hg rfl trivial ?_
          first
            | exact px_go (ih (i + 1) (by grind) (by grind) (by grind) 1 (Or.inr ⟨rfl, hb2.1, hb2.2.up c94 (by grind)⟩)) ⟨rfl, rfl, rfl, rfl, rfl, rfl, trivial⟩
            | exact px_go (ih (i + 1) (by grind) (by grind) (by grind) 0 (Or.inl rfl)) ⟨rfl, rfl, rfl, rfl, rfl, rfl, trivial⟩
        · refine px_b rfl q_X12_isFlow_97 hg rfl trivial ?_
          first
            | exact px_go (ih (i + 1) (by grind) (by grind) (by grind) 1 (Or.inr ⟨rfl, hb2.1, hb2.2.up c94 (by grind)⟩)) ⟨rfl, rfl, rfl, rfl, rfl, rfl, trivial⟩
            | exact px_go (ih (i + 1) (by grind) (by grind) (by grind) 0 (Or.inl rfl)) ⟨rfl, rfl, rfl, rfl, rfl, rfl, trivial⟩

theorem q_X12_isFlow_0 : px_bk 12 7 cX12_isFlow 0 [(.iload_n 1, (0, 0, 0, 0, 0), 0, 0), (.i2l, (0, 0, 0, 0, 0), 0, 0), (.lconst 0, (0, 0, 0, 0, 0), 0, 0), (.lconst 1, (0, 0, 0, 0, 0), 0, 1)] = some 4 ∧ px_tS cX12_isFlow 4 167 = true := by decide +kernel
theorem q_X12_isFlow_7 : px_bk 12 7 cX12_isFlow 7 [] = some 7 ∧ px_t1 cX12_isFlow 7 .eq 53 = true := by decide +kernel
theorem q_X12_isFlow_53 : px_bk 12 7 cX12_isFlow 53 [(.iconst 0, (0, 0, 0, 0, 0), 0, 0), (.istore 4, (0, 0, 0, 0, 0), 0, 0), (.iconst 0, (0, 0, 0, 0, 0), 0, 0), (.istore 5, (0, 0, 0, 0, 0), 0, 0)] = some 59 := by decide +kernel
theorem q_X12_isFlow_10 : px_bk 12 7 cX12_isFlow 10 [(.aload_n 0, (0, 0, 0, 0, 0), 0, 0), (.getfield 32, (12, 9, 3, 110, 0), 0, 0), (.iload_n 1, (0, 0, 0, 0, 0), 0, 0), (.iaload, (0, 0, 0, 0, 0), 0, 0), (.iconst 1, (0, 0, 0, 0, 0), 1, 0)] = some 17 ∧ px_t2 cX12_isFlow 17 .le 53 = true := by decide +kernel
theorem q_X12_isFlow_20 : px_bk 12 7 cX12_isFlow 20 [(.iload_n 2, (0, 0, 0, 0, 0), 0, 0), (.i2l, (0, 0, 0, 0, 0), 0, 0), (.lconst 0, (0, 0, 0, 0, 0), 0, 0), (.ldc2_w 231, (0, 0, 0, 0, 0), 0, 5000)] = some 26 ∧ px_tS cX12_isFlow 26 167 = true := by decide +kernel
theorem q_X12_isFlow_29 : px_bk 12 7 cX12_isFlow 29 [] = some 29 ∧ px_t1 cX12_isFlow 29 .eq 53 = true := by decide +kernel
theorem q_X12_isFlow_32 : px_bk 12 7 cX12_isFlow 32 [(.iload_n 3, (0, 0, 0, 0, 0), 0, 0)] = some 33 ∧ px_tS cX12_isFlow 33 211 = true := by decide +kernel
theorem q_X12_isFlow_36 : px_bk 12 7 cX12_isFlow 36 [] = some 36 ∧ px_t1 cX12_isFlow 36 .eq 53 = true := by decide +kernel
theorem q_X12_isFlow_39 : px_bk 12 7 cX12_isFlow 39 [(.aload_n 0, (0, 0, 0, 0, 0), 0, 0), (.iconst 2, (0, 0, 0, 0, 0), 2, 0), (.iload_n 3, (0, 0, 0, 0, 0), 0, 0), (.iconst (-1), (0, 0, 0, 0, 0), -1, 0)] = some 43 ∧ px_tv cX12_isFlow 43 214 = true := by decide +kernel
theorem q_X12_isFlow_46 : px_bk 12 7 cX12_isFlow 46 [] = some 46 ∧ px_t1 cX12_isFlow 46 .eq 53 = true := by decide +kernel
theorem q_X12_isFlow_49 : px_bk 12 7 cX12_isFlow 49 [(.iconst 1, (0, 0, 0, 0, 0), 1, 0), (.goto 4, (0, 0, 0, 0, 0), 0, 0), (.istore 4, (0, 0, 0, 0, 0), 0, 0), (.iconst 0, (0, 0, 0, 0, 0), 0, 0), (.istore 5, (0, 0, 0, 0, 0), 0, 0)] = some 59 := by decide +kernel
set_option maxRecDepth 100000 in
theorem k_isFlow {n : Nat} {I : px_I} {L : px_L} {R : px_R} (hg : px_G n R) (g y k : Int32) (hS : mS I) (hG : mG I) (hT : mT I) : px_KS M_X12_isFlow [.ref 103, .int g, .int y, .int k] n I L R (fun r I2 L2 => (r = 0 ∨ (r = 1 ∧ (0 ≤ g ∧ g ≤ 1) ∧ 1 < I 110 g.toNatClampNeg ∧ mPS I g (I 110 g.toNatClampNeg) 20)) ∧ (I2 = I ∨ I2 = px_u I 103 70 (I 103 1)) ∧ mDL L L2) := by
  refine px_of (plainFor_of_name np_RX12) (fun _ _ _ => trivial) rfl ?_
  refine px_cSP rfl q_X12_isFlow_0 hg rfl trivial lk_12_167 nm_X12_in (k_inI hg _ (0) (1) (by decide) (by decide)) rfl rfl rfl ⟨rfl, rfl⟩ ?_
  intro x4 h4
  refine px_eq rfl q_X12_isFlow_7 hg rfl trivial (fun c7 => ?_) (fun c7 => ?_)
  · replace h4 := px_bf h4 c7
    refine px_b rfl q_X12_isFlow_53 hg rfl trivial ?_
    first
      | exact px_go (l_isFlow59 hg g y k hG hT 0 (Or.inl rfl) (fun r hr => ⟨rfl, rfl, r, rfl, hr, Or.inl rfl, fun _ _ => rfl⟩) 0 (by decide) (by decide) 0 (Or.inl rfl)) ⟨rfl, rfl, rfl, rfl, rfl, rfl, trivial⟩
      | exact px_go (l_isFlow59 hg g y k hG9 hT9 0 (Or.inl rfl) (fun r hr => ⟨rfl, rfl, r, rfl, by unfold mPS at *; simpa [px_ur] using hr, Or.inr rfl, by assumption⟩) 0 (by decide) (by decide) 0 (Or.inl rfl)) ⟨rfl, rfl, rfl, rfl, rfl, rfl, trivial⟩
      | exact px_go (l_isFlow59 hg g y k hG9 hT9 1 (Or.inr ⟨rfl, h4, by simp [px_ur]; grind⟩) (fun r hr => ⟨rfl, rfl, r, rfl, by unfold mPS at *; simpa [px_ur] using hr, Or.inr rfl, by assumption⟩) 0 (by decide) (by decide) 1 (Or.inr ⟨rfl, rfl, fun j j1 j2 _ => by grind⟩)) ⟨rfl, rfl, rfl, rfl, rfl, rfl, trivial⟩
  · replace h4 := px_bt h4 c7
    refine px_ile rfl q_X12_isFlow_10 hg rfl ⟨trivial, (by first | decide | (refine ⟨?_, ?_⟩ <;> grind) | grind)⟩ (fun c17 => ?_) (fun c17 => ?_)
    · refine px_b rfl q_X12_isFlow_53 hg rfl trivial ?_
      first
        | exact px_go (l_isFlow59 hg g y k hG hT 0 (Or.inl rfl) (fun r hr => ⟨rfl, rfl, r, rfl, hr, Or.inl rfl, fun _ _ => rfl⟩) 0 (by decide) (by decide) 0 (Or.inl rfl)) ⟨rfl, rfl, rfl, rfl, rfl, rfl, trivial⟩
        | exact px_go (l_isFlow59 hg g y k hG9 hT9 0 (Or.inl rfl) (fun r hr => ⟨rfl, rfl, r, rfl, by unfold mPS at *; simpa [px_ur] using hr, Or.inr rfl, by assumption⟩) 0 (by decide) (by decide) 0 (Or.inl rfl)) ⟨rfl, rfl, rfl, rfl, rfl, rfl, trivial⟩
        | exact px_go (l_isFlow59 hg g y k hG9 hT9 1 (Or.inr ⟨rfl, h4, by simp [px_ur]; grind⟩) (fun r hr => ⟨rfl, rfl, r, rfl, by unfold mPS at *; simpa [px_ur] using hr, Or.inr rfl, by assumption⟩) 0 (by decide) (by decide) 1 (Or.inr ⟨rfl, rfl, fun j j1 j2 _ => by grind⟩)) ⟨rfl, rfl, rfl, rfl, rfl, rfl, trivial⟩
    · refine px_cSP rfl q_X12_isFlow_20 hg rfl trivial lk_12_167 nm_X12_in (k_inI hg _ (0) (5000) (by decide) (by decide)) rfl rfl rfl ⟨rfl, rfl⟩ ?_
      intro x26 h26
      refine px_eq rfl q_X12_isFlow_29 hg rfl trivial (fun c29 => ?_) (fun c29 => ?_)
      · replace h26 := px_bf h26 c29
        refine px_b rfl q_X12_isFlow_53 hg rfl trivial ?_
        first
          | exact px_go (l_isFlow59 hg g y k hG hT 0 (Or.inl rfl) (fun r hr => ⟨rfl, rfl, r, rfl, hr, Or.inl rfl, fun _ _ => rfl⟩) 0 (by decide) (by decide) 0 (Or.inl rfl)) ⟨rfl, rfl, rfl, rfl, rfl, rfl, trivial⟩
          | exact px_go (l_isFlow59 hg g y k hG9 hT9 0 (Or.inl rfl) (fun r hr => ⟨rfl, rfl, r, rfl, by unfold mPS at *; simpa [px_ur] using hr, Or.inr rfl, by assumption⟩) 0 (by decide) (by decide) 0 (Or.inl rfl)) ⟨rfl, rfl, rfl, rfl, rfl, rfl, trivial⟩
          | exact px_go (l_isFlow59 hg g y k hG9 hT9 1 (Or.inr ⟨rfl, h4, by simp [px_ur]; grind⟩) (fun r hr => ⟨rfl, rfl, r, rfl, by unfold mPS at *; simpa [px_ur] using hr, Or.inr rfl, by assumption⟩) 0 (by decide) (by decide) 1 (Or.inr ⟨rfl, rfl, fun j j1 j2 _ => by grind⟩)) ⟨rfl, rfl, rfl, rfl, rfl, rfl, trivial⟩
      · replace h26 := px_bt h26 c29
        refine px_cSP rfl q_X12_isFlow_32 hg rfl trivial lk_12_211 nm_X12_isKnown (k_isKnown hg _) rfl rfl rfl ⟨rfl, rfl⟩ ?_
        intro x33 h33
        refine px_eq rfl q_X12_isFlow_36 hg rfl trivial (fun c36 => ?_) (fun c36 => ?_)
        · replace h33 := px_bf h33 c36
          refine px_b rfl q_X12_isFlow_53 hg rfl trivial ?_
          first
            | exact px_go (l_isFlow59 hg g y k hG hT 0 (Or.inl rfl) (fun r hr => ⟨rfl, rfl, r, rfl, hr, Or.inl rfl, fun _ _ => rfl⟩) 0 (by decide) (by decide) 0 (Or.inl rfl)) ⟨rfl, rfl, rfl, rfl, rfl, rfl, trivial⟩
            | exact px_go (l_isFlow59 hg g y k hG9 hT9 0 (Or.inl rfl) (fun r hr => ⟨rfl, rfl, r, rfl, by unfold mPS at *; simpa [px_ur] using hr, Or.inr rfl, by assumption⟩) 0 (by decide) (by decide) 0 (Or.inl rfl)) ⟨rfl, rfl, rfl, rfl, rfl, rfl, trivial⟩
            | exact px_go (l_isFlow59 hg g y k hG9 hT9 1 (Or.inr ⟨rfl, h4, by simp [px_ur]; grind⟩) (fun r hr => ⟨rfl, rfl, r, rfl, by unfold mPS at *; simpa [px_ur] using hr, Or.inr rfl, by assumption⟩) 0 (by decide) (by decide) 1 (Or.inr ⟨rfl, rfl, fun j j1 j2 _ => by grind⟩)) ⟨rfl, rfl, rfl, rfl, rfl, rfl, trivial⟩
        · replace h33 := px_bt h33 c36
          refine px_cVS (ci := 12) rfl q_X12_isFlow_39 hg rfl trivial lk_12_214 nm_X12_isClosed (k_isClosed hg _ _ _ ‹_›) rfl rfl (px_lit hg rfl) rfl rfl rfl ⟨rfl, rfl⟩ ?_
          intro x43 I43 L43 h43
          obtain ⟨hr, rfl, h43⟩ := h43
          have hG9 : mG (px_u I 103 70 (I 103 1)) := by unfold mG at *; simpa [px_ur] using hG
          have hT9 : mT (px_u I 103 70 (I 103 1)) := by unfold mT at *; simpa [px_ur] using hT
          refine px_eq rfl q_X12_isFlow_46 hg rfl trivial (fun c46 => ?_) (fun c46 => ?_)
          · refine px_b rfl q_X12_isFlow_53 hg rfl trivial ?_
            first
              | exact px_go (l_isFlow59 hg g y k hG hT 0 (Or.inl rfl) (fun r hr => ⟨rfl, rfl, r, rfl, hr, Or.inl rfl, fun _ _ => rfl⟩) 0 (by decide) (by decide) 0 (Or.inl rfl)) ⟨rfl, rfl, rfl, rfl, rfl, rfl, trivial⟩
              | exact px_go (l_isFlow59 hg g y k hG9 hT9 0 (Or.inl rfl) (fun r hr => ⟨rfl, rfl, r, rfl, by unfold mPS at *; simpa [px_ur] using hr, Or.inr rfl, by assumption⟩) 0 (by decide) (by decide) 0 (Or.inl rfl)) ⟨rfl, rfl, rfl, rfl, rfl, rfl, trivial⟩
              | exact px_go (l_isFlow59 hg g y k hG9 hT9 1 (Or.inr ⟨rfl, h4, by simp [px_ur]; grind⟩) (fun r hr => ⟨rfl, rfl, r, rfl, by unfold mPS at *; simpa [px_ur] using hr, Or.inr rfl, by assumption⟩) 0 (by decide) (by decide) 1 (Or.inr ⟨rfl, rfl, fun j j1 j2 _ => by grind⟩)) ⟨rfl, rfl, rfl, rfl, rfl, rfl, trivial⟩
          · refine px_b rfl q_X12_isFlow_49 hg rfl trivial ?_
            first
              | exact px_go (l_isFlow59 hg g y k hG hT 0 (Or.inl rfl) (fun r hr => ⟨rfl, rfl, r, rfl, hr, Or.inl rfl, fun _ _ => rfl⟩) 0 (by decide) (by decide) 0 (Or.inl rfl)) ⟨rfl, rfl, rfl, rfl, rfl, rfl, trivial⟩
              | exact px_go (l_isFlow59 hg g y k hG9 hT9 0 (Or.inl rfl) (fun r hr => ⟨rfl, rfl, r, rfl, by unfold mPS at *; simpa [px_ur] using hr, Or.inr rfl, by assumption⟩) 0 (by decide) (by decide) 0 (Or.inl rfl)) ⟨rfl, rfl, rfl, rfl, rfl, rfl, trivial⟩
              | exact px_go (l_isFlow59 hg g y k hG9 hT9 1 (Or.inr ⟨rfl, h4, by simp [px_ur]; grind⟩) (fun r hr => ⟨rfl, rfl, r, rfl, by unfold mPS at *; simpa [px_ur] using hr, Or.inr rfl, by assumption⟩) 0 (by decide) (by decide) 1 (Or.inr ⟨rfl, rfl, fun j j1 j2 _ => by grind⟩)) ⟨rfl, rfl, rfl, rfl, rfl, rfl, trivial⟩

theorem q_X12_flow_0 : px_bk 12 5 cX12_flow 0 [(.aload_n 0, (0, 0, 0, 0, 0), 0, 0), (.iload_n 1, (0, 0, 0, 0, 0), 0, 0), (.iload_n 2, (0, 0, 0, 0, 0), 0, 0), (.iload_n 3, (0, 0, 0, 0, 0), 0, 0)] = some 4 ∧ px_tv cX12_flow 4 488 = true := by decide +kernel
theorem q_X12_flow_7 : px_bk 12 5 cX12_flow 7 [] = some 7 ∧ px_t1 cX12_flow 7 .ne 12 = true := by decide +kernel
theorem q_X12_flow_12 : px_bk 12 5 cX12_flow 12 [(.aload_n 0, (0, 0, 0, 0, 0), 0, 0), (.iload_n 1, (0, 0, 0, 0, 0), 0, 0), (.aload_n 0, (0, 0, 0, 0, 0), 0, 0), (.iload_n 1, (0, 0, 0, 0, 0), 0, 0), (.iload_n 2, (0, 0, 0, 0, 0), 0, 0), (.iload_n 3, (0, 0, 0, 0, 0), 0, 0), (.iload 4, (0, 0, 0, 0, 0), 0, 0)] = some 20 ∧ px_tv cX12_flow 20 491 = true := by decide +kernel
theorem q_X12_flow_23 : px_bk 12 5 cX12_flow 23 [(.iload_n 2, (0, 0, 0, 0, 0), 0, 0), (.iload_n 3, (0, 0, 0, 0, 0), 0, 0), (.iload 4, (0, 0, 0, 0, 0), 0, 0)] = some 27 ∧ px_tv cX12_flow 27 485 = true := by decide +kernel
theorem q_X12_flow_30 : px_bk 12 5 cX12_flow 30 [] = some 30 ∧ px_tr cX12_flow 30 .ireturn = true := by decide +kernel
theorem q_X12_flow_10 : px_bk 12 5 cX12_flow 10 [(.iconst (-1), (0, 0, 0, 0, 0), -1, 0)] = some 11 ∧ px_tr cX12_flow 11 .ireturn = true := by decide +kernel
set_option maxRecDepth 100000 in
theorem k_flow {n : Nat} {I : px_I} {L : px_L} {R : px_R} (hg : px_G n R) (g y k h : Int32) (hS : mS I) (hG : mG I) (hT : mT I) (hr : 0 ≤ I 103 63 ∧ I 103 63 ≤ 30) : px_KS M_X12_flow [.ref 103, .int g, .int y, .int k, .int h] n I L R (fun r I2 L2 => mDI I I2 ∧ mDL L L2) := by
  refine px_of (plainFor_of_name np_RX12) (fun _ _ _ => trivial) rfl ?_
  refine px_cVS (ci := 12) rfl q_X12_flow_0 hg rfl trivial lk_12_488 nm_X12_isFlow (k_isFlow hg _ _ _ ‹_› ‹_› ‹_›) rfl rfl (px_lit hg rfl) rfl rfl rfl ⟨rfl, rfl⟩ ?_
  intro x4 I4 L4 h4
  obtain ⟨hr9, hi, h4⟩ := h4
  have hc : mG I4 ∧ mT I4 ∧ (0 ≤ I4 103 63 ∧ I4 103 63 ≤ 30) ∧ I4 110 = I 110 ∧ I4 116 = I 116 := by
    rcases hi with rfl | rfl
    · exact ⟨hG, hT, hr, rfl, rfl⟩
    · exact ⟨by unfold mG at *; simpa [px_ur] using hG, by unfold mT at *; simpa [px_ur] using hT, by simpa [px_ur] using hr, by funext j; simp [px_ur], by funext j; simp [px_ur]⟩
  obtain ⟨hG9, hT9, hr8, e110, e116⟩ := hc
  refine px_ne rfl q_X12_flow_7 hg rfl trivial (fun c7 => ?_) (fun c7 => ?_)
  · have hz : (0 ≤ g ∧ g ≤ 1) ∧ 1 < I 110 g.toNatClampNeg ∧ mPS I g (I 110 g.toNatClampNeg) 20 := by rcases hr9 with h | h; exact absurd h (by assumption); exact h.2
    obtain ⟨hz1, hz2, hz3⟩ := hz
    have hP := (hG g hz1.1 hz1.2).1.2
    rw [← e110] at hz2 hP
    have hF := mF_of (I := I4) hz1 hP (by unfold mPS at *; rw [e110, e116]; exact hz3)
    refine px_cVP (ci := 12) rfl q_X12_flow_12 hg rfl trivial lk_12_491 nm_X12_narrowest (k_narrowest hg _ _ _ _ hr8 hG9 hT9 hz1 hz2 hF) rfl rfl (px_lit hg rfl) rfl rfl rfl ⟨rfl, rfl⟩ ?_
    intro x20 h20
    refine px_cVP (ci := 12) rfl q_X12_flow_23 hg rfl trivial lk_12_485 nm_X12_letsBy (k_letsBy hg _ _ _ _ _ hr8 hG9 hT9 (hF _ (by grind) (by grind))) rfl rfl (px_lit hg rfl) rfl rfl rfl ⟨rfl, rfl⟩ ?_
    intro x27 h27
    refine px_riS rfl q_X12_flow_30 rfl rfl rfl hg rfl trivial ⟨⟨rfl, rfl⟩, ?_⟩
    first | exact ⟨fun _ _ _ => rfl, fun _ _ => rfl⟩ | exact ⟨fun b j h => by rcases hi with hi | hi <;> rw [hi]; simp [px_ur]; grind, by assumption⟩
  · refine px_riS rfl q_X12_flow_10 rfl rfl rfl hg rfl trivial ⟨⟨rfl, rfl⟩, ?_⟩
    first | exact ⟨fun _ _ _ => rfl, fun _ _ => rfl⟩ | exact ⟨fun b j h => by rcases hi with hi | hi <;> rw [hi]; simp [px_ur]; grind, by assumption⟩

theorem q_X12_narrow_0 : px_bk 12 4 cX12_narrow 0 [(.aload_n 0, (0, 0, 0, 0, 0), 0, 0), (.iload_n 1, (0, 0, 0, 0, 0), 0, 0), (.iload_n 2, (0, 0, 0, 0, 0), 0, 0), (.iload_n 3, (0, 0, 0, 0, 0), 0, 0)] = some 4 ∧ px_tv cX12_narrow 4 488 = true := by decide +kernel
theorem q_X12_narrow_7 : px_bk 12 4 cX12_narrow 7 [] = some 7 ∧ px_t1 cX12_narrow 7 .eq 21 = true := by decide +kernel
theorem q_X12_narrow_21 : px_bk 12 4 cX12_narrow 21 [(.iconst (-1), (0, 0, 0, 0, 0), -1, 0)] = some 22 ∧ px_tr cX12_narrow 22 .ireturn = true := by decide +kernel
theorem q_X12_narrow_10 : px_bk 12 4 cX12_narrow 10 [(.aload_n 0, (0, 0, 0, 0, 0), 0, 0), (.iload_n 1, (0, 0, 0, 0, 0), 0, 0), (.iload_n 2, (0, 0, 0, 0, 0), 0, 0), (.iload_n 3, (0, 0, 0, 0, 0), 0, 0), (.iconst 0, (0, 0, 0, 0, 0), 0, 0)] = some 15 ∧ px_tv cX12_narrow 15 491 = true := by decide +kernel
theorem q_X12_narrow_18 : px_bk 12 4 cX12_narrow 18 [(.goto 4, (0, 0, 0, 0, 0), 0, 0)] = some 22 ∧ px_tr cX12_narrow 22 .ireturn = true := by decide +kernel
set_option maxRecDepth 100000 in
theorem k_narrow {n : Nat} {I : px_I} {L : px_L} {R : px_R} (hg : px_G n R) (g y k : Int32) (hS : mS I) (hG : mG I) (hT : mT I) (hr : 0 ≤ I 103 63 ∧ I 103 63 ≤ 30) : px_KS M_X12_narrow [.ref 103, .int g, .int y, .int k] n I L R (fun r I2 L2 => mDI I I2 ∧ mDL L L2) := by
  refine px_of (plainFor_of_name np_RX12) (fun _ _ _ => trivial) rfl ?_
  refine px_cVS (ci := 12) rfl q_X12_narrow_0 hg rfl trivial lk_12_488 nm_X12_isFlow (k_isFlow hg _ _ _ ‹_› ‹_› ‹_›) rfl rfl (px_lit hg rfl) rfl rfl rfl ⟨rfl, rfl⟩ ?_
  intro x4 I4 L4 h4
  obtain ⟨hr9, hi, h4⟩ := h4
  have hc : mG I4 ∧ mT I4 ∧ (0 ≤ I4 103 63 ∧ I4 103 63 ≤ 30) ∧ I4 110 = I 110 ∧ I4 116 = I 116 := by
    rcases hi with rfl | rfl
    · exact ⟨hG, hT, hr, rfl, rfl⟩
    · exact ⟨by unfold mG at *; simpa [px_ur] using hG, by unfold mT at *; simpa [px_ur] using hT, by simpa [px_ur] using hr, by funext j; simp [px_ur], by funext j; simp [px_ur]⟩
  obtain ⟨hG9, hT9, hr8, e110, e116⟩ := hc
  refine px_eq rfl q_X12_narrow_7 hg rfl trivial (fun c7 => ?_) (fun c7 => ?_)
  · refine px_riS rfl q_X12_narrow_21 rfl rfl rfl hg rfl trivial ⟨⟨rfl, rfl⟩, ?_⟩
    first | exact ⟨fun _ _ _ => rfl, fun _ _ => rfl⟩ | exact ⟨fun b j h => by rcases hi with hi | hi <;> rw [hi]; simp [px_ur]; grind, by assumption⟩
  · have hz : (0 ≤ g ∧ g ≤ 1) ∧ 1 < I 110 g.toNatClampNeg ∧ mPS I g (I 110 g.toNatClampNeg) 20 := by rcases hr9 with h | h; exact absurd h (by assumption); exact h.2
    obtain ⟨hz1, hz2, hz3⟩ := hz
    have hP := (hG g hz1.1 hz1.2).1.2
    rw [← e110] at hz2 hP
    have hF := mF_of (I := I4) hz1 hP (by unfold mPS at *; rw [e110, e116]; exact hz3)
    refine px_cVP (ci := 12) rfl q_X12_narrow_10 hg rfl trivial lk_12_491 nm_X12_narrowest (k_narrowest hg _ _ _ _ hr8 hG9 hT9 hz1 hz2 hF) rfl rfl (px_lit hg rfl) rfl rfl rfl ⟨rfl, rfl⟩ ?_
    intro x15 h15
    refine px_riS rfl q_X12_narrow_18 rfl rfl rfl hg rfl trivial ⟨⟨rfl, rfl⟩, ?_⟩
    first | exact ⟨fun _ _ _ => rfl, fun _ _ => rfl⟩ | exact ⟨fun b j h => by rcases hi with hi | hi <;> rw [hi]; simp [px_ur]; grind, by assumption⟩
end
section
/-! the reference: two faces that seek each other -/
def mW (I : px_I) : Prop := (0 ≤ I 137 0 ∧ I 137 0 ≤ 9) ∧ (0 ≤ I 137 1 ∧ I 137 1 ≤ 9) ∧ (0 ≤ I 137 2 ∧ I 137 2 ≤ 9) ∧ I 137 0 + I 137 1 + I 137 2 ≠ 0 ∧ (0 ≤ I 103 59 ∧ I 103 59 ≤ 40) ∧ (0 ≤ I 103 60 ∧ I 103 60 ≤ 3) ∧ (0 ≤ I 103 61 ∧ I 103 61 ≤ 20)
theorem mNL.u5 {L L1 : px_L} (h : mNL L L1) (k : Nat) (v : Int64) : mNL L (px_u L1 145 k v) := fun b h5 h6 => by rw [px_u_ne h5]; exact h b h5 h6
theorem mNL.u6 {L L1 : px_L} (h : mNL L L1) (k : Nat) (v : Int64) : mNL L (px_u L1 146 k v) := fun b h5 h6 => by rw [px_u_ne h6]; exact h b h5 h6
theorem mNL.trans {L L1 L2 : px_L} (h : mNL L L1) (h2 : mNL L1 L2) : mNL L L2 := fun b h5 h6 => (h2 b h5 h6).trans (h b h5 h6)
theorem px_lr {a b : Int64} (hb : ¬ b = 0) : (a - a / b * b).toInt = a.toInt.tmod b.toInt := by
  have e : a - a / b * b = a % b := by
    apply Int64.toInt_inj.mp
    rw [Int64.toInt_mod, Int64.toInt_sub, Int64.toInt_mul, Int64.toInt_div, Int.sub_bmod_bmod, ← Int.sub_bmod_bmod, Int.bmod_mul_bmod, Int.sub_bmod_bmod]
    have h1 : a.toInt - a.toInt.tdiv b.toInt * b.toInt = a.toInt.tmod b.toInt := by
      have := Int.tmod_add_tdiv_mul a.toInt b.toInt
      omega
    rw [h1, ← Int64.toInt_mod, Int64.toInt_bmod]
  rw [e, Int64.toInt_mod]
theorem px_lr_lt {a b : Int64} (hb : ¬ b = 0) : (a - a / b * b).toInt.natAbs < b.toInt.natAbs := by
  rw [px_lr hb, Int.natAbs_tmod]
  refine Nat.mod_lt _ ?_
  have : ¬ b.toInt = 0 := fun h => hb (Int64.toInt_inj.mp (by rw [h]; rfl))
  omega
theorem px_gc {P : Int64 → Prop} (h : ∀ x, (∀ y : Int64, y.toInt.natAbs < x.toInt.natAbs → P y) → P x) : ∀ x, P x := by
  have key : ∀ (d : Nat) (x : Int64), x.toInt.natAbs < d → P x := by
    intro d
    induction d with
    | zero => intro x h1; omega
    | succ d ih => intro x h1; exact h x (fun y h2 => ih y (by omega))
  exact fun x => key _ x (Nat.lt_succ_self _)
def mAll (left : Int32) (all : Int64) : Prop := 1 ≤ all.toInt ∧ all.toInt ≤ 27 ^ (11 - left.toInt).toNat
theorem mAll_ne {left : Int32} {all : Int64} (h : mAll left all) : ¬ all = 0 := fun h2 => by rw [h2] at h; exact absurd h.1 (by decide)
theorem mAll_0 {left : Int32} : mAll left 1 := ⟨by decide, by
  rw [show (1 : Int64).toInt = 1 by decide]
  exact Int.pow_pos (by decide)⟩
theorem mAll_s {left : Int32} {all : Int64} {s : Int32} (h1 : 0 ≤ left) (h2 : left ≤ 11) (hs1 : 1 ≤ s) (hs2 : s ≤ 27) (h : mAll left all) : mAll (left + -1) (all * s.toInt64) := by
  obtain ⟨h3, h4⟩ := h
  have a1 := Int32.le_iff_toInt_le.mp h1
  have a2 := Int32.le_iff_toInt_le.mp h2
  have a3 := Int32.le_iff_toInt_le.mp hs1
  have a4 := Int32.le_iff_toInt_le.mp hs2
  simp at a1 a2 a3 a4
  have e1 : (left + -1).toInt = left.toInt - 1 := by
    rw [Int32.toInt_add]
    show (left.toInt + -1).bmod (2 ^ 32) = _
    rw [Int.bmod_eq_of_le (by omega) (by omega)]
    omega
  have h5 : all.toInt * s.toInt ≤ 27 ^ (11 - left.toInt).toNat * 27 := Int.mul_le_mul h4 (by omega) (by omega) (by omega)
  have h6 : (11 - (left + -1).toInt).toNat = (11 - left.toInt).toNat + 1 := by rw [e1]; omega
  have h7 : (27 : Int) ^ ((11 - left.toInt).toNat + 1) ≤ 27 ^ 12 := by
    have : (11 - left.toInt).toNat + 1 ≤ 12 := by omega
    exact_mod_cast Nat.pow_le_pow_right (by decide : 27 > 0) this
  have h8 : 1 ≤ all.toInt * s.toInt := by
    have := Int.mul_le_mul h3 a3 (by decide) (by omega)
    omega
  have e2 : (all * s.toInt64).toInt = all.toInt * s.toInt := by
    rw [Int64.toInt_mul, Int32.toInt_toInt64]
    rw [Int.pow_succ] at h7
    refine Int.bmod_eq_of_le ?_ ?_
    · omega
    · have : (27 : Int) ^ 12 < 2 ^ 63 := by decide
      omega
  exact ⟨by rw [e2]; exact h8, by rw [e2, h6, Int.pow_succ]; exact h5⟩
theorem mW_s {I : px_I} (h : mW I) : 1 ≤ I 137 0 + I 137 1 + I 137 2 ∧ I 137 0 + I 137 1 + I 137 2 ≤ 27 := by
  unfold mW at h
  grind

theorem q_X12_chance_326 : px_bk 12 14 cX12_chance 326 [(.lload 8, (0, 0, 0, 0, 0), 0, 0), (.lconst 0, (0, 0, 0, 0, 0), 0, 0), (.lcmp, (0, 0, 0, 0, 0), 0, 0)] = some 330 ∧ px_t1 cX12_chance 330 .eq 351 = true := by decide +kernel
theorem q_X12_chance_351 : px_bk 12 14 cX12_chance 351 [(.iload_n 3, (0, 0, 0, 0, 0), 0, 0)] = some 352 ∧ px_t1 cX12_chance 352 .eq 363 = true := by decide +kernel
theorem q_X12_chance_363 : px_bk 12 14 cX12_chance 363 [(.lload 6, (0, 0, 0, 0, 0), 0, 0), (.lload 10, (0, 0, 0, 0, 0), 0, 0), (.ldiv, (0, 0, 0, 0, 0), 0, 0)] = some 368 ∧ px_tr cX12_chance 368 .lreturn = true := by decide +kernel
theorem q_X12_chance_355 : px_bk 12 14 cX12_chance 355 [(.lload 4, (0, 0, 0, 0, 0), 0, 0), (.lload 10, (0, 0, 0, 0, 0), 0, 0), (.ldiv, (0, 0, 0, 0, 0), 0, 0), (.goto 8, (0, 0, 0, 0, 0), 0, 0)] = some 368 ∧ px_tr cX12_chance 368 .lreturn = true := by decide +kernel
theorem q_X12_chance_333 : px_bk 12 14 cX12_chance 333 [(.lload 10, (0, 0, 0, 0, 0), 0, 0), (.lload 8, (0, 0, 0, 0, 0), 0, 0), (.lrem, (0, 0, 0, 0, 0), 0, 0), (.lstore 12, (0, 0, 0, 0, 0), 0, 0), (.lload 8, (0, 0, 0, 0, 0), 0, 0), (.lstore 10, (0, 0, 0, 0, 0), 0, 0), (.lload 12, (0, 0, 0, 0, 0), 0, 0), (.lstore 8, (0, 0, 0, 0, 0), 0, 0), (.goto (-22), (0, 0, 0, 0, 0), 0, 0)] = some 326 := by decide +kernel
set_option maxRecDepth 100000 in
theorem l_chance326 {n : Nat} {R : px_R} (hg : px_G n R) {Q : px_Q} (a o lo : Int32) (m all : Int64) {I : px_I} {L : px_L} (hq : ∀ r, Q (some (.long r)) n I L R) : ∀ x y : Int64, ¬ y = 0 → px M_X12_chance 0 0 326 [(0, .ref 103), (1, .int a), (2, .int o), (3, .int lo), (4, .long all), (6, .long m), (8, .long x), (10, .long y)] [] n I L R Q := by
  refine px_gc (fun x ih => ?_)
  intro y hy
  refine px_leq rfl q_X12_chance_326 hg rfl trivial (fun c330 => ?_) (fun c330 => ?_)
  · refine px_eq rfl q_X12_chance_351 hg rfl trivial (fun c352 => ?_) (fun c352 => ?_)
    · refine px_rl rfl q_X12_chance_363 rfl rfl rfl hg rfl ⟨trivial, (by assumption)⟩ ?_
      exact hq _
    · refine px_rl rfl q_X12_chance_355 rfl rfl rfl hg rfl ⟨trivial, (by assumption)⟩ ?_
      exact hq _
  · refine px_b rfl q_X12_chance_333 hg rfl ⟨trivial, (by assumption)⟩ ?_
    exact px_go (ih _ (px_lr_lt (by assumption)) _ (by assumption)) ⟨rfl, rfl, rfl, rfl, rfl, rfl, rfl, rfl, trivial⟩

theorem q_X12_chance_265 : px_bk 12 14 cX12_chance 265 [(.iload 8, (0, 0, 0, 0, 0), 0, 0), (.sipush 129, (0, 0, 0, 0, 0), 129, 0)] = some 270 ∧ px_t2 cX12_chance 270 .ge 318 = true := by decide +kernel
theorem q_X12_chance_318 : px_bk 12 14 cX12_chance 318 [(.lload 6, (0, 0, 0, 0, 0), 0, 0), (.lstore 8, (0, 0, 0, 0, 0), 0, 0), (.lload 4, (0, 0, 0, 0, 0), 0, 0), (.lstore 10, (0, 0, 0, 0, 0), 0, 0)] = some 326 := by decide +kernel
theorem q_X12_chance_273 : px_bk 12 14 cX12_chance 273 [(.lload 6, (0, 0, 0, 0, 0), 0, 0), (.iload 8, (0, 0, 0, 0, 0), 0, 0), (.bipush 64, (0, 0, 0, 0, 0), 64, 0), (.isub, (0, 0, 0, 0, 0), 0, 0), (.i2l, (0, 0, 0, 0, 0), 0, 0), (.aload_n 0, (0, 0, 0, 0, 0), 0, 0), (.getfield 456, (12, 61, 0, 0, 0), 0, 0), (.ineg, (0, 0, 0, 0, 0), 0, 0), (.i2l, (0, 0, 0, 0, 0), 0, 0), (.aload_n 0, (0, 0, 0, 0, 0), 0, 0), (.getfield 456, (12, 61, 0, 0, 0), 0, 0), (.i2l, (0, 0, 0, 0, 0), 0, 0)] = some 292 ∧ px_tS cX12_chance 292 167 = true := by decide +kernel
theorem q_X12_chance_295 : px_bk 12 14 cX12_chance 295 [] = some 295 ∧ px_t1 cX12_chance 295 .eq 302 = true := by decide +kernel
theorem q_X12_chance_302 : px_bk 12 14 cX12_chance 302 [(.aload_n 0, (0, 0, 0, 0, 0), 0, 0), (.getfield 161, (12, 75, 3, 145, 0), 0, 0), (.iload 8, (0, 0, 0, 0, 0), 0, 0), (.laload, (0, 0, 0, 0, 0), 0, 0), (.ladd, (0, 0, 0, 0, 0), 0, 0), (.lstore 6, (0, 0, 0, 0, 0), 0, 0), (.iinc 8 1, (0, 0, 0, 0, 0), 1, 0), (.goto (-50), (0, 0, 0, 0, 0), 0, 0)] = some 265 := by decide +kernel
theorem q_X12_chance_298 : px_bk 12 14 cX12_chance 298 [(.lconst 0, (0, 0, 0, 0, 0), 0, 0), (.goto 10, (0, 0, 0, 0, 0), 0, 0), (.ladd, (0, 0, 0, 0, 0), 0, 0), (.lstore 6, (0, 0, 0, 0, 0), 0, 0), (.iinc 8 1, (0, 0, 0, 0, 0), 1, 0), (.goto (-50), (0, 0, 0, 0, 0), 0, 0)] = some 265 := by decide +kernel
set_option maxRecDepth 100000 in
theorem l_chance265 {n : Nat} {R : px_R} (hg : px_G n R) {Q : px_Q} (a o lo : Int32) (all : Int64) (ha : ¬ all = 0) {I : px_I} {L : px_L} (hq : ∀ r, Q (some (.long r)) n I L R) : ∀ k : Int32, k ≤ 129 → 0 ≤ k → ∀ m : Int64, px M_X12_chance 0 0 265 [(0, .ref 103), (1, .int a), (2, .int o), (3, .int lo), (4, .long all), (6, .long m), (8, .int k)] [] n I L R Q := by
  refine px_up 129 (fun k ih hk => ?_)
  intro h0 m
  refine px_ige rfl q_X12_chance_265 hg rfl trivial (fun c270 => ?_) (fun c270 => ?_)
  · refine px_b rfl q_X12_chance_318 hg rfl trivial ?_
    exact px_go (l_chance326 hg a o lo m all hq m all ha) ⟨rfl, rfl, rfl, rfl, rfl, rfl, rfl, rfl, trivial⟩
  · refine px_cSP rfl q_X12_chance_273 hg rfl trivial lk_12_167 nm_X12_in (k_inI hg _ _ _ rfl rfl) rfl rfl rfl ⟨rfl, rfl⟩ ?_
    intro x292 h292
    refine px_eq rfl q_X12_chance_295 hg rfl trivial (fun c295 => ?_) (fun c295 => ?_)
    · replace h292 := px_bf h292 c295
      refine px_b rfl q_X12_chance_302 hg rfl ⟨trivial, (by first | decide | (refine ⟨?_, ?_⟩ <;> grind) | grind)⟩ ?_
      exact px_go (ih (k + 1) (by grind) (by grind) (by grind) _) ⟨rfl, rfl, rfl, rfl, rfl, rfl, rfl, trivial⟩
    · replace h292 := px_bt h292 c295
      refine px_b rfl q_X12_chance_298 hg rfl trivial ?_
      exact px_go (ih (k + 1) (by grind) (by grind) (by grind) _) ⟨rfl, rfl, rfl, rfl, rfl, rfl, rfl, trivial⟩

theorem q_X12_chance_199 : px_bk 12 14 cX12_chance 199 [(.iload 7, (0, 0, 0, 0, 0), 0, 0), (.sipush 129, (0, 0, 0, 0, 0), 129, 0)] = some 204 ∧ px_t2 cX12_chance 204 .ge 227 = true := by decide +kernel
theorem q_X12_chance_227 : px_bk 12 14 cX12_chance 227 [(.lload 4, (0, 0, 0, 0, 0), 0, 0), (.aload_n 0, (0, 0, 0, 0, 0), 0, 0), (.getfield 137, (12, 58, 3, 137, 0), 0, 0), (.iconst 0, (0, 0, 0, 0, 0), 0, 0), (.iaload, (0, 0, 0, 0, 0), 0, 0), (.aload_n 0, (0, 0, 0, 0, 0), 0, 0), (.getfield 137, (12, 58, 3, 137, 0), 0, 0), (.iconst 1, (0, 0, 0, 0, 0), 1, 0), (.iaload, (0, 0, 0, 0, 0), 0, 0), (.iadd, (0, 0, 0, 0, 0), 0, 0), (.aload_n 0, (0, 0, 0, 0, 0), 0, 0), (.getfield 137, (12, 58, 3, 137, 0), 0, 0), (.iconst 2, (0, 0, 0, 0, 0), 2, 0), (.iaload, (0, 0, 0, 0, 0), 0, 0), (.iadd, (0, 0, 0, 0, 0), 0, 0), (.i2l, (0, 0, 0, 0, 0), 0, 0), (.lmul, (0, 0, 0, 0, 0), 0, 0), (.lstore 4, (0, 0, 0, 0, 0), 0, 0), (.iinc 6 (-1), (0, 0, 0, 0, 0), -1, 0), (.goto (-180), (0, 0, 0, 0, 0), 0, 0)] = some 76 := by decide +kernel
theorem q_X12_chance_207 : px_bk 12 14 cX12_chance 207 [(.aload_n 0, (0, 0, 0, 0, 0), 0, 0), (.getfield 161, (12, 75, 3, 145, 0), 0, 0), (.iload 7, (0, 0, 0, 0, 0), 0, 0), (.aload_n 0, (0, 0, 0, 0, 0), 0, 0), (.getfield 164, (12, 76, 3, 146, 0), 0, 0), (.iload 7, (0, 0, 0, 0, 0), 0, 0), (.laload, (0, 0, 0, 0, 0), 0, 0), (.lastore, (0, 0, 0, 0, 0), 0, 0), (.iinc 7 1, (0, 0, 0, 0, 0), 1, 0), (.goto (-25), (0, 0, 0, 0, 0), 0, 0)] = some 199 := by decide +kernel
set_option maxRecDepth 100000 in
theorem l_chance199 {n : Nat} {R : px_R} (hg : px_G n R) {Q : px_Q} (a o lo left : Int32) (all : Int64) {I : px_I} (L : px_L) (hq : ∀ L2, mNL L L2 → px M_X12_chance 0 0 76 [(0, .ref 103), (1, .int a), (2, .int o), (3, .int lo), (4, .long (all * (I 137 0 + I 137 1 + I 137 2).toInt64)), (6, .int (left + -1))] [] n I L2 R Q) : ∀ k : Int32, k ≤ 129 → 0 ≤ k → ∀ L1, mNL L L1 → px M_X12_chance 0 0 199 [(0, .ref 103), (1, .int a), (2, .int o), (3, .int lo), (4, .long all), (6, .int left), (7, .int k)] [] n I L1 R Q := by
  refine px_up 129 (fun k ih hk => ?_)
  intro h0 L1 h1
  refine px_ige rfl q_X12_chance_199 hg rfl trivial (fun c204 => ?_) (fun c204 => ?_)
  · refine px_b rfl q_X12_chance_227 hg rfl ⟨⟨⟨trivial, (by first | decide | (refine ⟨?_, ?_⟩ <;> grind) | grind)⟩, (by first | decide | (refine ⟨?_, ?_⟩ <;> grind) | grind)⟩, (by first | decide | (refine ⟨?_, ?_⟩ <;> grind) | grind)⟩ ?_
    exact px_go (hq _ h1) ⟨rfl, rfl, rfl, rfl, rfl, rfl, trivial⟩
  · refine px_b rfl q_X12_chance_207 hg rfl ⟨⟨trivial, (by first | decide | (refine ⟨?_, ?_⟩ <;> grind) | grind)⟩, (by first | decide | (refine ⟨?_, ?_⟩ <;> grind) | grind)⟩ ?_
    exact px_go (ih (k + 1) (by grind) (by grind) (by grind) _ (by first | exact h1 | exact h1.u5 _ _ | exact h1.u6 _ _)) ⟨rfl, rfl, rfl, rfl, rfl, rfl, rfl, trivial⟩

theorem q_X12_chance_120 : px_bk 12 14 cX12_chance 120 [(.iload 8, (0, 0, 0, 0, 0), 0, 0), (.iconst 3, (0, 0, 0, 0, 0), 3, 0)] = some 123 ∧ px_t2 cX12_chance 123 .ge 190 = true := by decide +kernel
theorem q_X12_chance_190 : px_bk 12 14 cX12_chance 190 [(.iinc 7 1, (0, 0, 0, 0, 0), 1, 0), (.goto (-84), (0, 0, 0, 0, 0), 0, 0)] = some 109 := by decide +kernel
theorem q_X12_chance_126 : px_bk 12 14 cX12_chance 126 [(.aload_n 0, (0, 0, 0, 0, 0), 0, 0), (.getfield 161, (12, 75, 3, 145, 0), 0, 0), (.iload 7, (0, 0, 0, 0, 0), 0, 0), (.laload, (0, 0, 0, 0, 0), 0, 0), (.lconst 0, (0, 0, 0, 0, 0), 0, 0), (.lcmp, (0, 0, 0, 0, 0), 0, 0)] = some 135 ∧ px_t1 cX12_chance 135 .le 190 = true := by decide +kernel
theorem q_X12_chance_138 : px_bk 12 14 cX12_chance 138 [(.aload_n 0, (0, 0, 0, 0, 0), 0, 0), (.iload 7, (0, 0, 0, 0, 0), 0, 0), (.bipush 64, (0, 0, 0, 0, 0), 64, 0), (.isub, (0, 0, 0, 0, 0), 0, 0), (.iload 8, (0, 0, 0, 0, 0), 0, 0), (.iconst 1, (0, 0, 0, 0, 0), 1, 0), (.isub, (0, 0, 0, 0, 0), 0, 0), (.iload 6, (0, 0, 0, 0, 0), 0, 0)] = some 150 ∧ px_tv cX12_chance 150 465 = true := by decide +kernel
theorem q_X12_chance_153 : px_bk 12 14 cX12_chance 153 [(.bipush 64, (0, 0, 0, 0, 0), 64, 0), (.iadd, (0, 0, 0, 0, 0), 0, 0), (.istore 9, (0, 0, 0, 0, 0), 0, 0), (.aload_n 0, (0, 0, 0, 0, 0), 0, 0), (.getfield 164, (12, 76, 3, 146, 0), 0, 0), (.iload 9, (0, 0, 0, 0, 0), 0, 0), (.dup2, (0, 0, 0, 0, 0), 0, 0), (.laload, (0, 0, 0, 0, 0), 0, 0), (.aload_n 0, (0, 0, 0, 0, 0), 0, 0), (.getfield 161, (12, 75, 3, 145, 0), 0, 0), (.iload 7, (0, 0, 0, 0, 0), 0, 0), (.laload, (0, 0, 0, 0, 0), 0, 0), (.aload_n 0, (0, 0, 0, 0, 0), 0, 0), (.getfield 137, (12, 58, 3, 137, 0), 0, 0), (.iload 8, (0, 0, 0, 0, 0), 0, 0), (.iaload, (0, 0, 0, 0, 0), 0, 0), (.i2l, (0, 0, 0, 0, 0), 0, 0), (.lmul, (0, 0, 0, 0, 0), 0, 0), (.ladd, (0, 0, 0, 0, 0), 0, 0), (.lastore, (0, 0, 0, 0, 0), 0, 0), (.iinc 8 1, (0, 0, 0, 0, 0), 1, 0), (.goto (-67), (0, 0, 0, 0, 0), 0, 0)] = some 120 := by decide +kernel
set_option maxRecDepth 100000 in
theorem l_chance120 {n : Nat} {R : px_R} (hg : px_G n R) {Q : px_Q} (a o lo left k : Int32) (hk : 1 ≤ k ∧ k < 128) (all : Int64) {I : px_I} (hp : 0 ≤ I 103 60) (L : px_L) (hq : ∀ L2, mNL L L2 → px M_X12_chance 0 0 109 [(0, .ref 103), (1, .int a), (2, .int o), (3, .int lo), (4, .long all), (6, .int left), (7, .int (k + 1))] [] n I L2 R Q) : ∀ d : Int32, d ≤ 3 → 0 ≤ d → ∀ L1, mNL L L1 → px M_X12_chance 0 0 120 [(0, .ref 103), (1, .int a), (2, .int o), (3, .int lo), (4, .long all), (6, .int left), (7, .int k), (8, .int d)] [] n I L1 R Q := by
  refine px_up 3 (fun d ih hd => ?_)
  intro h0 L1 h1
  refine px_ige rfl q_X12_chance_120 hg rfl trivial (fun c123 => ?_) (fun c123 => ?_)
  · refine px_b rfl q_X12_chance_190 hg rfl trivial ?_
    exact px_go (hq _ h1) ⟨rfl, rfl, rfl, rfl, rfl, rfl, rfl, trivial⟩
  · refine px_lle rfl q_X12_chance_126 hg rfl ⟨trivial, (by first | decide | (refine ⟨?_, ?_⟩ <;> grind) | grind)⟩ (fun c135 => ?_) (fun c135 => ?_)
    · refine px_b rfl q_X12_chance_190 hg rfl trivial ?_
      exact px_go (hq _ h1) ⟨rfl, rfl, rfl, rfl, rfl, rfl, rfl, trivial⟩
    · refine px_cVP (ci := 12) rfl q_X12_chance_138 hg rfl trivial lk_12_465 nm_X12_off (k_off hg _ _ _ (by grind) (by grind) (by grind)) rfl rfl (px_lit hg rfl) rfl rfl rfl ⟨rfl, rfl⟩ ?_
      intro x150 h150
      refine px_b rfl q_X12_chance_153 hg rfl ⟨⟨⟨⟨trivial, (by first | decide | (refine ⟨?_, ?_⟩ <;> grind) | grind)⟩, (by first | decide | (refine ⟨?_, ?_⟩ <;> grind) | grind)⟩, (by first | decide | (refine ⟨?_, ?_⟩ <;> grind) | grind)⟩, (by first | decide | (refine ⟨?_, ?_⟩ <;> grind) | grind)⟩ ?_
      exact px_go (ih (d + 1) (by grind) (by grind) (by grind) _ (by first | exact h1 | exact h1.u5 _ _ | exact h1.u6 _ _)) ⟨rfl, rfl, rfl, rfl, rfl, rfl, rfl, rfl, trivial⟩

theorem q_X12_chance_109 : px_bk 12 14 cX12_chance 109 [(.iload 7, (0, 0, 0, 0, 0), 0, 0), (.sipush 128, (0, 0, 0, 0, 0), 128, 0)] = some 114 ∧ px_t2 cX12_chance 114 .ge 196 = true := by decide +kernel
theorem q_X12_chance_196 : px_bk 12 14 cX12_chance 196 [(.iconst 0, (0, 0, 0, 0, 0), 0, 0), (.istore 7, (0, 0, 0, 0, 0), 0, 0)] = some 199 := by decide +kernel
theorem q_X12_chance_117 : px_bk 12 14 cX12_chance 117 [(.iconst 0, (0, 0, 0, 0, 0), 0, 0), (.istore 8, (0, 0, 0, 0, 0), 0, 0)] = some 120 := by decide +kernel
set_option maxRecDepth 100000 in
theorem l_chance109 {n : Nat} {R : px_R} (hg : px_G n R) {Q : px_Q} (a o lo left : Int32) (all : Int64) {I : px_I} (hp : 0 ≤ I 103 60) (L : px_L) (hq : ∀ L2, mNL L L2 → px M_X12_chance 0 0 76 [(0, .ref 103), (1, .int a), (2, .int o), (3, .int lo), (4, .long (all * (I 137 0 + I 137 1 + I 137 2).toInt64)), (6, .int (left + -1))] [] n I L2 R Q) : ∀ k : Int32, k ≤ 128 → 1 ≤ k → ∀ L1, mNL L L1 → px M_X12_chance 0 0 109 [(0, .ref 103), (1, .int a), (2, .int o), (3, .int lo), (4, .long all), (6, .int left), (7, .int k)] [] n I L1 R Q := by
  refine px_up 128 (fun k ih hk => ?_)
  intro h0 L1 h1
  refine px_ige rfl q_X12_chance_109 hg rfl trivial (fun c114 => ?_) (fun c114 => ?_)
  · refine px_b rfl q_X12_chance_196 hg rfl trivial ?_
    exact px_go (l_chance199 hg a o lo left all L1 (fun L2 h2 => hq L2 (h1.trans h2)) 0 (by decide) (by decide) L1 (fun _ _ _ => rfl)) ⟨rfl, rfl, rfl, rfl, rfl, rfl, rfl, trivial⟩
  · refine px_b rfl q_X12_chance_117 hg rfl trivial ?_
    exact px_go (l_chance120 hg a o lo left k (by grind) all hp L1 (fun L2 h2 => ih (k + 1) (by grind) (by grind) (by grind) L2 (h1.trans h2)) 0 (by decide) (by decide) L1 (fun _ _ _ => rfl)) ⟨rfl, rfl, rfl, rfl, rfl, rfl, rfl, rfl, trivial⟩

theorem q_X12_chance_84 : px_bk 12 14 cX12_chance 84 [(.iload 7, (0, 0, 0, 0, 0), 0, 0), (.sipush 129, (0, 0, 0, 0, 0), 129, 0)] = some 89 ∧ px_t2 cX12_chance 89 .ge 106 = true := by decide +kernel
theorem q_X12_chance_106 : px_bk 12 14 cX12_chance 106 [(.iconst 1, (0, 0, 0, 0, 0), 1, 0), (.istore 7, (0, 0, 0, 0, 0), 0, 0)] = some 109 := by decide +kernel
theorem q_X12_chance_92 : px_bk 12 14 cX12_chance 92 [(.aload_n 0, (0, 0, 0, 0, 0), 0, 0), (.getfield 164, (12, 76, 3, 146, 0), 0, 0), (.iload 7, (0, 0, 0, 0, 0), 0, 0), (.lconst 0, (0, 0, 0, 0, 0), 0, 0), (.lastore, (0, 0, 0, 0, 0), 0, 0), (.iinc 7 1, (0, 0, 0, 0, 0), 1, 0), (.goto (-19), (0, 0, 0, 0, 0), 0, 0)] = some 84 := by decide +kernel
set_option maxRecDepth 100000 in
theorem l_chance84 {n : Nat} {R : px_R} (hg : px_G n R) {Q : px_Q} (a o lo left : Int32) (all : Int64) {I : px_I} (hp : 0 ≤ I 103 60) (L : px_L) (hq : ∀ L2, mNL L L2 → px M_X12_chance 0 0 76 [(0, .ref 103), (1, .int a), (2, .int o), (3, .int lo), (4, .long (all * (I 137 0 + I 137 1 + I 137 2).toInt64)), (6, .int (left + -1))] [] n I L2 R Q) : ∀ k : Int32, k ≤ 129 → 0 ≤ k → ∀ L1, mNL L L1 → px M_X12_chance 0 0 84 [(0, .ref 103), (1, .int a), (2, .int o), (3, .int lo), (4, .long all), (6, .int left), (7, .int k)] [] n I L1 R Q := by
  refine px_up 129 (fun k ih hk => ?_)
  intro h0 L1 h1
  refine px_ige rfl q_X12_chance_84 hg rfl trivial (fun c89 => ?_) (fun c89 => ?_)
  · refine px_b rfl q_X12_chance_106 hg rfl trivial ?_
    exact px_go (l_chance109 hg a o lo left all hp L1 (fun L2 h2 => hq L2 (h1.trans h2)) 1 (by decide) (by decide) L1 (fun _ _ _ => rfl)) ⟨rfl, rfl, rfl, rfl, rfl, rfl, rfl, trivial⟩
  · refine px_b rfl q_X12_chance_92 hg rfl ⟨trivial, (by first | decide | (refine ⟨?_, ?_⟩ <;> grind) | grind)⟩ ?_
    exact px_go (ih (k + 1) (by grind) (by grind) (by grind) _ (by first | exact h1 | exact h1.u5 _ _ | exact h1.u6 _ _)) ⟨rfl, rfl, rfl, rfl, rfl, rfl, rfl, trivial⟩

theorem q_X12_chance_76 : px_bk 12 14 cX12_chance 76 [(.iload 6, (0, 0, 0, 0, 0), 0, 0)] = some 78 ∧ px_t1 cX12_chance 78 .lt 259 = true := by decide +kernel
theorem q_X12_chance_259 : px_bk 12 14 cX12_chance 259 [(.lconst 0, (0, 0, 0, 0, 0), 0, 0), (.lstore 6, (0, 0, 0, 0, 0), 0, 0), (.iconst 0, (0, 0, 0, 0, 0), 0, 0), (.istore 8, (0, 0, 0, 0, 0), 0, 0)] = some 265 := by decide +kernel
theorem q_X12_chance_81 : px_bk 12 14 cX12_chance 81 [(.iconst 0, (0, 0, 0, 0, 0), 0, 0), (.istore 7, (0, 0, 0, 0, 0), 0, 0)] = some 84 := by decide +kernel
set_option maxRecDepth 100000 in
theorem l_chance76 {n : Nat} {R : px_R} (hg : px_G n R) {Q : px_Q} (a o lo : Int32) {I : px_I} (hW : mW I) (L : px_L) (hq : ∀ r L2, mNL L L2 → Q (some (.long r)) n I L2 R) : ∀ left : Int32, -1 ≤ left → left ≤ 11 → ∀ all L1, mAll left all → mNL L L1 → px M_X12_chance 0 0 76 [(0, .ref 103), (1, .int a), (2, .int o), (3, .int lo), (4, .long all), (6, .int left)] [] n I L1 R Q := by
  refine px_dn (-1) (fun left ih hl => ?_)
  intro h0 all L1 ha h1
  have hs := mW_s hW
  have hp : 0 ≤ I 103 60 := by unfold mW at hW; grind
  refine px_lt rfl q_X12_chance_76 hg rfl trivial (fun c78 => ?_) (fun c78 => ?_)
  · refine px_b rfl q_X12_chance_259 hg rfl trivial ?_
    exact px_go (l_chance265 hg a o lo all (mAll_ne ha) (fun r => hq r _ h1) 0 (by decide) (by decide) _) ⟨rfl, rfl, rfl, rfl, rfl, rfl, rfl, trivial⟩
  · refine px_b rfl q_X12_chance_81 hg rfl trivial ?_
    exact px_go (l_chance84 hg a o lo left all hp L1 (fun L2 h2 => ih (left + -1) (by grind) (by grind) (by grind) _ L2 (mAll_s (by grind) h0 hs.1 hs.2 ha) (h1.trans h2)) 0 (by decide) (by decide) L1 (fun _ _ _ => rfl)) ⟨rfl, rfl, rfl, rfl, rfl, rfl, rfl, trivial⟩

theorem q_X12_chance_33 : px_bk 12 14 cX12_chance 33 [(.iload 4, (0, 0, 0, 0, 0), 0, 0), (.sipush 129, (0, 0, 0, 0, 0), 129, 0)] = some 38 ∧ px_t2 cX12_chance 38 .ge 68 = true := by decide +kernel
theorem q_X12_chance_68 : px_bk 12 14 cX12_chance 68 [(.lconst 1, (0, 0, 0, 0, 0), 0, 1), (.lstore 4, (0, 0, 0, 0, 0), 0, 0), (.iload_n 1, (0, 0, 0, 0, 0), 0, 0), (.iconst 1, (0, 0, 0, 0, 0), 1, 0), (.isub, (0, 0, 0, 0, 0), 0, 0), (.istore 6, (0, 0, 0, 0, 0), 0, 0)] = some 76 := by decide +kernel
theorem q_X12_chance_41 : px_bk 12 14 cX12_chance 41 [(.aload_n 0, (0, 0, 0, 0, 0), 0, 0), (.getfield 161, (12, 75, 3, 145, 0), 0, 0), (.iload 4, (0, 0, 0, 0, 0), 0, 0), (.iload 4, (0, 0, 0, 0, 0), 0, 0), (.iload_n 2, (0, 0, 0, 0, 0), 0, 0), (.bipush 64, (0, 0, 0, 0, 0), 64, 0), (.iadd, (0, 0, 0, 0, 0), 0, 0)] = some 53 ∧ px_t2 cX12_chance 53 .ne 60 = true := by decide +kernel
theorem q_X12_chance_60 : px_bk 12 14 cX12_chance 60 [(.lconst 0, (0, 0, 0, 0, 0), 0, 0), (.lastore, (0, 0, 0, 0, 0), 0, 0), (.iinc 4 1, (0, 0, 0, 0, 0), 1, 0), (.goto (-32), (0, 0, 0, 0, 0), 0, 0)] = some 33 := by decide +kernel
theorem q_X12_chance_56 : px_bk 12 14 cX12_chance 56 [(.lconst 1, (0, 0, 0, 0, 0), 0, 1), (.goto 4, (0, 0, 0, 0, 0), 0, 0), (.lastore, (0, 0, 0, 0, 0), 0, 0), (.iinc 4 1, (0, 0, 0, 0, 0), 1, 0), (.goto (-32), (0, 0, 0, 0, 0), 0, 0)] = some 33 := by decide +kernel
set_option maxRecDepth 100000 in
theorem l_chance33 {n : Nat} {R : px_R} (hg : px_G n R) {Q : px_Q} (a o lo : Int32) (ha : 1 ≤ a ∧ a ≤ 12) {I : px_I} (hW : mW I) (L : px_L) (hq : ∀ r L2, mNL L L2 → Q (some (.long r)) n I L2 R) : ∀ k : Int32, k ≤ 129 → 0 ≤ k → ∀ L1, mNL L L1 → px M_X12_chance 0 0 33 [(0, .ref 103), (1, .int a), (2, .int o), (3, .int lo), (4, .int k)] [] n I L1 R Q := by
  refine px_up 129 (fun k ih hk => ?_)
  intro h0 L1 h1
  refine px_ige rfl q_X12_chance_33 hg rfl trivial (fun c38 => ?_) (fun c38 => ?_)
  · refine px_b rfl q_X12_chance_68 hg rfl trivial ?_
    exact px_go (l_chance76 hg a o lo hW L hq (a - 1) (by grind) (by grind) 1 L1 mAll_0 h1) ⟨rfl, rfl, rfl, rfl, rfl, rfl, trivial⟩
  · refine px_ine rfl q_X12_chance_41 hg rfl trivial (fun c53 => ?_) (fun c53 => ?_)
    · refine px_b rfl q_X12_chance_60 hg rfl ⟨trivial, (by first | decide | (refine ⟨?_, ?_⟩ <;> grind) | grind)⟩ ?_
      exact px_go (ih (k + 1) (by grind) (by grind) (by grind) _ (by first | exact h1 | exact h1.u5 _ _ | exact h1.u6 _ _)) ⟨rfl, rfl, rfl, rfl, rfl, trivial⟩
    · refine px_b rfl q_X12_chance_56 hg rfl ⟨trivial, (by first | decide | (refine ⟨?_, ?_⟩ <;> grind) | grind)⟩ ?_
      exact px_go (ih (k + 1) (by grind) (by grind) (by grind) _ (by first | exact h1 | exact h1.u5 _ _ | exact h1.u6 _ _)) ⟨rfl, rfl, rfl, rfl, rfl, trivial⟩

theorem q_X12_chance_0 : px_bk 12 14 cX12_chance 0 [(.iload_n 1, (0, 0, 0, 0, 0), 0, 0), (.i2l, (0, 0, 0, 0, 0), 0, 0), (.lconst 1, (0, 0, 0, 0, 0), 0, 1), (.ldc2_w 459, (0, 0, 0, 0, 0), 0, 12)] = some 6 ∧ px_tS cX12_chance 6 167 = true := by decide +kernel
theorem q_X12_chance_9 : px_bk 12 14 cX12_chance 9 [] = some 9 ∧ px_t1 cX12_chance 9 .eq 26 = true := by decide +kernel
theorem q_X12_chance_26 : px_bk 12 14 cX12_chance 26 [(.ldc2_w 463, (0, 0, 0, 0, 0), 0, -1)] = some 29 ∧ px_tr cX12_chance 29 .lreturn = true := by decide +kernel
theorem q_X12_chance_12 : px_bk 12 14 cX12_chance 12 [(.iload_n 2, (0, 0, 0, 0, 0), 0, 0), (.i2l, (0, 0, 0, 0, 0), 0, 0), (.ldc2_w 461, (0, 0, 0, 0, 0), 0, -20), (.ldc2_w 448, (0, 0, 0, 0, 0), 0, 20)] = some 20 ∧ px_tS cX12_chance 20 167 = true := by decide +kernel
theorem q_X12_chance_23 : px_bk 12 14 cX12_chance 23 [] = some 23 ∧ px_t1 cX12_chance 23 .ne 30 = true := by decide +kernel
theorem q_X12_chance_30 : px_bk 12 14 cX12_chance 30 [(.iconst 0, (0, 0, 0, 0, 0), 0, 0), (.istore 4, (0, 0, 0, 0, 0), 0, 0)] = some 33 := by decide +kernel
set_option maxRecDepth 100000 in
theorem k_chance {n : Nat} {I : px_I} {L : px_L} {R : px_R} (hg : px_G n R) (a o lo : Int32) (hW : mW I) : px_KT M_X12_chance [.ref 103, .int a, .int o, .int lo] n I L R (fun r I2 L2 => I2 = I ∧ mNL L L2) := by
  refine px_of (plainFor_of_name np_RX12) (fun _ _ _ => trivial) rfl ?_
  refine px_cSP rfl q_X12_chance_0 hg rfl trivial lk_12_167 nm_X12_in (k_inI hg _ (1) (12) (by decide) (by decide)) rfl rfl rfl ⟨rfl, rfl⟩ ?_
  intro x6 h6
  refine px_eq rfl q_X12_chance_9 hg rfl trivial (fun c9 => ?_) (fun c9 => ?_)
  · replace h6 := px_bf h6 c9
    refine px_rlT rfl q_X12_chance_26 rfl rfl rfl hg rfl trivial ⟨⟨rfl, rfl⟩, ?_⟩
    exact ⟨rfl, fun _ _ _ => rfl⟩
  · replace h6 := px_bt h6 c9
    refine px_cSP rfl q_X12_chance_12 hg rfl trivial lk_12_167 nm_X12_in (k_inI hg _ (-20) (20) (by decide) (by decide)) rfl rfl rfl ⟨rfl, rfl⟩ ?_
    intro x20 h20
    refine px_ne rfl q_X12_chance_23 hg rfl trivial (fun c23 => ?_) (fun c23 => ?_)
    · replace h20 := px_bt h20 c23
      refine px_b rfl q_X12_chance_30 hg rfl trivial ?_
      exact px_go (l_chance33 hg a o lo (by grind) hW L (fun r L2 h => ⟨rfl, rfl, r, rfl, rfl, h⟩) 0 (by decide) (by decide) L (fun _ _ _ => rfl)) ⟨rfl, rfl, rfl, rfl, rfl, trivial⟩
    · replace h20 := px_bf h20 c23
      refine px_rlT rfl q_X12_chance_26 rfl rfl rfl hg rfl trivial ⟨⟨rfl, rfl⟩, ?_⟩
      exact ⟨rfl, fun _ _ _ => rfl⟩

theorem q_X12_detour_334 : px_bk 12 11 cX12_detour 334 [(.iload 6, (0, 0, 0, 0, 0), 0, 0), (.bipush 64, (0, 0, 0, 0, 0), 64, 0), (.aload_n 0, (0, 0, 0, 0, 0), 0, 0), (.getfield 456, (12, 61, 0, 0, 0), 0, 0), (.iadd, (0, 0, 0, 0, 0), 0, 0)] = some 343 ∧ px_t2 cX12_detour 343 .gt 418 = true := by decide +kernel
theorem q_X12_detour_418 : px_bk 12 11 cX12_detour 418 [(.lload 4, (0, 0, 0, 0, 0), 0, 0), (.l2i, (0, 0, 0, 0, 0), 0, 0)] = some 421 ∧ px_tr cX12_detour 421 .ireturn = true := by decide +kernel
theorem q_X12_detour_346 : px_bk 12 11 cX12_detour 346 [(.aload_n 0, (0, 0, 0, 0, 0), 0, 0), (.getfield 161, (12, 75, 3, 145, 0), 0, 0), (.iload 6, (0, 0, 0, 0, 0), 0, 0), (.laload, (0, 0, 0, 0, 0), 0, 0), (.lconst 0, (0, 0, 0, 0, 0), 0, 0), (.lcmp, (0, 0, 0, 0, 0), 0, 0)] = some 355 ∧ px_t1 cX12_detour 355 .lt 408 = true := by decide +kernel
theorem q_X12_detour_408 : px_bk 12 11 cX12_detour 408 [(.lload 4, (0, 0, 0, 0, 0), 0, 0), (.lstore 4, (0, 0, 0, 0, 0), 0, 0), (.iinc 6 1, (0, 0, 0, 0, 0), 1, 0), (.goto (-81), (0, 0, 0, 0, 0), 0, 0)] = some 334 := by decide +kernel
theorem q_X12_detour_358 : px_bk 12 11 cX12_detour 358 [(.lload 4, (0, 0, 0, 0, 0), 0, 0), (.lconst 0, (0, 0, 0, 0, 0), 0, 0), (.lcmp, (0, 0, 0, 0, 0), 0, 0)] = some 362 ∧ px_t1 cX12_detour 362 .lt 398 = true := by decide +kernel
theorem q_X12_detour_398 : px_bk 12 11 cX12_detour 398 [(.aload_n 0, (0, 0, 0, 0, 0), 0, 0), (.getfield 161, (12, 75, 3, 145, 0), 0, 0), (.iload 6, (0, 0, 0, 0, 0), 0, 0), (.laload, (0, 0, 0, 0, 0), 0, 0), (.goto 5, (0, 0, 0, 0, 0), 0, 0), (.lstore 4, (0, 0, 0, 0, 0), 0, 0), (.iinc 6 1, (0, 0, 0, 0, 0), 1, 0), (.goto (-81), (0, 0, 0, 0, 0), 0, 0)] = some 334 := by decide +kernel
theorem q_X12_detour_365 : px_bk 12 11 cX12_detour 365 [(.iload_n 3, (0, 0, 0, 0, 0), 0, 0)] = some 366 ∧ px_t1 cX12_detour 366 .eq 385 = true := by decide +kernel
theorem q_X12_detour_385 : px_bk 12 11 cX12_detour 385 [(.aload_n 0, (0, 0, 0, 0, 0), 0, 0), (.getfield 161, (12, 75, 3, 145, 0), 0, 0), (.iload 6, (0, 0, 0, 0, 0), 0, 0), (.laload, (0, 0, 0, 0, 0), 0, 0), (.lload 4, (0, 0, 0, 0, 0), 0, 0), (.lcmp, (0, 0, 0, 0, 0), 0, 0)] = some 395 ∧ px_t1 cX12_detour 395 .ge 408 = true := by decide +kernel
theorem q_X12_detour_369 : px_bk 12 11 cX12_detour 369 [(.aload_n 0, (0, 0, 0, 0, 0), 0, 0), (.getfield 161, (12, 75, 3, 145, 0), 0, 0), (.iload 6, (0, 0, 0, 0, 0), 0, 0), (.laload, (0, 0, 0, 0, 0), 0, 0), (.lload 4, (0, 0, 0, 0, 0), 0, 0), (.lcmp, (0, 0, 0, 0, 0), 0, 0)] = some 379 ∧ px_t1 cX12_detour 379 .le 408 = true := by decide +kernel
theorem q_X12_detour_382 : px_bk 12 11 cX12_detour 382 [(.goto 16, (0, 0, 0, 0, 0), 0, 0), (.aload_n 0, (0, 0, 0, 0, 0), 0, 0), (.getfield 161, (12, 75, 3, 145, 0), 0, 0), (.iload 6, (0, 0, 0, 0, 0), 0, 0), (.laload, (0, 0, 0, 0, 0), 0, 0), (.goto 5, (0, 0, 0, 0, 0), 0, 0), (.lstore 4, (0, 0, 0, 0, 0), 0, 0), (.iinc 6 1, (0, 0, 0, 0, 0), 1, 0), (.goto (-81), (0, 0, 0, 0, 0), 0, 0)] = some 334 := by decide +kernel
set_option maxRecDepth 100000 in
theorem l_detour334 {n : Nat} {R : px_R} (hg : px_G n R) {Q : px_Q} (a o lo : Int32) {I : px_I} {L : px_L} (hw : 0 ≤ I 103 61 ∧ I 103 61 ≤ 20) (hq : ∀ r, Q (some (.int r)) n I L R) : ∀ k : Int32, k ≤ 64 + I 103 61 + 1 → 0 ≤ k → ∀ m : Int64, px M_X12_detour 0 0 334 [(0, .ref 103), (1, .int a), (2, .int o), (3, .int lo), (4, .long m), (6, .int k)] [] n I L R Q := by
  refine px_up _ (fun k ih hk => ?_)
  intro h0 m
  refine px_igt rfl q_X12_detour_334 hg rfl trivial (fun c343 => ?_) (fun c343 => ?_)
  · refine px_ri rfl q_X12_detour_418 rfl rfl rfl hg rfl trivial ?_
    exact hq _
  · refine px_llt rfl q_X12_detour_346 hg rfl ⟨trivial, (by first | decide | (refine ⟨?_, ?_⟩ <;> grind) | grind)⟩ (fun c355 => ?_) (fun c355 => ?_)
    · refine px_b rfl q_X12_detour_408 hg rfl trivial ?_
      exact px_go (ih (k + 1) (by grind) (by grind) (by grind) _) ⟨rfl, rfl, rfl, rfl, rfl, rfl, trivial⟩
    · refine px_llt rfl q_X12_detour_358 hg rfl trivial (fun c362 => ?_) (fun c362 => ?_)
      · refine px_b rfl q_X12_detour_398 hg rfl ⟨trivial, (by first | decide | (refine ⟨?_, ?_⟩ <;> grind) | grind)⟩ ?_
        exact px_go (ih (k + 1) (by grind) (by grind) (by grind) _) ⟨rfl, rfl, rfl, rfl, rfl, rfl, trivial⟩
      · refine px_eq rfl q_X12_detour_365 hg rfl trivial (fun c366 => ?_) (fun c366 => ?_)
        · refine px_lge rfl q_X12_detour_385 hg rfl ⟨trivial, (by first | decide | (refine ⟨?_, ?_⟩ <;> grind) | grind)⟩ (fun c395 => ?_) (fun c395 => ?_)
          · refine px_b rfl q_X12_detour_408 hg rfl trivial ?_
            exact px_go (ih (k + 1) (by grind) (by grind) (by grind) _) ⟨rfl, rfl, rfl, rfl, rfl, rfl, trivial⟩
          · refine px_b rfl q_X12_detour_398 hg rfl ⟨trivial, (by first | decide | (refine ⟨?_, ?_⟩ <;> grind) | grind)⟩ ?_
            exact px_go (ih (k + 1) (by grind) (by grind) (by grind) _) ⟨rfl, rfl, rfl, rfl, rfl, rfl, trivial⟩
        · refine px_lle rfl q_X12_detour_369 hg rfl ⟨trivial, (by first | decide | (refine ⟨?_, ?_⟩ <;> grind) | grind)⟩ (fun c379 => ?_) (fun c379 => ?_)
          · refine px_b rfl q_X12_detour_408 hg rfl trivial ?_
            exact px_go (ih (k + 1) (by grind) (by grind) (by grind) _) ⟨rfl, rfl, rfl, rfl, rfl, rfl, trivial⟩
          · refine px_b rfl q_X12_detour_382 hg rfl ⟨trivial, (by first | decide | (refine ⟨?_, ?_⟩ <;> grind) | grind)⟩ ?_
            exact px_go (ih (k + 1) (by grind) (by grind) (by grind) _) ⟨rfl, rfl, rfl, rfl, rfl, rfl, trivial⟩

theorem q_X12_detour_286 : px_bk 12 11 cX12_detour 286 [(.iload 5, (0, 0, 0, 0, 0), 0, 0), (.sipush 129, (0, 0, 0, 0, 0), 129, 0)] = some 291 ∧ px_t2 cX12_detour 291 .ge 314 = true := by decide +kernel
theorem q_X12_detour_314 : px_bk 12 11 cX12_detour 314 [(.iinc 4 (-1), (0, 0, 0, 0, 0), -1, 0), (.goto (-244), (0, 0, 0, 0, 0), 0, 0)] = some 73 := by decide +kernel
theorem q_X12_detour_294 : px_bk 12 11 cX12_detour 294 [(.aload_n 0, (0, 0, 0, 0, 0), 0, 0), (.getfield 161, (12, 75, 3, 145, 0), 0, 0), (.iload 5, (0, 0, 0, 0, 0), 0, 0), (.aload_n 0, (0, 0, 0, 0, 0), 0, 0), (.getfield 164, (12, 76, 3, 146, 0), 0, 0), (.iload 5, (0, 0, 0, 0, 0), 0, 0), (.laload, (0, 0, 0, 0, 0), 0, 0), (.lastore, (0, 0, 0, 0, 0), 0, 0), (.iinc 5 1, (0, 0, 0, 0, 0), 1, 0), (.goto (-25), (0, 0, 0, 0, 0), 0, 0)] = some 286 := by decide +kernel
set_option maxRecDepth 100000 in
theorem l_detour286 {n : Nat} {R : px_R} (hg : px_G n R) {Q : px_Q} (a o lo left : Int32) {I : px_I} (L : px_L) (hq : ∀ L2, mNL L L2 → px M_X12_detour 0 0 73 [(0, .ref 103), (1, .int a), (2, .int o), (3, .int lo), (4, .int (left + -1))] [] n I L2 R Q) : ∀ k : Int32, k ≤ 129 → 0 ≤ k → ∀ L1, mNL L L1 → px M_X12_detour 0 0 286 [(0, .ref 103), (1, .int a), (2, .int o), (3, .int lo), (4, .int left), (5, .int k)] [] n I L1 R Q := by
  refine px_up 129 (fun k ih hk => ?_)
  intro h0 L1 h1
  refine px_ige rfl q_X12_detour_286 hg rfl trivial (fun c291 => ?_) (fun c291 => ?_)
  · refine px_b rfl q_X12_detour_314 hg rfl trivial ?_
    exact px_go (hq _ h1) ⟨rfl, rfl, rfl, rfl, rfl, trivial⟩
  · refine px_b rfl q_X12_detour_294 hg rfl ⟨⟨trivial, (by first | decide | (refine ⟨?_, ?_⟩ <;> grind) | grind)⟩, (by first | decide | (refine ⟨?_, ?_⟩ <;> grind) | grind)⟩ ?_
    exact px_go (ih (k + 1) (by grind) (by grind) (by grind) _ (by first | exact h1 | exact h1.u5 _ _ | exact h1.u6 _ _)) ⟨rfl, rfl, rfl, rfl, rfl, rfl, trivial⟩

theorem q_X12_detour_119 : px_bk 12 11 cX12_detour 119 [(.iload 6, (0, 0, 0, 0, 0), 0, 0), (.iconst 3, (0, 0, 0, 0, 0), 3, 0)] = some 122 ∧ px_t2 cX12_detour 122 .ge 277 = true := by decide +kernel
theorem q_X12_detour_277 : px_bk 12 11 cX12_detour 277 [(.iinc 5 1, (0, 0, 0, 0, 0), 1, 0), (.goto (-172), (0, 0, 0, 0, 0), 0, 0)] = some 108 := by decide +kernel
theorem q_X12_detour_125 : px_bk 12 11 cX12_detour 125 [(.aload_n 0, (0, 0, 0, 0, 0), 0, 0), (.getfield 161, (12, 75, 3, 145, 0), 0, 0), (.iload 5, (0, 0, 0, 0, 0), 0, 0), (.laload, (0, 0, 0, 0, 0), 0, 0), (.lconst 0, (0, 0, 0, 0, 0), 0, 0), (.lcmp, (0, 0, 0, 0, 0), 0, 0)] = some 134 ∧ px_t1 cX12_detour 134 .lt 277 = true := by decide +kernel
theorem q_X12_detour_137 : px_bk 12 11 cX12_detour 137 [(.aload_n 0, (0, 0, 0, 0, 0), 0, 0), (.iload 5, (0, 0, 0, 0, 0), 0, 0), (.bipush 64, (0, 0, 0, 0, 0), 64, 0), (.isub, (0, 0, 0, 0, 0), 0, 0), (.iload 6, (0, 0, 0, 0, 0), 0, 0), (.iconst 1, (0, 0, 0, 0, 0), 1, 0), (.isub, (0, 0, 0, 0, 0), 0, 0), (.iload 4, (0, 0, 0, 0, 0), 0, 0)] = some 149 ∧ px_tv cX12_detour 149 465 = true := by decide +kernel
theorem q_X12_detour_152 : px_bk 12 11 cX12_detour 152 [(.istore 7, (0, 0, 0, 0, 0), 0, 0), (.aload_n 0, (0, 0, 0, 0, 0), 0, 0), (.getfield 161, (12, 75, 3, 145, 0), 0, 0), (.iload 5, (0, 0, 0, 0, 0), 0, 0), (.laload, (0, 0, 0, 0, 0), 0, 0), (.iload 7, (0, 0, 0, 0, 0), 0, 0)] = some 163 ∧ px_tS cX12_detour 163 385 = true := by decide +kernel
theorem q_X12_detour_166 : px_bk 12 11 cX12_detour 166 [(.i2l, (0, 0, 0, 0, 0), 0, 0), (.ladd, (0, 0, 0, 0, 0), 0, 0), (.lstore 8, (0, 0, 0, 0, 0), 0, 0), (.aload_n 0, (0, 0, 0, 0, 0), 0, 0), (.getfield 164, (12, 76, 3, 146, 0), 0, 0), (.iload 7, (0, 0, 0, 0, 0), 0, 0), (.bipush 64, (0, 0, 0, 0, 0), 64, 0), (.iadd, (0, 0, 0, 0, 0), 0, 0), (.laload, (0, 0, 0, 0, 0), 0, 0), (.lconst 0, (0, 0, 0, 0, 0), 0, 0), (.lcmp, (0, 0, 0, 0, 0), 0, 0)] = some 182 ∧ px_t1 cX12_detour 182 .lt 224 = true := by decide +kernel
theorem q_X12_detour_224 : px_bk 12 11 cX12_detour 224 [(.iconst 1, (0, 0, 0, 0, 0), 1, 0), (.goto 4, (0, 0, 0, 0, 0), 0, 0), (.istore 10, (0, 0, 0, 0, 0), 0, 0), (.aload_n 0, (0, 0, 0, 0, 0), 0, 0), (.getfield 164, (12, 76, 3, 146, 0), 0, 0), (.iload 7, (0, 0, 0, 0, 0), 0, 0), (.bipush 64, (0, 0, 0, 0, 0), 64, 0), (.iadd, (0, 0, 0, 0, 0), 0, 0), (.aload_n 0, (0, 0, 0, 0, 0), 0, 0), (.getfield 137, (12, 58, 3, 137, 0), 0, 0), (.iload 6, (0, 0, 0, 0, 0), 0, 0), (.iaload, (0, 0, 0, 0, 0), 0, 0)] = some 247 ∧ px_t1 cX12_detour 247 .le 260 = true := by decide +kernel
theorem q_X12_detour_260 : px_bk 12 11 cX12_detour 260 [(.aload_n 0, (0, 0, 0, 0, 0), 0, 0), (.getfield 164, (12, 76, 3, 146, 0), 0, 0), (.iload 7, (0, 0, 0, 0, 0), 0, 0), (.bipush 64, (0, 0, 0, 0, 0), 64, 0), (.iadd, (0, 0, 0, 0, 0), 0, 0), (.laload, (0, 0, 0, 0, 0), 0, 0), (.lastore, (0, 0, 0, 0, 0), 0, 0), (.iinc 6 1, (0, 0, 0, 0, 0), 1, 0), (.goto (-155), (0, 0, 0, 0, 0), 0, 0)] = some 119 := by decide +kernel
theorem q_X12_detour_250 : px_bk 12 11 cX12_detour 250 [(.iload 10, (0, 0, 0, 0, 0), 0, 0)] = some 252 ∧ px_t1 cX12_detour 252 .eq 260 = true := by decide +kernel
theorem q_X12_detour_255 : px_bk 12 11 cX12_detour 255 [(.lload 8, (0, 0, 0, 0, 0), 0, 0), (.goto 13, (0, 0, 0, 0, 0), 0, 0), (.lastore, (0, 0, 0, 0, 0), 0, 0), (.iinc 6 1, (0, 0, 0, 0, 0), 1, 0), (.goto (-155), (0, 0, 0, 0, 0), 0, 0)] = some 119 := by decide +kernel
theorem q_X12_detour_185 : px_bk 12 11 cX12_detour 185 [(.iload_n 3, (0, 0, 0, 0, 0), 0, 0)] = some 186 ∧ px_t1 cX12_detour 186 .eq 208 = true := by decide +kernel
theorem q_X12_detour_208 : px_bk 12 11 cX12_detour 208 [(.lload 8, (0, 0, 0, 0, 0), 0, 0), (.aload_n 0, (0, 0, 0, 0, 0), 0, 0), (.getfield 164, (12, 76, 3, 146, 0), 0, 0), (.iload 7, (0, 0, 0, 0, 0), 0, 0), (.bipush 64, (0, 0, 0, 0, 0), 64, 0), (.iadd, (0, 0, 0, 0, 0), 0, 0), (.laload, (0, 0, 0, 0, 0), 0, 0), (.lcmp, (0, 0, 0, 0, 0), 0, 0)] = some 221 ∧ px_t1 cX12_detour 221 .ge 228 = true := by decide +kernel
theorem q_X12_detour_228 : px_bk 12 11 cX12_detour 228 [(.iconst 0, (0, 0, 0, 0, 0), 0, 0), (.istore 10, (0, 0, 0, 0, 0), 0, 0), (.aload_n 0, (0, 0, 0, 0, 0), 0, 0), (.getfield 164, (12, 76, 3, 146, 0), 0, 0), (.iload 7, (0, 0, 0, 0, 0), 0, 0), (.bipush 64, (0, 0, 0, 0, 0), 64, 0), (.iadd, (0, 0, 0, 0, 0), 0, 0), (.aload_n 0, (0, 0, 0, 0, 0), 0, 0), (.getfield 137, (12, 58, 3, 137, 0), 0, 0), (.iload 6, (0, 0, 0, 0, 0), 0, 0), (.iaload, (0, 0, 0, 0, 0), 0, 0)] = some 247 ∧ px_t1 cX12_detour 247 .le 260 = true := by decide +kernel
theorem q_X12_detour_189 : px_bk 12 11 cX12_detour 189 [(.lload 8, (0, 0, 0, 0, 0), 0, 0), (.aload_n 0, (0, 0, 0, 0, 0), 0, 0), (.getfield 164, (12, 76, 3, 146, 0), 0, 0), (.iload 7, (0, 0, 0, 0, 0), 0, 0), (.bipush 64, (0, 0, 0, 0, 0), 64, 0), (.iadd, (0, 0, 0, 0, 0), 0, 0), (.laload, (0, 0, 0, 0, 0), 0, 0), (.lcmp, (0, 0, 0, 0, 0), 0, 0)] = some 202 ∧ px_t1 cX12_detour 202 .le 228 = true := by decide +kernel
theorem q_X12_detour_205 : px_bk 12 11 cX12_detour 205 [(.goto 19, (0, 0, 0, 0, 0), 0, 0), (.iconst 1, (0, 0, 0, 0, 0), 1, 0), (.goto 4, (0, 0, 0, 0, 0), 0, 0), (.istore 10, (0, 0, 0, 0, 0), 0, 0), (.aload_n 0, (0, 0, 0, 0, 0), 0, 0), (.getfield 164, (12, 76, 3, 146, 0), 0, 0), (.iload 7, (0, 0, 0, 0, 0), 0, 0), (.bipush 64, (0, 0, 0, 0, 0), 64, 0), (.iadd, (0, 0, 0, 0, 0), 0, 0), (.aload_n 0, (0, 0, 0, 0, 0), 0, 0), (.getfield 137, (12, 58, 3, 137, 0), 0, 0), (.iload 6, (0, 0, 0, 0, 0), 0, 0), (.iaload, (0, 0, 0, 0, 0), 0, 0)] = some 247 ∧ px_t1 cX12_detour 247 .le 260 = true := by decide +kernel
set_option maxRecDepth 100000 in
theorem l_detour119 {n : Nat} {R : px_R} (hg : px_G n R) {Q : px_Q} (a o lo left k : Int32) (hk : 1 ≤ k ∧ k < 128) {I : px_I} (hp : 0 ≤ I 103 60) (L : px_L) (hq : ∀ L2, mNL L L2 → px M_X12_detour 0 0 108 [(0, .ref 103), (1, .int a), (2, .int o), (3, .int lo), (4, .int left), (5, .int (k + 1))] [] n I L2 R Q) : ∀ d : Int32, d ≤ 3 → 0 ≤ d → ∀ L1, mNL L L1 → px M_X12_detour 0 0 119 [(0, .ref 103), (1, .int a), (2, .int o), (3, .int lo), (4, .int left), (5, .int k), (6, .int d)] [] n I L1 R Q := by
  refine px_up 3 (fun d ih hd => ?_)
  intro h0 L1 h1
  refine px_ige rfl q_X12_detour_119 hg rfl trivial (fun c122 => ?_) (fun c122 => ?_)
  · refine px_b rfl q_X12_detour_277 hg rfl trivial ?_
    exact px_go (hq _ h1) ⟨rfl, rfl, rfl, rfl, rfl, rfl, trivial⟩
  · refine px_llt rfl q_X12_detour_125 hg rfl ⟨trivial, (by first | with_reducible assumption | decide | (refine ⟨?_, ?_⟩ <;> grind))⟩ (fun c134 => ?_) (fun c134 => ?_)
    · refine px_b rfl q_X12_detour_277 hg rfl trivial ?_
      exact px_go (hq _ h1) ⟨rfl, rfl, rfl, rfl, rfl, rfl, trivial⟩
    · refine px_cVP (ci := 12) rfl q_X12_detour_137 hg rfl trivial lk_12_465 nm_X12_off (k_off hg _ _ _ (by grind) (by grind) (by grind)) rfl rfl (px_lit hg rfl) rfl rfl rfl ⟨rfl, rfl⟩ ?_
      intro x149 h149
      obtain ⟨z1, z2⟩ := h149
      have z3 : 0 ≤ x149 + 64 ∧ x149 + 64 < 129 := ⟨by grind, by grind⟩
      refine px_cSP rfl q_X12_detour_152 hg rfl ⟨trivial, (by first | with_reducible assumption | decide | (refine ⟨?_, ?_⟩ <;> grind))⟩ lk_12_385 nm_X12_size (k_size hg _) rfl rfl rfl ⟨rfl, rfl⟩ ?_
      intro x163 h163
      refine px_llt rfl q_X12_detour_166 hg rfl ⟨trivial, (by first | with_reducible assumption | decide | (refine ⟨?_, ?_⟩ <;> grind))⟩ (fun c182 => ?_) (fun c182 => ?_)
      · refine px_le rfl q_X12_detour_224 hg rfl ⟨trivial, (by first | with_reducible assumption | decide | (refine ⟨?_, ?_⟩ <;> grind))⟩ (fun c247 => ?_) (fun c247 => ?_)
        · refine px_b rfl q_X12_detour_260 hg rfl ⟨⟨trivial, (by first | with_reducible assumption | decide | (refine ⟨?_, ?_⟩ <;> grind))⟩, (by first | with_reducible assumption | decide | (refine ⟨?_, ?_⟩ <;> grind))⟩ ?_
          exact px_go (ih (d + 1) (by grind) (by grind) (by grind) _ (by first | exact h1 | exact h1.u5 _ _ | exact h1.u6 _ _)) ⟨rfl, rfl, rfl, rfl, rfl, rfl, rfl, trivial⟩
        · refine px_eq rfl q_X12_detour_250 hg rfl trivial (fun c252 => ?_) (fun c252 => ?_)
          · refine px_b rfl q_X12_detour_260 hg rfl ⟨⟨trivial, (by first | with_reducible assumption | decide | (refine ⟨?_, ?_⟩ <;> grind))⟩, (by first | with_reducible assumption | decide | (refine ⟨?_, ?_⟩ <;> grind))⟩ ?_
            exact px_go (ih (d + 1) (by grind) (by grind) (by grind) _ (by first | exact h1 | exact h1.u5 _ _ | exact h1.u6 _ _)) ⟨rfl, rfl, rfl, rfl, rfl, rfl, rfl, trivial⟩
          · refine px_b rfl q_X12_detour_255 hg rfl ⟨trivial, (by first | with_reducible assumption | decide | (refine ⟨?_, ?_⟩ <;> grind))⟩ ?_
            exact px_go (ih (d + 1) (by grind) (by grind) (by grind) _ (by first | exact h1 | exact h1.u5 _ _ | exact h1.u6 _ _)) ⟨rfl, rfl, rfl, rfl, rfl, rfl, rfl, trivial⟩
      · refine px_eq rfl q_X12_detour_185 hg rfl trivial (fun c186 => ?_) (fun c186 => ?_)
        · refine px_lge rfl q_X12_detour_208 hg rfl ⟨trivial, (by first | with_reducible assumption | decide | (refine ⟨?_, ?_⟩ <;> grind))⟩ (fun c221 => ?_) (fun c221 => ?_)
          · refine px_le rfl q_X12_detour_228 hg rfl ⟨trivial, (by first | with_reducible assumption | decide | (refine ⟨?_, ?_⟩ <;> grind))⟩ (fun c247 => ?_) (fun c247 => ?_)
            · refine px_b rfl q_X12_detour_260 hg rfl ⟨⟨trivial, (by first | with_reducible assumption | decide | (refine ⟨?_, ?_⟩ <;> grind))⟩, (by first | with_reducible assumption | decide | (refine ⟨?_, ?_⟩ <;> grind))⟩ ?_
              exact px_go (ih (d + 1) (by grind) (by grind) (by grind) _ (by first | exact h1 | exact h1.u5 _ _ | exact h1.u6 _ _)) ⟨rfl, rfl, rfl, rfl, rfl, rfl, rfl, trivial⟩
            · refine px_eq rfl q_X12_detour_250 hg rfl trivial (fun c252 => ?_) (fun c252 => ?_)
              · refine px_b rfl q_X12_detour_260 hg rfl ⟨⟨trivial, (by first | with_reducible assumption | decide | (refine ⟨?_, ?_⟩ <;> grind))⟩, (by first | with_reducible assumption | decide | (refine ⟨?_, ?_⟩ <;> grind))⟩ ?_
                exact px_go (ih (d + 1) (by grind) (by grind) (by grind) _ (by first | exact h1 | exact h1.u5 _ _ | exact h1.u6 _ _)) ⟨rfl, rfl, rfl, rfl, rfl, rfl, rfl, trivial⟩
              · refine px_b rfl q_X12_detour_255 hg rfl ⟨trivial, (by first | with_reducible assumption | decide | (refine ⟨?_, ?_⟩ <;> grind))⟩ ?_
                exact px_go (ih (d + 1) (by grind) (by grind) (by grind) _ (by first | exact h1 | exact h1.u5 _ _ | exact h1.u6 _ _)) ⟨rfl, rfl, rfl, rfl, rfl, rfl, rfl, trivial⟩
          · refine px_le rfl q_X12_detour_224 hg rfl ⟨trivial, (by first | with_reducible assumption | decide | (refine ⟨?_, ?_⟩ <;> grind))⟩ (fun c247 => ?_) (fun c247 => ?_)
            · refine px_b rfl q_X12_detour_260 hg rfl ⟨⟨trivial, (by first | with_reducible assumption | decide | (refine ⟨?_, ?_⟩ <;> grind))⟩, (by first | with_reducible assumption | decide | (refine ⟨?_, ?_⟩ <;> grind))⟩ ?_
              exact px_go (ih (d + 1) (by grind) (by grind) (by grind) _ (by first | exact h1 | exact h1.u5 _ _ | exact h1.u6 _ _)) ⟨rfl, rfl, rfl, rfl, rfl, rfl, rfl, trivial⟩
            · refine px_eq rfl q_X12_detour_250 hg rfl trivial (fun c252 => ?_) (fun c252 => ?_)
              · refine px_b rfl q_X12_detour_260 hg rfl ⟨⟨trivial, (by first | with_reducible assumption | decide | (refine ⟨?_, ?_⟩ <;> grind))⟩, (by first | with_reducible assumption | decide | (refine ⟨?_, ?_⟩ <;> grind))⟩ ?_
                exact px_go (ih (d + 1) (by grind) (by grind) (by grind) _ (by first | exact h1 | exact h1.u5 _ _ | exact h1.u6 _ _)) ⟨rfl, rfl, rfl, rfl, rfl, rfl, rfl, trivial⟩
              · refine px_b rfl q_X12_detour_255 hg rfl ⟨trivial, (by first | with_reducible assumption | decide | (refine ⟨?_, ?_⟩ <;> grind))⟩ ?_
                exact px_go (ih (d + 1) (by grind) (by grind) (by grind) _ (by first | exact h1 | exact h1.u5 _ _ | exact h1.u6 _ _)) ⟨rfl, rfl, rfl, rfl, rfl, rfl, rfl, trivial⟩
        · refine px_lle rfl q_X12_detour_189 hg rfl ⟨trivial, (by first | with_reducible assumption | decide | (refine ⟨?_, ?_⟩ <;> grind))⟩ (fun c202 => ?_) (fun c202 => ?_)
          · refine px_le rfl q_X12_detour_228 hg rfl ⟨trivial, (by first | with_reducible assumption | decide | (refine ⟨?_, ?_⟩ <;> grind))⟩ (fun c247 => ?_) (fun c247 => ?_)
            · refine px_b rfl q_X12_detour_260 hg rfl ⟨⟨trivial, (by first | with_reducible assumption | decide | (refine ⟨?_, ?_⟩ <;> grind))⟩, (by first | with_reducible assumption | decide | (refine ⟨?_, ?_⟩ <;> grind))⟩ ?_
              exact px_go (ih (d + 1) (by grind) (by grind) (by grind) _ (by first | exact h1 | exact h1.u5 _ _ | exact h1.u6 _ _)) ⟨rfl, rfl, rfl, rfl, rfl, rfl, rfl, trivial⟩
            · refine px_eq rfl q_X12_detour_250 hg rfl trivial (fun c252 => ?_) (fun c252 => ?_)
              · refine px_b rfl q_X12_detour_260 hg rfl ⟨⟨trivial, (by first | with_reducible assumption | decide | (refine ⟨?_, ?_⟩ <;> grind))⟩, (by first | with_reducible assumption | decide | (refine ⟨?_, ?_⟩ <;> grind))⟩ ?_
                exact px_go (ih (d + 1) (by grind) (by grind) (by grind) _ (by first | exact h1 | exact h1.u5 _ _ | exact h1.u6 _ _)) ⟨rfl, rfl, rfl, rfl, rfl, rfl, rfl, trivial⟩
              · refine px_b rfl q_X12_detour_255 hg rfl ⟨trivial, (by first | with_reducible assumption | decide | (refine ⟨?_, ?_⟩ <;> grind))⟩ ?_
                exact px_go (ih (d + 1) (by grind) (by grind) (by grind) _ (by first | exact h1 | exact h1.u5 _ _ | exact h1.u6 _ _)) ⟨rfl, rfl, rfl, rfl, rfl, rfl, rfl, trivial⟩
          · refine px_le rfl q_X12_detour_205 hg rfl ⟨trivial, (by first | with_reducible assumption | decide | (refine ⟨?_, ?_⟩ <;> grind))⟩ (fun c247 => ?_) (fun c247 => ?_)
            · refine px_b rfl q_X12_detour_260 hg rfl ⟨⟨trivial, (by first | with_reducible assumption | decide | (refine ⟨?_, ?_⟩ <;> grind))⟩, (by first | with_reducible assumption | decide | (refine ⟨?_, ?_⟩ <;> grind))⟩ ?_
              exact px_go (ih (d + 1) (by grind) (by grind) (by grind) _ (by first | exact h1 | exact h1.u5 _ _ | exact h1.u6 _ _)) ⟨rfl, rfl, rfl, rfl, rfl, rfl, rfl, trivial⟩
            · refine px_eq rfl q_X12_detour_250 hg rfl trivial (fun c252 => ?_) (fun c252 => ?_)
              · refine px_b rfl q_X12_detour_260 hg rfl ⟨⟨trivial, (by first | with_reducible assumption | decide | (refine ⟨?_, ?_⟩ <;> grind))⟩, (by first | with_reducible assumption | decide | (refine ⟨?_, ?_⟩ <;> grind))⟩ ?_
                exact px_go (ih (d + 1) (by grind) (by grind) (by grind) _ (by first | exact h1 | exact h1.u5 _ _ | exact h1.u6 _ _)) ⟨rfl, rfl, rfl, rfl, rfl, rfl, rfl, trivial⟩
              · refine px_b rfl q_X12_detour_255 hg rfl ⟨trivial, (by first | with_reducible assumption | decide | (refine ⟨?_, ?_⟩ <;> grind))⟩ ?_
                exact px_go (ih (d + 1) (by grind) (by grind) (by grind) _ (by first | exact h1 | exact h1.u5 _ _ | exact h1.u6 _ _)) ⟨rfl, rfl, rfl, rfl, rfl, rfl, rfl, trivial⟩

theorem q_X12_detour_108 : px_bk 12 11 cX12_detour 108 [(.iload 5, (0, 0, 0, 0, 0), 0, 0), (.sipush 128, (0, 0, 0, 0, 0), 128, 0)] = some 113 ∧ px_t2 cX12_detour 113 .ge 283 = true := by decide +kernel
theorem q_X12_detour_283 : px_bk 12 11 cX12_detour 283 [(.iconst 0, (0, 0, 0, 0, 0), 0, 0), (.istore 5, (0, 0, 0, 0, 0), 0, 0)] = some 286 := by decide +kernel
theorem q_X12_detour_116 : px_bk 12 11 cX12_detour 116 [(.iconst 0, (0, 0, 0, 0, 0), 0, 0), (.istore 6, (0, 0, 0, 0, 0), 0, 0)] = some 119 := by decide +kernel
set_option maxRecDepth 100000 in
theorem l_detour108 {n : Nat} {R : px_R} (hg : px_G n R) {Q : px_Q} (a o lo left : Int32) {I : px_I} (hp : 0 ≤ I 103 60) (L : px_L) (hq : ∀ L2, mNL L L2 → px M_X12_detour 0 0 73 [(0, .ref 103), (1, .int a), (2, .int o), (3, .int lo), (4, .int (left + -1))] [] n I L2 R Q) : ∀ k : Int32, k ≤ 128 → 1 ≤ k → ∀ L1, mNL L L1 → px M_X12_detour 0 0 108 [(0, .ref 103), (1, .int a), (2, .int o), (3, .int lo), (4, .int left), (5, .int k)] [] n I L1 R Q := by
  refine px_up 128 (fun k ih hk => ?_)
  intro h0 L1 h1
  refine px_ige rfl q_X12_detour_108 hg rfl trivial (fun c113 => ?_) (fun c113 => ?_)
  · refine px_b rfl q_X12_detour_283 hg rfl trivial ?_
    exact px_go (l_detour286 hg a o lo left L1 (fun L2 h2 => hq L2 (h1.trans h2)) 0 (by decide) (by decide) L1 (fun _ _ _ => rfl)) ⟨rfl, rfl, rfl, rfl, rfl, rfl, trivial⟩
  · refine px_b rfl q_X12_detour_116 hg rfl trivial ?_
    exact px_go (l_detour119 hg a o lo left k (by grind) hp L1 (fun L2 h2 => ih (k + 1) (by grind) (by grind) (by grind) L2 (h1.trans h2)) 0 (by decide) (by decide) L1 (fun _ _ _ => rfl)) ⟨rfl, rfl, rfl, rfl, rfl, rfl, rfl, trivial⟩

theorem q_X12_detour_81 : px_bk 12 11 cX12_detour 81 [(.iload 5, (0, 0, 0, 0, 0), 0, 0), (.sipush 129, (0, 0, 0, 0, 0), 129, 0)] = some 86 ∧ px_t2 cX12_detour 86 .ge 105 = true := by decide +kernel
theorem q_X12_detour_105 : px_bk 12 11 cX12_detour 105 [(.iconst 1, (0, 0, 0, 0, 0), 1, 0), (.istore 5, (0, 0, 0, 0, 0), 0, 0)] = some 108 := by decide +kernel
theorem q_X12_detour_89 : px_bk 12 11 cX12_detour 89 [(.aload_n 0, (0, 0, 0, 0, 0), 0, 0), (.getfield 164, (12, 76, 3, 146, 0), 0, 0), (.iload 5, (0, 0, 0, 0, 0), 0, 0), (.ldc2_w 463, (0, 0, 0, 0, 0), 0, -1), (.lastore, (0, 0, 0, 0, 0), 0, 0), (.iinc 5 1, (0, 0, 0, 0, 0), 1, 0), (.goto (-21), (0, 0, 0, 0, 0), 0, 0)] = some 81 := by decide +kernel
set_option maxRecDepth 100000 in
theorem l_detour81 {n : Nat} {R : px_R} (hg : px_G n R) {Q : px_Q} (a o lo left : Int32) {I : px_I} (hp : 0 ≤ I 103 60) (L : px_L) (hq : ∀ L2, mNL L L2 → px M_X12_detour 0 0 73 [(0, .ref 103), (1, .int a), (2, .int o), (3, .int lo), (4, .int (left + -1))] [] n I L2 R Q) : ∀ k : Int32, k ≤ 129 → 0 ≤ k → ∀ L1, mNL L L1 → px M_X12_detour 0 0 81 [(0, .ref 103), (1, .int a), (2, .int o), (3, .int lo), (4, .int left), (5, .int k)] [] n I L1 R Q := by
  refine px_up 129 (fun k ih hk => ?_)
  intro h0 L1 h1
  refine px_ige rfl q_X12_detour_81 hg rfl trivial (fun c86 => ?_) (fun c86 => ?_)
  · refine px_b rfl q_X12_detour_105 hg rfl trivial ?_
    exact px_go (l_detour108 hg a o lo left hp L1 (fun L2 h2 => hq L2 (h1.trans h2)) 1 (by decide) (by decide) L1 (fun _ _ _ => rfl)) ⟨rfl, rfl, rfl, rfl, rfl, rfl, trivial⟩
  · refine px_b rfl q_X12_detour_89 hg rfl ⟨trivial, (by first | decide | (refine ⟨?_, ?_⟩ <;> grind) | grind)⟩ ?_
    exact px_go (ih (k + 1) (by grind) (by grind) (by grind) _ (by first | exact h1 | exact h1.u5 _ _ | exact h1.u6 _ _)) ⟨rfl, rfl, rfl, rfl, rfl, rfl, trivial⟩

theorem q_X12_detour_73 : px_bk 12 11 cX12_detour 73 [(.iload 4, (0, 0, 0, 0, 0), 0, 0)] = some 75 ∧ px_t1 cX12_detour 75 .lt 320 = true := by decide +kernel
theorem q_X12_detour_320 : px_bk 12 11 cX12_detour 320 [(.ldc2_w 463, (0, 0, 0, 0, 0), 0, -1), (.lstore 4, (0, 0, 0, 0, 0), 0, 0), (.bipush 64, (0, 0, 0, 0, 0), 64, 0), (.aload_n 0, (0, 0, 0, 0, 0), 0, 0), (.getfield 456, (12, 61, 0, 0, 0), 0, 0), (.isub, (0, 0, 0, 0, 0), 0, 0), (.istore 6, (0, 0, 0, 0, 0), 0, 0)] = some 334 := by decide +kernel
theorem q_X12_detour_78 : px_bk 12 11 cX12_detour 78 [(.iconst 0, (0, 0, 0, 0, 0), 0, 0), (.istore 5, (0, 0, 0, 0, 0), 0, 0)] = some 81 := by decide +kernel
set_option maxRecDepth 100000 in
theorem l_detour73 {n : Nat} {R : px_R} (hg : px_G n R) {Q : px_Q} (a o lo : Int32) {I : px_I} (hW : mW I) (L : px_L) (hq : ∀ r L2, mNL L L2 → Q (some (.int r)) n I L2 R) : ∀ left : Int32, -1 ≤ left → ∀ L1, mNL L L1 → px M_X12_detour 0 0 73 [(0, .ref 103), (1, .int a), (2, .int o), (3, .int lo), (4, .int left)] [] n I L1 R Q := by
  refine px_dn (-1) (fun left ih hl => ?_)
  intro L1 h1
  have hp : 0 ≤ I 103 60 := by unfold mW at hW; grind
  have hw : 0 ≤ I 103 61 ∧ I 103 61 ≤ 20 := by unfold mW at hW; grind
  refine px_lt rfl q_X12_detour_73 hg rfl trivial (fun c75 => ?_) (fun c75 => ?_)
  · refine px_b rfl q_X12_detour_320 hg rfl trivial ?_
    exact px_go (l_detour334 hg a o lo hw (fun r => hq r _ h1) (64 - I 103 61) (by grind) (by grind) _) ⟨rfl, rfl, rfl, rfl, rfl, rfl, trivial⟩
  · refine px_b rfl q_X12_detour_78 hg rfl trivial ?_
    exact px_go (l_detour81 hg a o lo left hp L1 (fun L2 h2 => ih (left + -1) (by grind) (by grind) L2 (h1.trans h2)) 0 (by decide) (by decide) L1 (fun _ _ _ => rfl)) ⟨rfl, rfl, rfl, rfl, rfl, rfl, trivial⟩

theorem q_X12_detour_31 : px_bk 12 11 cX12_detour 31 [(.iload 4, (0, 0, 0, 0, 0), 0, 0), (.sipush 129, (0, 0, 0, 0, 0), 129, 0)] = some 36 ∧ px_t2 cX12_detour 36 .ge 68 = true := by decide +kernel
theorem q_X12_detour_68 : px_bk 12 11 cX12_detour 68 [(.iload_n 1, (0, 0, 0, 0, 0), 0, 0), (.iconst 1, (0, 0, 0, 0, 0), 1, 0), (.isub, (0, 0, 0, 0, 0), 0, 0), (.istore 4, (0, 0, 0, 0, 0), 0, 0)] = some 73 := by decide +kernel
theorem q_X12_detour_39 : px_bk 12 11 cX12_detour 39 [(.aload_n 0, (0, 0, 0, 0, 0), 0, 0), (.getfield 161, (12, 75, 3, 145, 0), 0, 0), (.iload 4, (0, 0, 0, 0, 0), 0, 0), (.iload 4, (0, 0, 0, 0, 0), 0, 0), (.iload_n 2, (0, 0, 0, 0, 0), 0, 0), (.bipush 64, (0, 0, 0, 0, 0), 64, 0), (.iadd, (0, 0, 0, 0, 0), 0, 0)] = some 51 ∧ px_t2 cX12_detour 51 .ne 58 = true := by decide +kernel
theorem q_X12_detour_58 : px_bk 12 11 cX12_detour 58 [(.ldc2_w 463, (0, 0, 0, 0, 0), 0, -1), (.lastore, (0, 0, 0, 0, 0), 0, 0), (.iinc 4 1, (0, 0, 0, 0, 0), 1, 0), (.goto (-34), (0, 0, 0, 0, 0), 0, 0)] = some 31 := by decide +kernel
theorem q_X12_detour_54 : px_bk 12 11 cX12_detour 54 [(.lconst 0, (0, 0, 0, 0, 0), 0, 0), (.goto 6, (0, 0, 0, 0, 0), 0, 0), (.lastore, (0, 0, 0, 0, 0), 0, 0), (.iinc 4 1, (0, 0, 0, 0, 0), 1, 0), (.goto (-34), (0, 0, 0, 0, 0), 0, 0)] = some 31 := by decide +kernel
set_option maxRecDepth 100000 in
theorem l_detour31 {n : Nat} {R : px_R} (hg : px_G n R) {Q : px_Q} (a o lo : Int32) (ha : 1 ≤ a ∧ a ≤ 40) {I : px_I} (hW : mW I) (L : px_L) (hq : ∀ r L2, mNL L L2 → Q (some (.int r)) n I L2 R) : ∀ k : Int32, k ≤ 129 → 0 ≤ k → ∀ L1, mNL L L1 → px M_X12_detour 0 0 31 [(0, .ref 103), (1, .int a), (2, .int o), (3, .int lo), (4, .int k)] [] n I L1 R Q := by
  refine px_up 129 (fun k ih hk => ?_)
  intro h0 L1 h1
  refine px_ige rfl q_X12_detour_31 hg rfl trivial (fun c36 => ?_) (fun c36 => ?_)
  · refine px_b rfl q_X12_detour_68 hg rfl trivial ?_
    exact px_go (l_detour73 hg a o lo hW L hq (a - 1) (by grind) L1 h1) ⟨rfl, rfl, rfl, rfl, rfl, trivial⟩
  · refine px_ine rfl q_X12_detour_39 hg rfl trivial (fun c51 => ?_) (fun c51 => ?_)
    · refine px_b rfl q_X12_detour_58 hg rfl ⟨trivial, (by first | decide | (refine ⟨?_, ?_⟩ <;> grind) | grind)⟩ ?_
      exact px_go (ih (k + 1) (by grind) (by grind) (by grind) _ (by first | exact h1 | exact h1.u5 _ _ | exact h1.u6 _ _)) ⟨rfl, rfl, rfl, rfl, rfl, trivial⟩
    · refine px_b rfl q_X12_detour_54 hg rfl ⟨trivial, (by first | decide | (refine ⟨?_, ?_⟩ <;> grind) | grind)⟩ ?_
      exact px_go (ih (k + 1) (by grind) (by grind) (by grind) _ (by first | exact h1 | exact h1.u5 _ _ | exact h1.u6 _ _)) ⟨rfl, rfl, rfl, rfl, rfl, trivial⟩

theorem q_X12_detour_0 : px_bk 12 11 cX12_detour 0 [(.iload_n 1, (0, 0, 0, 0, 0), 0, 0), (.i2l, (0, 0, 0, 0, 0), 0, 0), (.lconst 1, (0, 0, 0, 0, 0), 0, 1), (.ldc2_w 444, (0, 0, 0, 0, 0), 0, 40)] = some 6 ∧ px_tS cX12_detour 6 167 = true := by decide +kernel
theorem q_X12_detour_9 : px_bk 12 11 cX12_detour 9 [] = some 9 ∧ px_t1 cX12_detour 9 .eq 26 = true := by decide +kernel
theorem q_X12_detour_26 : px_bk 12 11 cX12_detour 26 [(.iconst (-1), (0, 0, 0, 0, 0), -1, 0)] = some 27 ∧ px_tr cX12_detour 27 .ireturn = true := by decide +kernel
theorem q_X12_detour_12 : px_bk 12 11 cX12_detour 12 [(.iload_n 2, (0, 0, 0, 0, 0), 0, 0), (.i2l, (0, 0, 0, 0, 0), 0, 0), (.ldc2_w 461, (0, 0, 0, 0, 0), 0, -20), (.ldc2_w 448, (0, 0, 0, 0, 0), 0, 20)] = some 20 ∧ px_tS cX12_detour 20 167 = true := by decide +kernel
theorem q_X12_detour_23 : px_bk 12 11 cX12_detour 23 [] = some 23 ∧ px_t1 cX12_detour 23 .ne 28 = true := by decide +kernel
theorem q_X12_detour_28 : px_bk 12 11 cX12_detour 28 [(.iconst 0, (0, 0, 0, 0, 0), 0, 0), (.istore 4, (0, 0, 0, 0, 0), 0, 0)] = some 31 := by decide +kernel
set_option maxRecDepth 100000 in
theorem k_detour {n : Nat} {I : px_I} {L : px_L} {R : px_R} (hg : px_G n R) (a o lo : Int32) (hW : mW I) : px_KS M_X12_detour [.ref 103, .int a, .int o, .int lo] n I L R (fun r I2 L2 => I2 = I ∧ mNL L L2) := by
  refine px_of (plainFor_of_name np_RX12) (fun _ _ _ => trivial) rfl ?_
  refine px_cSP rfl q_X12_detour_0 hg rfl trivial lk_12_167 nm_X12_in (k_inI hg _ (1) (40) (by decide) (by decide)) rfl rfl rfl ⟨rfl, rfl⟩ ?_
  intro x6 h6
  refine px_eq rfl q_X12_detour_9 hg rfl trivial (fun c9 => ?_) (fun c9 => ?_)
  · replace h6 := px_bf h6 c9
    refine px_riS rfl q_X12_detour_26 rfl rfl rfl hg rfl trivial ⟨⟨rfl, rfl⟩, ?_⟩
    exact ⟨rfl, fun _ _ _ => rfl⟩
  · replace h6 := px_bt h6 c9
    refine px_cSP rfl q_X12_detour_12 hg rfl trivial lk_12_167 nm_X12_in (k_inI hg _ (-20) (20) (by decide) (by decide)) rfl rfl rfl ⟨rfl, rfl⟩ ?_
    intro x20 h20
    refine px_ne rfl q_X12_detour_23 hg rfl trivial (fun c23 => ?_) (fun c23 => ?_)
    · replace h20 := px_bt h20 c23
      refine px_b rfl q_X12_detour_28 hg rfl trivial ?_
      exact px_go (l_detour31 hg a o lo (by grind) hW L (fun r L2 h => ⟨rfl, rfl, r, rfl, rfl, h⟩) 0 (by decide) (by decide) L (fun _ _ _ => rfl)) ⟨rfl, rfl, rfl, rfl, rfl, trivial⟩
    · replace h20 := px_bf h20 c23
      refine px_riS rfl q_X12_detour_26 rfl rfl rfl hg rfl trivial ⟨⟨rfl, rfl⟩, ?_⟩
      exact ⟨rfl, fun _ _ _ => rfl⟩
end
section
/-! the reference: runs of ways -/
def mRI (I I2 : px_I) : Prop := ∀ b j, b ≠ 133 → b ≠ 134 → ¬ (b = 103 ∧ j = 53) → I2 b j = I b j
theorem mRI.trans {I I1 I2 : px_I} (h : mRI I I1) (h2 : mRI I1 I2) : mRI I I2 := fun b j h3 h4 h5 => (h2 b j h3 h4 h5).trans (h b j h3 h4 h5)
theorem mRI.u3 {I I1 : px_I} (h : mRI I I1) (k : Nat) (v : Int32) : mRI I (px_u I1 133 k v) := fun b j h3 h4 h5 => by rw [px_u_ne h3]; exact h b j h3 h4 h5
theorem mRI.u4 {I I1 : px_I} (h : mRI I I1) (k : Nat) (v : Int32) : mRI I (px_u I1 134 k v) := fun b j h3 h4 h5 => by rw [px_u_ne h4]; exact h b j h3 h4 h5
theorem mRI.ur {I I1 : px_I} (h : mRI I I1) (v : Int32) : mRI I (px_u I1 103 53 v) := fun b j h3 h4 h5 => by rw [px_ur, ← h b j h3 h4 h5]; grind
theorem mRL.trans {L L1 L2 : px_L} (h : mRL L L1) (h2 : mRL L1 L2) : mRL L L2 := fun b h3 => (h2 b h3).trans (h b h3)
theorem mRL.u {L L1 : px_L} (h : mRL L L1) (k : Nat) (v : Int64) : mRL L (px_u L1 132 k v) := fun b h3 => by rw [px_u_ne h3]; exact h b h3

theorem q_X12_goesOn_0 : px_bk 12 8 cX12_goesOn 0 [(.aload_n 0, (0, 0, 0, 0, 0), 0, 0), (.getfield 121, (12, 52, 3, 132, 0), 0, 0), (.bipush 7, (0, 0, 0, 0, 0), 7, 0), (.laload, (0, 0, 0, 0, 0), 0, 0), (.l2i, (0, 0, 0, 0, 0), 0, 0)] = some 8 ∧ px_tS cX12_goesOn 8 375 = true := by decide +kernel
theorem q_X12_goesOn_11 : px_bk 12 8 cX12_goesOn 11 [(.istore_n 2, (0, 0, 0, 0, 0), 0, 0), (.aload_n 0, (0, 0, 0, 0, 0), 0, 0), (.getfield 121, (12, 52, 3, 132, 0), 0, 0), (.bipush 7, (0, 0, 0, 0, 0), 7, 0), (.laload, (0, 0, 0, 0, 0), 0, 0), (.l2i, (0, 0, 0, 0, 0), 0, 0), (.bipush 12, (0, 0, 0, 0, 0), 12, 0), (.iadd, (0, 0, 0, 0, 0), 0, 0)] = some 23 ∧ px_tS cX12_goesOn 23 375 = true := by decide +kernel
theorem q_X12_goesOn_26 : px_bk 12 8 cX12_goesOn 26 [(.istore_n 3, (0, 0, 0, 0, 0), 0, 0), (.iload_n 1, (0, 0, 0, 0, 0), 0, 0), (.i2l, (0, 0, 0, 0, 0), 0, 0), (.aload_n 0, (0, 0, 0, 0, 0), 0, 0), (.getfield 106, (12, 47, 0, 0, 0), 0, 0), (.i2l, (0, 0, 0, 0, 0), 0, 0), (.lmul, (0, 0, 0, 0, 0), 0, 0), (.ldc2_w 379, (0, 0, 0, 0, 0), 0, 10)] = some 38 ∧ px_tS cX12_goesOn 38 381 = true := by decide +kernel
theorem q_X12_goesOn_41 : px_bk 12 8 cX12_goesOn 41 [(.lstore 4, (0, 0, 0, 0, 0), 0, 0), (.iload_n 1, (0, 0, 0, 0, 0), 0, 0), (.i2l, (0, 0, 0, 0, 0), 0, 0), (.aload_n 0, (0, 0, 0, 0, 0), 0, 0), (.getfield 121, (12, 52, 3, 132, 0), 0, 0), (.bipush 6, (0, 0, 0, 0, 0), 6, 0), (.laload, (0, 0, 0, 0, 0), 0, 0), (.lmul, (0, 0, 0, 0, 0), 0, 0), (.ldc2_w 379, (0, 0, 0, 0, 0), 0, 10)] = some 56 ∧ px_tS cX12_goesOn 56 381 = true := by decide +kernel
theorem q_X12_goesOn_59 : px_bk 12 8 cX12_goesOn 59 [(.lstore 6, (0, 0, 0, 0, 0), 0, 0), (.aload_n 0, (0, 0, 0, 0, 0), 0, 0), (.getfield 121, (12, 52, 3, 132, 0), 0, 0), (.iconst 0, (0, 0, 0, 0, 0), 0, 0), (.dup2, (0, 0, 0, 0, 0), 0, 0), (.laload, (0, 0, 0, 0, 0), 0, 0), (.iload_n 1, (0, 0, 0, 0, 0), 0, 0), (.i2l, (0, 0, 0, 0, 0), 0, 0), (.iload_n 2, (0, 0, 0, 0, 0), 0, 0), (.i2l, (0, 0, 0, 0, 0), 0, 0), (.lmul, (0, 0, 0, 0, 0), 0, 0), (.ladd, (0, 0, 0, 0, 0), 0, 0), (.lastore, (0, 0, 0, 0, 0), 0, 0), (.aload_n 0, (0, 0, 0, 0, 0), 0, 0), (.getfield 121, (12, 52, 3, 132, 0), 0, 0), (.iconst 1, (0, 0, 0, 0, 0), 1, 0), (.dup2, (0, 0, 0, 0, 0), 0, 0), (.laload, (0, 0, 0, 0, 0), 0, 0), (.iload_n 1, (0, 0, 0, 0, 0), 0, 0), (.i2l, (0, 0, 0, 0, 0), 0, 0), (.iload_n 3, (0, 0, 0, 0, 0), 0, 0), (.i2l, (0, 0, 0, 0, 0), 0, 0), (.lmul, (0, 0, 0, 0, 0), 0, 0), (.ladd, (0, 0, 0, 0, 0), 0, 0), (.lastore, (0, 0, 0, 0, 0), 0, 0), (.aload_n 0, (0, 0, 0, 0, 0), 0, 0), (.getfield 121, (12, 52, 3, 132, 0), 0, 0), (.iconst 3, (0, 0, 0, 0, 0), 3, 0), (.dup2, (0, 0, 0, 0, 0), 0, 0), (.laload, (0, 0, 0, 0, 0), 0, 0), (.lload 4, (0, 0, 0, 0, 0), 0, 0), (.iload_n 2, (0, 0, 0, 0, 0), 0, 0)] = some 99 ∧ px_tS cX12_goesOn 99 385 = true := by decide +kernel
theorem q_X12_goesOn_102 : px_bk 12 8 cX12_goesOn 102 [(.i2l, (0, 0, 0, 0, 0), 0, 0), (.lmul, (0, 0, 0, 0, 0), 0, 0), (.lload 6, (0, 0, 0, 0, 0), 0, 0), (.iload_n 3, (0, 0, 0, 0, 0), 0, 0)] = some 107 ∧ px_tS cX12_goesOn 107 385 = true := by decide +kernel
theorem q_X12_goesOn_110 : px_bk 12 8 cX12_goesOn 110 [(.i2l, (0, 0, 0, 0, 0), 0, 0), (.lmul, (0, 0, 0, 0, 0), 0, 0), (.ladd, (0, 0, 0, 0, 0), 0, 0), (.ldc2_w 175, (0, 0, 0, 0, 0), 0, 1000)] = some 116 ∧ px_tS cX12_goesOn 116 381 = true := by decide +kernel
theorem q_X12_goesOn_119 : px_bk 12 8 cX12_goesOn 119 [(.ladd, (0, 0, 0, 0, 0), 0, 0), (.lastore, (0, 0, 0, 0, 0), 0, 0), (.aload_n 0, (0, 0, 0, 0, 0), 0, 0), (.getfield 121, (12, 52, 3, 132, 0), 0, 0), (.iconst 4, (0, 0, 0, 0, 0), 4, 0), (.dup2, (0, 0, 0, 0, 0), 0, 0), (.laload, (0, 0, 0, 0, 0), 0, 0), (.lload 4, (0, 0, 0, 0, 0), 0, 0), (.iload_n 3, (0, 0, 0, 0, 0), 0, 0)] = some 131 ∧ px_tS cX12_goesOn 131 385 = true := by decide +kernel
theorem q_X12_goesOn_134 : px_bk 12 8 cX12_goesOn 134 [(.i2l, (0, 0, 0, 0, 0), 0, 0), (.lmul, (0, 0, 0, 0, 0), 0, 0), (.lload 6, (0, 0, 0, 0, 0), 0, 0), (.iload_n 2, (0, 0, 0, 0, 0), 0, 0)] = some 139 ∧ px_tS cX12_goesOn 139 385 = true := by decide +kernel
theorem q_X12_goesOn_142 : px_bk 12 8 cX12_goesOn 142 [(.i2l, (0, 0, 0, 0, 0), 0, 0), (.lmul, (0, 0, 0, 0, 0), 0, 0), (.ladd, (0, 0, 0, 0, 0), 0, 0), (.ldc2_w 175, (0, 0, 0, 0, 0), 0, 1000)] = some 148 ∧ px_tS cX12_goesOn 148 381 = true := by decide +kernel
theorem q_X12_goesOn_151 : px_bk 12 8 cX12_goesOn 151 [(.ladd, (0, 0, 0, 0, 0), 0, 0), (.lastore, (0, 0, 0, 0, 0), 0, 0), (.aload_n 0, (0, 0, 0, 0, 0), 0, 0), (.getfield 121, (12, 52, 3, 132, 0), 0, 0), (.iconst 5, (0, 0, 0, 0, 0), 5, 0), (.dup2, (0, 0, 0, 0, 0), 0, 0), (.laload, (0, 0, 0, 0, 0), 0, 0), (.iload_n 1, (0, 0, 0, 0, 0), 0, 0), (.i2l, (0, 0, 0, 0, 0), 0, 0), (.aload_n 0, (0, 0, 0, 0, 0), 0, 0), (.getfield 109, (12, 48, 0, 0, 0), 0, 0), (.i2l, (0, 0, 0, 0, 0), 0, 0), (.lmul, (0, 0, 0, 0, 0), 0, 0), (.ldc2_w 379, (0, 0, 0, 0, 0), 0, 10)] = some 171 ∧ px_tS cX12_goesOn 171 381 = true := by decide +kernel
theorem q_X12_goesOn_174 : px_bk 12 8 cX12_goesOn 174 [(.ladd, (0, 0, 0, 0, 0), 0, 0), (.lastore, (0, 0, 0, 0, 0), 0, 0)] = some 176 ∧ px_tr cX12_goesOn 176 .return_ = true := by decide +kernel
set_option maxRecDepth 100000 in
theorem k_goesOn {n : Nat} {I : px_I} {L : px_L} {R : px_R} (hg : px_G n R) (x : Int32) : px_KV M_X12_goesOn [.ref 103, .int x] n I L R (fun I2 L2 => I2 = I ∧ mRL L L2) := by
  refine px_of (plainFor_of_name np_RX12) (fun _ _ _ => trivial) rfl ?_
  refine px_cSP rfl q_X12_goesOn_0 hg rfl ⟨trivial, (by decide)⟩ lk_12_375 nm_X12_along (k_along hg _) rfl rfl rfl ⟨rfl, rfl⟩ ?_
  intro x8 h8
  refine px_cSP rfl q_X12_goesOn_11 hg rfl ⟨trivial, (by decide)⟩ lk_12_375 nm_X12_along (k_along hg _) rfl rfl rfl ⟨rfl, rfl⟩ ?_
  intro x23 h23
  refine px_cSQ rfl q_X12_goesOn_26 hg rfl trivial lk_12_381 nm_X12_up (k_up hg _ _ (by decide)) rfl rfl rfl ⟨rfl, rfl⟩ ?_
  intro x38 h38
  refine px_cSQ rfl q_X12_goesOn_41 hg rfl ⟨trivial, (by decide)⟩ lk_12_381 nm_X12_up (k_up hg _ _ (by decide)) rfl rfl rfl ⟨rfl, rfl⟩ ?_
  intro x56 h56
  refine px_cSP rfl q_X12_goesOn_59 hg rfl ⟨⟨⟨⟨⟨trivial, (by decide)⟩, (by decide)⟩, (by decide)⟩, (by decide)⟩, (by decide)⟩ lk_12_385 nm_X12_size (k_size hg _) rfl rfl rfl ⟨rfl, rfl⟩ ?_
  intro x99 h99
  refine px_cSP rfl q_X12_goesOn_102 hg rfl trivial lk_12_385 nm_X12_size (k_size hg _) rfl rfl rfl ⟨rfl, rfl⟩ ?_
  intro x107 h107
  refine px_cSQ rfl q_X12_goesOn_110 hg rfl trivial lk_12_381 nm_X12_up (k_up hg _ _ (by decide)) rfl rfl rfl ⟨rfl, rfl⟩ ?_
  intro x116 h116
  refine px_cSP rfl q_X12_goesOn_119 hg rfl ⟨⟨trivial, (by decide)⟩, (by decide)⟩ lk_12_385 nm_X12_size (k_size hg _) rfl rfl rfl ⟨rfl, rfl⟩ ?_
  intro x131 h131
  refine px_cSP rfl q_X12_goesOn_134 hg rfl trivial lk_12_385 nm_X12_size (k_size hg _) rfl rfl rfl ⟨rfl, rfl⟩ ?_
  intro x139 h139
  refine px_cSQ rfl q_X12_goesOn_142 hg rfl trivial lk_12_381 nm_X12_up (k_up hg _ _ (by decide)) rfl rfl rfl ⟨rfl, rfl⟩ ?_
  intro x148 h148
  refine px_cSQ rfl q_X12_goesOn_151 hg rfl ⟨⟨trivial, (by decide)⟩, (by decide)⟩ lk_12_381 nm_X12_up (k_up hg _ _ (by decide)) rfl rfl rfl ⟨rfl, rfl⟩ ?_
  intro x171 h171
  refine px_rvW rfl q_X12_goesOn_174 rfl rfl rfl hg rfl ⟨trivial, (by decide)⟩ ⟨⟨rfl, rfl⟩, ?_⟩
  exact ⟨rfl, mRL.u (mRL.u (mRL.u (mRL.u (mRL.u (fun _ _ => rfl) _ _) _ _) _ _) _ _) _ _⟩

theorem q_X12_does_0 : px_bk 12 3 cX12_does 0 [(.iload_n 1, (0, 0, 0, 0, 0), 0, 0)] = some 1 := by decide +kernel
theorem q_X12_does_1S : decode cX12_does 1 = .ok (.tableswitch 266 1 6 #[39, 47, 86, 100, 114, 225], 39) := by decide +kernel
theorem q_X12_does_40 : px_bk 12 3 cX12_does 40 [(.aload_n 0, (0, 0, 0, 0, 0), 0, 0), (.iload_n 2, (0, 0, 0, 0, 0), 0, 0)] = some 42 ∧ px_tv cX12_does 42 387 = true := by decide +kernel
theorem q_X12_does_45 : px_bk 12 3 cX12_does 45 [(.goto 222, (0, 0, 0, 0, 0), 0, 0)] = some 267 ∧ px_tr cX12_does 267 .return_ = true := by decide +kernel
theorem q_X12_does_48 : px_bk 12 3 cX12_does 48 [(.aload_n 0, (0, 0, 0, 0, 0), 0, 0), (.getfield 121, (12, 52, 3, 132, 0), 0, 0), (.bipush 7, (0, 0, 0, 0, 0), 7, 0), (.aload_n 0, (0, 0, 0, 0, 0), 0, 0), (.getfield 121, (12, 52, 3, 132, 0), 0, 0), (.bipush 7, (0, 0, 0, 0, 0), 7, 0), (.laload, (0, 0, 0, 0, 0), 0, 0), (.iload_n 2, (0, 0, 0, 0, 0), 0, 0), (.i2l, (0, 0, 0, 0, 0), 0, 0), (.ladd, (0, 0, 0, 0, 0), 0, 0), (.ldc2_w 390, (0, 0, 0, 0, 0), 0, 16), (.lrem, (0, 0, 0, 0, 0), 0, 0), (.lastore, (0, 0, 0, 0, 0), 0, 0), (.aload_n 0, (0, 0, 0, 0, 0), 0, 0), (.getfield 121, (12, 52, 3, 132, 0), 0, 0), (.bipush 6, (0, 0, 0, 0, 0), 6, 0), (.dup2, (0, 0, 0, 0, 0), 0, 0), (.laload, (0, 0, 0, 0, 0), 0, 0), (.aload_n 0, (0, 0, 0, 0, 0), 0, 0), (.getfield 112, (12, 49, 0, 0, 0), 0, 0), (.i2l, (0, 0, 0, 0, 0), 0, 0), (.ladd, (0, 0, 0, 0, 0), 0, 0), (.lastore, (0, 0, 0, 0, 0), 0, 0), (.goto 183, (0, 0, 0, 0, 0), 0, 0)] = some 267 ∧ px_tr cX12_does 267 .return_ = true := by decide +kernel
theorem q_X12_does_87 : px_bk 12 3 cX12_does 87 [(.aload_n 0, (0, 0, 0, 0, 0), 0, 0), (.getfield 121, (12, 52, 3, 132, 0), 0, 0), (.iconst 2, (0, 0, 0, 0, 0), 2, 0), (.dup2, (0, 0, 0, 0, 0), 0, 0), (.laload, (0, 0, 0, 0, 0), 0, 0), (.iload_n 2, (0, 0, 0, 0, 0), 0, 0), (.i2l, (0, 0, 0, 0, 0), 0, 0), (.ladd, (0, 0, 0, 0, 0), 0, 0), (.lastore, (0, 0, 0, 0, 0), 0, 0), (.goto 169, (0, 0, 0, 0, 0), 0, 0)] = some 267 ∧ px_tr cX12_does 267 .return_ = true := by decide +kernel
theorem q_X12_does_101 : px_bk 12 3 cX12_does 101 [(.aload_n 0, (0, 0, 0, 0, 0), 0, 0), (.getfield 121, (12, 52, 3, 132, 0), 0, 0), (.iconst 2, (0, 0, 0, 0, 0), 2, 0), (.dup2, (0, 0, 0, 0, 0), 0, 0), (.laload, (0, 0, 0, 0, 0), 0, 0), (.iload_n 2, (0, 0, 0, 0, 0), 0, 0), (.i2l, (0, 0, 0, 0, 0), 0, 0), (.lsub, (0, 0, 0, 0, 0), 0, 0), (.lastore, (0, 0, 0, 0, 0), 0, 0), (.goto 155, (0, 0, 0, 0, 0), 0, 0)] = some 267 ∧ px_tr cX12_does 267 .return_ = true := by decide +kernel
theorem q_X12_does_115 : px_bk 12 3 cX12_does 115 [(.aload_n 0, (0, 0, 0, 0, 0), 0, 0), (.getfield 121, (12, 52, 3, 132, 0), 0, 0), (.iconst 3, (0, 0, 0, 0, 0), 3, 0), (.aload_n 0, (0, 0, 0, 0, 0), 0, 0), (.getfield 121, (12, 52, 3, 132, 0), 0, 0), (.iconst 3, (0, 0, 0, 0, 0), 3, 0), (.laload, (0, 0, 0, 0, 0), 0, 0), (.aload_n 0, (0, 0, 0, 0, 0), 0, 0), (.getfield 115, (12, 50, 0, 0, 0), 0, 0), (.i2l, (0, 0, 0, 0, 0), 0, 0), (.lcmp, (0, 0, 0, 0, 0), 0, 0)] = some 132 ∧ px_t1 cX12_does 132 .le 143 = true := by decide +kernel
theorem q_X12_does_143 : px_bk 12 3 cX12_does 143 [(.aload_n 0, (0, 0, 0, 0, 0), 0, 0), (.getfield 121, (12, 52, 3, 132, 0), 0, 0), (.iconst 3, (0, 0, 0, 0, 0), 3, 0), (.laload, (0, 0, 0, 0, 0), 0, 0), (.lastore, (0, 0, 0, 0, 0), 0, 0), (.aload_n 0, (0, 0, 0, 0, 0), 0, 0), (.getfield 121, (12, 52, 3, 132, 0), 0, 0), (.iconst 4, (0, 0, 0, 0, 0), 4, 0), (.aload_n 0, (0, 0, 0, 0, 0), 0, 0), (.getfield 121, (12, 52, 3, 132, 0), 0, 0), (.iconst 4, (0, 0, 0, 0, 0), 4, 0), (.laload, (0, 0, 0, 0, 0), 0, 0), (.aload_n 0, (0, 0, 0, 0, 0), 0, 0), (.getfield 115, (12, 50, 0, 0, 0), 0, 0), (.i2l, (0, 0, 0, 0, 0), 0, 0), (.lcmp, (0, 0, 0, 0, 0), 0, 0)] = some 167 ∧ px_t1 cX12_does 167 .le 178 = true := by decide +kernel
theorem q_X12_does_178 : px_bk 12 3 cX12_does 178 [(.aload_n 0, (0, 0, 0, 0, 0), 0, 0), (.getfield 121, (12, 52, 3, 132, 0), 0, 0), (.iconst 4, (0, 0, 0, 0, 0), 4, 0), (.laload, (0, 0, 0, 0, 0), 0, 0), (.lastore, (0, 0, 0, 0, 0), 0, 0), (.aload_n 0, (0, 0, 0, 0, 0), 0, 0), (.getfield 121, (12, 52, 3, 132, 0), 0, 0), (.bipush 6, (0, 0, 0, 0, 0), 6, 0), (.aload_n 0, (0, 0, 0, 0, 0), 0, 0), (.getfield 121, (12, 52, 3, 132, 0), 0, 0), (.bipush 6, (0, 0, 0, 0, 0), 6, 0), (.laload, (0, 0, 0, 0, 0), 0, 0), (.aload_n 0, (0, 0, 0, 0, 0), 0, 0), (.getfield 112, (12, 49, 0, 0, 0), 0, 0), (.i2l, (0, 0, 0, 0, 0), 0, 0), (.lcmp, (0, 0, 0, 0, 0), 0, 0)] = some 204 ∧ px_t1 cX12_does 204 .le 215 = true := by decide +kernel
theorem q_X12_does_215 : px_bk 12 3 cX12_does 215 [(.aload_n 0, (0, 0, 0, 0, 0), 0, 0), (.getfield 121, (12, 52, 3, 132, 0), 0, 0), (.bipush 6, (0, 0, 0, 0, 0), 6, 0), (.laload, (0, 0, 0, 0, 0), 0, 0), (.lastore, (0, 0, 0, 0, 0), 0, 0), (.goto 44, (0, 0, 0, 0, 0), 0, 0)] = some 267 ∧ px_tr cX12_does 267 .return_ = true := by decide +kernel
theorem q_X12_does_207 : px_bk 12 3 cX12_does 207 [(.aload_n 0, (0, 0, 0, 0, 0), 0, 0), (.getfield 112, (12, 49, 0, 0, 0), 0, 0), (.i2l, (0, 0, 0, 0, 0), 0, 0), (.goto 10, (0, 0, 0, 0, 0), 0, 0), (.lastore, (0, 0, 0, 0, 0), 0, 0), (.goto 44, (0, 0, 0, 0, 0), 0, 0)] = some 267 ∧ px_tr cX12_does 267 .return_ = true := by decide +kernel
theorem q_X12_does_170 : px_bk 12 3 cX12_does 170 [(.aload_n 0, (0, 0, 0, 0, 0), 0, 0), (.getfield 115, (12, 50, 0, 0, 0), 0, 0), (.i2l, (0, 0, 0, 0, 0), 0, 0), (.goto 9, (0, 0, 0, 0, 0), 0, 0), (.lastore, (0, 0, 0, 0, 0), 0, 0), (.aload_n 0, (0, 0, 0, 0, 0), 0, 0), (.getfield 121, (12, 52, 3, 132, 0), 0, 0), (.bipush 6, (0, 0, 0, 0, 0), 6, 0), (.aload_n 0, (0, 0, 0, 0, 0), 0, 0), (.getfield 121, (12, 52, 3, 132, 0), 0, 0), (.bipush 6, (0, 0, 0, 0, 0), 6, 0), (.laload, (0, 0, 0, 0, 0), 0, 0), (.aload_n 0, (0, 0, 0, 0, 0), 0, 0), (.getfield 112, (12, 49, 0, 0, 0), 0, 0), (.i2l, (0, 0, 0, 0, 0), 0, 0), (.lcmp, (0, 0, 0, 0, 0), 0, 0)] = some 204 ∧ px_t1 cX12_does 204 .le 215 = true := by decide +kernel
theorem q_X12_does_135 : px_bk 12 3 cX12_does 135 [(.aload_n 0, (0, 0, 0, 0, 0), 0, 0), (.getfield 115, (12, 50, 0, 0, 0), 0, 0), (.i2l, (0, 0, 0, 0, 0), 0, 0), (.goto 9, (0, 0, 0, 0, 0), 0, 0), (.lastore, (0, 0, 0, 0, 0), 0, 0), (.aload_n 0, (0, 0, 0, 0, 0), 0, 0), (.getfield 121, (12, 52, 3, 132, 0), 0, 0), (.iconst 4, (0, 0, 0, 0, 0), 4, 0), (.aload_n 0, (0, 0, 0, 0, 0), 0, 0), (.getfield 121, (12, 52, 3, 132, 0), 0, 0), (.iconst 4, (0, 0, 0, 0, 0), 4, 0), (.laload, (0, 0, 0, 0, 0), 0, 0), (.aload_n 0, (0, 0, 0, 0, 0), 0, 0), (.getfield 115, (12, 50, 0, 0, 0), 0, 0), (.i2l, (0, 0, 0, 0, 0), 0, 0), (.lcmp, (0, 0, 0, 0, 0), 0, 0)] = some 167 ∧ px_t1 cX12_does 167 .le 178 = true := by decide +kernel
theorem q_X12_does_226 : px_bk 12 3 cX12_does 226 [(.aload_n 0, (0, 0, 0, 0, 0), 0, 0), (.getfield 121, (12, 52, 3, 132, 0), 0, 0), (.bipush 6, (0, 0, 0, 0, 0), 6, 0), (.aload_n 0, (0, 0, 0, 0, 0), 0, 0), (.getfield 121, (12, 52, 3, 132, 0), 0, 0), (.bipush 6, (0, 0, 0, 0, 0), 6, 0), (.laload, (0, 0, 0, 0, 0), 0, 0), (.aload_n 0, (0, 0, 0, 0, 0), 0, 0), (.getfield 118, (12, 51, 0, 0, 0), 0, 0), (.i2l, (0, 0, 0, 0, 0), 0, 0), (.lcmp, (0, 0, 0, 0, 0), 0, 0)] = some 245 ∧ px_t1 cX12_does 245 .le 256 = true := by decide +kernel
theorem q_X12_does_256 : px_bk 12 3 cX12_does 256 [(.aload_n 0, (0, 0, 0, 0, 0), 0, 0), (.getfield 121, (12, 52, 3, 132, 0), 0, 0), (.bipush 6, (0, 0, 0, 0, 0), 6, 0), (.laload, (0, 0, 0, 0, 0), 0, 0), (.lastore, (0, 0, 0, 0, 0), 0, 0), (.goto 3, (0, 0, 0, 0, 0), 0, 0)] = some 267 ∧ px_tr cX12_does 267 .return_ = true := by decide +kernel
theorem q_X12_does_248 : px_bk 12 3 cX12_does 248 [(.aload_n 0, (0, 0, 0, 0, 0), 0, 0), (.getfield 118, (12, 51, 0, 0, 0), 0, 0), (.i2l, (0, 0, 0, 0, 0), 0, 0), (.goto 10, (0, 0, 0, 0, 0), 0, 0), (.lastore, (0, 0, 0, 0, 0), 0, 0), (.goto 3, (0, 0, 0, 0, 0), 0, 0)] = some 267 ∧ px_tr cX12_does 267 .return_ = true := by decide +kernel
theorem q_X12_does_267 : px_bk 12 3 cX12_does 267 [] = some 267 ∧ px_tr cX12_does 267 .return_ = true := by decide +kernel
set_option maxRecDepth 100000 in
theorem k_does {n : Nat} {I : px_I} {L : px_L} {R : px_R} (hg : px_G n R) (o v : Int32) : px_KV M_X12_does [.ref 103, .int o, .int v] n I L R (fun I2 L2 => I2 = I ∧ mRL L L2) := by
  refine px_of (plainFor_of_name np_RX12) (fun _ _ _ => trivial) rfl ?_
  refine px_b rfl q_X12_does_0 hg rfl trivial ?_
  by_cases s1_1 : o = 1
  · refine px_swI (tgt := 40) (off := 39) q_X12_does_1S s1_1 (by decide) (by decide) (by decide) (by decide) ?_
    refine px_cVW (ci := 12) rfl q_X12_does_40 hg rfl trivial lk_12_387 nm_X12_goesOn (k_goesOn hg _) rfl rfl (px_lit hg rfl) rfl rfl rfl ⟨rfl, rfl⟩ ?_
    intro I42 L42 h42
    refine px_rvW rfl q_X12_does_45 rfl rfl rfl hg rfl trivial ⟨⟨rfl, rfl⟩, ?_⟩
    first | exact ⟨rfl, fun _ _ => rfl⟩ | exact ⟨rfl, mRL.u (fun _ _ => rfl) _ _⟩ | exact ⟨rfl, mRL.u (mRL.u (fun _ _ => rfl) _ _) _ _⟩ | exact ⟨rfl, mRL.u (mRL.u (mRL.u (fun _ _ => rfl) _ _) _ _) _ _⟩ | assumption
  by_cases s1_2 : o = 2
  · refine px_swI (tgt := 48) (off := 47) q_X12_does_1S s1_2 (by decide) (by decide) (by decide) (by decide) ?_
    refine px_rvW rfl q_X12_does_48 rfl rfl rfl hg rfl ⟨⟨⟨⟨⟨trivial, (by decide)⟩, (by decide)⟩, (by decide)⟩, (by decide)⟩, (by decide)⟩ ⟨⟨rfl, rfl⟩, ?_⟩
    first | exact ⟨rfl, fun _ _ => rfl⟩ | exact ⟨rfl, mRL.u (fun _ _ => rfl) _ _⟩ | exact ⟨rfl, mRL.u (mRL.u (fun _ _ => rfl) _ _) _ _⟩ | exact ⟨rfl, mRL.u (mRL.u (mRL.u (fun _ _ => rfl) _ _) _ _) _ _⟩ | assumption
  by_cases s1_3 : o = 3
  · refine px_swI (tgt := 87) (off := 86) q_X12_does_1S s1_3 (by decide) (by decide) (by decide) (by decide) ?_
    refine px_rvW rfl q_X12_does_87 rfl rfl rfl hg rfl ⟨⟨trivial, (by decide)⟩, (by decide)⟩ ⟨⟨rfl, rfl⟩, ?_⟩
    first | exact ⟨rfl, fun _ _ => rfl⟩ | exact ⟨rfl, mRL.u (fun _ _ => rfl) _ _⟩ | exact ⟨rfl, mRL.u (mRL.u (fun _ _ => rfl) _ _) _ _⟩ | exact ⟨rfl, mRL.u (mRL.u (mRL.u (fun _ _ => rfl) _ _) _ _) _ _⟩ | assumption
  by_cases s1_4 : o = 4
  · refine px_swI (tgt := 101) (off := 100) q_X12_does_1S s1_4 (by decide) (by decide) (by decide) (by decide) ?_
    refine px_rvW rfl q_X12_does_101 rfl rfl rfl hg rfl ⟨⟨trivial, (by decide)⟩, (by decide)⟩ ⟨⟨rfl, rfl⟩, ?_⟩
    first | exact ⟨rfl, fun _ _ => rfl⟩ | exact ⟨rfl, mRL.u (fun _ _ => rfl) _ _⟩ | exact ⟨rfl, mRL.u (mRL.u (fun _ _ => rfl) _ _) _ _⟩ | exact ⟨rfl, mRL.u (mRL.u (mRL.u (fun _ _ => rfl) _ _) _ _) _ _⟩ | assumption
  by_cases s1_5 : o = 5
  · refine px_swI (tgt := 115) (off := 114) q_X12_does_1S s1_5 (by decide) (by decide) (by decide) (by decide) ?_
    refine px_lle rfl q_X12_does_115 hg rfl ⟨trivial, (by decide)⟩ (fun c132 => ?_) (fun c132 => ?_)
    · refine px_lle rfl q_X12_does_143 hg rfl ⟨⟨⟨trivial, (by decide)⟩, (by decide)⟩, (by decide)⟩ (fun c167 => ?_) (fun c167 => ?_)
      · refine px_lle rfl q_X12_does_178 hg rfl ⟨⟨⟨trivial, (by decide)⟩, (by decide)⟩, (by decide)⟩ (fun c204 => ?_) (fun c204 => ?_)
        · refine px_rvW rfl q_X12_does_215 rfl rfl rfl hg rfl ⟨⟨trivial, (by decide)⟩, (by decide)⟩ ⟨⟨rfl, rfl⟩, ?_⟩
          first | exact ⟨rfl, fun _ _ => rfl⟩ | exact ⟨rfl, mRL.u (fun _ _ => rfl) _ _⟩ | exact ⟨rfl, mRL.u (mRL.u (fun _ _ => rfl) _ _) _ _⟩ | exact ⟨rfl, mRL.u (mRL.u (mRL.u (fun _ _ => rfl) _ _) _ _) _ _⟩ | assumption
        · refine px_rvW rfl q_X12_does_207 rfl rfl rfl hg rfl ⟨trivial, (by decide)⟩ ⟨⟨rfl, rfl⟩, ?_⟩
          first | exact ⟨rfl, fun _ _ => rfl⟩ | exact ⟨rfl, mRL.u (fun _ _ => rfl) _ _⟩ | exact ⟨rfl, mRL.u (mRL.u (fun _ _ => rfl) _ _) _ _⟩ | exact ⟨rfl, mRL.u (mRL.u (mRL.u (fun _ _ => rfl) _ _) _ _) _ _⟩ | assumption
      · refine px_lle rfl q_X12_does_170 hg rfl ⟨⟨trivial, (by decide)⟩, (by decide)⟩ (fun c204 => ?_) (fun c204 => ?_)
        · refine px_rvW rfl q_X12_does_215 rfl rfl rfl hg rfl ⟨⟨trivial, (by decide)⟩, (by decide)⟩ ⟨⟨rfl, rfl⟩, ?_⟩
          first | exact ⟨rfl, fun _ _ => rfl⟩ | exact ⟨rfl, mRL.u (fun _ _ => rfl) _ _⟩ | exact ⟨rfl, mRL.u (mRL.u (fun _ _ => rfl) _ _) _ _⟩ | exact ⟨rfl, mRL.u (mRL.u (mRL.u (fun _ _ => rfl) _ _) _ _) _ _⟩ | assumption
        · refine px_rvW rfl q_X12_does_207 rfl rfl rfl hg rfl ⟨trivial, (by decide)⟩ ⟨⟨rfl, rfl⟩, ?_⟩
          first | exact ⟨rfl, fun _ _ => rfl⟩ | exact ⟨rfl, mRL.u (fun _ _ => rfl) _ _⟩ | exact ⟨rfl, mRL.u (mRL.u (fun _ _ => rfl) _ _) _ _⟩ | exact ⟨rfl, mRL.u (mRL.u (mRL.u (fun _ _ => rfl) _ _) _ _) _ _⟩ | assumption
    · refine px_lle rfl q_X12_does_135 hg rfl ⟨⟨trivial, (by decide)⟩, (by decide)⟩ (fun c167 => ?_) (fun c167 => ?_)
      · refine px_lle rfl q_X12_does_178 hg rfl ⟨⟨⟨trivial, (by decide)⟩, (by decide)⟩, (by decide)⟩ (fun c204 => ?_) (fun c204 => ?_)
        · refine px_rvW rfl q_X12_does_215 rfl rfl rfl hg rfl ⟨⟨trivial, (by decide)⟩, (by decide)⟩ ⟨⟨rfl, rfl⟩, ?_⟩
          first | exact ⟨rfl, fun _ _ => rfl⟩ | exact ⟨rfl, mRL.u (fun _ _ => rfl) _ _⟩ | exact ⟨rfl, mRL.u (mRL.u (fun _ _ => rfl) _ _) _ _⟩ | exact ⟨rfl, mRL.u (mRL.u (mRL.u (fun _ _ => rfl) _ _) _ _) _ _⟩ | assumption
        · refine px_rvW rfl q_X12_does_207 rfl rfl rfl hg rfl ⟨trivial, (by decide)⟩ ⟨⟨rfl, rfl⟩, ?_⟩
          first | exact ⟨rfl, fun _ _ => rfl⟩ | exact ⟨rfl, mRL.u (fun _ _ => rfl) _ _⟩ | exact ⟨rfl, mRL.u (mRL.u (fun _ _ => rfl) _ _) _ _⟩ | exact ⟨rfl, mRL.u (mRL.u (mRL.u (fun _ _ => rfl) _ _) _ _) _ _⟩ | assumption
      · refine px_lle rfl q_X12_does_170 hg rfl ⟨⟨trivial, (by decide)⟩, (by decide)⟩ (fun c204 => ?_) (fun c204 => ?_)
        · refine px_rvW rfl q_X12_does_215 rfl rfl rfl hg rfl ⟨⟨trivial, (by decide)⟩, (by decide)⟩ ⟨⟨rfl, rfl⟩, ?_⟩
          first | exact ⟨rfl, fun _ _ => rfl⟩ | exact ⟨rfl, mRL.u (fun _ _ => rfl) _ _⟩ | exact ⟨rfl, mRL.u (mRL.u (fun _ _ => rfl) _ _) _ _⟩ | exact ⟨rfl, mRL.u (mRL.u (mRL.u (fun _ _ => rfl) _ _) _ _) _ _⟩ | assumption
        · refine px_rvW rfl q_X12_does_207 rfl rfl rfl hg rfl ⟨trivial, (by decide)⟩ ⟨⟨rfl, rfl⟩, ?_⟩
          first | exact ⟨rfl, fun _ _ => rfl⟩ | exact ⟨rfl, mRL.u (fun _ _ => rfl) _ _⟩ | exact ⟨rfl, mRL.u (mRL.u (fun _ _ => rfl) _ _) _ _⟩ | exact ⟨rfl, mRL.u (mRL.u (mRL.u (fun _ _ => rfl) _ _) _ _) _ _⟩ | assumption
  by_cases s1_6 : o = 6
  · refine px_swI (tgt := 226) (off := 225) q_X12_does_1S s1_6 (by decide) (by decide) (by decide) (by decide) ?_
    refine px_lle rfl q_X12_does_226 hg rfl ⟨trivial, (by decide)⟩ (fun c245 => ?_) (fun c245 => ?_)
    · refine px_rvW rfl q_X12_does_256 rfl rfl rfl hg rfl ⟨⟨trivial, (by decide)⟩, (by decide)⟩ ⟨⟨rfl, rfl⟩, ?_⟩
      first | exact ⟨rfl, fun _ _ => rfl⟩ | exact ⟨rfl, mRL.u (fun _ _ => rfl) _ _⟩ | exact ⟨rfl, mRL.u (mRL.u (fun _ _ => rfl) _ _) _ _⟩ | exact ⟨rfl, mRL.u (mRL.u (mRL.u (fun _ _ => rfl) _ _) _ _) _ _⟩ | assumption
    · refine px_rvW rfl q_X12_does_248 rfl rfl rfl hg rfl ⟨trivial, (by decide)⟩ ⟨⟨rfl, rfl⟩, ?_⟩
      first | exact ⟨rfl, fun _ _ => rfl⟩ | exact ⟨rfl, mRL.u (fun _ _ => rfl) _ _⟩ | exact ⟨rfl, mRL.u (mRL.u (fun _ _ => rfl) _ _) _ _⟩ | exact ⟨rfl, mRL.u (mRL.u (mRL.u (fun _ _ => rfl) _ _) _ _) _ _⟩ | assumption
  refine px_swO (tgt := 267) q_X12_does_1S (px_out 1 6 (by decide) (fun k9 h8 h9 => ?_)) (by decide) ?_
  · match k9, h8, h9 with
    | 1, _, _ => exact s1_1
    | 2, _, _ => exact s1_2
    | 3, _, _ => exact s1_3
    | 4, _, _ => exact s1_4
    | 5, _, _ => exact s1_5
    | 6, _, _ => exact s1_6
    | 0, h8, _ => exact absurd h8 (by decide)
    | k9 + 7, _, h9 => exact absurd h9 (by omega)
  refine px_rvW rfl q_X12_does_267 rfl rfl rfl hg rfl trivial ⟨⟨rfl, rfl⟩, ?_⟩
  first | exact ⟨rfl, fun _ _ => rfl⟩ | exact ⟨rfl, mRL.u (fun _ _ => rfl) _ _⟩ | exact ⟨rfl, mRL.u (mRL.u (fun _ _ => rfl) _ _) _ _⟩ | exact ⟨rfl, mRL.u (mRL.u (mRL.u (fun _ _ => rfl) _ _) _ _) _ _⟩ | assumption

theorem q_X12_isBeyond_22 : px_bk 12 3 cX12_isBeyond 22 [(.iload_n 2, (0, 0, 0, 0, 0), 0, 0), (.bipush 7, (0, 0, 0, 0, 0), 7, 0)] = some 25 ∧ px_t2 cX12_isBeyond 25 .ge 70 = true := by decide +kernel
theorem q_X12_isBeyond_70 : px_bk 12 3 cX12_isBeyond 70 [(.iload_n 1, (0, 0, 0, 0, 0), 0, 0)] = some 71 ∧ px_tr cX12_isBeyond 71 .ireturn = true := by decide +kernel
theorem q_X12_isBeyond_28 : px_bk 12 3 cX12_isBeyond 28 [(.iload_n 1, (0, 0, 0, 0, 0), 0, 0)] = some 29 ∧ px_t1 cX12_isBeyond 29 .ne 58 = true := by decide +kernel
theorem q_X12_isBeyond_58 : px_bk 12 3 cX12_isBeyond 58 [(.iconst 1, (0, 0, 0, 0, 0), 1, 0), (.goto 4, (0, 0, 0, 0, 0), 0, 0), (.istore_n 1, (0, 0, 0, 0, 0), 0, 0), (.iinc 2 1, (0, 0, 0, 0, 0), 1, 0), (.goto (-45), (0, 0, 0, 0, 0), 0, 0)] = some 22 := by decide +kernel
theorem q_X12_isBeyond_32 : px_bk 12 3 cX12_isBeyond 32 [(.aload_n 0, (0, 0, 0, 0, 0), 0, 0), (.getfield 121, (12, 52, 3, 132, 0), 0, 0), (.iload_n 2, (0, 0, 0, 0, 0), 0, 0), (.laload, (0, 0, 0, 0, 0), 0, 0), (.ldc2_w 392, (0, 0, 0, 0, 0), 0, 100000000), (.lcmp, (0, 0, 0, 0, 0), 0, 0)] = some 42 ∧ px_t1 cX12_isBeyond 42 .gt 58 = true := by decide +kernel
theorem q_X12_isBeyond_45 : px_bk 12 3 cX12_isBeyond 45 [(.aload_n 0, (0, 0, 0, 0, 0), 0, 0), (.getfield 121, (12, 52, 3, 132, 0), 0, 0), (.iload_n 2, (0, 0, 0, 0, 0), 0, 0), (.laload, (0, 0, 0, 0, 0), 0, 0), (.ldc2_w 394, (0, 0, 0, 0, 0), 0, -100000000), (.lcmp, (0, 0, 0, 0, 0), 0, 0)] = some 55 ∧ px_t1 cX12_isBeyond 55 .ge 62 = true := by decide +kernel
theorem q_X12_isBeyond_62 : px_bk 12 3 cX12_isBeyond 62 [(.iconst 0, (0, 0, 0, 0, 0), 0, 0), (.istore_n 1, (0, 0, 0, 0, 0), 0, 0), (.iinc 2 1, (0, 0, 0, 0, 0), 1, 0), (.goto (-45), (0, 0, 0, 0, 0), 0, 0)] = some 22 := by decide +kernel
set_option maxRecDepth 100000 in
theorem l_isBeyond {n : Nat} {R : px_R} (hg : px_G n R) {Q : px_Q} {I : px_I} {L : px_L} (hq : ∀ r, (r = 0 ∨ r = 1) → Q (some (.int r)) n I L R) : ∀ i : Int32, i ≤ 7 → 0 ≤ i → ∀ b : Int32, (b = 0 ∨ b = 1) → px M_X12_isBeyond 0 0 22 [(0, .ref 103), (1, .int b), (2, .int i)] [] n I L R Q := by
  refine px_up 7 (fun i ih hi => ?_)
  intro h0 b hb
  refine px_ige rfl q_X12_isBeyond_22 hg rfl trivial (fun c25 => ?_) (fun c25 => ?_)
  · refine px_rz rfl q_X12_isBeyond_70 rfl rfl rfl hg rfl trivial (by first | exact Or.inl rfl | exact Or.inr rfl | grind) ?_
    exact hq _ hb
  · refine px_ne rfl q_X12_isBeyond_28 hg rfl trivial (fun c29 => ?_) (fun c29 => ?_)
    · refine px_b rfl q_X12_isBeyond_58 hg rfl trivial ?_
      exact px_go (ih (i + 1) (by grind) (by grind) (by grind) _ (by first | exact Or.inl rfl | exact Or.inr rfl)) ⟨rfl, rfl, rfl, trivial⟩
    · refine px_lgt rfl q_X12_isBeyond_32 hg rfl ⟨trivial, (by first | decide | (refine ⟨?_, ?_⟩ <;> grind) | grind)⟩ (fun c42 => ?_) (fun c42 => ?_)
      · refine px_b rfl q_X12_isBeyond_58 hg rfl trivial ?_
        exact px_go (ih (i + 1) (by grind) (by grind) (by grind) _ (by first | exact Or.inl rfl | exact Or.inr rfl)) ⟨rfl, rfl, rfl, trivial⟩
      · refine px_lge rfl q_X12_isBeyond_45 hg rfl ⟨trivial, (by first | decide | (refine ⟨?_, ?_⟩ <;> grind) | grind)⟩ (fun c55 => ?_) (fun c55 => ?_)
        · refine px_b rfl q_X12_isBeyond_62 hg rfl trivial ?_
          exact px_go (ih (i + 1) (by grind) (by grind) (by grind) _ (by first | exact Or.inl rfl | exact Or.inr rfl)) ⟨rfl, rfl, rfl, trivial⟩
        · refine px_b rfl q_X12_isBeyond_58 hg rfl trivial ?_
          exact px_go (ih (i + 1) (by grind) (by grind) (by grind) _ (by first | exact Or.inl rfl | exact Or.inr rfl)) ⟨rfl, rfl, rfl, trivial⟩

theorem q_X12_isBeyond_0 : px_bk 12 3 cX12_isBeyond 0 [(.aload_n 0, (0, 0, 0, 0, 0), 0, 0), (.getfield 121, (12, 52, 3, 132, 0), 0, 0), (.bipush 8, (0, 0, 0, 0, 0), 8, 0), (.laload, (0, 0, 0, 0, 0), 0, 0), (.ldc2_w 231, (0, 0, 0, 0, 0), 0, 5000), (.lcmp, (0, 0, 0, 0, 0), 0, 0)] = some 11 ∧ px_t1 cX12_isBeyond 11 .le 18 = true := by decide +kernel
theorem q_X12_isBeyond_18 : px_bk 12 3 cX12_isBeyond 18 [(.iconst 0, (0, 0, 0, 0, 0), 0, 0), (.istore_n 1, (0, 0, 0, 0, 0), 0, 0), (.iconst 0, (0, 0, 0, 0, 0), 0, 0), (.istore_n 2, (0, 0, 0, 0, 0), 0, 0)] = some 22 := by decide +kernel
theorem q_X12_isBeyond_14 : px_bk 12 3 cX12_isBeyond 14 [(.iconst 1, (0, 0, 0, 0, 0), 1, 0), (.goto 4, (0, 0, 0, 0, 0), 0, 0), (.istore_n 1, (0, 0, 0, 0, 0), 0, 0), (.iconst 0, (0, 0, 0, 0, 0), 0, 0), (.istore_n 2, (0, 0, 0, 0, 0), 0, 0)] = some 22 := by decide +kernel
set_option maxRecDepth 100000 in
theorem k_isBeyond {n : Nat} {I : px_I} {L : px_L} {R : px_R} (hg : px_G n R)  : px_KP M_X12_isBeyond [.ref 103] n I L R (fun r => r = 0 ∨ r = 1) := by
  refine px_of (plainFor_of_name np_RX12) (fun _ _ _ => trivial) rfl ?_
  refine px_lle rfl q_X12_isBeyond_0 hg rfl ⟨trivial, (by first | decide | (refine ⟨?_, ?_⟩ <;> grind) | grind)⟩ (fun c11 => ?_) (fun c11 => ?_)
  · refine px_b rfl q_X12_isBeyond_18 hg rfl trivial ?_
    first | exact px_go (l_isBeyond hg (fun r hr => ⟨rfl, rfl, r, rfl, rfl, rfl, hr⟩) 0 (by decide) (by decide) 1 (Or.inr rfl)) ⟨rfl, rfl, rfl, trivial⟩ | exact px_go (l_isBeyond hg (fun r hr => ⟨rfl, rfl, r, rfl, rfl, rfl, hr⟩) 0 (by decide) (by decide) 0 (Or.inl rfl)) ⟨rfl, rfl, rfl, trivial⟩
  · refine px_b rfl q_X12_isBeyond_14 hg rfl trivial ?_
    first | exact px_go (l_isBeyond hg (fun r hr => ⟨rfl, rfl, r, rfl, rfl, rfl, hr⟩) 0 (by decide) (by decide) 1 (Or.inr rfl)) ⟨rfl, rfl, rfl, trivial⟩ | exact px_go (l_isBeyond hg (fun r hr => ⟨rfl, rfl, r, rfl, rfl, rfl, hr⟩) 0 (by decide) (by decide) 0 (Or.inl rfl)) ⟨rfl, rfl, rfl, trivial⟩

theorem q_X12_runs_43 : px_bk 12 6 cX12_runs 43 [(.aload_n 0, (0, 0, 0, 0, 0), 0, 0), (.getfield 100, (12, 45, 3, 130, 0), 0, 0), (.iload_n 3, (0, 0, 0, 0, 0), 0, 0), (.iaload, (0, 0, 0, 0, 0), 0, 0), (.bipush 22, (0, 0, 0, 0, 0), 22, 0)] = some 51 ∧ px_t2 cX12_runs 51 .eq 292 = true := by decide +kernel
theorem q_X12_runs_54 : px_bk 12 6 cX12_runs 54 [(.aload_n 0, (0, 0, 0, 0, 0), 0, 0), (.getfield 100, (12, 45, 3, 130, 0), 0, 0), (.iload_n 3, (0, 0, 0, 0, 0), 0, 0), (.iaload, (0, 0, 0, 0, 0), 0, 0), (.istore 4, (0, 0, 0, 0, 0), 0, 0), (.aload_n 0, (0, 0, 0, 0, 0), 0, 0), (.getfield 103, (12, 46, 3, 131, 0), 0, 0), (.iload_n 3, (0, 0, 0, 0, 0), 0, 0), (.iaload, (0, 0, 0, 0, 0), 0, 0), (.istore 5, (0, 0, 0, 0, 0), 0, 0), (.iload 4, (0, 0, 0, 0, 0), 0, 0), (.bipush 23, (0, 0, 0, 0, 0), 23, 0)] = some 74 ∧ px_t2 cX12_runs 74 .ne 89 = true := by decide +kernel
theorem q_X12_runs_77 : px_bk 12 6 cX12_runs 77 [(.sipush 220, (0, 0, 0, 0, 0), 220, 0), (.iload_n 1, (0, 0, 0, 0, 0), 0, 0), (.imul, (0, 0, 0, 0, 0), 0, 0), (.iload 5, (0, 0, 0, 0, 0), 0, 0), (.iadd, (0, 0, 0, 0, 0), 0, 0), (.istore_n 3, (0, 0, 0, 0, 0), 0, 0), (.goto (-43), (0, 0, 0, 0, 0), 0, 0)] = some 43 := by decide +kernel
set_option maxRecDepth 100000 in
theorem s_skip {n : Nat} {R : px_R} (hg : px_G n R) {Q : px_Q} (w h k : Int32) {I : px_I} {L : px_L} (hk : 0 ≤ k ∧ k < 1320) (ho : I 130 k.toNatClampNeg = 23)  (hq : ∀ I2, mRI I I2 → Q (some (.int 0)) n I2 L R) (kk : px M_X12_runs 0 0 43 [(0, .ref 103), (1, .int w), (2, .int h), (3, .int (220 * w + I 131 k.toNatClampNeg))] [] n I L R Q) : px M_X12_runs 0 0 43 [(0, .ref 103), (1, .int w), (2, .int h), (3, .int (k))] [] n I L R Q := by
  skip
  refine px_ieq rfl q_X12_runs_43 hg rfl ⟨trivial, (by first | with_reducible assumption | decide | (refine ⟨?_, ?_⟩ <;> grind))⟩ (fun c51 => ?_) (fun c51 => ?_)
  · rw [ho] at c51; exact absurd c51 (by decide)
  · refine px_ine rfl q_X12_runs_54 hg rfl ⟨⟨trivial, (by first | with_reducible assumption | decide | (refine ⟨?_, ?_⟩ <;> grind))⟩, (by first | with_reducible assumption | decide | (refine ⟨?_, ?_⟩ <;> grind))⟩ (fun c74 => ?_) (fun c74 => ?_)
    · rw [ho] at c74; exact absurd c74 (by decide)
    · refine px_b rfl q_X12_runs_77 hg rfl trivial ?_
      exact px_go kk ⟨rfl, rfl, rfl, rfl, trivial⟩

theorem q_X12_runs_89 : px_bk 12 6 cX12_runs 89 [(.iload 4, (0, 0, 0, 0, 0), 0, 0), (.bipush 7, (0, 0, 0, 0, 0), 7, 0)] = some 93 ∧ px_t2 cX12_runs 93 .ne 130 = true := by decide +kernel
theorem q_X12_runs_96 : px_bk 12 6 cX12_runs 96 [(.aload_n 0, (0, 0, 0, 0, 0), 0, 0), (.getfield 125, (12, 54, 3, 133, 0), 0, 0), (.aload_n 0, (0, 0, 0, 0, 0), 0, 0), (.getfield 396, (12, 53, 0, 0, 0), 0, 0), (.iload_n 3, (0, 0, 0, 0, 0), 0, 0), (.iconst 1, (0, 0, 0, 0, 0), 1, 0), (.iadd, (0, 0, 0, 0, 0), 0, 0), (.iastore, (0, 0, 0, 0, 0), 0, 0), (.aload_n 0, (0, 0, 0, 0, 0), 0, 0), (.dup, (0, 0, 0, 0, 0), 0, 0), (.getfield 396, (12, 53, 0, 0, 0), 0, 0), (.iconst 1, (0, 0, 0, 0, 0), 1, 0), (.iadd, (0, 0, 0, 0, 0), 0, 0), (.putfield 396, (12, 53, 0, 0, 0), 0, 0), (.sipush 220, (0, 0, 0, 0, 0), 220, 0), (.iload_n 1, (0, 0, 0, 0, 0), 0, 0), (.imul, (0, 0, 0, 0, 0), 0, 0), (.iload 5, (0, 0, 0, 0, 0), 0, 0), (.iadd, (0, 0, 0, 0, 0), 0, 0), (.istore_n 3, (0, 0, 0, 0, 0), 0, 0), (.goto 153, (0, 0, 0, 0, 0), 0, 0), (.aload_n 0, (0, 0, 0, 0, 0), 0, 0)] = some 281 ∧ px_tv cX12_runs 281 403 = true := by decide +kernel
theorem q_X12_runs_284 : px_bk 12 6 cX12_runs 284 [] = some 284 ∧ px_t1 cX12_runs 284 .eq 289 = true := by decide +kernel
theorem q_X12_runs_289 : px_bk 12 6 cX12_runs 289 [(.goto (-246), (0, 0, 0, 0, 0), 0, 0)] = some 43 := by decide +kernel
theorem q_X12_runs_287 : px_bk 12 6 cX12_runs 287 [(.iconst 0, (0, 0, 0, 0, 0), 0, 0)] = some 288 ∧ px_tr cX12_runs 288 .ireturn = true := by decide +kernel
set_option maxRecDepth 100000 in
theorem s_do {n : Nat} {R : px_R} (hg : px_G n R) {Q : px_Q} (w h k : Int32) {I : px_I} {L : px_L} (hk : 0 ≤ k ∧ k < 1320) (ho : I 130 k.toNatClampNeg = 7) (d : Int32) (hd : I 103 53 = d) (hd0 : 0 ≤ d ∧ d < 90) (hq : ∀ I2, mRI I I2 → Q (some (.int 0)) n I2 L R) (kk : px M_X12_runs 0 0 43 [(0, .ref 103), (1, .int w), (2, .int h), (3, .int (220 * w + I 131 k.toNatClampNeg))] [] n (px_u (px_u I 133 d.toNatClampNeg (k + 1)) 103 53 (d + 1)) L R Q) : px M_X12_runs 0 0 43 [(0, .ref 103), (1, .int w), (2, .int h), (3, .int (k))] [] n I L R Q := by
  skip
  subst hd
  refine px_ieq rfl q_X12_runs_43 hg rfl ⟨trivial, (by first | with_reducible assumption | decide | (refine ⟨?_, ?_⟩ <;> grind))⟩ (fun c51 => ?_) (fun c51 => ?_)
  · rw [ho] at c51; exact absurd c51 (by decide)
  · refine px_ine rfl q_X12_runs_54 hg rfl ⟨⟨trivial, (by first | with_reducible assumption | decide | (refine ⟨?_, ?_⟩ <;> grind))⟩, (by first | with_reducible assumption | decide | (refine ⟨?_, ?_⟩ <;> grind))⟩ (fun c74 => ?_) (fun c74 => ?_)
    · refine px_ine rfl q_X12_runs_89 hg rfl trivial (fun c93 => ?_) (fun c93 => ?_)
      · rw [ho] at c93; exact absurd c93 (by decide)
      · refine px_cVP (ci := 12) rfl q_X12_runs_96 hg rfl ⟨trivial, (by first | with_reducible assumption | decide | (refine ⟨?_, ?_⟩ <;> grind))⟩ lk_12_403 nm_X12_isBeyond (k_isBeyond hg) rfl rfl (px_lit hg rfl) rfl rfl rfl ⟨rfl, rfl⟩ ?_
        intro x281 h281
        refine px_eq rfl q_X12_runs_284 hg rfl trivial (fun c284 => ?_) (fun c284 => ?_)
        · refine px_b rfl q_X12_runs_289 hg rfl trivial ?_
          exact px_go kk ⟨rfl, rfl, rfl, rfl, trivial⟩
        · refine px_rz rfl q_X12_runs_287 rfl rfl rfl hg rfl trivial (by first | exact Or.inl rfl | exact Or.inr rfl | grind) ?_
          exact hq _ (mRI.ur (mRI.u3 (fun _ _ _ _ _ => rfl) _ _) _)
    · rw [ho] at c74; exact absurd c74 (by decide)

theorem q_X12_runs_130 : px_bk 12 6 cX12_runs 130 [(.iload 4, (0, 0, 0, 0, 0), 0, 0), (.bipush 21, (0, 0, 0, 0, 0), 21, 0)] = some 134 ∧ px_t2 cX12_runs 134 .ne 160 = true := by decide +kernel
theorem q_X12_runs_137 : px_bk 12 6 cX12_runs 137 [(.aload_n 0, (0, 0, 0, 0, 0), 0, 0), (.dup, (0, 0, 0, 0, 0), 0, 0), (.getfield 396, (12, 53, 0, 0, 0), 0, 0), (.iconst 1, (0, 0, 0, 0, 0), 1, 0), (.isub, (0, 0, 0, 0, 0), 0, 0), (.putfield 396, (12, 53, 0, 0, 0), 0, 0), (.aload_n 0, (0, 0, 0, 0, 0), 0, 0), (.getfield 125, (12, 54, 3, 133, 0), 0, 0), (.aload_n 0, (0, 0, 0, 0, 0), 0, 0), (.getfield 396, (12, 53, 0, 0, 0), 0, 0), (.iaload, (0, 0, 0, 0, 0), 0, 0), (.istore_n 3, (0, 0, 0, 0, 0), 0, 0), (.goto 123, (0, 0, 0, 0, 0), 0, 0), (.aload_n 0, (0, 0, 0, 0, 0), 0, 0)] = some 281 ∧ px_tv cX12_runs 281 403 = true := by decide +kernel
set_option maxRecDepth 100000 in
theorem s_ret {n : Nat} {R : px_R} (hg : px_G n R) {Q : px_Q} (w h k : Int32) {I : px_I} {L : px_L} (hk : 0 ≤ k ∧ k < 1320) (ho : I 130 k.toNatClampNeg = 21) (d : Int32) (hd : I 103 53 = d) (hd0 : 1 ≤ d ∧ d ≤ 90) (hq : ∀ I2, mRI I I2 → Q (some (.int 0)) n I2 L R) (kk : px M_X12_runs 0 0 43 [(0, .ref 103), (1, .int w), (2, .int h), (3, .int (I 133 (d - 1).toNatClampNeg))] [] n (px_u I 103 53 (d - 1)) L R Q) : px M_X12_runs 0 0 43 [(0, .ref 103), (1, .int w), (2, .int h), (3, .int (k))] [] n I L R Q := by
  skip
  subst hd
  refine px_ieq rfl q_X12_runs_43 hg rfl ⟨trivial, (by first | with_reducible assumption | decide | (refine ⟨?_, ?_⟩ <;> grind))⟩ (fun c51 => ?_) (fun c51 => ?_)
  · rw [ho] at c51; exact absurd c51 (by decide)
  · refine px_ine rfl q_X12_runs_54 hg rfl ⟨⟨trivial, (by first | with_reducible assumption | decide | (refine ⟨?_, ?_⟩ <;> grind))⟩, (by first | with_reducible assumption | decide | (refine ⟨?_, ?_⟩ <;> grind))⟩ (fun c74 => ?_) (fun c74 => ?_)
    · refine px_ine rfl q_X12_runs_89 hg rfl trivial (fun c93 => ?_) (fun c93 => ?_)
      · refine px_ine rfl q_X12_runs_130 hg rfl trivial (fun c134 => ?_) (fun c134 => ?_)
        · rw [ho] at c134; exact absurd c134 (by decide)
        · refine px_cVP (ci := 12) rfl q_X12_runs_137 hg rfl ⟨trivial, (by first | with_reducible assumption | decide | (refine ⟨?_, ?_⟩ <;> grind))⟩ lk_12_403 nm_X12_isBeyond (k_isBeyond hg) rfl rfl (px_lit hg rfl) rfl rfl rfl ⟨rfl, rfl⟩ ?_
          intro x281 h281
          refine px_eq rfl q_X12_runs_284 hg rfl trivial (fun c284 => ?_) (fun c284 => ?_)
          · refine px_b rfl q_X12_runs_289 hg rfl trivial ?_
            exact px_go kk ⟨rfl, rfl, rfl, rfl, trivial⟩
          · refine px_rz rfl q_X12_runs_287 rfl rfl rfl hg rfl trivial (by first | exact Or.inl rfl | exact Or.inr rfl | grind) ?_
            exact hq _ (mRI.ur (fun _ _ _ _ _ => rfl) _)
      · rw [ho] at c93; exact absurd c93 (by decide)
    · rw [ho] at c74; exact absurd c74 (by decide)

theorem q_X12_runs_160 : px_bk 12 6 cX12_runs 160 [(.iload 4, (0, 0, 0, 0, 0), 0, 0), (.bipush 8, (0, 0, 0, 0, 0), 8, 0)] = some 164 ∧ px_t2 cX12_runs 164 .ne 194 = true := by decide +kernel
theorem q_X12_runs_167 : px_bk 12 6 cX12_runs 167 [(.aload_n 0, (0, 0, 0, 0, 0), 0, 0), (.getfield 128, (12, 55, 3, 134, 0), 0, 0), (.aload_n 0, (0, 0, 0, 0, 0), 0, 0), (.getfield 396, (12, 53, 0, 0, 0), 0, 0), (.iload 5, (0, 0, 0, 0, 0), 0, 0), (.iastore, (0, 0, 0, 0, 0), 0, 0), (.aload_n 0, (0, 0, 0, 0, 0), 0, 0), (.dup, (0, 0, 0, 0, 0), 0, 0), (.getfield 396, (12, 53, 0, 0, 0), 0, 0), (.iconst 1, (0, 0, 0, 0, 0), 1, 0), (.iadd, (0, 0, 0, 0, 0), 0, 0), (.putfield 396, (12, 53, 0, 0, 0), 0, 0), (.iinc 3 1, (0, 0, 0, 0, 0), 1, 0), (.goto 89, (0, 0, 0, 0, 0), 0, 0), (.aload_n 0, (0, 0, 0, 0, 0), 0, 0)] = some 281 ∧ px_tv cX12_runs 281 403 = true := by decide +kernel
set_option maxRecDepth 100000 in
theorem s_rep {n : Nat} {R : px_R} (hg : px_G n R) {Q : px_Q} (w h k : Int32) {I : px_I} {L : px_L} (hk : 0 ≤ k ∧ k < 1320) (ho : I 130 k.toNatClampNeg = 8) (d : Int32) (hd : I 103 53 = d) (hd0 : 0 ≤ d ∧ d < 90) (hq : ∀ I2, mRI I I2 → Q (some (.int 0)) n I2 L R) (kk : px M_X12_runs 0 0 43 [(0, .ref 103), (1, .int w), (2, .int h), (3, .int (k + 1))] [] n (px_u (px_u I 134 d.toNatClampNeg (I 131 k.toNatClampNeg)) 103 53 (d + 1)) L R Q) : px M_X12_runs 0 0 43 [(0, .ref 103), (1, .int w), (2, .int h), (3, .int (k))] [] n I L R Q := by
  skip
  subst hd
  refine px_ieq rfl q_X12_runs_43 hg rfl ⟨trivial, (by first | with_reducible assumption | decide | (refine ⟨?_, ?_⟩ <;> grind))⟩ (fun c51 => ?_) (fun c51 => ?_)
  · rw [ho] at c51; exact absurd c51 (by decide)
  · refine px_ine rfl q_X12_runs_54 hg rfl ⟨⟨trivial, (by first | with_reducible assumption | decide | (refine ⟨?_, ?_⟩ <;> grind))⟩, (by first | with_reducible assumption | decide | (refine ⟨?_, ?_⟩ <;> grind))⟩ (fun c74 => ?_) (fun c74 => ?_)
    · refine px_ine rfl q_X12_runs_89 hg rfl trivial (fun c93 => ?_) (fun c93 => ?_)
      · refine px_ine rfl q_X12_runs_130 hg rfl trivial (fun c134 => ?_) (fun c134 => ?_)
        · refine px_ine rfl q_X12_runs_160 hg rfl trivial (fun c164 => ?_) (fun c164 => ?_)
          · rw [ho] at c164; exact absurd c164 (by decide)
          · refine px_cVP (ci := 12) rfl q_X12_runs_167 hg rfl ⟨trivial, (by first | with_reducible assumption | decide | (refine ⟨?_, ?_⟩ <;> grind))⟩ lk_12_403 nm_X12_isBeyond (k_isBeyond hg) rfl rfl (px_lit hg rfl) rfl rfl rfl ⟨rfl, rfl⟩ ?_
            intro x281 h281
            refine px_eq rfl q_X12_runs_284 hg rfl trivial (fun c284 => ?_) (fun c284 => ?_)
            · refine px_b rfl q_X12_runs_289 hg rfl trivial ?_
              exact px_go kk ⟨rfl, rfl, rfl, rfl, trivial⟩
            · refine px_rz rfl q_X12_runs_287 rfl rfl rfl hg rfl trivial (by first | exact Or.inl rfl | exact Or.inr rfl | grind) ?_
              exact hq _ (mRI.ur (mRI.u4 (fun _ _ _ _ _ => rfl) _ _) _)
        · rw [ho] at c134; exact absurd c134 (by decide)
      · rw [ho] at c93; exact absurd c93 (by decide)
    · rw [ho] at c74; exact absurd c74 (by decide)

theorem q_X12_runs_194 : px_bk 12 6 cX12_runs 194 [(.iload 4, (0, 0, 0, 0, 0), 0, 0), (.bipush 20, (0, 0, 0, 0, 0), 20, 0)] = some 198 ∧ px_t2 cX12_runs 198 .ne 258 = true := by decide +kernel
theorem q_X12_runs_201 : px_bk 12 6 cX12_runs 201 [(.aload_n 0, (0, 0, 0, 0, 0), 0, 0), (.getfield 128, (12, 55, 3, 134, 0), 0, 0), (.aload_n 0, (0, 0, 0, 0, 0), 0, 0), (.getfield 396, (12, 53, 0, 0, 0), 0, 0), (.iconst 1, (0, 0, 0, 0, 0), 1, 0), (.isub, (0, 0, 0, 0, 0), 0, 0), (.dup2, (0, 0, 0, 0, 0), 0, 0), (.iaload, (0, 0, 0, 0, 0), 0, 0), (.iconst 1, (0, 0, 0, 0, 0), 1, 0), (.isub, (0, 0, 0, 0, 0), 0, 0), (.iastore, (0, 0, 0, 0, 0), 0, 0), (.aload_n 0, (0, 0, 0, 0, 0), 0, 0), (.getfield 128, (12, 55, 3, 134, 0), 0, 0), (.aload_n 0, (0, 0, 0, 0, 0), 0, 0), (.getfield 396, (12, 53, 0, 0, 0), 0, 0), (.iconst 1, (0, 0, 0, 0, 0), 1, 0), (.isub, (0, 0, 0, 0, 0), 0, 0), (.iaload, (0, 0, 0, 0, 0), 0, 0)] = some 227 ∧ px_t1 cX12_runs 227 .le 242 = true := by decide +kernel
theorem q_X12_runs_242 : px_bk 12 6 cX12_runs 242 [(.aload_n 0, (0, 0, 0, 0, 0), 0, 0), (.dup, (0, 0, 0, 0, 0), 0, 0), (.getfield 396, (12, 53, 0, 0, 0), 0, 0), (.iconst 1, (0, 0, 0, 0, 0), 1, 0), (.isub, (0, 0, 0, 0, 0), 0, 0), (.putfield 396, (12, 53, 0, 0, 0), 0, 0), (.iinc 3 1, (0, 0, 0, 0, 0), 1, 0), (.goto 25, (0, 0, 0, 0, 0), 0, 0), (.aload_n 0, (0, 0, 0, 0, 0), 0, 0)] = some 281 ∧ px_tv cX12_runs 281 403 = true := by decide +kernel
theorem q_X12_runs_230 : px_bk 12 6 cX12_runs 230 [(.sipush 220, (0, 0, 0, 0, 0), 220, 0), (.iload_n 1, (0, 0, 0, 0, 0), 0, 0), (.imul, (0, 0, 0, 0, 0), 0, 0), (.iload 5, (0, 0, 0, 0, 0), 0, 0), (.iadd, (0, 0, 0, 0, 0), 0, 0), (.istore_n 3, (0, 0, 0, 0, 0), 0, 0), (.goto 41, (0, 0, 0, 0, 0), 0, 0), (.aload_n 0, (0, 0, 0, 0, 0), 0, 0)] = some 281 ∧ px_tv cX12_runs 281 403 = true := by decide +kernel
set_option maxRecDepth 100000 in
theorem s_round {n : Nat} {R : px_R} (hg : px_G n R) {Q : px_Q} (w h k : Int32) {I : px_I} {L : px_L} (hk : 0 ≤ k ∧ k < 1320) (ho : I 130 k.toNatClampNeg = 20) (d : Int32) (hd : I 103 53 = d) (hd0 : 1 ≤ d ∧ d ≤ 90) (hq : ∀ I2, mRI I I2 → Q (some (.int 0)) n I2 L R) (k1 : 0 < I 134 (d - 1).toNatClampNeg - 1 → px M_X12_runs 0 0 43 [(0, .ref 103), (1, .int w), (2, .int h), (3, .int (220 * w + I 131 k.toNatClampNeg))] [] n (px_u I 134 (d - 1).toNatClampNeg (I 134 (d - 1).toNatClampNeg - 1)) L R Q) (k2 : ¬ 0 < I 134 (d - 1).toNatClampNeg - 1 → px M_X12_runs 0 0 43 [(0, .ref 103), (1, .int w), (2, .int h), (3, .int (k + 1))] [] n (px_u (px_u I 134 (d - 1).toNatClampNeg (I 134 (d - 1).toNatClampNeg - 1)) 103 53 (d - 1)) L R Q) : px M_X12_runs 0 0 43 [(0, .ref 103), (1, .int w), (2, .int h), (3, .int (k))] [] n I L R Q := by
  skip
  subst hd
  refine px_ieq rfl q_X12_runs_43 hg rfl ⟨trivial, (by first | with_reducible assumption | decide | (refine ⟨?_, ?_⟩ <;> grind))⟩ (fun c51 => ?_) (fun c51 => ?_)
  · rw [ho] at c51; exact absurd c51 (by decide)
  · refine px_ine rfl q_X12_runs_54 hg rfl ⟨⟨trivial, (by first | with_reducible assumption | decide | (refine ⟨?_, ?_⟩ <;> grind))⟩, (by first | with_reducible assumption | decide | (refine ⟨?_, ?_⟩ <;> grind))⟩ (fun c74 => ?_) (fun c74 => ?_)
    · refine px_ine rfl q_X12_runs_89 hg rfl trivial (fun c93 => ?_) (fun c93 => ?_)
      · refine px_ine rfl q_X12_runs_130 hg rfl trivial (fun c134 => ?_) (fun c134 => ?_)
        · refine px_ine rfl q_X12_runs_160 hg rfl trivial (fun c164 => ?_) (fun c164 => ?_)
          · refine px_ine rfl q_X12_runs_194 hg rfl trivial (fun c198 => ?_) (fun c198 => ?_)
            · rw [ho] at c198; exact absurd c198 (by decide)
            · refine px_le rfl q_X12_runs_201 hg rfl ⟨⟨⟨trivial, (by first | with_reducible assumption | decide | (refine ⟨?_, ?_⟩ <;> grind))⟩, (by first | with_reducible assumption | decide | (refine ⟨?_, ?_⟩ <;> grind))⟩, (by first | with_reducible assumption | decide | (refine ⟨?_, ?_⟩ <;> grind))⟩ (fun c227 => ?_) (fun c227 => ?_)
              · refine px_cVP (ci := 12) rfl q_X12_runs_242 hg rfl trivial lk_12_403 nm_X12_isBeyond (k_isBeyond hg) rfl rfl (px_lit hg rfl) rfl rfl rfl ⟨rfl, rfl⟩ ?_
                intro x281 h281
                refine px_eq rfl q_X12_runs_284 hg rfl trivial (fun c284 => ?_) (fun c284 => ?_)
                · refine px_b rfl q_X12_runs_289 hg rfl trivial ?_
                  first | exact px_go (k1 (by simpa [px_ur] using c227)) ⟨rfl, rfl, rfl, rfl, trivial⟩ | exact px_go (k2 (by simpa [px_ur] using c227)) ⟨rfl, rfl, rfl, rfl, trivial⟩
                · refine px_rz rfl q_X12_runs_287 rfl rfl rfl hg rfl trivial (by first | exact Or.inl rfl | exact Or.inr rfl | grind) ?_
                  first | exact hq _ (mRI.u4 (fun _ _ _ _ _ => rfl) _ _) | exact hq _ (mRI.ur (mRI.u4 (fun _ _ _ _ _ => rfl) _ _) _)
              · refine px_cVP (ci := 12) rfl q_X12_runs_230 hg rfl trivial lk_12_403 nm_X12_isBeyond (k_isBeyond hg) rfl rfl (px_lit hg rfl) rfl rfl rfl ⟨rfl, rfl⟩ ?_
                intro x281 h281
                refine px_eq rfl q_X12_runs_284 hg rfl trivial (fun c284 => ?_) (fun c284 => ?_)
                · refine px_b rfl q_X12_runs_289 hg rfl trivial ?_
                  first | exact px_go (k1 (by simpa [px_ur] using c227)) ⟨rfl, rfl, rfl, rfl, trivial⟩ | exact px_go (k2 (by simpa [px_ur] using c227)) ⟨rfl, rfl, rfl, rfl, trivial⟩
                · refine px_rz rfl q_X12_runs_287 rfl rfl rfl hg rfl trivial (by first | exact Or.inl rfl | exact Or.inr rfl | grind) ?_
                  first | exact hq _ (mRI.u4 (fun _ _ _ _ _ => rfl) _ _) | exact hq _ (mRI.ur (mRI.u4 (fun _ _ _ _ _ => rfl) _ _) _)
          · rw [ho] at c164; exact absurd c164 (by decide)
        · rw [ho] at c134; exact absurd c134 (by decide)
      · rw [ho] at c93; exact absurd c93 (by decide)
    · rw [ho] at c74; exact absurd c74 (by decide)

theorem q_X12_runs_258 : px_bk 12 6 cX12_runs 258 [(.aload_n 0, (0, 0, 0, 0, 0), 0, 0), (.getfield 121, (12, 52, 3, 132, 0), 0, 0), (.bipush 8, (0, 0, 0, 0, 0), 8, 0), (.dup2, (0, 0, 0, 0, 0), 0, 0), (.laload, (0, 0, 0, 0, 0), 0, 0), (.lconst 1, (0, 0, 0, 0, 0), 0, 1), (.ladd, (0, 0, 0, 0, 0), 0, 0), (.lastore, (0, 0, 0, 0, 0), 0, 0), (.aload_n 0, (0, 0, 0, 0, 0), 0, 0), (.iload 4, (0, 0, 0, 0, 0), 0, 0), (.iload 5, (0, 0, 0, 0, 0), 0, 0)] = some 274 ∧ px_tv cX12_runs 274 399 = true := by decide +kernel
theorem q_X12_runs_277 : px_bk 12 6 cX12_runs 277 [(.iinc 3 1, (0, 0, 0, 0, 0), 1, 0), (.aload_n 0, (0, 0, 0, 0, 0), 0, 0)] = some 281 ∧ px_tv cX12_runs 281 403 = true := by decide +kernel
set_option maxRecDepth 100000 in
theorem s_step {n : Nat} {R : px_R} (hg : px_G n R) {Q : px_Q} (w h k : Int32) {I : px_I} {L : px_L} (hk : 0 ≤ k ∧ k < 1320) (ho : 1 ≤ I 130 k.toNatClampNeg ∧ I 130 k.toNatClampNeg ≤ 6) (hq : ∀ L2, mRL L L2 → Q (some (.int 0)) n I L2 R) (kk : ∀ L2, mRL L L2 → px M_X12_runs 0 0 43 [(0, .ref 103), (1, .int w), (2, .int h), (3, .int (k + 1))] [] n I L2 R Q) : px M_X12_runs 0 0 43 [(0, .ref 103), (1, .int w), (2, .int h), (3, .int (k))] [] n I L R Q := by
  skip
  refine px_ieq rfl q_X12_runs_43 hg rfl ⟨trivial, (by first | with_reducible assumption | decide | (refine ⟨?_, ?_⟩ <;> grind))⟩ (fun c51 => ?_) (fun c51 => ?_)
  · rw [c51] at ho; exact absurd ho (by decide)
  · refine px_ine rfl q_X12_runs_54 hg rfl ⟨⟨trivial, (by first | with_reducible assumption | decide | (refine ⟨?_, ?_⟩ <;> grind))⟩, (by first | with_reducible assumption | decide | (refine ⟨?_, ?_⟩ <;> grind))⟩ (fun c74 => ?_) (fun c74 => ?_)
    · refine px_ine rfl q_X12_runs_89 hg rfl trivial (fun c93 => ?_) (fun c93 => ?_)
      · refine px_ine rfl q_X12_runs_130 hg rfl trivial (fun c134 => ?_) (fun c134 => ?_)
        · refine px_ine rfl q_X12_runs_160 hg rfl trivial (fun c164 => ?_) (fun c164 => ?_)
          · refine px_ine rfl q_X12_runs_194 hg rfl trivial (fun c198 => ?_) (fun c198 => ?_)
            · refine px_cVW (ci := 12) rfl q_X12_runs_258 hg rfl ⟨⟨trivial, (by first | with_reducible assumption | decide | (refine ⟨?_, ?_⟩ <;> grind))⟩, (by first | with_reducible assumption | decide | (refine ⟨?_, ?_⟩ <;> grind))⟩ lk_12_399 nm_X12_does (k_does hg _ _) rfl rfl (px_lit hg rfl) rfl rfl rfl ⟨rfl, rfl⟩ ?_
              intro I274 L274 h274
              obtain ⟨rfl, h274⟩ := h274
              replace h274 := (mRL.u (fun _ _ => rfl) _ _).trans h274
              refine px_cVP (ci := 12) rfl q_X12_runs_277 hg rfl trivial lk_12_403 nm_X12_isBeyond (k_isBeyond hg) rfl rfl (px_lit hg rfl) rfl rfl rfl ⟨rfl, rfl⟩ ?_
              intro x281 h281
              refine px_eq rfl q_X12_runs_284 hg rfl trivial (fun c284 => ?_) (fun c284 => ?_)
              · refine px_b rfl q_X12_runs_289 hg rfl trivial ?_
                exact px_go (kk _ h274) ⟨rfl, rfl, rfl, rfl, trivial⟩
              · refine px_rz rfl q_X12_runs_287 rfl rfl rfl hg rfl trivial (by first | exact Or.inl rfl | exact Or.inr rfl | grind) ?_
                exact hq _ h274
            · rw [c198] at ho; exact absurd ho (by decide)
          · rw [c164] at ho; exact absurd ho (by decide)
        · rw [c134] at ho; exact absurd ho (by decide)
      · rw [c93] at ho; exact absurd ho (by decide)
    · rw [c74] at ho; exact absurd ho (by decide)

theorem q_X12_runs_292 : px_bk 12 6 cX12_runs 292 [(.iconst 1, (0, 0, 0, 0, 0), 1, 0)] = some 293 ∧ px_tr cX12_runs 293 .ireturn = true := by decide +kernel
set_option maxRecDepth 100000 in
theorem s_end {n : Nat} {R : px_R} (hg : px_G n R) {Q : px_Q} (w h k : Int32) {I : px_I} {L : px_L} (hk : 0 ≤ k ∧ k < 1320) (ho : I 130 k.toNatClampNeg = 22) (hq : Q (some (.int 1)) n I L R) : px M_X12_runs 0 0 43 [(0, .ref 103), (1, .int w), (2, .int h), (3, .int (k))] [] n I L R Q := by
  skip
  refine px_ieq rfl q_X12_runs_43 hg rfl ⟨trivial, (by first | with_reducible assumption | decide | (refine ⟨?_, ?_⟩ <;> grind))⟩ (fun c51 => ?_) (fun c51 => ?_)
  · refine px_rz rfl q_X12_runs_292 rfl rfl rfl hg rfl trivial (by first | exact Or.inl rfl | exact Or.inr rfl | grind) ?_
    exact hq
  · exact absurd ho c51

/-- well-formed stretches of orders: the places that stand (X), kinds, values; how deep the stack grows; from, to -/
def mReg (X : Int32 → Prop) (o v : Int32 → Int32) (s i j : Int32) : Prop := ∀ P : Int32 → Int32 → Int32 → Prop,
  (∀ s i, 0 ≤ s → P s i i) → (∀ s i j, P s i j → X j → 1 ≤ o j → o j ≤ 6 → P s i (j + 1)) → (∀ s i j, P s i j → X j → o j = 23 → P s i (v j)) →
  (∀ s i j t e, P s i j → X j → o j = 7 → 0 ≤ t → t < s → P t (v j) e → X e → o e = 21 → P s i (j + 1)) →
  (∀ s i j t e, P s i j → X j → o j = 8 → 0 ≤ t → t < s → P t (j + 1) e → X e → o e = 20 → v e = j + 1 → P s i (e + 1)) → P s i j
def mSem (I0 : px_I) (w s i j : Int32) : Prop := s ≤ 90 → ∀ {n : Nat} {R : px_R} (_ : px_G n R) {Q : px_Q} (h : Int32) (L0 : px_L), (∀ r I2 L2, (r = 0 ∨ r = 1) → mRI I0 I2 → mRL L0 L2 → Q (some (.int r)) n I2 L2 R) →
  ∀ (d : Int32) (I : px_I) (L : px_L), mRI I0 I → mRL L0 L → I 103 53 = d → 0 ≤ d → d ≤ 90 → d + s ≤ 90 →
  (∀ I2 L2, mRI I0 I2 → mRL L0 L2 → I2 103 53 = d → (∀ q : Int32, 0 ≤ q → q < d → I2 133 q.toNatClampNeg = I 133 q.toNatClampNeg ∧ I2 134 q.toNatClampNeg = I 134 q.toNatClampNeg) → px M_X12_runs 0 0 43 [(0, .ref 103), (1, .int w), (2, .int h), (3, .int (220 * w + j))] [] n I2 L2 R Q) →
  px M_X12_runs 0 0 43 [(0, .ref 103), (1, .int w), (2, .int h), (3, .int (220 * w + i))] [] n I L R Q
theorem mRI.at0 {I0 I : px_I} (h : mRI I0 I) (k : Nat) : I 130 k = I0 130 k := h 130 k (by decide) (by decide) (fun q => absurd q.1 (by decide))
theorem mRI.at1 {I0 I : px_I} (h : mRI I0 I) (k : Nat) : I 131 k = I0 131 k := h 131 k (by decide) (by decide) (fun q => absurd q.1 (by decide))
theorem mDn {P : Int32 → Prop} (h : ∀ u : Int32, (0 < u → P (u - 1)) → P u) : ∀ u, P u := by
  have key : ∀ (d : Nat) (u : Int32), u.toInt.toNat < d → P u := by
    intro d
    induction d with
    | zero => intro u h1; omega
    | succ d ih =>
      intro u h1
      refine h u (fun h2 => ih _ ?_)
      have h3 := Int32.lt_iff_toInt_lt.mp h2
      have e : (u - 1).toInt = u.toInt - 1 := by
        rw [Int32.toInt_sub]
        have h4 := u.toInt_lt
        have e0 : (0 : Int32).toInt = 0 := by decide
        have e1 : (1 : Int32).toInt = 1 := by decide
        rw [e0] at h3
        rw [e1]
        exact Int.bmod_eq_of_le (by omega) (by omega)
      have e0 : (0 : Int32).toInt = 0 := by decide
      rw [e0] at h3
      omega
  exact fun u => key _ u (Nat.lt_succ_self _)
theorem mNat_inj {a b : Int32} (ha : 0 ≤ a) (hb : 0 ≤ b) (h : a ≠ b) : a.toNatClampNeg ≠ b.toNatClampNeg := fun h2 => h (px_inj ha hb h2)
theorem mSem_round {I0 : px_I} {w t i e : Int32} (hX : 0 ≤ 220 * w + e ∧ 220 * w + e < 1320) (ho : I0 130 (220 * w + e).toNatClampNeg = 20) (hv : I0 131 (220 * w + e).toNatClampNeg = i) (ht : 0 ≤ t ∧ t < 90) (hb : mSem I0 w t i e)
    {n : Nat} {R : px_R} (hg : px_G n R) {Q : px_Q} (h : Int32) (L0 : px_L) (hq : ∀ r I2 L2, (r = 0 ∨ r = 1) → mRI I0 I2 → mRL L0 L2 → Q (some (.int r)) n I2 L2 R) (d : Int32) (hd0 : 0 ≤ d) (hd : d < 90) (hdt : d + 1 + t ≤ 90) (I1 : px_I)
    (kk : ∀ I2 L2, mRI I0 I2 → mRL L0 L2 → I2 103 53 = d → (∀ q : Int32, 0 ≤ q → q < d → I2 133 q.toNatClampNeg = I1 133 q.toNatClampNeg ∧ I2 134 q.toNatClampNeg = I1 134 q.toNatClampNeg) → px M_X12_runs 0 0 43 [(0, .ref 103), (1, .int w), (2, .int h), (3, .int (220 * w + (e + 1)))] [] n I2 L2 R Q) :
    ∀ (u : Int32) (I : px_I) (L : px_L), mRI I0 I → mRL L0 L → I 103 53 = d + 1 → I 134 d.toNatClampNeg - 1 = u → (∀ q : Int32, 0 ≤ q → q < d → I 133 q.toNatClampNeg = I1 133 q.toNatClampNeg ∧ I 134 q.toNatClampNeg = I1 134 q.toNatClampNeg) →
    px M_X12_runs 0 0 43 [(0, .ref 103), (1, .int w), (2, .int h), (3, .int (220 * w + i))] [] n I L R Q := by
  have hdd : d + 1 - 1 = d := by grind
  refine mDn (fun u ih => ?_)
  intro I L hI hL hI1 hu hp
  refine hb (by grind) hg h L0 hq (d + 1) I L hI hL hI1 (by grind) (by grind) hdt (fun I2 L2 hI2 hL2 hI3 hp2 => ?_)
  have hI4 : I2 134 d.toNatClampNeg = I 134 d.toNatClampNeg := (hp2 d hd0 (by grind)).2
  refine s_round hg w h (220 * w + e) hX ((hI2.at0 _).trans ho) (d + 1) hI3 ⟨by grind, by grind⟩ (fun I5 h5 => hq 0 I5 L2 (Or.inl rfl) (hI2.trans h5) hL2) (fun h6 => ?_) (fun h6 => ?_)
  · rw [hdd, hI4] at h6
    rw [hI2.at1, hv, hdd, hI4]
    refine ih (by rw [← hu]; exact h6) _ L2 (hI2.u4 _ _) hL2 ?_ ?_ (fun q h7 h8 => ?_)
    · rw [px_u_ne (by decide)]; exact hI3
    · rw [px_u_at, ← hu]
    · have h9 : q.toNatClampNeg ≠ d.toNatClampNeg := mNat_inj h7 hd0 (by grind)
      rw [px_u_ne (by decide), px_u_at_ne h9]
      have h10 := hp2 q h7 (by grind)
      have h11 := hp q h7 h8
      exact ⟨h10.1.trans h11.1, h10.2.trans h11.2⟩
  · rw [hdd]
    have e1 : 220 * w + e + 1 = 220 * w + (e + 1) := by grind
    rw [e1]
    refine kk _ L2 ((hI2.u4 _ _).ur _) hL2 (by rw [px_u_at]) (fun q h7 h8 => ?_)
    have h9 : q.toNatClampNeg ≠ d.toNatClampNeg := mNat_inj h7 hd0 (by grind)
    rw [px_u_ne (by decide), px_u_ne (by decide), px_u_ne (by decide), px_u_at_ne h9]
    have h10 := hp2 q h7 (by grind)
    have h11 := hp q h7 h8
    exact ⟨h10.1.trans h11.1, h10.2.trans h11.2⟩
theorem mReg_sem {X : Int32 → Prop} {I0 : px_I} {w s i j : Int32} (hw : 0 ≤ w ∧ w ≤ 5) (hX : ∀ j, X j → 0 ≤ j ∧ j < 220) (h : mReg X (fun j => I0 130 (220 * w + j).toNatClampNeg) (fun j => I0 131 (220 * w + j).toNatClampNeg) s i j) : 0 ≤ s ∧ mSem I0 w s i j := by
  have hk : ∀ j, X j → 0 ≤ 220 * w + j ∧ 220 * w + j < 1320 := fun j hj => by have := hX j hj; grind
  have ha : ∀ j : Int32, 220 * w + j + 1 = 220 * w + (j + 1) := fun j => by grind
  refine h (fun s i j => 0 ≤ s ∧ mSem I0 w s i j) ?_ ?_ ?_ ?_ ?_
  · intro s i hs
    exact ⟨hs, fun _ n R hg Q h L0 hq d I L hI hL hd h0 h1 h2 kk => kk I L hI hL hd (fun _ _ _ => ⟨rfl, rfl⟩)⟩
  · intro s i j hP hj h1 h2
    refine ⟨hP.1, fun hs n R hg Q h L0 hq d I L hI hL hd h0 h90 h3 kk => hP.2 hs hg h L0 hq d I L hI hL hd h0 h90 h3 (fun I2 L2 hI2 hL2 hd2 hp => ?_)⟩
    refine s_step hg w h _ (hk j hj) ⟨by rw [hI2.at0]; exact h1, by rw [hI2.at0]; exact h2⟩ (fun L3 h3 => hq 0 I2 L3 (Or.inl rfl) hI2 (hL2.trans h3)) (fun L3 h3 => ?_)
    rw [ha]
    exact kk I2 L3 hI2 (hL2.trans h3) hd2 hp
  · intro s i j hP hj h1
    refine ⟨hP.1, fun hs n R hg Q h L0 hq d I L hI hL hd h0 h90 h3 kk => hP.2 hs hg h L0 hq d I L hI hL hd h0 h90 h3 (fun I2 L2 hI2 hL2 hd2 hp => ?_)⟩
    refine s_skip hg w h _ (hk j hj) (by rw [hI2.at0]; exact h1) (fun I3 h3 => hq 0 I3 L2 (Or.inl rfl) (hI2.trans h3) hL2) ?_
    rw [hI2.at1]
    exact kk I2 L2 hI2 hL2 hd2 hp
  · intro s i j t e hP hj h1 ht hts hB he h2
    refine ⟨hP.1, fun hs n R hg Q h L0 hq d I L hI hL hd h0 h90 h3 kk => hP.2 hs hg h L0 hq d I L hI hL hd h0 h90 h3 (fun I2 L2 hI2 hL2 hd2 hp => ?_)⟩
    have hs0 := hP.1
    have hd9 : d < 90 := by grind
    refine s_do hg w h _ (hk j hj) (by rw [hI2.at0]; exact h1) d hd2 ⟨h0, hd9⟩ (fun I3 h3 => hq 0 I3 L2 (Or.inl rfl) (hI2.trans h3) hL2) ?_
    rw [hI2.at1]
    refine hB.2 (by grind) hg h L0 hq (d + 1) _ L2 ((hI2.u3 _ _).ur _) hL2 (by rw [px_u_at]) (by grind) (by grind) (by grind) (fun I3 L3 hI3 hL3 hd3 hp3 => ?_)
    have hdd : d + 1 - 1 = d := by grind
    have e1 : I3 133 d.toNatClampNeg = 220 * w + j + 1 := by
      rw [(hp3 d h0 (by grind)).1, px_u_ne (by decide), px_u_at]
    refine s_ret hg w h _ (hk e he) (by rw [hI3.at0]; exact h2) (d + 1) hd3 ⟨by grind, by grind⟩ (fun I4 h4 => hq 0 I4 L3 (Or.inl rfl) (hI3.trans h4) hL3) ?_
    rw [hdd, e1, ha]
    refine kk _ L3 (hI3.ur _) hL3 (by rw [px_u_at]) (fun q h7 h8 => ?_)
    have h9 : q.toNatClampNeg ≠ d.toNatClampNeg := mNat_inj h7 h0 (by grind)
    rw [px_u_ne (by decide), px_u_ne (by decide)]
    have h10 := hp3 q h7 (by grind)
    rw [px_u_ne (show (133 : Nat) ≠ 103 by decide), px_u_ne (show (134 : Nat) ≠ 103 by decide), px_u_at_ne h9, px_u_ne (show (134 : Nat) ≠ 133 by decide)] at h10
    have h11 := hp q h7 h8
    exact ⟨h10.1.trans h11.1, h10.2.trans h11.2⟩
  · intro s i j t e hP hj h1 ht hts hB he h2 hv
    refine ⟨hP.1, fun hs n R hg Q h L0 hq d I L hI hL hd h0 h90 h3 kk => hP.2 hs hg h L0 hq d I L hI hL hd h0 h90 h3 (fun I2 L2 hI2 hL2 hd2 hp => ?_)⟩
    have hs0 := hP.1
    have hd9 : d < 90 := by grind
    refine s_rep hg w h _ (hk j hj) (by rw [hI2.at0]; exact h1) d hd2 ⟨h0, hd9⟩ (fun I3 h3 => hq 0 I3 L2 (Or.inl rfl) (hI2.trans h3) hL2) ?_
    rw [ha]
    refine mSem_round (hk e he) h2 hv ⟨ht, by grind⟩ hB.2 hg h L0 hq d h0 hd9 (by grind) I kk _ _ L2 ((hI2.u4 _ _).ur _) hL2 (by rw [px_u_at]) rfl (fun q h7 h8 => ?_)
    have h9 : q.toNatClampNeg ≠ d.toNatClampNeg := mNat_inj h7 h0 (by grind)
    rw [px_u_ne (by decide), px_u_ne (by decide), px_u_ne (by decide), px_u_at_ne h9]
    exact hp q h7 h8
/-- the orders of a way stand -/
def mOrd (I : px_I) (w : Int32) : Prop := ∃ (X : Int32 → Prop) (s e : Int32), (∀ j, X j → 0 ≤ j ∧ j < 220) ∧ mReg X (fun j => I 130 (220 * w + j).toNatClampNeg) (fun j => I 131 (220 * w + j).toNatClampNeg) s 0 e ∧ s ≤ 90 ∧ X e ∧ I 130 (220 * w + e).toNatClampNeg = 22
def mWays (I : px_I) : Prop := ∀ w : Int32, 0 ≤ w → w ≤ 5 → I 129 w.toNatClampNeg = 1 → mOrd I w
theorem mOrd.same {I I2 : px_I} {w : Int32} (h : mOrd I w) (h0 : ∀ k, I2 130 k = I 130 k) (h1 : ∀ k, I2 131 k = I 131 k) : mOrd I2 w := by
  have e0 : I2 130 = I 130 := funext h0
  have e1 : I2 131 = I 131 := funext h1
  unfold mOrd at *
  rw [e0, e1]; exact h
theorem mWays.same {I I2 : px_I} (h : mWays I) (h0 : ∀ b k, b = 129 ∨ b = 130 ∨ b = 131 → I2 b k = I b k) : mWays I2 := fun w h1 h2 h3 =>
  (h w h1 h2 (by rw [← h0 129 _ (Or.inl rfl)]; exact h3)).same (fun k => h0 130 k (Or.inr (Or.inl rfl))) (fun k => h0 131 k (Or.inr (Or.inr rfl)))
/-- of the reference only what a question uses may have changed -/
def mXI (I I2 : px_I) : Prop := ∀ b j, b ≠ 133 → b ≠ 134 → ¬ (b = 103 ∧ (j = 53 ∨ j = 70 ∨ j = 74)) → I2 b j = I b j
def mXL (L L2 : px_L) : Prop := ∀ b, b ≠ 132 → b ≠ 143 → b ≠ 144 → b ≠ 145 → b ≠ 146 → L2 b = L b
theorem mRI.X {I I2 : px_I} (h : mRI I I2) : mXI I I2 := fun b j h1 h2 h3 => h b j h1 h2 (fun q => h3 ⟨q.1, Or.inl q.2⟩)
theorem mDI.X {I I2 : px_I} (h : mDI I I2) : mXI I I2 := fun b j h1 h2 h3 => h b j (fun q => h3 ⟨q.1, Or.inr (Or.inl q.2)⟩)
theorem mRL.X {L L2 : px_L} (h : mRL L L2) : mXL L L2 := fun b h1 h2 h3 h4 h5 => h b h1
theorem mDL.X {L L2 : px_L} (h : mDL L L2) : mXL L L2 := fun b h1 h2 h3 h4 h5 => h b h2
theorem mNL.X {L L2 : px_L} (h : mNL L L2) : mXL L L2 := fun b h1 h2 h3 h4 h5 => h b h4 h5
theorem mXI.trans {I I1 I2 : px_I} (h : mXI I I1) (h2 : mXI I1 I2) : mXI I I2 := fun b j h3 h4 h5 => (h2 b j h3 h4 h5).trans (h b j h3 h4 h5)
theorem mXL.trans {L L1 L2 : px_L} (h : mXL L L1) (h2 : mXL L1 L2) : mXL L L2 := fun b h1 h3 h4 h5 h6 => (h2 b h1 h3 h4 h5 h6).trans (h b h1 h3 h4 h5 h6)
theorem mXI.rfl' {I : px_I} : mXI I I := fun _ _ _ _ _ => rfl
theorem mXL.rfl' {L : px_L} : mXL L L := fun _ _ _ _ _ _ => rfl
theorem mXI.S {I I2 : px_I} (h : mXI I I2) (hS : mS I) : mS I2 := by
  have a : ∀ b j, b ≠ 133 → b ≠ 134 → ¬ (b = 103 ∧ (j = 53 ∨ j = 70 ∨ j = 74)) → I2 b j = I b j := h
  unfold mS at *
  rw [a 103 1 (by decide) (by decide) (by decide), a 103 2 (by decide) (by decide) (by decide)]
  refine ⟨hS.1, hS.2.1, fun k h1 h2 => ?_⟩
  rw [a 105 _ (by decide) (by decide) (fun q => absurd q.1 (by decide)), a 106 _ (by decide) (by decide) (fun q => absurd q.1 (by decide))]
  exact hS.2.2 k h1 h2
theorem mXI.W {I I2 : px_I} (h : mXI I I2) (hS : mWays I) : mWays I2 := hS.same (fun b k hb => h b k (by rcases hb with rfl | rfl | rfl <;> decide) (by rcases hb with rfl | rfl | rfl <;> decide) (by rcases hb with rfl | rfl | rfl <;> grind))

theorem q_X12_runs_2 : px_bk 12 6 cX12_runs 2 [(.iload_n 3, (0, 0, 0, 0, 0), 0, 0), (.bipush 9, (0, 0, 0, 0, 0), 9, 0)] = some 5 ∧ px_t2 cX12_runs 5 .ge 32 = true := by decide +kernel
theorem q_X12_runs_32 : px_bk 12 6 cX12_runs 32 [(.aload_n 0, (0, 0, 0, 0, 0), 0, 0), (.iconst 0, (0, 0, 0, 0, 0), 0, 0), (.putfield 396, (12, 53, 0, 0, 0), 0, 0), (.sipush 220, (0, 0, 0, 0, 0), 220, 0), (.iload_n 1, (0, 0, 0, 0, 0), 0, 0), (.imul, (0, 0, 0, 0, 0), 0, 0), (.istore_n 3, (0, 0, 0, 0, 0), 0, 0)] = some 43 := by decide +kernel
theorem q_X12_runs_8 : px_bk 12 6 cX12_runs 8 [(.aload_n 0, (0, 0, 0, 0, 0), 0, 0), (.getfield 121, (12, 52, 3, 132, 0), 0, 0), (.iload_n 3, (0, 0, 0, 0, 0), 0, 0), (.iload_n 3, (0, 0, 0, 0, 0), 0, 0), (.bipush 7, (0, 0, 0, 0, 0), 7, 0)] = some 16 ∧ px_t2 cX12_runs 16 .ne 24 = true := by decide +kernel
theorem q_X12_runs_24 : px_bk 12 6 cX12_runs 24 [(.lconst 0, (0, 0, 0, 0, 0), 0, 0), (.lastore, (0, 0, 0, 0, 0), 0, 0), (.iinc 3 1, (0, 0, 0, 0, 0), 1, 0), (.goto (-27), (0, 0, 0, 0, 0), 0, 0)] = some 2 := by decide +kernel
theorem q_X12_runs_19 : px_bk 12 6 cX12_runs 19 [(.iload_n 2, (0, 0, 0, 0, 0), 0, 0), (.i2l, (0, 0, 0, 0, 0), 0, 0), (.goto 4, (0, 0, 0, 0, 0), 0, 0), (.lastore, (0, 0, 0, 0, 0), 0, 0), (.iinc 3 1, (0, 0, 0, 0, 0), 1, 0), (.goto (-27), (0, 0, 0, 0, 0), 0, 0)] = some 2 := by decide +kernel
set_option maxRecDepth 100000 in
theorem l_runs2 {n : Nat} {R : px_R} (hg : px_G n R) {Q : px_Q} (w h : Int32) (hw : 0 ≤ w ∧ w ≤ 5) {I : px_I} (ho : mOrd I w) (L : px_L) (hq : ∀ r I2 L2, (r = 0 ∨ r = 1) → mRI I I2 → mRL L L2 → Q (some (.int r)) n I2 L2 R) : ∀ k : Int32, k ≤ 9 → 0 ≤ k → ∀ L1, mRL L L1 → px M_X12_runs 0 0 2 [(0, .ref 103), (1, .int w), (2, .int h), (3, .int k)] [] n I L1 R Q := by
  refine px_up 9 (fun k ih hk => ?_)
  intro h0 L1 h1
  refine px_ige rfl q_X12_runs_2 hg rfl trivial (fun c5 => ?_) (fun c5 => ?_)
  · refine px_b rfl q_X12_runs_32 hg rfl trivial ?_
    obtain ⟨X, s, e, hX, hR, hs, he, hE⟩ := ho
    obtain ⟨hs0, hsem⟩ := mReg_sem hw hX hR
    have hk9 : 0 ≤ 220 * w + e ∧ 220 * w + e < 1320 := by have := hX e he; grind
    have e0 : 220 * w + 0 = 220 * w := by grind
    have hz := hsem hs hg h L hq 0 (px_u I 103 53 0) L1 (mRI.ur (fun _ _ _ _ _ => rfl) _) h1 (by rw [px_u_at]) (by decide) (by decide) (by grind) (fun I2 L2 hI2 hL2 hd2 _ => s_end hg w h _ hk9 ((hI2.at0 _).trans hE) (hq 1 I2 L2 (Or.inr rfl) hI2 hL2))
    rw [e0] at hz
    exact px_go hz ⟨rfl, rfl, rfl, rfl, trivial⟩
  · refine px_ine rfl q_X12_runs_8 hg rfl trivial (fun c16 => ?_) (fun c16 => ?_)
    · refine px_b rfl q_X12_runs_24 hg rfl ⟨trivial, (by first | decide | (refine ⟨?_, ?_⟩ <;> grind) | grind)⟩ ?_
      exact px_go (ih (k + 1) (by grind) (by grind) (by grind) _ (h1.u _ _)) ⟨rfl, rfl, rfl, rfl, trivial⟩
    · refine px_b rfl q_X12_runs_19 hg rfl ⟨trivial, (by first | decide | (refine ⟨?_, ?_⟩ <;> grind) | grind)⟩ ?_
      exact px_go (ih (k + 1) (by grind) (by grind) (by grind) _ (h1.u _ _)) ⟨rfl, rfl, rfl, rfl, trivial⟩

theorem q_X12_runs_0 : px_bk 12 6 cX12_runs 0 [(.iconst 0, (0, 0, 0, 0, 0), 0, 0), (.istore_n 3, (0, 0, 0, 0, 0), 0, 0)] = some 2 := by decide +kernel
set_option maxRecDepth 100000 in
theorem k_runs {n : Nat} {I : px_I} {L : px_L} {R : px_R} (hg : px_G n R) (w h : Int32) (hw : 0 ≤ w ∧ w ≤ 5) (ho : mOrd I w) : px_KS M_X12_runs [.ref 103, .int w, .int h] n I L R (fun r I2 L2 => (r = 0 ∨ r = 1) ∧ mRI I I2 ∧ mRL L L2) := by
  refine px_of (plainFor_of_name np_RX12) (fun _ _ _ => trivial) rfl ?_
  refine px_b rfl q_X12_runs_0 hg rfl trivial ?_
  exact px_go (l_runs2 hg w h hw ho L (fun r I2 L2 hr h1 h2 => ⟨rfl, rfl, r, rfl, hr, h1, h2⟩) 0 (by decide) (by decide) L (fun _ _ => rfl)) ⟨rfl, rfl, rfl, rfl, trivial⟩

theorem q_X12_run_0 : px_bk 12 4 cX12_run 0 [(.aload_n 0, (0, 0, 0, 0, 0), 0, 0), (.iload_n 1, (0, 0, 0, 0, 0), 0, 0)] = some 2 ∧ px_tv cX12_run 2 406 = true := by decide +kernel
theorem q_X12_run_5 : px_bk 12 4 cX12_run 5 [] = some 5 ∧ px_t1 cX12_run 5 .eq 41 = true := by decide +kernel
theorem q_X12_run_41 : px_bk 12 4 cX12_run 41 [(.ldc 218, (0, 0, 0, 0, 0), -2000000000, 0), (.goto 10, (0, 0, 0, 0, 0), 0, 0)] = some 53 ∧ px_tr cX12_run 53 .ireturn = true := by decide +kernel
theorem q_X12_run_8 : px_bk 12 4 cX12_run 8 [(.iload_n 2, (0, 0, 0, 0, 0), 0, 0), (.i2l, (0, 0, 0, 0, 0), 0, 0), (.lconst 0, (0, 0, 0, 0, 0), 0, 0), (.ldc2_w 409, (0, 0, 0, 0, 0), 0, 15)] = some 14 ∧ px_tS cX12_run 14 167 = true := by decide +kernel
theorem q_X12_run_17 : px_bk 12 4 cX12_run 17 [] = some 17 ∧ px_t1 cX12_run 17 .eq 41 = true := by decide +kernel
theorem q_X12_run_20 : px_bk 12 4 cX12_run 20 [(.iload_n 3, (0, 0, 0, 0, 0), 0, 0), (.i2l, (0, 0, 0, 0, 0), 0, 0), (.lconst 0, (0, 0, 0, 0, 0), 0, 0), (.ldc2_w 411, (0, 0, 0, 0, 0), 0, 8)] = some 26 ∧ px_tS cX12_run 26 167 = true := by decide +kernel
theorem q_X12_run_29 : px_bk 12 4 cX12_run 29 [] = some 29 ∧ px_t1 cX12_run 29 .eq 41 = true := by decide +kernel
theorem q_X12_run_32 : px_bk 12 4 cX12_run 32 [(.aload_n 0, (0, 0, 0, 0, 0), 0, 0), (.iload_n 1, (0, 0, 0, 0, 0), 0, 0), (.iload_n 2, (0, 0, 0, 0, 0), 0, 0)] = some 35 ∧ px_tv cX12_run 35 413 = true := by decide +kernel
theorem q_X12_run_38 : px_bk 12 4 cX12_run 38 [] = some 38 ∧ px_t1 cX12_run 38 .ne 46 = true := by decide +kernel
theorem q_X12_run_46 : px_bk 12 4 cX12_run 46 [(.aload_n 0, (0, 0, 0, 0, 0), 0, 0), (.getfield 121, (12, 52, 3, 132, 0), 0, 0), (.iload_n 3, (0, 0, 0, 0, 0), 0, 0), (.laload, (0, 0, 0, 0, 0), 0, 0), (.l2i, (0, 0, 0, 0, 0), 0, 0)] = some 53 ∧ px_tr cX12_run 53 .ireturn = true := by decide +kernel
set_option maxRecDepth 100000 in
theorem k_run {n : Nat} {I : px_I} {L : px_L} {R : px_R} (hg : px_G n R) (w h a : Int32) (hW : mWays I) : px_KS M_X12_run [.ref 103, .int w, .int h, .int a] n I L R (fun r I2 L2 => mXI I I2 ∧ mXL L L2) := by
  refine px_of (plainFor_of_name np_RX12) (fun _ _ _ => trivial) rfl ?_
  refine px_cVP (ci := 12) rfl q_X12_run_0 hg rfl trivial lk_12_406 nm_X12_isWay (k_isWay hg _) rfl rfl (px_lit hg rfl) rfl rfl rfl ⟨rfl, rfl⟩ ?_
  intro x2 h2
  refine px_eq rfl q_X12_run_5 hg rfl trivial (fun c5 => ?_) (fun c5 => ?_)
  · replace h2 := px_bf h2 c5
    refine px_riS rfl q_X12_run_41 rfl rfl rfl hg rfl trivial ⟨⟨rfl, rfl⟩, ?_⟩
    first | exact ⟨mXI.rfl', mXL.rfl'⟩ | exact ⟨h35.2.1.X, h35.2.2.X⟩
  · replace h2 := px_bt h2 c5
    refine px_cSP rfl q_X12_run_8 hg rfl trivial lk_12_167 nm_X12_in (k_inI hg _ (0) (15) (by decide) (by decide)) rfl rfl rfl ⟨rfl, rfl⟩ ?_
    intro x14 h14
    refine px_eq rfl q_X12_run_17 hg rfl trivial (fun c17 => ?_) (fun c17 => ?_)
    · replace h14 := px_bf h14 c17
      refine px_riS rfl q_X12_run_41 rfl rfl rfl hg rfl trivial ⟨⟨rfl, rfl⟩, ?_⟩
      first | exact ⟨mXI.rfl', mXL.rfl'⟩ | exact ⟨h35.2.1.X, h35.2.2.X⟩
    · replace h14 := px_bt h14 c17
      refine px_cSP rfl q_X12_run_20 hg rfl trivial lk_12_167 nm_X12_in (k_inI hg _ (0) (8) (by decide) (by decide)) rfl rfl rfl ⟨rfl, rfl⟩ ?_
      intro x26 h26
      refine px_eq rfl q_X12_run_29 hg rfl trivial (fun c29 => ?_) (fun c29 => ?_)
      · replace h26 := px_bf h26 c29
        refine px_riS rfl q_X12_run_41 rfl rfl rfl hg rfl trivial ⟨⟨rfl, rfl⟩, ?_⟩
        first | exact ⟨mXI.rfl', mXL.rfl'⟩ | exact ⟨h35.2.1.X, h35.2.2.X⟩
      · replace h26 := px_bt h26 c29
        refine px_cVS (ci := 12) rfl q_X12_run_32 hg rfl trivial lk_12_413 nm_X12_runs (k_runs hg _ _ h2.1 (hW w h2.1.1 h2.1.2 h2.2)) rfl rfl (px_lit hg rfl) rfl rfl rfl ⟨rfl, rfl⟩ ?_
        intro x35 I35 L35 h35
        refine px_ne rfl q_X12_run_38 hg rfl trivial (fun c38 => ?_) (fun c38 => ?_)
        · refine px_riS rfl q_X12_run_46 rfl rfl rfl hg rfl ⟨trivial, (by first | decide | (refine ⟨?_, ?_⟩ <;> grind) | grind)⟩ ⟨⟨rfl, rfl⟩, ?_⟩
          first | exact ⟨mXI.rfl', mXL.rfl'⟩ | exact ⟨h35.2.1.X, h35.2.2.X⟩
        · refine px_riS rfl q_X12_run_41 rfl rfl rfl hg rfl trivial ⟨⟨rfl, rfl⟩, ?_⟩
          first | exact ⟨mXI.rfl', mXL.rfl'⟩ | exact ⟨h35.2.1.X, h35.2.2.X⟩

def mBL (L L2 : px_L) : Prop := ∀ b, b ≠ 132 → b ≠ 144 → L2 b = L b
theorem mBL.u {L L1 : px_L} (h : mBL L L1) (k : Nat) (v : Int64) : mBL L (px_u L1 144 k v) := fun b h3 h4 => by rw [px_u_ne h4]; exact h b h3 h4
theorem mBL.X {L L2 : px_L} (h : mBL L L2) : mXL L L2 := fun b h1 h2 h3 h4 h5 => h b h1 h3
theorem mBL.R {L L1 L2 : px_L} (h : mBL L L1) (h2 : mRL L1 L2) : mBL L L2 := fun b h3 h4 => (h2 b h3).trans (h b h3 h4)
theorem mXI.u74 {I I1 : px_I} (h : mXI I I1) (v : Int32) : mXI I (px_u I1 103 74 v) := fun b j h3 h4 h5 => by rw [px_ur, ← h b j h3 h4 h5]; grind
theorem mXI.u70 {I I1 : px_I} (h : mXI I I1) (v : Int32) : mXI I (px_u I1 103 70 v) := fun b j h3 h4 h5 => by rw [px_ur, ← h b j h3 h4 h5]; grind

theorem q_X12_runsBoth_18 : px_bk 12 4 cX12_runsBoth 18 [(.iload_n 3, (0, 0, 0, 0, 0), 0, 0), (.bipush 6, (0, 0, 0, 0, 0), 6, 0)] = some 21 ∧ px_t2 cX12_runsBoth 21 .ge 42 = true := by decide +kernel
theorem q_X12_runsBoth_42 : px_bk 12 4 cX12_runsBoth 42 [(.aload_n 0, (0, 0, 0, 0, 0), 0, 0), (.aload_n 0, (0, 0, 0, 0, 0), 0, 0), (.getfield 418, (12, 74, 0, 0, 0), 0, 0)] = some 47 ∧ px_t1 cX12_runsBoth 47 .eq 69 = true := by decide +kernel
theorem q_X12_runsBoth_69 : px_bk 12 4 cX12_runsBoth 69 [(.iconst 0, (0, 0, 0, 0, 0), 0, 0), (.putfield 418, (12, 74, 2, 0, 0), 0, 0)] = some 73 ∧ px_tr cX12_runsBoth 73 .return_ = true := by decide +kernel
theorem q_X12_runsBoth_50 : px_bk 12 4 cX12_runsBoth 50 [(.aload_n 0, (0, 0, 0, 0, 0), 0, 0), (.iload_n 2, (0, 0, 0, 0, 0), 0, 0), (.bipush 16, (0, 0, 0, 0, 0), 16, 0), (.idiv, (0, 0, 0, 0, 0), 0, 0), (.iload_n 2, (0, 0, 0, 0, 0), 0, 0), (.bipush 16, (0, 0, 0, 0, 0), 16, 0), (.irem, (0, 0, 0, 0, 0), 0, 0)] = some 59 ∧ px_tv cX12_runsBoth 59 413 = true := by decide +kernel
theorem q_X12_runsBoth_62 : px_bk 12 4 cX12_runsBoth 62 [] = some 62 ∧ px_t1 cX12_runsBoth 62 .eq 69 = true := by decide +kernel
theorem q_X12_runsBoth_65 : px_bk 12 4 cX12_runsBoth 65 [(.iconst 1, (0, 0, 0, 0, 0), 1, 0), (.goto 4, (0, 0, 0, 0, 0), 0, 0), (.putfield 418, (12, 74, 2, 0, 0), 0, 0)] = some 73 ∧ px_tr cX12_runsBoth 73 .return_ = true := by decide +kernel
theorem q_X12_runsBoth_24 : px_bk 12 4 cX12_runsBoth 24 [(.aload_n 0, (0, 0, 0, 0, 0), 0, 0), (.getfield 158, (12, 73, 3, 144, 0), 0, 0), (.iload_n 3, (0, 0, 0, 0, 0), 0, 0), (.aload_n 0, (0, 0, 0, 0, 0), 0, 0), (.getfield 121, (12, 52, 3, 132, 0), 0, 0), (.iload_n 3, (0, 0, 0, 0, 0), 0, 0), (.laload, (0, 0, 0, 0, 0), 0, 0), (.lastore, (0, 0, 0, 0, 0), 0, 0), (.iinc 3 1, (0, 0, 0, 0, 0), 1, 0), (.goto (-21), (0, 0, 0, 0, 0), 0, 0)] = some 18 := by decide +kernel
set_option maxRecDepth 100000 in
theorem l_runsBoth {n : Nat} {R : px_R} (hg : px_G n R) {Q : px_Q} (a b : Int32) {I0 I : px_I} (hb : 0 ≤ b / 16 ∧ b / 16 ≤ 5) (hX : mXI I0 I) (ho : mOrd I (b / 16)) (L : px_L) (hq : ∀ I2 L2, mXI I0 I2 → mBL L L2 → Q none n I2 L2 R) : ∀ k : Int32, k ≤ 6 → 0 ≤ k → ∀ L1, mBL L L1 → px M_X12_runsBoth 0 0 18 [(0, .ref 103), (1, .int a), (2, .int b), (3, .int k)] [] n I L1 R Q := by
  refine px_up 6 (fun k ih hk => ?_)
  intro h0 L1 h1
  refine px_ige rfl q_X12_runsBoth_18 hg rfl trivial (fun c21 => ?_) (fun c21 => ?_)
  · refine px_eq rfl q_X12_runsBoth_42 hg rfl trivial (fun c47 => ?_) (fun c47 => ?_)
    · refine px_rv rfl q_X12_runsBoth_69 rfl rfl rfl hg rfl ⟨trivial, (by first | decide | exact Or.inl rfl | exact Or.inr rfl | (refine ⟨?_, ?_⟩ <;> grind))⟩ ?_
      first | exact hq _ _ (hX.u74 _) h1 | exact hq _ _ ((hX.trans h59.2.1.X).u74 _) (h1.R h59.2.2)
    · refine px_cVS (ci := 12) rfl q_X12_runsBoth_50 hg rfl ⟨⟨trivial, (by first | decide | exact Or.inl rfl | exact Or.inr rfl | (refine ⟨?_, ?_⟩ <;> grind))⟩, (by first | decide | exact Or.inl rfl | exact Or.inr rfl | (refine ⟨?_, ?_⟩ <;> grind))⟩ lk_12_413 nm_X12_runs (k_runs hg _ _ hb ho) rfl rfl (px_lit hg rfl) rfl rfl rfl ⟨rfl, rfl⟩ ?_
      intro x59 I59 L59 h59
      refine px_eq rfl q_X12_runsBoth_62 hg rfl trivial (fun c62 => ?_) (fun c62 => ?_)
      · refine px_rv rfl q_X12_runsBoth_69 rfl rfl rfl hg rfl ⟨trivial, (by first | decide | exact Or.inl rfl | exact Or.inr rfl | (refine ⟨?_, ?_⟩ <;> grind))⟩ ?_
        first | exact hq _ _ (hX.u74 _) h1 | exact hq _ _ ((hX.trans h59.2.1.X).u74 _) (h1.R h59.2.2)
      · refine px_rv rfl q_X12_runsBoth_65 rfl rfl rfl hg rfl ⟨trivial, (by first | decide | exact Or.inl rfl | exact Or.inr rfl | (refine ⟨?_, ?_⟩ <;> grind))⟩ ?_
        first | exact hq _ _ (hX.u74 _) h1 | exact hq _ _ ((hX.trans h59.2.1.X).u74 _) (h1.R h59.2.2)
  · refine px_b rfl q_X12_runsBoth_24 hg rfl ⟨⟨trivial, (by first | decide | exact Or.inl rfl | exact Or.inr rfl | (refine ⟨?_, ?_⟩ <;> grind))⟩, (by first | decide | exact Or.inl rfl | exact Or.inr rfl | (refine ⟨?_, ?_⟩ <;> grind))⟩ ?_
    exact px_go (ih (k + 1) (by grind) (by grind) (by grind) _ (h1.u _ _)) ⟨rfl, rfl, rfl, rfl, trivial⟩

theorem q_X12_runsBoth_0 : px_bk 12 4 cX12_runsBoth 0 [(.aload_n 0, (0, 0, 0, 0, 0), 0, 0), (.aload_n 0, (0, 0, 0, 0, 0), 0, 0), (.iload_n 1, (0, 0, 0, 0, 0), 0, 0), (.bipush 16, (0, 0, 0, 0, 0), 16, 0), (.idiv, (0, 0, 0, 0, 0), 0, 0), (.iload_n 1, (0, 0, 0, 0, 0), 0, 0), (.bipush 16, (0, 0, 0, 0, 0), 16, 0), (.irem, (0, 0, 0, 0, 0), 0, 0)] = some 10 ∧ px_tv cX12_runsBoth 10 413 = true := by decide +kernel
theorem q_X12_runsBoth_13 : px_bk 12 4 cX12_runsBoth 13 [(.putfield 418, (12, 74, 2, 0, 0), 0, 0), (.iconst 0, (0, 0, 0, 0, 0), 0, 0), (.istore_n 3, (0, 0, 0, 0, 0), 0, 0)] = some 18 := by decide +kernel
set_option maxRecDepth 100000 in
theorem k_runsBoth {n : Nat} {I : px_I} {L : px_L} {R : px_R} (hg : px_G n R) (a b : Int32) (ha : 0 ≤ a / 16 ∧ a / 16 ≤ 5) (hb : 0 ≤ b / 16 ∧ b / 16 ≤ 5) (ho : mOrd I (a / 16)) (ho2 : mOrd I (b / 16)) : px_KV M_X12_runsBoth [.ref 103, .int a, .int b] n I L R (fun I2 L2 => mXI I I2 ∧ mXL L L2) := by
  refine px_of (plainFor_of_name np_RX12) (fun _ _ _ => trivial) rfl ?_
  refine px_cVS (ci := 12) rfl q_X12_runsBoth_0 hg rfl ⟨⟨trivial, (by first | decide | exact h10.1)⟩, (by first | decide | exact h10.1)⟩ lk_12_413 nm_X12_runs (k_runs hg _ _ ha ho) rfl rfl (px_lit hg rfl) rfl rfl rfl ⟨rfl, rfl⟩ ?_
  intro x10 I10 L10 h10
  refine px_b rfl q_X12_runsBoth_13 hg rfl ⟨trivial, (by first | decide | exact h10.1)⟩ ?_
  have ho3 : mOrd (px_u I10 103 74 x10) (b / 16) := ho2.same (fun k => h10.2.1.at0 k) (fun k => h10.2.1.at1 k)
  exact px_go (l_runsBoth hg a b hb (h10.2.1.X.u74 _) ho3 L10 (fun I2 L2 h1 h2 => ⟨rfl, rfl, rfl, h1, h10.2.2.X.trans h2.X⟩) 0 (by decide) (by decide) L10 (fun _ _ _ => rfl)) ⟨rfl, rfl, rfl, rfl, trivial⟩

theorem q_X12_meets_0 : px_bk 12 8 cX12_meets 0 [(.aload_n 0, (0, 0, 0, 0, 0), 0, 0), (.getfield 418, (12, 74, 0, 0, 0), 0, 0)] = some 4 ∧ px_t1 cX12_meets 4 .eq 20 = true := by decide +kernel
theorem q_X12_meets_20 : px_bk 12 8 cX12_meets 20 [(.ldc2_w 422, (0, 0, 0, 0, 0), 0, -2000000000)] = some 23 ∧ px_tr cX12_meets 23 .lreturn = true := by decide +kernel
theorem q_X12_meets_7 : px_bk 12 8 cX12_meets 7 [(.aload_n 0, (0, 0, 0, 0, 0), 0, 0), (.iload_n 3, (0, 0, 0, 0, 0), 0, 0), (.aload_n 0, (0, 0, 0, 0, 0), 0, 0), (.getfield 177, (12, 0, 0, 0, 0), 0, 0), (.iconst (-1), (0, 0, 0, 0, 0), -1, 0)] = some 14 ∧ px_tv cX12_meets 14 214 = true := by decide +kernel
theorem q_X12_meets_17 : px_bk 12 8 cX12_meets 17 [] = some 17 ∧ px_t1 cX12_meets 17 .ne 24 = true := by decide +kernel
theorem q_X12_meets_24 : px_bk 12 8 cX12_meets 24 [(.aload_n 0, (0, 0, 0, 0, 0), 0, 0), (.iload_n 1, (0, 0, 0, 0, 0), 0, 0), (.iload_n 2, (0, 0, 0, 0, 0), 0, 0), (.iload 4, (0, 0, 0, 0, 0), 0, 0)] = some 29 ∧ px_tv cX12_meets 29 219 = true := by decide +kernel
theorem q_X12_meets_32 : px_bk 12 8 cX12_meets 32 [(.istore 5, (0, 0, 0, 0, 0), 0, 0), (.aload_n 0, (0, 0, 0, 0, 0), 0, 0), (.getfield 158, (12, 73, 3, 144, 0), 0, 0), (.iconst 3, (0, 0, 0, 0, 0), 3, 0), (.iload_n 3, (0, 0, 0, 0, 0), 0, 0), (.iadd, (0, 0, 0, 0, 0), 0, 0), (.laload, (0, 0, 0, 0, 0), 0, 0), (.aload_n 0, (0, 0, 0, 0, 0), 0, 0), (.getfield 121, (12, 52, 3, 132, 0), 0, 0), (.iconst 3, (0, 0, 0, 0, 0), 3, 0), (.iload_n 3, (0, 0, 0, 0, 0), 0, 0), (.iadd, (0, 0, 0, 0, 0), 0, 0), (.laload, (0, 0, 0, 0, 0), 0, 0), (.ladd, (0, 0, 0, 0, 0), 0, 0), (.lstore 6, (0, 0, 0, 0, 0), 0, 0), (.iload 5, (0, 0, 0, 0, 0), 0, 0), (.ldc 218, (0, 0, 0, 0, 0), -2000000000, 0)] = some 57 ∧ px_t2 cX12_meets 57 .ne 66 = true := by decide +kernel
theorem q_X12_meets_66 : px_bk 12 8 cX12_meets 66 [(.iload 5, (0, 0, 0, 0, 0), 0, 0), (.i2l, (0, 0, 0, 0, 0), 0, 0), (.aload_n 0, (0, 0, 0, 0, 0), 0, 0), (.getfield 121, (12, 52, 3, 132, 0), 0, 0), (.iload_n 3, (0, 0, 0, 0, 0), 0, 0), (.laload, (0, 0, 0, 0, 0), 0, 0), (.ladd, (0, 0, 0, 0, 0), 0, 0), (.aload_n 0, (0, 0, 0, 0, 0), 0, 0), (.getfield 158, (12, 73, 3, 144, 0), 0, 0), (.iload_n 3, (0, 0, 0, 0, 0), 0, 0), (.laload, (0, 0, 0, 0, 0), 0, 0), (.lsub, (0, 0, 0, 0, 0), 0, 0), (.iload 4, (0, 0, 0, 0, 0), 0, 0)] = some 85 ∧ px_t1 cX12_meets 85 .eq 93 = true := by decide +kernel
theorem q_X12_meets_93 : px_bk 12 8 cX12_meets 93 [(.lload 6, (0, 0, 0, 0, 0), 0, 0), (.lneg, (0, 0, 0, 0, 0), 0, 0), (.ladd, (0, 0, 0, 0, 0), 0, 0)] = some 97 ∧ px_tr cX12_meets 97 .lreturn = true := by decide +kernel
theorem q_X12_meets_88 : px_bk 12 8 cX12_meets 88 [(.lload 6, (0, 0, 0, 0, 0), 0, 0), (.goto 6, (0, 0, 0, 0, 0), 0, 0), (.ladd, (0, 0, 0, 0, 0), 0, 0)] = some 97 ∧ px_tr cX12_meets 97 .lreturn = true := by decide +kernel
theorem q_X12_meets_60 : px_bk 12 8 cX12_meets 60 [(.ldc2_w 422, (0, 0, 0, 0, 0), 0, -2000000000), (.goto 34, (0, 0, 0, 0, 0), 0, 0)] = some 97 ∧ px_tr cX12_meets 97 .lreturn = true := by decide +kernel
set_option maxRecDepth 100000 in
theorem k_meets {n : Nat} {I : px_I} {L : px_L} {R : px_R} (hg : px_G n R) (f t a h : Int32) (ha : 0 ≤ a ∧ a ≤ 2) (hf : 0 ≤ f ∧ f < 24) (ht : 0 ≤ t ∧ t < 24) (hS : mS I) : px_KT M_X12_meets [.ref 103, .int f, .int t, .int a, .int h] n I L R (fun r I2 L2 => mXI I I2 ∧ mXL L L2) := by
  refine px_of (plainFor_of_name np_RX12) (fun _ _ _ => trivial) rfl ?_
  refine px_eq rfl q_X12_meets_0 hg rfl trivial (fun c4 => ?_) (fun c4 => ?_)
  · refine px_rlT rfl q_X12_meets_20 rfl rfl rfl hg rfl trivial ⟨⟨rfl, rfl⟩, ?_⟩
    first | exact ⟨mXI.rfl', mXL.rfl'⟩ | exact ⟨by rw [h14.2.1]; exact mXI.rfl'.u70 _, h14.2.2.X⟩
  · refine px_cVS (ci := 12) rfl q_X12_meets_7 hg rfl trivial lk_12_214 nm_X12_isClosed (k_isClosed hg _ _ _ ‹_›) rfl rfl (px_lit hg rfl) rfl rfl rfl ⟨rfl, rfl⟩ ?_
    intro x14 I14 L14 h14
    refine px_ne rfl q_X12_meets_17 hg rfl trivial (fun c17 => ?_) (fun c17 => ?_)
    · refine px_cVP (ci := 12) rfl q_X12_meets_24 hg rfl trivial lk_12_219 nm_X12_gapOf (k_gapOf hg _ _ _ (by grind) (by grind)) rfl rfl (px_lit hg rfl) rfl rfl rfl ⟨rfl, rfl⟩ ?_
      intro x29 h29
      refine px_ine rfl q_X12_meets_32 hg rfl ⟨⟨trivial, (by first | decide | (refine ⟨?_, ?_⟩ <;> grind) | grind)⟩, (by first | decide | (refine ⟨?_, ?_⟩ <;> grind) | grind)⟩ (fun c57 => ?_) (fun c57 => ?_)
      · refine px_eq rfl q_X12_meets_66 hg rfl ⟨⟨trivial, (by first | decide | (refine ⟨?_, ?_⟩ <;> grind) | grind)⟩, (by first | decide | (refine ⟨?_, ?_⟩ <;> grind) | grind)⟩ (fun c85 => ?_) (fun c85 => ?_)
        · refine px_rlT rfl q_X12_meets_93 rfl rfl rfl hg rfl trivial ⟨⟨rfl, rfl⟩, ?_⟩
          first | exact ⟨mXI.rfl', mXL.rfl'⟩ | exact ⟨by rw [h14.2.1]; exact mXI.rfl'.u70 _, h14.2.2.X⟩
        · refine px_rlT rfl q_X12_meets_88 rfl rfl rfl hg rfl trivial ⟨⟨rfl, rfl⟩, ?_⟩
          first | exact ⟨mXI.rfl', mXL.rfl'⟩ | exact ⟨by rw [h14.2.1]; exact mXI.rfl'.u70 _, h14.2.2.X⟩
      · refine px_rlT rfl q_X12_meets_60 rfl rfl rfl hg rfl trivial ⟨⟨rfl, rfl⟩, ?_⟩
        first | exact ⟨mXI.rfl', mXL.rfl'⟩ | exact ⟨by rw [h14.2.1]; exact mXI.rfl'.u70 _, h14.2.2.X⟩
    · refine px_rlT rfl q_X12_meets_20 rfl rfl rfl hg rfl trivial ⟨⟨rfl, rfl⟩, ?_⟩
      first | exact ⟨mXI.rfl', mXL.rfl'⟩ | exact ⟨by rw [h14.2.1]; exact mXI.rfl'.u70 _, h14.2.2.X⟩

theorem q_X12_meeting_0 : px_bk 12 7 cX12_meeting 0 [(.aload_n 0, (0, 0, 0, 0, 0), 0, 0), (.iload_n 1, (0, 0, 0, 0, 0), 0, 0), (.iload_n 2, (0, 0, 0, 0, 0), 0, 0), (.iload_n 3, (0, 0, 0, 0, 0), 0, 0), (.iload 4, (0, 0, 0, 0, 0), 0, 0)] = some 6 ∧ px_tv cX12_meeting 6 427 = true := by decide +kernel
theorem q_X12_meeting_9 : px_bk 12 7 cX12_meeting 9 [] = some 9 ∧ px_t1 cX12_meeting 9 .eq 20 = true := by decide +kernel
theorem q_X12_meeting_20 : px_bk 12 7 cX12_meeting 20 [(.ldc 218, (0, 0, 0, 0, 0), -2000000000, 0)] = some 22 ∧ px_tr cX12_meeting 22 .ireturn = true := by decide +kernel
theorem q_X12_meeting_12 : px_bk 12 7 cX12_meeting 12 [(.iload 5, (0, 0, 0, 0, 0), 0, 0)] = some 14 ∧ px_tS cX12_meeting 14 180 = true := by decide +kernel
theorem q_X12_meeting_17 : px_bk 12 7 cX12_meeting 17 [] = some 17 ∧ px_t1 cX12_meeting 17 .ne 23 = true := by decide +kernel
theorem q_X12_meeting_23 : px_bk 12 7 cX12_meeting 23 [(.aload_n 0, (0, 0, 0, 0, 0), 0, 0), (.iload_n 1, (0, 0, 0, 0, 0), 0, 0), (.iload_n 3, (0, 0, 0, 0, 0), 0, 0)] = some 26 ∧ px_tv cX12_meeting 26 431 = true := by decide +kernel
theorem q_X12_meeting_29 : px_bk 12 7 cX12_meeting 29 [(.aload_n 0, (0, 0, 0, 0, 0), 0, 0), (.iload_n 2, (0, 0, 0, 0, 0), 0, 0), (.iload 4, (0, 0, 0, 0, 0), 0, 0), (.iload 5, (0, 0, 0, 0, 0), 0, 0), (.iload 6, (0, 0, 0, 0, 0), 0, 0)] = some 37 ∧ px_tv cX12_meeting 37 434 = true := by decide +kernel
theorem q_X12_meeting_40 : px_bk 12 7 cX12_meeting 40 [(.l2i, (0, 0, 0, 0, 0), 0, 0)] = some 41 ∧ px_tr cX12_meeting 41 .ireturn = true := by decide +kernel
set_option maxRecDepth 100000 in
theorem k_meeting {n : Nat} {I : px_I} {L : px_L} {R : px_R} (hg : px_G n R) (a f b t x h : Int32) (hS : mS I) (hW : mWays I) : px_KS M_X12_meeting [.ref 103, .int a, .int f, .int b, .int t, .int x, .int h] n I L R (fun r I2 L2 => mXI I I2 ∧ mXL L L2) := by
  refine px_of (plainFor_of_name np_RX12) (fun _ _ _ => trivial) rfl ?_
  refine px_cVP (ci := 12) rfl q_X12_meeting_0 hg rfl trivial lk_12_427 nm_X12_areAsked (k_areAsked hg _ _ _ _) rfl rfl (px_lit hg rfl) rfl rfl rfl ⟨rfl, rfl⟩ ?_
  intro x6 h6
  refine px_eq rfl q_X12_meeting_9 hg rfl trivial (fun c9 => ?_) (fun c9 => ?_)
  · replace h6 := px_bf h6 c9
    refine px_riS rfl q_X12_meeting_20 rfl rfl rfl hg rfl trivial ⟨⟨rfl, rfl⟩, ?_⟩
    first | exact ⟨mXI.rfl', mXL.rfl'⟩ | exact ⟨hx1.trans h37.1, hx2.trans h37.2⟩
  · replace h6 := px_bt h6 c9
    refine px_cSP rfl q_X12_meeting_12 hg rfl trivial lk_12_180 nm_X12_isAxis (k_isAxis hg _) rfl rfl rfl ⟨rfl, rfl⟩ ?_
    intro x14 h14
    refine px_ne rfl q_X12_meeting_17 hg rfl trivial (fun c17 => ?_) (fun c17 => ?_)
    · replace h14 := px_bt h14 c17
      obtain ⟨h6a, h6b, h6c, h6d, h6e, h6f⟩ := h6
      obtain ⟨hSa, hSb, hSc⟩ := id hS
      have ho1 := hW (a / 16) h6c.1.1 h6c.1.2 h6c.2
      have ho2 := hW (b / 16) h6d.1.1 h6d.1.2 h6d.2
      refine px_cVW (ci := 12) rfl q_X12_meeting_23 hg rfl trivial lk_12_431 nm_X12_runsBoth (k_runsBoth hg _ _ h6c.1 h6d.1 ho1 ho2) rfl rfl (px_lit hg rfl) rfl rfl rfl ⟨rfl, rfl⟩ ?_
      intro I26 L26 h26
      obtain ⟨hx1, hx2⟩ := h26
      have hS2 := hx1.S hS
      refine px_cVT (ci := 12) rfl q_X12_meeting_29 hg rfl trivial lk_12_434 nm_X12_meets (k_meets hg _ _ _ _ (by grind) (by grind) (by grind) (by assumption)) rfl rfl (px_lit hg rfl) rfl rfl rfl ⟨rfl, rfl⟩ ?_
      intro x37 I37 L37 h37
      refine px_riS rfl q_X12_meeting_40 rfl rfl rfl hg rfl trivial ⟨⟨rfl, rfl⟩, ?_⟩
      first | exact ⟨mXI.rfl', mXL.rfl'⟩ | exact ⟨hx1.trans h37.1, hx2.trans h37.2⟩
    · replace h14 := px_bf h14 c17
      refine px_riS rfl q_X12_meeting_20 rfl rfl rfl hg rfl trivial ⟨⟨rfl, rfl⟩, ?_⟩
      first | exact ⟨mXI.rfl', mXL.rfl'⟩ | exact ⟨hx1.trans h37.1, hx2.trans h37.2⟩

theorem q_X12_fits_29 : px_bk 12 12 cX12_fits 29 [(.iload 7, (0, 0, 0, 0, 0), 0, 0), (.iconst 3, (0, 0, 0, 0, 0), 3, 0)] = some 32 ∧ px_t2 cX12_fits 32 .ge 135 = true := by decide +kernel
theorem q_X12_fits_135 : px_bk 12 12 cX12_fits 135 [(.iload 5, (0, 0, 0, 0, 0), 0, 0)] = some 137 ∧ px_t1 cX12_fits 137 .eq 144 = true := by decide +kernel
theorem q_X12_fits_144 : px_bk 12 12 cX12_fits 144 [(.iload 6, (0, 0, 0, 0, 0), 0, 0)] = some 146 ∧ px_t1 cX12_fits 146 .eq 153 = true := by decide +kernel
theorem q_X12_fits_153 : px_bk 12 12 cX12_fits 153 [(.iconst 1, (0, 0, 0, 0, 0), 1, 0)] = some 154 ∧ px_tr cX12_fits 154 .ireturn = true := by decide +kernel
theorem q_X12_fits_149 : px_bk 12 12 cX12_fits 149 [(.iconst 0, (0, 0, 0, 0, 0), 0, 0), (.goto 4, (0, 0, 0, 0, 0), 0, 0)] = some 154 ∧ px_tr cX12_fits 154 .ireturn = true := by decide +kernel
theorem q_X12_fits_140 : px_bk 12 12 cX12_fits 140 [(.iconst 2, (0, 0, 0, 0, 0), 2, 0), (.goto 13, (0, 0, 0, 0, 0), 0, 0)] = some 154 ∧ px_tr cX12_fits 154 .ireturn = true := by decide +kernel
theorem q_X12_fits_35 : px_bk 12 12 cX12_fits 35 [(.aload_n 0, (0, 0, 0, 0, 0), 0, 0), (.iload_n 2, (0, 0, 0, 0, 0), 0, 0), (.iload 4, (0, 0, 0, 0, 0), 0, 0), (.iload 7, (0, 0, 0, 0, 0), 0, 0), (.iconst 0, (0, 0, 0, 0, 0), 0, 0)] = some 42 ∧ px_tv cX12_fits 42 434 = true := by decide +kernel
theorem q_X12_fits_45 : px_bk 12 12 cX12_fits 45 [(.lstore 8, (0, 0, 0, 0, 0), 0, 0), (.aload_n 0, (0, 0, 0, 0, 0), 0, 0), (.iload_n 2, (0, 0, 0, 0, 0), 0, 0), (.iload 4, (0, 0, 0, 0, 0), 0, 0), (.iload 7, (0, 0, 0, 0, 0), 0, 0), (.iconst 1, (0, 0, 0, 0, 0), 1, 0)] = some 54 ∧ px_tv cX12_fits 54 434 = true := by decide +kernel
theorem q_X12_fits_57 : px_bk 12 12 cX12_fits 57 [(.lstore 10, (0, 0, 0, 0, 0), 0, 0), (.iload 5, (0, 0, 0, 0, 0), 0, 0)] = some 61 ∧ px_t1 cX12_fits 61 .ne 82 = true := by decide +kernel
theorem q_X12_fits_82 : px_bk 12 12 cX12_fits 82 [(.iconst 1, (0, 0, 0, 0, 0), 1, 0), (.goto 4, (0, 0, 0, 0, 0), 0, 0), (.istore 5, (0, 0, 0, 0, 0), 0, 0), (.iload 6, (0, 0, 0, 0, 0), 0, 0)] = some 91 ∧ px_t1 cX12_fits 91 .eq 126 = true := by decide +kernel
theorem q_X12_fits_126 : px_bk 12 12 cX12_fits 126 [(.iconst 0, (0, 0, 0, 0, 0), 0, 0), (.istore 6, (0, 0, 0, 0, 0), 0, 0), (.iinc 7 1, (0, 0, 0, 0, 0), 1, 0), (.goto (-103), (0, 0, 0, 0, 0), 0, 0)] = some 29 := by decide +kernel
theorem q_X12_fits_94 : px_bk 12 12 cX12_fits 94 [(.lload 8, (0, 0, 0, 0, 0), 0, 0), (.aload_n 0, (0, 0, 0, 0, 0), 0, 0), (.getfield 134, (12, 57, 3, 136, 0), 0, 0), (.iload 7, (0, 0, 0, 0, 0), 0, 0), (.iaload, (0, 0, 0, 0, 0), 0, 0), (.i2l, (0, 0, 0, 0, 0), 0, 0), (.lcmp, (0, 0, 0, 0, 0), 0, 0)] = some 105 ∧ px_t1 cX12_fits 105 .gt 126 = true := by decide +kernel
theorem q_X12_fits_108 : px_bk 12 12 cX12_fits 108 [(.lload 10, (0, 0, 0, 0, 0), 0, 0), (.aload_n 0, (0, 0, 0, 0, 0), 0, 0), (.getfield 131, (12, 56, 3, 135, 0), 0, 0), (.iload 7, (0, 0, 0, 0, 0), 0, 0), (.iaload, (0, 0, 0, 0, 0), 0, 0), (.i2l, (0, 0, 0, 0, 0), 0, 0), (.lcmp, (0, 0, 0, 0, 0), 0, 0)] = some 119 ∧ px_t1 cX12_fits 119 .lt 126 = true := by decide +kernel
theorem q_X12_fits_122 : px_bk 12 12 cX12_fits 122 [(.iconst 1, (0, 0, 0, 0, 0), 1, 0), (.goto 4, (0, 0, 0, 0, 0), 0, 0), (.istore 6, (0, 0, 0, 0, 0), 0, 0), (.iinc 7 1, (0, 0, 0, 0, 0), 1, 0), (.goto (-103), (0, 0, 0, 0, 0), 0, 0)] = some 29 := by decide +kernel
theorem q_X12_fits_64 : px_bk 12 12 cX12_fits 64 [(.lload 8, (0, 0, 0, 0, 0), 0, 0), (.ldc2_w 422, (0, 0, 0, 0, 0), 0, -2000000000), (.lcmp, (0, 0, 0, 0, 0), 0, 0)] = some 70 ∧ px_t1 cX12_fits 70 .eq 82 = true := by decide +kernel
theorem q_X12_fits_73 : px_bk 12 12 cX12_fits 73 [(.lload 10, (0, 0, 0, 0, 0), 0, 0), (.ldc2_w 422, (0, 0, 0, 0, 0), 0, -2000000000), (.lcmp, (0, 0, 0, 0, 0), 0, 0)] = some 79 ∧ px_t1 cX12_fits 79 .ne 86 = true := by decide +kernel
theorem q_X12_fits_86 : px_bk 12 12 cX12_fits 86 [(.iconst 0, (0, 0, 0, 0, 0), 0, 0), (.istore 5, (0, 0, 0, 0, 0), 0, 0), (.iload 6, (0, 0, 0, 0, 0), 0, 0)] = some 91 ∧ px_t1 cX12_fits 91 .eq 126 = true := by decide +kernel
set_option maxRecDepth 100000 in
theorem l_fits {n : Nat} {R : px_R} (hg : px_G n R) {Q : px_Q} (a f b t : Int32) {I0 : px_I} (L0 : px_L) (hS : mS I0) (hf : 0 ≤ f ∧ f < 24) (ht : 0 ≤ t ∧ t < 24) (hq : ∀ r I2 L2, mXI I0 I2 → mXL L0 L2 → Q (some (.int r)) n I2 L2 R) : ∀ k : Int32, k ≤ 3 → 0 ≤ k → ∀ (o i : Int32) (I1 : px_I) (L1 : px_L), mXI I0 I1 → mXL L0 L1 → px M_X12_fits 0 0 29 [(0, .ref 103), (1, .int a), (2, .int f), (3, .int b), (4, .int t), (5, .int o), (6, .int i), (7, .int k)] [] n I1 L1 R Q := by
  refine px_up 3 (fun k ih hk => ?_)
  intro h0 o i I1 L1 hI hL
  have hS1 := hI.S hS
  refine px_ige rfl q_X12_fits_29 hg rfl trivial (fun c32 => ?_) (fun c32 => ?_)
  · refine px_eq rfl q_X12_fits_135 hg rfl trivial (fun c137 => ?_) (fun c137 => ?_)
    · refine px_eq rfl q_X12_fits_144 hg rfl trivial (fun c146 => ?_) (fun c146 => ?_)
      · refine px_ri rfl q_X12_fits_153 rfl rfl rfl hg rfl trivial ?_
        exact hq _ _ _ hI hL
      · refine px_ri rfl q_X12_fits_149 rfl rfl rfl hg rfl trivial ?_
        exact hq _ _ _ hI hL
    · refine px_ri rfl q_X12_fits_140 rfl rfl rfl hg rfl trivial ?_
      exact hq _ _ _ hI hL
  · refine px_cVT (ci := 12) rfl q_X12_fits_35 hg rfl trivial lk_12_434 nm_X12_meets (k_meets hg _ _ _ _ (by grind) hf ht hS1) rfl rfl (px_lit hg rfl) rfl rfl rfl ⟨rfl, rfl⟩ ?_
    intro x42 I42 L42 h42
    have hI2 := hI.trans h42.1
    have hL2 := hL.trans h42.2
    have hS2 := hI2.S hS
    refine px_cVT (ci := 12) rfl q_X12_fits_45 hg rfl trivial lk_12_434 nm_X12_meets (k_meets hg _ _ _ _ (by grind) hf ht hS2) rfl rfl (px_lit hg rfl) rfl rfl rfl ⟨rfl, rfl⟩ ?_
    intro x54 I54 L54 h54
    have hI3 := hI2.trans h54.1
    have hL3 := hL2.trans h54.2
    refine px_ne rfl q_X12_fits_57 hg rfl trivial (fun c61 => ?_) (fun c61 => ?_)
    · refine px_eq rfl q_X12_fits_82 hg rfl trivial (fun c91 => ?_) (fun c91 => ?_)
      · refine px_b rfl q_X12_fits_126 hg rfl trivial ?_
        exact px_go (ih (k + 1) (by grind) (by grind) (by grind) _ _ _ _ hI3 hL3) ⟨rfl, rfl, rfl, rfl, rfl, rfl, rfl, rfl, trivial⟩
      · refine px_lgt rfl q_X12_fits_94 hg rfl ⟨trivial, (by first | decide | (refine ⟨?_, ?_⟩ <;> grind) | grind)⟩ (fun c105 => ?_) (fun c105 => ?_)
        · refine px_b rfl q_X12_fits_126 hg rfl trivial ?_
          exact px_go (ih (k + 1) (by grind) (by grind) (by grind) _ _ _ _ hI3 hL3) ⟨rfl, rfl, rfl, rfl, rfl, rfl, rfl, rfl, trivial⟩
        · refine px_llt rfl q_X12_fits_108 hg rfl ⟨trivial, (by first | decide | (refine ⟨?_, ?_⟩ <;> grind) | grind)⟩ (fun c119 => ?_) (fun c119 => ?_)
          · refine px_b rfl q_X12_fits_126 hg rfl trivial ?_
            exact px_go (ih (k + 1) (by grind) (by grind) (by grind) _ _ _ _ hI3 hL3) ⟨rfl, rfl, rfl, rfl, rfl, rfl, rfl, rfl, trivial⟩
          · refine px_b rfl q_X12_fits_122 hg rfl trivial ?_
            exact px_go (ih (k + 1) (by grind) (by grind) (by grind) _ _ _ _ hI3 hL3) ⟨rfl, rfl, rfl, rfl, rfl, rfl, rfl, rfl, trivial⟩
    · refine px_leq rfl q_X12_fits_64 hg rfl trivial (fun c70 => ?_) (fun c70 => ?_)
      · refine px_eq rfl q_X12_fits_82 hg rfl trivial (fun c91 => ?_) (fun c91 => ?_)
        · refine px_b rfl q_X12_fits_126 hg rfl trivial ?_
          exact px_go (ih (k + 1) (by grind) (by grind) (by grind) _ _ _ _ hI3 hL3) ⟨rfl, rfl, rfl, rfl, rfl, rfl, rfl, rfl, trivial⟩
        · refine px_lgt rfl q_X12_fits_94 hg rfl ⟨trivial, (by first | decide | (refine ⟨?_, ?_⟩ <;> grind) | grind)⟩ (fun c105 => ?_) (fun c105 => ?_)
          · refine px_b rfl q_X12_fits_126 hg rfl trivial ?_
            exact px_go (ih (k + 1) (by grind) (by grind) (by grind) _ _ _ _ hI3 hL3) ⟨rfl, rfl, rfl, rfl, rfl, rfl, rfl, rfl, trivial⟩
          · refine px_llt rfl q_X12_fits_108 hg rfl ⟨trivial, (by first | decide | (refine ⟨?_, ?_⟩ <;> grind) | grind)⟩ (fun c119 => ?_) (fun c119 => ?_)
            · refine px_b rfl q_X12_fits_126 hg rfl trivial ?_
              exact px_go (ih (k + 1) (by grind) (by grind) (by grind) _ _ _ _ hI3 hL3) ⟨rfl, rfl, rfl, rfl, rfl, rfl, rfl, rfl, trivial⟩
            · refine px_b rfl q_X12_fits_122 hg rfl trivial ?_
              exact px_go (ih (k + 1) (by grind) (by grind) (by grind) _ _ _ _ hI3 hL3) ⟨rfl, rfl, rfl, rfl, rfl, rfl, rfl, rfl, trivial⟩
      · refine px_lne rfl q_X12_fits_73 hg rfl trivial (fun c79 => ?_) (fun c79 => ?_)
        · refine px_eq rfl q_X12_fits_86 hg rfl trivial (fun c91 => ?_) (fun c91 => ?_)
          · refine px_b rfl q_X12_fits_126 hg rfl trivial ?_
            exact px_go (ih (k + 1) (by grind) (by grind) (by grind) _ _ _ _ hI3 hL3) ⟨rfl, rfl, rfl, rfl, rfl, rfl, rfl, rfl, trivial⟩
          · refine px_lgt rfl q_X12_fits_94 hg rfl ⟨trivial, (by first | decide | (refine ⟨?_, ?_⟩ <;> grind) | grind)⟩ (fun c105 => ?_) (fun c105 => ?_)
            · refine px_b rfl q_X12_fits_126 hg rfl trivial ?_
              exact px_go (ih (k + 1) (by grind) (by grind) (by grind) _ _ _ _ hI3 hL3) ⟨rfl, rfl, rfl, rfl, rfl, rfl, rfl, rfl, trivial⟩
            · refine px_llt rfl q_X12_fits_108 hg rfl ⟨trivial, (by first | decide | (refine ⟨?_, ?_⟩ <;> grind) | grind)⟩ (fun c119 => ?_) (fun c119 => ?_)
              · refine px_b rfl q_X12_fits_126 hg rfl trivial ?_
                exact px_go (ih (k + 1) (by grind) (by grind) (by grind) _ _ _ _ hI3 hL3) ⟨rfl, rfl, rfl, rfl, rfl, rfl, rfl, rfl, trivial⟩
              · refine px_b rfl q_X12_fits_122 hg rfl trivial ?_
                exact px_go (ih (k + 1) (by grind) (by grind) (by grind) _ _ _ _ hI3 hL3) ⟨rfl, rfl, rfl, rfl, rfl, rfl, rfl, rfl, trivial⟩
        · refine px_eq rfl q_X12_fits_82 hg rfl trivial (fun c91 => ?_) (fun c91 => ?_)
          · refine px_b rfl q_X12_fits_126 hg rfl trivial ?_
            exact px_go (ih (k + 1) (by grind) (by grind) (by grind) _ _ _ _ hI3 hL3) ⟨rfl, rfl, rfl, rfl, rfl, rfl, rfl, rfl, trivial⟩
          · refine px_lgt rfl q_X12_fits_94 hg rfl ⟨trivial, (by first | decide | (refine ⟨?_, ?_⟩ <;> grind) | grind)⟩ (fun c105 => ?_) (fun c105 => ?_)
            · refine px_b rfl q_X12_fits_126 hg rfl trivial ?_
              exact px_go (ih (k + 1) (by grind) (by grind) (by grind) _ _ _ _ hI3 hL3) ⟨rfl, rfl, rfl, rfl, rfl, rfl, rfl, rfl, trivial⟩
            · refine px_llt rfl q_X12_fits_108 hg rfl ⟨trivial, (by first | decide | (refine ⟨?_, ?_⟩ <;> grind) | grind)⟩ (fun c119 => ?_) (fun c119 => ?_)
              · refine px_b rfl q_X12_fits_126 hg rfl trivial ?_
                exact px_go (ih (k + 1) (by grind) (by grind) (by grind) _ _ _ _ hI3 hL3) ⟨rfl, rfl, rfl, rfl, rfl, rfl, rfl, rfl, trivial⟩
              · refine px_b rfl q_X12_fits_122 hg rfl trivial ?_
                exact px_go (ih (k + 1) (by grind) (by grind) (by grind) _ _ _ _ hI3 hL3) ⟨rfl, rfl, rfl, rfl, rfl, rfl, rfl, rfl, trivial⟩

theorem q_X12_fits_0 : px_bk 12 12 cX12_fits 0 [(.aload_n 0, (0, 0, 0, 0, 0), 0, 0), (.iload_n 1, (0, 0, 0, 0, 0), 0, 0), (.iload_n 2, (0, 0, 0, 0, 0), 0, 0), (.iload_n 3, (0, 0, 0, 0, 0), 0, 0), (.iload 4, (0, 0, 0, 0, 0), 0, 0)] = some 6 ∧ px_tv cX12_fits 6 427 = true := by decide +kernel
theorem q_X12_fits_9 : px_bk 12 12 cX12_fits 9 [] = some 9 ∧ px_t1 cX12_fits 9 .ne 14 = true := by decide +kernel
theorem q_X12_fits_14 : px_bk 12 12 cX12_fits 14 [(.aload_n 0, (0, 0, 0, 0, 0), 0, 0), (.iload_n 1, (0, 0, 0, 0, 0), 0, 0), (.iload_n 3, (0, 0, 0, 0, 0), 0, 0)] = some 17 ∧ px_tv cX12_fits 17 431 = true := by decide +kernel
theorem q_X12_fits_20 : px_bk 12 12 cX12_fits 20 [(.iconst 0, (0, 0, 0, 0, 0), 0, 0), (.istore 5, (0, 0, 0, 0, 0), 0, 0), (.iconst 1, (0, 0, 0, 0, 0), 1, 0), (.istore 6, (0, 0, 0, 0, 0), 0, 0), (.iconst 0, (0, 0, 0, 0, 0), 0, 0), (.istore 7, (0, 0, 0, 0, 0), 0, 0)] = some 29 := by decide +kernel
theorem q_X12_fits_12 : px_bk 12 12 cX12_fits 12 [(.iconst (-1), (0, 0, 0, 0, 0), -1, 0)] = some 13 ∧ px_tr cX12_fits 13 .ireturn = true := by decide +kernel
set_option maxRecDepth 100000 in
theorem k_fits {n : Nat} {I : px_I} {L : px_L} {R : px_R} (hg : px_G n R) (a f b t : Int32) (hS : mS I) (hW : mWays I) : px_KS M_X12_fits [.ref 103, .int a, .int f, .int b, .int t] n I L R (fun r I2 L2 => mXI I I2 ∧ mXL L L2) := by
  refine px_of (plainFor_of_name np_RX12) (fun _ _ _ => trivial) rfl ?_
  refine px_cVP (ci := 12) rfl q_X12_fits_0 hg rfl trivial lk_12_427 nm_X12_areAsked (k_areAsked hg _ _ _ _) rfl rfl (px_lit hg rfl) rfl rfl rfl ⟨rfl, rfl⟩ ?_
  intro x6 h6
  refine px_ne rfl q_X12_fits_9 hg rfl trivial (fun c9 => ?_) (fun c9 => ?_)
  · replace h6 := px_bt h6 c9
    obtain ⟨h6a, h6b, h6c, h6d, h6e, h6f⟩ := h6
    obtain ⟨hSa, hSb, hSc⟩ := id hS
    have ho1 := hW (a / 16) h6c.1.1 h6c.1.2 h6c.2
    have ho2 := hW (b / 16) h6d.1.1 h6d.1.2 h6d.2
    refine px_cVW (ci := 12) rfl q_X12_fits_14 hg rfl trivial lk_12_431 nm_X12_runsBoth (k_runsBoth hg _ _ h6c.1 h6d.1 ho1 ho2) rfl rfl (px_lit hg rfl) rfl rfl rfl ⟨rfl, rfl⟩ ?_
    intro I17 L17 h17
    refine px_b rfl q_X12_fits_20 hg rfl trivial ?_
    exact px_go (l_fits hg a f b t L17 (h17.1.S hS) (by grind) (by grind) (fun r I2 L2 h1 h2 => ⟨rfl, rfl, r, rfl, h17.1.trans h1, h17.2.trans h2⟩) 0 (by decide) (by decide) 0 1 I17 L17 mXI.rfl' mXL.rfl') ⟨rfl, rfl, rfl, rfl, rfl, rfl, rfl, rfl, trivial⟩
  · replace h6 := px_bf h6 c9
    refine px_riS rfl q_X12_fits_12 rfl rfl rfl hg rfl trivial ⟨⟨rfl, rfl⟩, ?_⟩
    exact ⟨mXI.rfl', mXL.rfl'⟩

theorem q_X12_ways_72 : px_bk 12 9 cX12_ways 72 [(.iload 8, (0, 0, 0, 0, 0), 0, 0), (.bipush 6, (0, 0, 0, 0, 0), 6, 0)] = some 76 ∧ px_t2 cX12_ways 76 .ge 143 = true := by decide +kernel
theorem q_X12_ways_143 : px_bk 12 9 cX12_ways 143 [(.iinc 7 1, (0, 0, 0, 0, 0), 1, 0), (.goto (-84), (0, 0, 0, 0, 0), 0, 0)] = some 62 := by decide +kernel
theorem q_X12_ways_79 : px_bk 12 9 cX12_ways 79 [(.iload 6, (0, 0, 0, 0, 0), 0, 0), (.aload_n 0, (0, 0, 0, 0, 0), 0, 0), (.getfield 97, (12, 44, 3, 129, 0), 0, 0), (.iload 7, (0, 0, 0, 0, 0), 0, 0), (.iaload, (0, 0, 0, 0, 0), 0, 0), (.iconst 1, (0, 0, 0, 0, 0), 1, 0)] = some 89 ∧ px_t2 cX12_ways 89 .ne 133 = true := by decide +kernel
theorem q_X12_ways_133 : px_bk 12 9 cX12_ways 133 [(.iconst 0, (0, 0, 0, 0, 0), 0, 0), (.iadd, (0, 0, 0, 0, 0), 0, 0), (.istore 6, (0, 0, 0, 0, 0), 0, 0), (.iinc 8 1, (0, 0, 0, 0, 0), 1, 0), (.goto (-68), (0, 0, 0, 0, 0), 0, 0)] = some 72 := by decide +kernel
theorem q_X12_ways_92 : px_bk 12 9 cX12_ways 92 [(.aload_n 0, (0, 0, 0, 0, 0), 0, 0), (.getfield 97, (12, 44, 3, 129, 0), 0, 0), (.iload 8, (0, 0, 0, 0, 0), 0, 0), (.iaload, (0, 0, 0, 0, 0), 0, 0), (.iconst 1, (0, 0, 0, 0, 0), 1, 0)] = some 100 ∧ px_t2 cX12_ways 100 .ne 133 = true := by decide +kernel
theorem q_X12_ways_103 : px_bk 12 9 cX12_ways 103 [(.aload_n 0, (0, 0, 0, 0, 0), 0, 0), (.bipush 16, (0, 0, 0, 0, 0), 16, 0), (.iload 7, (0, 0, 0, 0, 0), 0, 0), (.imul, (0, 0, 0, 0, 0), 0, 0), (.iload_n 1, (0, 0, 0, 0, 0), 0, 0), (.iadd, (0, 0, 0, 0, 0), 0, 0), (.iload_n 2, (0, 0, 0, 0, 0), 0, 0), (.bipush 16, (0, 0, 0, 0, 0), 16, 0), (.iload 8, (0, 0, 0, 0, 0), 0, 0), (.imul, (0, 0, 0, 0, 0), 0, 0), (.iload_n 3, (0, 0, 0, 0, 0), 0, 0), (.iadd, (0, 0, 0, 0, 0), 0, 0), (.iload 4, (0, 0, 0, 0, 0), 0, 0)] = some 121 ∧ px_tv cX12_ways 121 438 = true := by decide +kernel
theorem q_X12_ways_124 : px_bk 12 9 cX12_ways 124 [(.iload 5, (0, 0, 0, 0, 0), 0, 0)] = some 126 ∧ px_t2 cX12_ways 126 .ne 133 = true := by decide +kernel
theorem q_X12_ways_129 : px_bk 12 9 cX12_ways 129 [(.iconst 1, (0, 0, 0, 0, 0), 1, 0), (.goto 4, (0, 0, 0, 0, 0), 0, 0), (.iadd, (0, 0, 0, 0, 0), 0, 0), (.istore 6, (0, 0, 0, 0, 0), 0, 0), (.iinc 8 1, (0, 0, 0, 0, 0), 1, 0), (.goto (-68), (0, 0, 0, 0, 0), 0, 0)] = some 72 := by decide +kernel
set_option maxRecDepth 100000 in
theorem l_ways72 {n : Nat} {R : px_R} (hg : px_G n R) {Q : px_Q} (a f b t x i : Int32) (hi : 0 ≤ i ∧ i < 6) {I0 : px_I} (L0 : px_L) (hS : mS I0) (hW : mWays I0) (hq : ∀ c I2 L2, mXI I0 I2 → mXL L0 L2 → px M_X12_ways 0 0 62 [(0, .ref 103), (1, .int a), (2, .int f), (3, .int b), (4, .int t), (5, .int x), (6, .int c), (7, .int (i + 1))] [] n I2 L2 R Q) : ∀ k : Int32, k ≤ 6 → 0 ≤ k → ∀ (c : Int32) (I1 : px_I) (L1 : px_L), mXI I0 I1 → mXL L0 L1 → px M_X12_ways 0 0 72 [(0, .ref 103), (1, .int a), (2, .int f), (3, .int b), (4, .int t), (5, .int x), (6, .int c), (7, .int i), (8, .int k)] [] n I1 L1 R Q := by
  refine px_up 6 (fun k ih hk => ?_)
  intro h0 c I1 L1 hI hL
  have hS1 := hI.S hS
  have hW1 := hI.W hW
  refine px_ige rfl q_X12_ways_72 hg rfl trivial (fun c76 => ?_) (fun c76 => ?_)
  · refine px_b rfl q_X12_ways_143 hg rfl trivial ?_
    exact px_go (hq _ _ _ hI hL) ⟨rfl, rfl, rfl, rfl, rfl, rfl, rfl, rfl, trivial⟩
  · refine px_ine rfl q_X12_ways_79 hg rfl ⟨trivial, (by first | decide | (refine ⟨?_, ?_⟩ <;> grind) | grind)⟩ (fun c89 => ?_) (fun c89 => ?_)
    · refine px_b rfl q_X12_ways_133 hg rfl trivial ?_
      first | exact px_go (ih (k + 1) (by grind) (by grind) (by grind) _ _ _ hI hL) ⟨rfl, rfl, rfl, rfl, rfl, rfl, rfl, rfl, rfl, trivial⟩ | exact px_go (ih (k + 1) (by grind) (by grind) (by grind) _ _ _ (hI.trans h121.1) (hL.trans h121.2)) ⟨rfl, rfl, rfl, rfl, rfl, rfl, rfl, rfl, rfl, trivial⟩
    · refine px_ine rfl q_X12_ways_92 hg rfl ⟨trivial, (by first | decide | (refine ⟨?_, ?_⟩ <;> grind) | grind)⟩ (fun c100 => ?_) (fun c100 => ?_)
      · refine px_b rfl q_X12_ways_133 hg rfl trivial ?_
        first | exact px_go (ih (k + 1) (by grind) (by grind) (by grind) _ _ _ hI hL) ⟨rfl, rfl, rfl, rfl, rfl, rfl, rfl, rfl, rfl, trivial⟩ | exact px_go (ih (k + 1) (by grind) (by grind) (by grind) _ _ _ (hI.trans h121.1) (hL.trans h121.2)) ⟨rfl, rfl, rfl, rfl, rfl, rfl, rfl, rfl, rfl, trivial⟩
      · refine px_cVS (ci := 12) rfl q_X12_ways_103 hg rfl trivial lk_12_438 nm_X12_fits (k_fits hg _ _ _ _ ‹_› ‹_›) rfl rfl (px_lit hg rfl) rfl rfl rfl ⟨rfl, rfl⟩ ?_
        intro x121 I121 L121 h121
        refine px_ine rfl q_X12_ways_124 hg rfl trivial (fun c126 => ?_) (fun c126 => ?_)
        · refine px_b rfl q_X12_ways_133 hg rfl trivial ?_
          first | exact px_go (ih (k + 1) (by grind) (by grind) (by grind) _ _ _ hI hL) ⟨rfl, rfl, rfl, rfl, rfl, rfl, rfl, rfl, rfl, trivial⟩ | exact px_go (ih (k + 1) (by grind) (by grind) (by grind) _ _ _ (hI.trans h121.1) (hL.trans h121.2)) ⟨rfl, rfl, rfl, rfl, rfl, rfl, rfl, rfl, rfl, trivial⟩
        · refine px_b rfl q_X12_ways_129 hg rfl trivial ?_
          first | exact px_go (ih (k + 1) (by grind) (by grind) (by grind) _ _ _ hI hL) ⟨rfl, rfl, rfl, rfl, rfl, rfl, rfl, rfl, rfl, trivial⟩ | exact px_go (ih (k + 1) (by grind) (by grind) (by grind) _ _ _ (hI.trans h121.1) (hL.trans h121.2)) ⟨rfl, rfl, rfl, rfl, rfl, rfl, rfl, rfl, rfl, trivial⟩

theorem q_X12_ways_62 : px_bk 12 9 cX12_ways 62 [(.iload 7, (0, 0, 0, 0, 0), 0, 0), (.bipush 6, (0, 0, 0, 0, 0), 6, 0)] = some 66 ∧ px_t2 cX12_ways 66 .ge 149 = true := by decide +kernel
theorem q_X12_ways_149 : px_bk 12 9 cX12_ways 149 [(.iload 6, (0, 0, 0, 0, 0), 0, 0)] = some 151 ∧ px_tr cX12_ways 151 .ireturn = true := by decide +kernel
theorem q_X12_ways_69 : px_bk 12 9 cX12_ways 69 [(.iconst 0, (0, 0, 0, 0, 0), 0, 0), (.istore 8, (0, 0, 0, 0, 0), 0, 0)] = some 72 := by decide +kernel
set_option maxRecDepth 100000 in
theorem l_ways62 {n : Nat} {R : px_R} (hg : px_G n R) {Q : px_Q} (a f b t x : Int32) {I0 : px_I} (L0 : px_L) (hS : mS I0) (hW : mWays I0) (hq : ∀ r I2 L2, mXI I0 I2 → mXL L0 L2 → Q (some (.int r)) n I2 L2 R) : ∀ i : Int32, i ≤ 6 → 0 ≤ i → ∀ (c : Int32) (I1 : px_I) (L1 : px_L), mXI I0 I1 → mXL L0 L1 → px M_X12_ways 0 0 62 [(0, .ref 103), (1, .int a), (2, .int f), (3, .int b), (4, .int t), (5, .int x), (6, .int c), (7, .int i)] [] n I1 L1 R Q := by
  refine px_up 6 (fun i ih hi => ?_)
  intro h0 c I1 L1 hI hL
  have hS1 := hI.S hS
  have hW1 := hI.W hW
  refine px_ige rfl q_X12_ways_62 hg rfl trivial (fun c66 => ?_) (fun c66 => ?_)
  · refine px_ri rfl q_X12_ways_149 rfl rfl rfl hg rfl trivial ?_
    exact hq _ _ _ hI hL
  · refine px_b rfl q_X12_ways_69 hg rfl trivial ?_
    exact px_go (l_ways72 hg a f b t x i (by grind) L1 hS1 hW1 (fun c I2 L2 h1 h2 => ih (i + 1) (by grind) (by grind) (by grind) c I2 L2 (hI.trans h1) (hL.trans h2)) 0 (by decide) (by decide) c I1 L1 mXI.rfl' mXL.rfl') ⟨rfl, rfl, rfl, rfl, rfl, rfl, rfl, rfl, rfl, trivial⟩

theorem q_X12_ways_0 : px_bk 12 9 cX12_ways 0 [(.iload_n 1, (0, 0, 0, 0, 0), 0, 0), (.i2l, (0, 0, 0, 0, 0), 0, 0), (.lconst 0, (0, 0, 0, 0, 0), 0, 0), (.ldc2_w 409, (0, 0, 0, 0, 0), 0, 15)] = some 6 ∧ px_tS cX12_ways 6 167 = true := by decide +kernel
theorem q_X12_ways_9 : px_bk 12 9 cX12_ways 9 [] = some 9 ∧ px_t1 cX12_ways 9 .eq 54 = true := by decide +kernel
theorem q_X12_ways_54 : px_bk 12 9 cX12_ways 54 [(.iconst (-1), (0, 0, 0, 0, 0), -1, 0)] = some 55 ∧ px_tr cX12_ways 55 .ireturn = true := by decide +kernel
theorem q_X12_ways_12 : px_bk 12 9 cX12_ways 12 [(.iload_n 3, (0, 0, 0, 0, 0), 0, 0), (.i2l, (0, 0, 0, 0, 0), 0, 0), (.lconst 0, (0, 0, 0, 0, 0), 0, 0), (.ldc2_w 409, (0, 0, 0, 0, 0), 0, 15)] = some 18 ∧ px_tS cX12_ways 18 167 = true := by decide +kernel
theorem q_X12_ways_21 : px_bk 12 9 cX12_ways 21 [] = some 21 ∧ px_t1 cX12_ways 21 .eq 54 = true := by decide +kernel
theorem q_X12_ways_24 : px_bk 12 9 cX12_ways 24 [(.aload_n 0, (0, 0, 0, 0, 0), 0, 0), (.iload_n 2, (0, 0, 0, 0, 0), 0, 0)] = some 26 ∧ px_tv cX12_ways 26 184 = true := by decide +kernel
theorem q_X12_ways_29 : px_bk 12 9 cX12_ways 29 [] = some 29 ∧ px_t1 cX12_ways 29 .eq 54 = true := by decide +kernel
theorem q_X12_ways_32 : px_bk 12 9 cX12_ways 32 [(.aload_n 0, (0, 0, 0, 0, 0), 0, 0), (.iload 4, (0, 0, 0, 0, 0), 0, 0)] = some 35 ∧ px_tv cX12_ways 35 184 = true := by decide +kernel
theorem q_X12_ways_38 : px_bk 12 9 cX12_ways 38 [] = some 38 ∧ px_t1 cX12_ways 38 .eq 54 = true := by decide +kernel
theorem q_X12_ways_41 : px_bk 12 9 cX12_ways 41 [(.iload 5, (0, 0, 0, 0, 0), 0, 0), (.i2l, (0, 0, 0, 0, 0), 0, 0), (.lconst 0, (0, 0, 0, 0, 0), 0, 0), (.ldc2_w 171, (0, 0, 0, 0, 0), 0, 2)] = some 48 ∧ px_tS cX12_ways 48 167 = true := by decide +kernel
theorem q_X12_ways_51 : px_bk 12 9 cX12_ways 51 [] = some 51 ∧ px_t1 cX12_ways 51 .ne 56 = true := by decide +kernel
theorem q_X12_ways_56 : px_bk 12 9 cX12_ways 56 [(.iconst 0, (0, 0, 0, 0, 0), 0, 0), (.istore 6, (0, 0, 0, 0, 0), 0, 0), (.iconst 0, (0, 0, 0, 0, 0), 0, 0), (.istore 7, (0, 0, 0, 0, 0), 0, 0)] = some 62 := by decide +kernel
set_option maxRecDepth 100000 in
theorem k_ways {n : Nat} {I : px_I} {L : px_L} {R : px_R} (hg : px_G n R) (a f b t x : Int32) (hS : mS I) (hW : mWays I) : px_KS M_X12_ways [.ref 103, .int a, .int f, .int b, .int t, .int x] n I L R (fun r I2 L2 => mXI I I2 ∧ mXL L L2) := by
  refine px_of (plainFor_of_name np_RX12) (fun _ _ _ => trivial) rfl ?_
  refine px_cSP rfl q_X12_ways_0 hg rfl trivial lk_12_167 nm_X12_in (k_inI hg _ (0) (15) (by decide) (by decide)) rfl rfl rfl ⟨rfl, rfl⟩ ?_
  intro x6 h6
  refine px_eq rfl q_X12_ways_9 hg rfl trivial (fun c9 => ?_) (fun c9 => ?_)
  · replace h6 := px_bf h6 c9
    refine px_riS rfl q_X12_ways_54 rfl rfl rfl hg rfl trivial ⟨⟨rfl, rfl⟩, ?_⟩
    exact ⟨mXI.rfl', mXL.rfl'⟩
  · replace h6 := px_bt h6 c9
    refine px_cSP rfl q_X12_ways_12 hg rfl trivial lk_12_167 nm_X12_in (k_inI hg _ (0) (15) (by decide) (by decide)) rfl rfl rfl ⟨rfl, rfl⟩ ?_
    intro x18 h18
    refine px_eq rfl q_X12_ways_21 hg rfl trivial (fun c21 => ?_) (fun c21 => ?_)
    · replace h18 := px_bf h18 c21
      refine px_riS rfl q_X12_ways_54 rfl rfl rfl hg rfl trivial ⟨⟨rfl, rfl⟩, ?_⟩
      exact ⟨mXI.rfl', mXL.rfl'⟩
    · replace h18 := px_bt h18 c21
      refine px_cVP (ci := 12) rfl q_X12_ways_24 hg rfl trivial lk_12_184 nm_X12_isStation (k_isStation hg _) rfl rfl (px_lit hg rfl) rfl rfl rfl ⟨rfl, rfl⟩ ?_
      intro x26 h26
      refine px_eq rfl q_X12_ways_29 hg rfl trivial (fun c29 => ?_) (fun c29 => ?_)
      · replace h26 := px_bf h26 c29
        refine px_riS rfl q_X12_ways_54 rfl rfl rfl hg rfl trivial ⟨⟨rfl, rfl⟩, ?_⟩
        exact ⟨mXI.rfl', mXL.rfl'⟩
      · replace h26 := px_bt h26 c29
        refine px_cVP (ci := 12) rfl q_X12_ways_32 hg rfl trivial lk_12_184 nm_X12_isStation (k_isStation hg _) rfl rfl (px_lit hg rfl) rfl rfl rfl ⟨rfl, rfl⟩ ?_
        intro x35 h35
        refine px_eq rfl q_X12_ways_38 hg rfl trivial (fun c38 => ?_) (fun c38 => ?_)
        · replace h35 := px_bf h35 c38
          refine px_riS rfl q_X12_ways_54 rfl rfl rfl hg rfl trivial ⟨⟨rfl, rfl⟩, ?_⟩
          exact ⟨mXI.rfl', mXL.rfl'⟩
        · replace h35 := px_bt h35 c38
          refine px_cSP rfl q_X12_ways_41 hg rfl trivial lk_12_167 nm_X12_in (k_inI hg _ (0) (2) (by decide) (by decide)) rfl rfl rfl ⟨rfl, rfl⟩ ?_
          intro x48 h48
          refine px_ne rfl q_X12_ways_51 hg rfl trivial (fun c51 => ?_) (fun c51 => ?_)
          · replace h48 := px_bt h48 c51
            refine px_b rfl q_X12_ways_56 hg rfl trivial ?_
            exact px_go (l_ways62 hg a f b t x L hS hW (fun r I2 L2 h1 h2 => ⟨rfl, rfl, r, rfl, h1, h2⟩) 0 (by decide) (by decide) 0 I L mXI.rfl' mXL.rfl') ⟨rfl, rfl, rfl, rfl, rfl, rfl, rfl, rfl, trivial⟩
          · replace h48 := px_bf h48 c51
            refine px_riS rfl q_X12_ways_54 rfl rfl rfl hg rfl trivial ⟨⟨rfl, rfl⟩, ?_⟩
            exact ⟨mXI.rfl', mXL.rfl'⟩
end
section
/-! the reference: reading a text -/
theorem mReg.nil {X : Int32 → Prop} {o v : Int32 → Int32} {s i : Int32} (h : 0 ≤ s) : mReg X o v s i i := fun P r0 _ _ _ _ => r0 s i h
theorem mReg.step {X : Int32 → Prop} {o v : Int32 → Int32} {s i j : Int32} (h : mReg X o v s i j) (hX : X j) (h1 : 1 ≤ o j) (h2 : o j ≤ 6) : mReg X o v s i (j + 1) := fun P r0 r1 r2 r3 r4 => r1 s i j (h P r0 r1 r2 r3 r4) hX h1 h2
theorem mReg.skip {X : Int32 → Prop} {o v : Int32 → Int32} {s i j : Int32} (h : mReg X o v s i j) (hX : X j) (h1 : o j = 23) : mReg X o v s i (v j) := fun P r0 r1 r2 r3 r4 => r2 s i j (h P r0 r1 r2 r3 r4) hX h1
theorem mReg.call {X : Int32 → Prop} {o v : Int32 → Int32} {s i j t e : Int32} (h : mReg X o v s i j) (hX : X j) (h1 : o j = 7) (h2 : 0 ≤ t) (h3 : t < s) (hb : mReg X o v t (v j) e) (he : X e) (h4 : o e = 21) : mReg X o v s i (j + 1) := fun P r0 r1 r2 r3 r4 => r3 s i j t e (h P r0 r1 r2 r3 r4) hX h1 h2 h3 (hb P r0 r1 r2 r3 r4) he h4
theorem mReg.rep {X : Int32 → Prop} {o v : Int32 → Int32} {s i j t e : Int32} (h : mReg X o v s i j) (hX : X j) (h1 : o j = 8) (h2 : 0 ≤ t) (h3 : t < s) (hb : mReg X o v t (j + 1) e) (he : X e) (h4 : o e = 20) (h5 : v e = j + 1) : mReg X o v s i (e + 1) := fun P r0 r1 r2 r3 r4 => r4 s i j t e (h P r0 r1 r2 r3 r4) hX h1 h2 h3 (hb P r0 r1 r2 r3 r4) he h4 h5
theorem mReg.cg {X X2 : Int32 → Prop} {o v o2 v2 : Int32 → Int32} {s i j : Int32} (hc : ∀ j, X j → X2 j ∧ o2 j = o j ∧ v2 j = v j) (h : mReg X o v s i j) : mReg X2 o2 v2 s i j := by
  refine h (fun s i j => mReg X2 o2 v2 s i j) (fun s i h => mReg.nil h) (fun s i j hP hj h1 h2 => ?_) (fun s i j hP hj h1 => ?_) (fun s i j t e hP hj h1 h2 h3 hB he h4 => ?_) (fun s i j t e hP hj h1 h2 h3 hB he h4 h5 => ?_)
  · obtain ⟨c1, c2, c3⟩ := hc j hj
    exact hP.step c1 (by rw [c2]; exact h1) (by rw [c2]; exact h2)
  · obtain ⟨c1, c2, c3⟩ := hc j hj
    rw [← c3]; exact hP.skip c1 (by rw [c2]; exact h1)
  · obtain ⟨c1, c2, c3⟩ := hc j hj
    obtain ⟨d1, d2, d3⟩ := hc e he
    exact hP.call c1 (by rw [c2]; exact h1) h2 h3 (by rw [c3]; exact hB) d1 (by rw [d2]; exact h4)
  · obtain ⟨c1, c2, c3⟩ := hc j hj
    obtain ⟨d1, d2, d3⟩ := hc e he
    exact hP.rep c1 (by rw [c2]; exact h1) h2 h3 hB d1 (by rw [d2]; exact h4) (by rw [d3]; exact h5)
theorem mReg.up {X : Int32 → Prop} {o v : Int32 → Int32} {s i j : Int32} (h : mReg X o v s i j) : ∀ {s2 : Int32}, s ≤ s2 → mReg X o v s2 i j := by
  refine h (fun s i j => ∀ {s2 : Int32}, s ≤ s2 → mReg X o v s2 i j) (fun s i h s2 hs => mReg.nil (Int32.le_trans h hs)) (fun s i j hP hj h1 h2 s2 hs => (hP hs).step hj h1 h2) (fun s i j hP hj h1 s2 hs => (hP hs).skip hj h1) (fun s i j t e hP hj h1 h2 h3 hB he h4 s2 hs => (hP hs).call hj h1 h2 (Int32.lt_of_lt_of_le h3 hs) (hB (Int32.le_refl t)) he h4) (fun s i j t e hP hj h1 h2 h3 hB he h4 h5 s2 hs => (hP hs).rep hj h1 h2 (Int32.lt_of_lt_of_le h3 hs) (hB (Int32.le_refl t)) he h4 h5)
/-- how many letters are told -/
def mNd (d : Int32 → Int32) : Int32 := (if d 0 < 0 then 0 else 1) + (if d 1 < 0 then 0 else 1) + (if d 2 < 0 then 0 else 1) + (if d 3 < 0 then 0 else 1) + (if d 4 < 0 then 0 else 1) + (if d 5 < 0 then 0 else 1) + (if d 6 < 0 then 0 else 1) + (if d 7 < 0 then 0 else 1)
theorem mNd_in (d : Int32 → Int32) : 0 ≤ mNd d ∧ mNd d ≤ 8 := by
  unfold mNd
  constructor <;> grind
theorem mNd_up {d d2 : Int32 → Int32} {l : Int32} (h0 : 0 ≤ l) (h7 : l ≤ 7) (h1 : d l < 0) (h2 : ¬ d2 l < 0) (h3 : ∀ q, 0 ≤ q → q ≤ 7 → q ≠ l → d2 q = d q) : mNd d2 = mNd d + 1 := by
  have hl : l = 0 ∨ l = 1 ∨ l = 2 ∨ l = 3 ∨ l = 4 ∨ l = 5 ∨ l = 6 ∨ l = 7 := by grind
  have a0 := h3 0 (by decide) (by decide)
  have a1 := h3 1 (by decide) (by decide)
  have a2 := h3 2 (by decide) (by decide)
  have a3 := h3 3 (by decide) (by decide)
  have a4 := h3 4 (by decide) (by decide)
  have a5 := h3 5 (by decide) (by decide)
  have a6 := h3 6 (by decide) (by decide)
  have a7 := h3 7 (by decide) (by decide)
  unfold mNd
  rcases hl with rfl | rfl | rfl | rfl | rfl | rfl | rfl | rfl
  · rw [a1 (by decide), a2 (by decide), a3 (by decide), a4 (by decide), a5 (by decide), a6 (by decide), a7 (by decide), if_pos h1, if_neg h2]; grind
  · rw [a0 (by decide), a2 (by decide), a3 (by decide), a4 (by decide), a5 (by decide), a6 (by decide), a7 (by decide), if_pos h1, if_neg h2]; grind
  · rw [a0 (by decide), a1 (by decide), a3 (by decide), a4 (by decide), a5 (by decide), a6 (by decide), a7 (by decide), if_pos h1, if_neg h2]; grind
  · rw [a0 (by decide), a1 (by decide), a2 (by decide), a4 (by decide), a5 (by decide), a6 (by decide), a7 (by decide), if_pos h1, if_neg h2]; grind
  · rw [a0 (by decide), a1 (by decide), a2 (by decide), a3 (by decide), a5 (by decide), a6 (by decide), a7 (by decide), if_pos h1, if_neg h2]; grind
  · rw [a0 (by decide), a1 (by decide), a2 (by decide), a3 (by decide), a4 (by decide), a6 (by decide), a7 (by decide), if_pos h1, if_neg h2]; grind
  · rw [a0 (by decide), a1 (by decide), a2 (by decide), a3 (by decide), a4 (by decide), a5 (by decide), a7 (by decide), if_pos h1, if_neg h2]; grind
  · rw [a0 (by decide), a1 (by decide), a2 (by decide), a3 (by decide), a4 (by decide), a5 (by decide), a6 (by decide), if_pos h1, if_neg h2]; grind
/-- what has been read so far: open blocks and their places, letters -/
def mSt (o v dA oD oA : Int32 → Int32) (op lt : Int32) (X : Int32 → Prop) (fe : Int32) : Prop :=
  (0 ≤ op ∧ op ≤ 8) ∧ (0 ≤ fe ∧ fe ≤ 210) ∧ (∀ j, X j → 0 ≤ j ∧ j < fe) ∧
  (∀ q, 0 ≤ q → q < op → (0 ≤ oA q ∧ oA q < fe) ∧ ¬ X (oA q) ∧ (oD q = 1 → q = 0 ∧ o (oA q) = 23 ∧ (0 ≤ lt ∧ lt ≤ 7) ∧ dA lt < 0)) ∧
  (∀ p q, 0 ≤ p → p < q → q < op → oA p ≠ oA q) ∧
  (∀ q, 0 ≤ q → q ≤ op → mReg X o v (9 - q + 8 * mNd dA) (if q = 0 then 0 else oA (q - 1) + 1) (if q = op then fe else oA q)) ∧
  (∀ l, 0 ≤ l → l ≤ 7 → 0 ≤ dA l → ∃ e, X e ∧ o e = 21 ∧ mReg X o v (8 * mNd dA) (dA l) e)
theorem mSt.emit {o v o2 v2 dA oD oA : Int32 → Int32} {op lt fe : Int32} {X : Int32 → Prop} (h : mSt o v dA oD oA op lt X fe) (ho : ∀ j, 0 ≤ j → j < fe → o2 j = o j ∧ v2 j = v j) : mSt o2 v2 dA oD oA op lt X fe := by
  obtain ⟨h1, h2, h3, h4, h5, h6, h7⟩ := h
  have hc : ∀ j, X j → X j ∧ o2 j = o j ∧ v2 j = v j := fun j hj => ⟨hj, ho j (h3 j hj).1 (h3 j hj).2⟩
  refine ⟨h1, h2, h3, fun q q1 q2 => ?_, h5, fun q q1 q2 => (h6 q q1 q2).cg hc, fun l l1 l2 l3 => ?_⟩
  · obtain ⟨a1, a2, a3⟩ := h4 q q1 q2
    exact ⟨a1, a2, fun hd => by rw [(ho _ a1.1 a1.2).1]; exact a3 hd⟩
  · obtain ⟨e, e1, e2, e3⟩ := h7 l l1 l2 l3
    exact ⟨e, e1, by rw [(hc e e1).2.1]; exact e2, e3.cg hc⟩
theorem mSt.grow {o v dA oD oA : Int32 → Int32} {op lt fe : Int32} {X : Int32 → Prop} (h : mSt o v dA oD oA op lt X fe) (hf : fe < 210) (hr : ∀ s i, 8 * mNd dA < s → mReg (fun j => X j ∨ j = fe) o v s i fe → mReg (fun j => X j ∨ j = fe) o v s i (fe + 1)) : mSt o v dA oD oA op lt (fun j => X j ∨ j = fe) (fe + 1) := by
  obtain ⟨h1, h2, h3, h4, h5, h6, h7⟩ := h
  have hc : ∀ j, X j → (X j ∨ j = fe) ∧ o j = o j ∧ v j = v j := fun j hj => ⟨Or.inl hj, rfl, rfl⟩
  have hn := mNd_in dA
  refine ⟨h1, ⟨by grind, by grind⟩, fun j hj => ?_, fun q q1 q2 => ?_, h5, fun q q1 q2 => ?_, fun l l1 l2 l3 => ?_⟩
  · rcases hj with hj | rfl
    · have := h3 j hj; grind
    · grind
  · obtain ⟨a1, a2, a3⟩ := h4 q q1 q2
    exact ⟨⟨a1.1, by grind⟩, fun hx => by rcases hx with hx | hx; exact a2 hx; grind, a3⟩
  · by_cases hq : q = op
    · have h8 := (h6 q q1 q2).cg hc
      rw [if_pos hq] at h8 ⊢
      exact hr _ _ (by grind) h8
    · have h8 := (h6 q q1 q2).cg hc
      rw [if_neg hq] at h8 ⊢
      exact h8
  · obtain ⟨e, e1, e2, e3⟩ := h7 l l1 l2 l3
    exact ⟨e, Or.inl e1, e2, e3.cg hc⟩
theorem mSt.stp {o v dA oD oA : Int32 → Int32} {op lt fe : Int32} {X : Int32 → Prop} (h : mSt o v dA oD oA op lt X fe) (hf : fe < 210) (h1 : 1 ≤ o fe) (h2 : o fe ≤ 6) : mSt o v dA oD oA op lt (fun j => X j ∨ j = fe) (fe + 1) := h.grow hf (fun _ _ _ hm => hm.step (Or.inr rfl) h1 h2)
theorem mSt.cal {o v dA oD oA : Int32 → Int32} {op lt fe l : Int32} {X : Int32 → Prop} (h : mSt o v dA oD oA op lt X fe) (hf : fe < 210) (h1 : o fe = 7) (h2 : v fe = dA l) (hl : 0 ≤ l ∧ l ≤ 7) (hd : 0 ≤ dA l) : mSt o v dA oD oA op lt (fun j => X j ∨ j = fe) (fe + 1) := by
  obtain ⟨e, e1, e2, e3⟩ := h.2.2.2.2.2.2 l hl.1 hl.2 hd
  have hn := mNd_in dA
  exact h.grow hf (fun s i hs hm => hm.call (Or.inr rfl) h1 (by grind) hs (by rw [h2]; exact e3.cg (fun j hj => ⟨Or.inl hj, rfl, rfl⟩)) (Or.inl e1) e2)
theorem mSt.opn {o v dA oD oA oD2 oA2 : Int32 → Int32} {op lt lt2 fe : Int32} {X : Int32 → Prop} (h : mSt o v dA oD oA op lt X fe) (hf : fe < 210) (h8 : op < 8) (hD : ∀ q, 0 ≤ q → q < op → oD2 q = oD q ∧ oA2 q = oA q) (hA : oA2 op = fe) (hd : oD2 op = 1 → op = 0 ∧ o fe = 23 ∧ (0 ≤ lt2 ∧ lt2 ≤ 7) ∧ dA lt2 < 0) (hl : op ≠ 0 → lt2 = lt) : mSt o v dA oD2 oA2 (op + 1) lt2 X (fe + 1) := by
  obtain ⟨h1, h2, h3, h4, h5, h6, h7⟩ := h
  have hn := mNd_in dA
  refine ⟨⟨by grind, by grind⟩, ⟨by grind, by grind⟩, fun j hj => ?_, fun q q1 q2 => ?_, fun p q p1 p2 p3 => ?_, fun q q1 q2 => ?_, h7⟩
  · have := h3 j hj; grind
  · by_cases hq : q = op
    · subst hq
      rw [hA]
      exact ⟨⟨h2.1, by grind⟩, fun hx => by have := h3 _ hx; grind, hd⟩
    · have q3 : q < op := by grind
      obtain ⟨a1, a2, a3⟩ := h4 q q1 q3
      rw [(hD q q1 q3).2, (hD q q1 q3).1]
      refine ⟨⟨a1.1, by grind⟩, a2, fun hd1 => ?_⟩
      have hl2 := hl (by grind)
      subst hl2
      exact a3 hd1
  · by_cases hq : q = op
    · subst hq
      have a := h4 p p1 p2
      rw [hA, (hD p p1 p2).2]
      exact fun he => by grind
    · have q3 : q < op := by grind
      rw [(hD q (by grind) q3).2, (hD p p1 (by grind)).2]
      exact h5 p q p1 p2 q3
  · by_cases hq : q = op + 1
    · rw [if_pos hq, if_neg (by grind)]
      have e1 : q - 1 = op := by grind
      rw [e1, hA]
      exact mReg.nil (by grind)
    · rw [if_neg hq]
      have q3 : q ≤ op := by grind
      have h9 := h6 q q1 q3
      have e1 : (if q = 0 then 0 else oA2 (q - 1) + 1) = (if q = 0 then 0 else oA (q - 1) + 1) := by
        by_cases hq0 : q = 0
        · rw [if_pos hq0, if_pos hq0]
        · rw [if_neg hq0, if_neg hq0, (hD (q - 1) (by grind) (by grind)).2]
      have e2 : oA2 q = (if q = op then fe else oA q) := by
        by_cases hq2 : q = op
        · rw [if_pos hq2, hq2, hA]
        · rw [if_neg hq2, (hD q q1 (by grind)).2]
      rw [e1, e2]
      exact h9
theorem px_m1 (x : Int32) : ¬ x - 1 = x := by grind
theorem px_m2 {q x : Int32} (h : q ≤ x - 1) (h0 : 0 < x) : ¬ q = x := by grind
theorem px_m3 {x : Int32} (h0 : 0 < x) : ¬ x = 0 := by grind
theorem mSt.clR {o v o2 v2 dA oD oA : Int32 → Int32} {op lt fe w : Int32} {X : Int32 → Prop} (h : mSt o v dA oD oA op lt X fe) (hf : fe < 210) (h0 : 0 < op) (hw : w = oA (op - 1)) (ho : ∀ j, 0 ≤ j → j < fe → j ≠ w → o2 j = o j ∧ v2 j = v j) (h20 : o2 fe = 20) (hv : v2 fe = w + 1) (hk : o2 w = 8 ∨ (o2 w = 23 ∧ v2 w = fe + 1)) : mSt o2 v2 dA oD oA (op - 1) lt (fun j => (X j ∨ j = w) ∨ j = fe) (fe + 1) := by
  obtain ⟨h1, h2, h3, h4, h5, h6, h7⟩ := h
  have hn := mNd_in dA
  obtain ⟨w1, w2, -⟩ := h4 (op - 1) (by grind) (by grind)
  rw [← hw] at w1 w2
  have hc : ∀ j, X j → ((X j ∨ j = w) ∨ j = fe) ∧ o2 j = o j ∧ v2 j = v j := fun j hj => ⟨Or.inl (Or.inl hj), ho j (h3 j hj).1 (h3 j hj).2 (fun e => w2 (e ▸ hj))⟩
  refine ⟨⟨by grind, by grind⟩, ⟨by grind, by grind⟩, fun j hj => ?_, fun q q1 q2 => ?_, fun p q p1 p2 p3 => h5 p q p1 p2 (by grind), fun q q1 q2 => ?_, fun l l1 l2 l3 => ?_⟩
  · rcases hj with (hj | rfl) | rfl
    · have := h3 j hj; grind
    · grind
    · grind
  · obtain ⟨a1, a2, a3⟩ := h4 q q1 (by grind)
    have a4 : oA q ≠ w := by rw [hw]; exact h5 q (op - 1) q1 q2 (by grind)
    refine ⟨⟨a1.1, by grind⟩, fun hx => ?_, fun hd => by rw [(ho _ a1.1 a1.2 a4).1]; exact a3 hd⟩
    rcases hx with (hx | hx) | hx
    · exact a2 hx
    · exact a4 hx
    · grind
  · by_cases hq : q = op - 1
    · rw [if_pos hq]
      have h8 := (h6 q q1 (by grind)).cg hc
      rw [hq, if_neg (px_m1 op), ← hw] at h8
      rw [hq]
      rcases hk with hk | hk
      · have h9 := (h6 op (by grind) (by grind)).cg hc
        rw [if_pos rfl, if_neg (px_m3 h0), ← hw] at h9
        exact h8.rep (Or.inl (Or.inr rfl)) hk (t := 9 - op + 8 * mNd dA) (by grind) (by grind) h9 (Or.inr rfl) h20 hv
      · have h9 := h8.skip (Or.inl (Or.inr rfl)) hk.1
        rw [hk.2] at h9
        exact h9
    · rw [if_neg hq]
      have h8 := (h6 q q1 (by grind)).cg hc
      rw [if_neg (px_m2 q2 h0)] at h8
      exact h8
  · obtain ⟨e, e1, e2, e3⟩ := h7 l l1 l2 l3
    exact ⟨e, Or.inl (Or.inl e1), by rw [(hc e e1).2.1]; exact e2, e3.cg hc⟩
theorem mSt.clD {o v o2 v2 dA dA2 oD oA : Int32 → Int32} {op lt fe w : Int32} {X : Int32 → Prop} (h : mSt o v dA oD oA op lt X fe) (hf : fe < 210) (h0 : 0 < op) (hw : w = oA (op - 1)) (hd : oD (op - 1) = 1) (ho : ∀ j, 0 ≤ j → j < fe → o2 j = o j ∧ (j ≠ w → v2 j = v j)) (h21 : o2 fe = 21) (hv : v2 w = fe + 1) (hA : ∀ l, 0 ≤ l → l ≤ 7 → l ≠ lt → dA2 l = dA l) (hA2 : dA2 lt = w + 1) : mSt o2 v2 dA2 oD oA (op - 1) lt (fun j => (X j ∨ j = w) ∨ j = fe) (fe + 1) := by
  obtain ⟨h1, h2, h3, h4, h5, h6, h7⟩ := h
  obtain ⟨w1, w2, w3⟩ := h4 (op - 1) (by grind) (by grind)
  rw [← hw] at w1 w2 w3
  obtain ⟨w4, w5, w6, w7⟩ := w3 hd
  have hn := mNd_in dA
  have hn2 : mNd dA2 = mNd dA + 1 := mNd_up w6.1 w6.2 w7 (by rw [hA2]; grind) hA
  have hn3 := mNd_in dA2
  have hop : op = 1 := by grind
  subst hop
  have hc : ∀ j, X j → ((X j ∨ j = w) ∨ j = fe) ∧ o2 j = o j ∧ v2 j = v j := fun j hj => ⟨Or.inl (Or.inl hj), (ho j (h3 j hj).1 (h3 j hj).2).1, (ho j (h3 j hj).1 (h3 j hj).2).2 (fun e => w2 (e ▸ hj))⟩
  have e0 : (1 : Int32) - 1 = 0 := by decide
  rw [e0] at hw ⊢
  refine ⟨⟨by decide, by decide⟩, ⟨by grind, by grind⟩, fun j hj => ?_, fun q q1 q2 => by grind, fun p q p1 p2 p3 => by grind, fun q q1 q2 => ?_, fun l l1 l2 l3 => ?_⟩
  · rcases hj with (hj | rfl) | rfl
    · have := h3 j hj; grind
    · grind
    · grind
  · have hq : q = 0 := by grind
    subst hq
    have h8 := (h6 0 (by decide) (by decide)).cg hc
    rw [if_pos rfl, if_neg (by decide), ← hw] at h8
    rw [if_pos rfl, if_pos rfl]
    have h9 := (h8.skip (Or.inl (Or.inr rfl)) (by rw [(ho w w1.1 w1.2).1]; exact w5)).up (s2 := 9 - 0 + 8 * mNd dA2) (by grind)
    rw [hv] at h9
    exact h9
  · by_cases hl : l = lt
    · subst hl
      refine ⟨fe, Or.inr rfl, h21, ?_⟩
      have h9 := (h6 1 (by decide) (by decide)).cg hc
      rw [if_pos rfl, if_neg (by decide), e0, ← hw] at h9
      rw [hA2]
      exact h9.up (by grind)
    · rw [hA l l1 l2 hl] at l3 ⊢
      obtain ⟨e, e1, e2, e3⟩ := h7 l l1 l2 l3
      exact ⟨e, Or.inl (Or.inl e1), by rw [(hc e e1).2.1]; exact e2, (e3.cg hc).up (by grind)⟩
/-! the same by numbers -/
def mSI (I : px_I) (X : Int32 → Prop) (fe : Int32) : Prop := mSt (fun j => I 122 j.toNatClampNeg) (fun j => I 123 j.toNatClampNeg) (fun j => I 124 j.toNatClampNeg) (fun j => I 125 j.toNatClampNeg) (fun j => I 126 j.toNatClampNeg) (I 103 39) (I 103 71) X fe
theorem mSI.same {I I2 : px_I} {X : Int32 → Prop} {fe : Int32} (h : mSI I X fe) (h2 : I2 122 = I 122) (h3 : I2 123 = I 123) (h4 : I2 124 = I 124) (h5 : I2 125 = I 125) (h6 : I2 126 = I 126) (h7 : I2 103 39 = I 103 39) (h8 : I2 103 71 = I 103 71) : mSI I2 X fe := by
  unfold mSI at *
  rw [h2, h3, h4, h5, h6, h7, h8]
  exact h
theorem px_uJ {α : Type} {f : Nat → Nat → α} {b : Nat} {N j : Int32} {x : α} (hj : 0 ≤ j) (hN : 0 ≤ N) (h : j ≠ N) : px_u f b N.toNatClampNeg x b j.toNatClampNeg = f b j.toNatClampNeg := px_u_at_ne (mNat_inj hj hN h)
def mTk (I : px_I) : Prop := (0 ≤ I 103 28 ∧ I 103 28 ≤ I 103 27 ∧ I 103 27 ≤ I 103 26 ∧ I 103 26 ≤ 400) ∧ (I 103 29 ≠ 0 → I 103 28 < I 103 27) ∧ (I 103 29 = 2 → 0 ≤ I 103 30 ∧ I 103 30 ≤ 7) ∧ (I 103 29 = 1 → 0 ≤ I 103 30 ∧ I 103 30 ≤ 8)
theorem mTk.b {I : px_I} (h : mTk I) : (0 ≤ I 103 28 ∧ I 103 28 ≤ 400) ∧ I 103 28 ≤ I 103 27 ∧ I 103 27 ≤ 400 := by
  obtain ⟨⟨a1, a2, a3, a4⟩, -⟩ := h
  exact ⟨⟨a1, Int32.le_trans a2 (Int32.le_trans a3 a4)⟩, a2, Int32.le_trans a3 a4⟩
def mPI (I : px_I) (c : Int32) : Prop := mTk I ∧ I 103 31 = 0 ∧ 0 ≤ I 103 35 ∧ 2 * I 103 35 + I 103 39 ≤ I 103 28 + c ∧ ∃ X, mSI I X (I 103 35)
/-- reading a token changes four fields; reading a text more -/
def mKI (I I2 : px_I) : Prop := ∀ b j, ¬ (b = 103 ∧ 27 ≤ j ∧ j ≤ 30) → I2 b j = I b j
def mPF (I I2 : px_I) : Prop := ∀ b j, (b < 122 ∨ 128 < b) → ¬ (b = 103 ∧ ((27 ≤ j ∧ j ≤ 32) ∨ j = 35 ∨ j = 39 ∨ j = 71 ∨ j = 72)) → I2 b j = I b j
theorem mKI.u {I I1 : px_I} (h : mKI I I1) (k : Nat) (v : Int32) (hk : 27 ≤ k ∧ k ≤ 30) : mKI I (px_u I1 103 k v) := fun b j h3 => by rw [px_ur, ← h b j h3]; grind
theorem mKI.u27 {I I1 : px_I} (h : mKI I I1) (v : Int32) : mKI I (px_u I1 103 27 v) := h.u 27 v (by decide)
theorem mKI.u28 {I I1 : px_I} (h : mKI I I1) (v : Int32) : mKI I (px_u I1 103 28 v) := h.u 28 v (by decide)
theorem mKI.u29 {I I1 : px_I} (h : mKI I I1) (v : Int32) : mKI I (px_u I1 103 29 v) := h.u 29 v (by decide)
theorem mKI.u30 {I I1 : px_I} (h : mKI I I1) (v : Int32) : mKI I (px_u I1 103 30 v) := h.u 30 v (by decide)
theorem mKI.trans {I I1 I2 : px_I} (h : mKI I I1) (h2 : mKI I1 I2) : mKI I I2 := fun b j h3 => (h2 b j h3).trans (h b j h3)
theorem mKI.o {I I2 : px_I} (h : mKI I I2) (b : Nat) (hb : b ≠ 103) : I2 b = I b := funext fun j => h b j (fun q => hb q.1)
theorem mKI.f {I I2 : px_I} (h : mKI I I2) (j : Nat) (hj : j < 27 ∨ 30 < j) : I2 103 j = I 103 j := h 103 j (fun q => by omega)
theorem mKI.P {I I2 : px_I} (h : mKI I I2) : mPF I I2 := fun b j h1 h2 => h b j (fun q => h2 ⟨q.1, Or.inl ⟨q.2.1, by omega⟩⟩)
theorem mPF.trans {I I1 I2 : px_I} (h : mPF I I1) (h2 : mPF I1 I2) : mPF I I2 := fun b j h3 h4 => (h2 b j h3 h4).trans (h b j h3 h4)
theorem mPF.u {I I1 : px_I} (h : mPF I I1) (k : Nat) (v : Int32) (hk : (27 ≤ k ∧ k ≤ 32) ∨ k = 35 ∨ k = 39 ∨ k = 71 ∨ k = 72 := by decide) : mPF I (px_u I1 103 k v) := fun b j h3 h4 => by rw [px_ur, ← h b j h3 h4]; grind
theorem mPF.a {I I1 : px_I} (h : mPF I I1) (b k : Nat) (v : Int32) (hb : 122 ≤ b ∧ b ≤ 128 := by decide) : mPF I (px_u I1 b k v) := fun b2 j h3 h4 => by rw [px_u_ne (by omega)]; exact h b2 j h3 h4
theorem mPF.rfl' {I : px_I} : mPF I I := fun _ _ _ _ => rfl
theorem mKI.S {I I2 : px_I} {X : Int32 → Prop} {fe : Int32} (h : mKI I I2) (hs : mSI I X fe) : mSI I2 X fe := hs.same (h.o _ (by decide)) (h.o _ (by decide)) (h.o _ (by decide)) (h.o _ (by decide)) (h.o _ (by decide)) (h.f _ (by decide)) (h.f _ (by decide))
def mLt (x : Int32) : Prop := (97 ≤ x ∧ x ≤ 122) ∨ (65 ≤ x ∧ x ≤ 90)

theorem q_X12_isLetter_0 : px_bk 12 1 cX12_isLetter 0 [(.iload_n 0, (0, 0, 0, 0, 0), 0, 0), (.i2l, (0, 0, 0, 0, 0), 0, 0), (.ldc2_w 265, (0, 0, 0, 0, 0), 0, 97), (.ldc2_w 267, (0, 0, 0, 0, 0), 0, 122)] = some 8 ∧ px_tS cX12_isLetter 8 167 = true := by decide +kernel
theorem q_X12_isLetter_11 : px_bk 12 1 cX12_isLetter 11 [] = some 11 ∧ px_t1 cX12_isLetter 11 .ne 28 = true := by decide +kernel
theorem q_X12_isLetter_28 : px_bk 12 1 cX12_isLetter 28 [(.iconst 1, (0, 0, 0, 0, 0), 1, 0), (.goto 4, (0, 0, 0, 0, 0), 0, 0)] = some 33 ∧ px_tr cX12_isLetter 33 .ireturn = true := by decide +kernel
theorem q_X12_isLetter_14 : px_bk 12 1 cX12_isLetter 14 [(.iload_n 0, (0, 0, 0, 0, 0), 0, 0), (.i2l, (0, 0, 0, 0, 0), 0, 0), (.ldc2_w 269, (0, 0, 0, 0, 0), 0, 65), (.ldc2_w 271, (0, 0, 0, 0, 0), 0, 90)] = some 22 ∧ px_tS cX12_isLetter 22 167 = true := by decide +kernel
theorem q_X12_isLetter_25 : px_bk 12 1 cX12_isLetter 25 [] = some 25 ∧ px_t1 cX12_isLetter 25 .eq 32 = true := by decide +kernel
theorem q_X12_isLetter_32 : px_bk 12 1 cX12_isLetter 32 [(.iconst 0, (0, 0, 0, 0, 0), 0, 0)] = some 33 ∧ px_tr cX12_isLetter 33 .ireturn = true := by decide +kernel
set_option maxRecDepth 100000 in
theorem k_isLetter {n : Nat} {I : px_I} {L : px_L} {R : px_R} (hg : px_G n R) (x : Int32) : px_KP M_X12_isLetter [.int x] n I L R (fun r => (r = 1 ∧ mLt x) ∨ (r = 0 ∧ ¬ mLt x)) := by
  refine px_of (plainFor_of_name np_RX12) (fun _ _ _ => trivial) rfl ?_
  refine px_cSP rfl q_X12_isLetter_0 hg rfl trivial lk_12_167 nm_X12_in (k_inI hg _ (97) (122) (by decide) (by decide)) rfl rfl rfl ⟨rfl, rfl⟩ ?_
  intro x8 h8
  refine px_ne rfl q_X12_isLetter_11 hg rfl trivial (fun c11 => ?_) (fun c11 => ?_)
  · replace h8 := px_bt h8 c11
    refine px_rzP rfl q_X12_isLetter_28 rfl rfl rfl hg rfl trivial ⟨⟨rfl, rfl, rfl, rfl⟩, (by first | exact Or.inl rfl | exact Or.inr rfl | grind), ?_⟩
    unfold mLt; grind
  · replace h8 := px_bf h8 c11
    refine px_cSP rfl q_X12_isLetter_14 hg rfl trivial lk_12_167 nm_X12_in (k_inI hg _ (65) (90) (by decide) (by decide)) rfl rfl rfl ⟨rfl, rfl⟩ ?_
    intro x22 h22
    refine px_eq rfl q_X12_isLetter_25 hg rfl trivial (fun c25 => ?_) (fun c25 => ?_)
    · replace h22 := px_bf h22 c25
      refine px_rzP rfl q_X12_isLetter_32 rfl rfl rfl hg rfl trivial ⟨⟨rfl, rfl, rfl, rfl⟩, (by first | exact Or.inl rfl | exact Or.inr rfl | grind), ?_⟩
      unfold mLt; grind
    · replace h22 := px_bt h22 c25
      refine px_rzP rfl q_X12_isLetter_28 rfl rfl rfl hg rfl trivial ⟨⟨rfl, rfl, rfl, rfl⟩, (by first | exact Or.inl rfl | exact Or.inr rfl | grind), ?_⟩
      unfold mLt; grind

theorem q_X12_wordOf_0 : px_bk 12 2 cX12_wordOf 0 [(.lload_n 0, (0, 0, 0, 0, 0), 0, 0), (.ldc2_w 273, (0, 0, 0, 0, 0), 0, 149862), (.lcmp, (0, 0, 0, 0, 0), 0, 0)] = some 5 ∧ px_t1 cX12_wordOf 5 .ne 10 = true := by decide +kernel
theorem q_X12_wordOf_10 : px_bk 12 2 cX12_wordOf 10 [(.lload_n 0, (0, 0, 0, 0, 0), 0, 0), (.ldc2_w 275, (0, 0, 0, 0, 0), 0, 11705253), (.lcmp, (0, 0, 0, 0, 0), 0, 0)] = some 15 ∧ px_t1 cX12_wordOf 15 .ne 20 = true := by decide +kernel
theorem q_X12_wordOf_20 : px_bk 12 2 cX12_wordOf 20 [(.lload_n 0, (0, 0, 0, 0, 0), 0, 0), (.ldc2_w 277, (0, 0, 0, 0, 0), 0, 13851822), (.lcmp, (0, 0, 0, 0, 0), 0, 0)] = some 25 ∧ px_t1 cX12_wordOf 25 .ne 30 = true := by decide +kernel
theorem q_X12_wordOf_30 : px_bk 12 2 cX12_wordOf 30 [(.lload_n 0, (0, 0, 0, 0, 0), 0, 0), (.ldc2_w 279, (0, 0, 0, 0, 0), 0, 13278437), (.lcmp, (0, 0, 0, 0, 0), 0, 0)] = some 35 ∧ px_t1 cX12_wordOf 35 .ne 40 = true := by decide +kernel
theorem q_X12_wordOf_40 : px_bk 12 2 cX12_wordOf 40 [(.lload_n 0, (0, 0, 0, 0, 0), 0, 0), (.ldc2_w 281, (0, 0, 0, 0, 0), 0, 10099500), (.lcmp, (0, 0, 0, 0, 0), 0, 0)] = some 45 ∧ px_t1 cX12_wordOf 45 .ne 50 = true := by decide +kernel
theorem q_X12_wordOf_50 : px_bk 12 2 cX12_wordOf 50 [(.lload_n 0, (0, 0, 0, 0, 0), 0, 0), (.ldc2_w 283, (0, 0, 0, 0, 0), 0, 866261428), (.lcmp, (0, 0, 0, 0, 0), 0, 0)] = some 55 ∧ px_t1 cX12_wordOf 55 .ne 60 = true := by decide +kernel
theorem q_X12_wordOf_60 : px_bk 12 2 cX12_wordOf 60 [(.lload_n 0, (0, 0, 0, 0, 0), 0, 0), (.ldc2_w 285, (0, 0, 0, 0, 0), 0, 817809779), (.lcmp, (0, 0, 0, 0, 0), 0, 0)] = some 65 ∧ px_t1 cX12_wordOf 65 .ne 71 = true := by decide +kernel
theorem q_X12_wordOf_71 : px_bk 12 2 cX12_wordOf 71 [(.lload_n 0, (0, 0, 0, 0, 0), 0, 0), (.ldc2_w 287, (0, 0, 0, 0, 0), 0, 2351), (.lcmp, (0, 0, 0, 0, 0), 0, 0)] = some 76 ∧ px_t1 cX12_wordOf 76 .ne 82 = true := by decide +kernel
theorem q_X12_wordOf_82 : px_bk 12 2 cX12_wordOf 82 [(.lload_n 0, (0, 0, 0, 0, 0), 0, 0), (.ldc2_w 289, (0, 0, 0, 0, 0), 0, 54320584820), (.lcmp, (0, 0, 0, 0, 0), 0, 0)] = some 87 ∧ px_t1 cX12_wordOf 87 .ne 93 = true := by decide +kernel
theorem q_X12_wordOf_93 : px_bk 12 2 cX12_wordOf 93 [(.iconst (-1), (0, 0, 0, 0, 0), -1, 0)] = some 94 ∧ px_tr cX12_wordOf 94 .ireturn = true := by decide +kernel
theorem q_X12_wordOf_90 : px_bk 12 2 cX12_wordOf 90 [(.bipush 8, (0, 0, 0, 0, 0), 8, 0)] = some 92 ∧ px_tr cX12_wordOf 92 .ireturn = true := by decide +kernel
theorem q_X12_wordOf_79 : px_bk 12 2 cX12_wordOf 79 [(.bipush 7, (0, 0, 0, 0, 0), 7, 0)] = some 81 ∧ px_tr cX12_wordOf 81 .ireturn = true := by decide +kernel
theorem q_X12_wordOf_68 : px_bk 12 2 cX12_wordOf 68 [(.bipush 6, (0, 0, 0, 0, 0), 6, 0)] = some 70 ∧ px_tr cX12_wordOf 70 .ireturn = true := by decide +kernel
theorem q_X12_wordOf_58 : px_bk 12 2 cX12_wordOf 58 [(.iconst 5, (0, 0, 0, 0, 0), 5, 0)] = some 59 ∧ px_tr cX12_wordOf 59 .ireturn = true := by decide +kernel
theorem q_X12_wordOf_48 : px_bk 12 2 cX12_wordOf 48 [(.iconst 4, (0, 0, 0, 0, 0), 4, 0)] = some 49 ∧ px_tr cX12_wordOf 49 .ireturn = true := by decide +kernel
theorem q_X12_wordOf_38 : px_bk 12 2 cX12_wordOf 38 [(.iconst 3, (0, 0, 0, 0, 0), 3, 0)] = some 39 ∧ px_tr cX12_wordOf 39 .ireturn = true := by decide +kernel
theorem q_X12_wordOf_28 : px_bk 12 2 cX12_wordOf 28 [(.iconst 2, (0, 0, 0, 0, 0), 2, 0)] = some 29 ∧ px_tr cX12_wordOf 29 .ireturn = true := by decide +kernel
theorem q_X12_wordOf_18 : px_bk 12 2 cX12_wordOf 18 [(.iconst 1, (0, 0, 0, 0, 0), 1, 0)] = some 19 ∧ px_tr cX12_wordOf 19 .ireturn = true := by decide +kernel
theorem q_X12_wordOf_8 : px_bk 12 2 cX12_wordOf 8 [(.iconst 0, (0, 0, 0, 0, 0), 0, 0)] = some 9 ∧ px_tr cX12_wordOf 9 .ireturn = true := by decide +kernel
set_option maxRecDepth 100000 in
theorem k_wordOf {n : Nat} {I : px_I} {L : px_L} {R : px_R} (hg : px_G n R) (z : Int64) : px_KP M_X12_wordOf [.long z] n I L R (fun r => -1 ≤ r ∧ r ≤ 8) := by
  refine px_of (plainFor_of_name np_RX12) (fun _ _ _ => trivial) rfl ?_
  refine px_lne rfl q_X12_wordOf_0 hg rfl trivial (fun c5 => ?_) (fun c5 => ?_)
  · refine px_lne rfl q_X12_wordOf_10 hg rfl trivial (fun c15 => ?_) (fun c15 => ?_)
    · refine px_lne rfl q_X12_wordOf_20 hg rfl trivial (fun c25 => ?_) (fun c25 => ?_)
      · refine px_lne rfl q_X12_wordOf_30 hg rfl trivial (fun c35 => ?_) (fun c35 => ?_)
        · refine px_lne rfl q_X12_wordOf_40 hg rfl trivial (fun c45 => ?_) (fun c45 => ?_)
          · refine px_lne rfl q_X12_wordOf_50 hg rfl trivial (fun c55 => ?_) (fun c55 => ?_)
            · refine px_lne rfl q_X12_wordOf_60 hg rfl trivial (fun c65 => ?_) (fun c65 => ?_)
              · refine px_lne rfl q_X12_wordOf_71 hg rfl trivial (fun c76 => ?_) (fun c76 => ?_)
                · refine px_lne rfl q_X12_wordOf_82 hg rfl trivial (fun c87 => ?_) (fun c87 => ?_)
                  · refine px_riP rfl q_X12_wordOf_93 rfl rfl rfl hg rfl trivial ⟨⟨rfl, rfl, rfl, rfl⟩, ?_⟩
                    exact ⟨by decide, by decide⟩
                  · refine px_riP rfl q_X12_wordOf_90 rfl rfl rfl hg rfl trivial ⟨⟨rfl, rfl, rfl, rfl⟩, ?_⟩
                    exact ⟨by decide, by decide⟩
                · refine px_riP rfl q_X12_wordOf_79 rfl rfl rfl hg rfl trivial ⟨⟨rfl, rfl, rfl, rfl⟩, ?_⟩
                  exact ⟨by decide, by decide⟩
              · refine px_riP rfl q_X12_wordOf_68 rfl rfl rfl hg rfl trivial ⟨⟨rfl, rfl, rfl, rfl⟩, ?_⟩
                exact ⟨by decide, by decide⟩
            · refine px_riP rfl q_X12_wordOf_58 rfl rfl rfl hg rfl trivial ⟨⟨rfl, rfl, rfl, rfl⟩, ?_⟩
              exact ⟨by decide, by decide⟩
          · refine px_riP rfl q_X12_wordOf_48 rfl rfl rfl hg rfl trivial ⟨⟨rfl, rfl, rfl, rfl⟩, ?_⟩
            exact ⟨by decide, by decide⟩
        · refine px_riP rfl q_X12_wordOf_38 rfl rfl rfl hg rfl trivial ⟨⟨rfl, rfl, rfl, rfl⟩, ?_⟩
          exact ⟨by decide, by decide⟩
      · refine px_riP rfl q_X12_wordOf_28 rfl rfl rfl hg rfl trivial ⟨⟨rfl, rfl, rfl, rfl⟩, ?_⟩
        exact ⟨by decide, by decide⟩
    · refine px_riP rfl q_X12_wordOf_18 rfl rfl rfl hg rfl trivial ⟨⟨rfl, rfl, rfl, rfl⟩, ?_⟩
      exact ⟨by decide, by decide⟩
  · refine px_riP rfl q_X12_wordOf_8 rfl rfl rfl hg rfl trivial ⟨⟨rfl, rfl, rfl, rfl⟩, ?_⟩
    exact ⟨by decide, by decide⟩

theorem q_X12_next_271 : px_bk 12 5 cX12_next 271 [(.aload_n 0, (0, 0, 0, 0, 0), 0, 0), (.getfield 291, (12, 27, 0, 0, 0), 0, 0), (.aload_n 0, (0, 0, 0, 0, 0), 0, 0), (.getfield 294, (12, 26, 0, 0, 0), 0, 0)] = some 279 ∧ px_t2 cX12_next 279 .ge 400 = true := by decide +kernel
theorem q_X12_next_400 : px_bk 12 5 cX12_next 400 [] = some 400 ∧ px_tr cX12_next 400 .return_ = true := by decide +kernel
theorem q_X12_next_282 : px_bk 12 5 cX12_next 282 [(.aload_n 0, (0, 0, 0, 0, 0), 0, 0), (.getfield 65, (12, 24, 3, 121, 0), 0, 0), (.aload_n 0, (0, 0, 0, 0, 0), 0, 0), (.getfield 291, (12, 27, 0, 0, 0), 0, 0), (.baload, (0, 0, 0, 0, 0), 0, 0), (.i2l, (0, 0, 0, 0, 0), 0, 0), (.ldc2_w 317, (0, 0, 0, 0, 0), 0, 48), (.ldc2_w 319, (0, 0, 0, 0, 0), 0, 57)] = some 298 ∧ px_tS cX12_next 298 167 = true := by decide +kernel
theorem q_X12_next_301 : px_bk 12 5 cX12_next 301 [] = some 301 ∧ px_t1 cX12_next 301 .eq 400 = true := by decide +kernel
theorem q_X12_next_304 : px_bk 12 5 cX12_next 304 [(.aload_n 0, (0, 0, 0, 0, 0), 0, 0), (.aload_n 0, (0, 0, 0, 0, 0), 0, 0), (.getfield 310, (12, 30, 0, 0, 0), 0, 0), (.ldc_w 321, (0, 0, 0, 0, 0), 999999, 0)] = some 312 ∧ px_t2 cX12_next 312 .le 322 = true := by decide +kernel
theorem q_X12_next_322 : px_bk 12 5 cX12_next 322 [(.bipush 10, (0, 0, 0, 0, 0), 10, 0), (.aload_n 0, (0, 0, 0, 0, 0), 0, 0), (.getfield 310, (12, 30, 0, 0, 0), 0, 0), (.imul, (0, 0, 0, 0, 0), 0, 0), (.aload_n 0, (0, 0, 0, 0, 0), 0, 0), (.getfield 65, (12, 24, 3, 121, 0), 0, 0), (.aload_n 0, (0, 0, 0, 0, 0), 0, 0), (.getfield 291, (12, 27, 0, 0, 0), 0, 0), (.baload, (0, 0, 0, 0, 0), 0, 0), (.iadd, (0, 0, 0, 0, 0), 0, 0), (.bipush 48, (0, 0, 0, 0, 0), 48, 0), (.isub, (0, 0, 0, 0, 0), 0, 0), (.putfield 310, (12, 30, 0, 0, 0), 0, 0), (.aload_n 0, (0, 0, 0, 0, 0), 0, 0), (.dup, (0, 0, 0, 0, 0), 0, 0), (.getfield 291, (12, 27, 0, 0, 0), 0, 0), (.iconst 1, (0, 0, 0, 0, 0), 1, 0), (.iadd, (0, 0, 0, 0, 0), 0, 0), (.putfield 291, (12, 27, 0, 0, 0), 0, 0), (.goto (-84), (0, 0, 0, 0, 0), 0, 0)] = some 271 := by decide +kernel
theorem q_X12_next_315 : px_bk 12 5 cX12_next 315 [(.aload_n 0, (0, 0, 0, 0, 0), 0, 0), (.getfield 310, (12, 30, 0, 0, 0), 0, 0), (.goto 23, (0, 0, 0, 0, 0), 0, 0), (.putfield 310, (12, 30, 0, 0, 0), 0, 0), (.aload_n 0, (0, 0, 0, 0, 0), 0, 0), (.dup, (0, 0, 0, 0, 0), 0, 0), (.getfield 291, (12, 27, 0, 0, 0), 0, 0), (.iconst 1, (0, 0, 0, 0, 0), 1, 0), (.iadd, (0, 0, 0, 0, 0), 0, 0), (.putfield 291, (12, 27, 0, 0, 0), 0, 0), (.goto (-84), (0, 0, 0, 0, 0), 0, 0)] = some 271 := by decide +kernel
set_option maxRecDepth 100000 in
theorem l_next271 {n : Nat} {R : px_R} (hg : px_G n R) {Q : px_Q} (x tk len : Int32) {I : px_I} {L : px_L} (hl : I 103 26 = len ∧ len ≤ 400) (ht : 0 ≤ tk ∧ tk < len ∧ I 103 27 ≤ tk) (hx : I 121 tk.toNatClampNeg = x ∧ (48 ≤ x ∧ x ≤ 57)) (hq : ∀ I2, mKI I I2 → I 103 27 ≤ I2 103 28 → mTk I2 → Q none n I2 L R) : ∀ a : Int32, a ≤ len → tk ≤ a → ∀ I1, mKI I I1 → I1 103 27 = a → I1 103 28 = tk → I1 103 29 = 3 → px M_X12_next 0 0 271 [(0, .ref 103), (1, .int x)] [] n I1 L R Q := by
  refine px_up _ (fun a ih ha => ?_)
  intro h0 I1 hI e27 e28 e29
  have f26 : I1 103 26 = len := (hI.f 26 (by decide)).trans hl.1
  refine px_ige rfl q_X12_next_271 hg rfl trivial (fun c279 => ?_) (fun c279 => ?_)
  · refine px_rv rfl q_X12_next_400 rfl rfl rfl hg rfl trivial ?_
    have hlt : tk < a := by
      by_cases hz : a = tk
      · exfalso
        have f121 := hI.o 121 (by decide)
        grind
      · grind
    refine hq _ hI (by grind) ?_
    unfold mTk
    grind
  · refine px_cSP rfl q_X12_next_282 hg rfl ⟨trivial, (by first | decide | (refine ⟨?_, ?_⟩ <;> grind) | grind)⟩ lk_12_167 nm_X12_in (k_inI hg _ (48) (57) (by decide) (by decide)) rfl rfl rfl ⟨rfl, rfl⟩ ?_
    intro x298 h298
    refine px_eq rfl q_X12_next_301 hg rfl trivial (fun c301 => ?_) (fun c301 => ?_)
    · replace h298 := px_bf h298 c301
      refine px_rv rfl q_X12_next_400 rfl rfl rfl hg rfl trivial ?_
      have hlt : tk < a := by
        by_cases hz : a = tk
        · exfalso
          have f121 := hI.o 121 (by decide)
          grind
        · grind
      refine hq _ hI (by grind) ?_
      unfold mTk
      grind
    · replace h298 := px_bt h298 c301
      refine px_ile rfl q_X12_next_304 hg rfl trivial (fun c312 => ?_) (fun c312 => ?_)
      · refine px_b rfl q_X12_next_322 hg rfl ⟨trivial, (by first | decide | (refine ⟨?_, ?_⟩ <;> grind) | grind)⟩ ?_
        exact px_go (ih (a + 1) (by grind) (by grind) (by grind) _ (by repeat (first | exact hI | refine mKI.u27 ?_ _ | refine mKI.u28 ?_ _ | refine mKI.u29 ?_ _ | refine mKI.u30 ?_ _)) (by simp [px_ur]; grind) (by simp [px_ur]; exact e28) (by simp [px_ur]; exact e29)) ⟨rfl, rfl, trivial⟩
      · refine px_b rfl q_X12_next_315 hg rfl trivial ?_
        exact px_go (ih (a + 1) (by grind) (by grind) (by grind) _ (by repeat (first | exact hI | refine mKI.u27 ?_ _ | refine mKI.u28 ?_ _ | refine mKI.u29 ?_ _ | refine mKI.u30 ?_ _)) (by simp [px_ur]; grind) (by simp [px_ur]; exact e28) (by simp [px_ur]; exact e29)) ⟨rfl, rfl, trivial⟩

theorem q_X12_next_99 : px_bk 12 5 cX12_next 99 [(.aload_n 0, (0, 0, 0, 0, 0), 0, 0), (.getfield 291, (12, 27, 0, 0, 0), 0, 0), (.aload_n 0, (0, 0, 0, 0, 0), 0, 0), (.getfield 294, (12, 26, 0, 0, 0), 0, 0)] = some 107 ∧ px_t2 cX12_next 107 .ge 173 = true := by decide +kernel
theorem q_X12_next_173 : px_bk 12 5 cX12_next 173 [(.iload 4, (0, 0, 0, 0, 0), 0, 0), (.iconst 1, (0, 0, 0, 0, 0), 1, 0)] = some 176 ∧ px_t2 cX12_next 176 .ne 209 = true := by decide +kernel
theorem q_X12_next_209 : px_bk 12 5 cX12_next 209 [(.aload_n 0, (0, 0, 0, 0, 0), 0, 0), (.iload 4, (0, 0, 0, 0, 0), 0, 0), (.bipush 6, (0, 0, 0, 0, 0), 6, 0)] = some 214 ∧ px_t2 cX12_next 214 .le 221 = true := by decide +kernel
theorem q_X12_next_221 : px_bk 12 5 cX12_next 221 [(.lload_n 2, (0, 0, 0, 0, 0), 0, 0)] = some 222 ∧ px_tS cX12_next 222 313 = true := by decide +kernel
theorem q_X12_next_225 : px_bk 12 5 cX12_next 225 [(.putfield 310, (12, 30, 0, 0, 0), 0, 0), (.aload_n 0, (0, 0, 0, 0, 0), 0, 0), (.aload_n 0, (0, 0, 0, 0, 0), 0, 0), (.getfield 310, (12, 30, 0, 0, 0), 0, 0)] = some 233 ∧ px_t1 cX12_next 233 .ge 240 = true := by decide +kernel
theorem q_X12_next_240 : px_bk 12 5 cX12_next 240 [(.iconst 1, (0, 0, 0, 0, 0), 1, 0), (.putfield 300, (12, 29, 0, 0, 0), 0, 0), (.goto 156, (0, 0, 0, 0, 0), 0, 0)] = some 400 ∧ px_tr cX12_next 400 .return_ = true := by decide +kernel
theorem q_X12_next_236 : px_bk 12 5 cX12_next 236 [(.iconst 5, (0, 0, 0, 0, 0), 5, 0), (.goto 4, (0, 0, 0, 0, 0), 0, 0), (.putfield 300, (12, 29, 0, 0, 0), 0, 0), (.goto 156, (0, 0, 0, 0, 0), 0, 0)] = some 400 ∧ px_tr cX12_next 400 .return_ = true := by decide +kernel
theorem q_X12_next_217 : px_bk 12 5 cX12_next 217 [(.iconst (-1), (0, 0, 0, 0, 0), -1, 0), (.goto 7, (0, 0, 0, 0, 0), 0, 0), (.putfield 310, (12, 30, 0, 0, 0), 0, 0), (.aload_n 0, (0, 0, 0, 0, 0), 0, 0), (.aload_n 0, (0, 0, 0, 0, 0), 0, 0), (.getfield 310, (12, 30, 0, 0, 0), 0, 0)] = some 233 ∧ px_t1 cX12_next 233 .ge 240 = true := by decide +kernel
theorem q_X12_next_179 : px_bk 12 5 cX12_next 179 [(.iload_n 1, (0, 0, 0, 0, 0), 0, 0), (.i2l, (0, 0, 0, 0, 0), 0, 0), (.ldc2_w 265, (0, 0, 0, 0, 0), 0, 97), (.ldc2_w 308, (0, 0, 0, 0, 0), 0, 104)] = some 187 ∧ px_tS cX12_next 187 167 = true := by decide +kernel
theorem q_X12_next_190 : px_bk 12 5 cX12_next 190 [] = some 190 ∧ px_t1 cX12_next 190 .eq 209 = true := by decide +kernel
theorem q_X12_next_193 : px_bk 12 5 cX12_next 193 [(.aload_n 0, (0, 0, 0, 0, 0), 0, 0), (.iconst 2, (0, 0, 0, 0, 0), 2, 0), (.putfield 300, (12, 29, 0, 0, 0), 0, 0), (.aload_n 0, (0, 0, 0, 0, 0), 0, 0), (.iload_n 1, (0, 0, 0, 0, 0), 0, 0), (.bipush 97, (0, 0, 0, 0, 0), 97, 0), (.isub, (0, 0, 0, 0, 0), 0, 0), (.putfield 310, (12, 30, 0, 0, 0), 0, 0), (.goto 38, (0, 0, 0, 0, 0), 0, 0), (.goto 156, (0, 0, 0, 0, 0), 0, 0)] = some 400 ∧ px_tr cX12_next 400 .return_ = true := by decide +kernel
theorem q_X12_next_110 : px_bk 12 5 cX12_next 110 [(.aload_n 0, (0, 0, 0, 0, 0), 0, 0), (.getfield 65, (12, 24, 3, 121, 0), 0, 0), (.aload_n 0, (0, 0, 0, 0, 0), 0, 0), (.getfield 291, (12, 27, 0, 0, 0), 0, 0), (.baload, (0, 0, 0, 0, 0), 0, 0)] = some 119 ∧ px_tS cX12_next 119 303 = true := by decide +kernel
theorem q_X12_next_122 : px_bk 12 5 cX12_next 122 [] = some 122 ∧ px_t1 cX12_next 122 .eq 173 = true := by decide +kernel
theorem q_X12_next_125 : px_bk 12 5 cX12_next 125 [(.iload 4, (0, 0, 0, 0, 0), 0, 0), (.bipush 8, (0, 0, 0, 0, 0), 8, 0)] = some 129 ∧ px_t2 cX12_next 129 .ge 155 = true := by decide +kernel
theorem q_X12_next_155 : px_bk 12 5 cX12_next 155 [(.lload_n 2, (0, 0, 0, 0, 0), 0, 0), (.lstore_n 2, (0, 0, 0, 0, 0), 0, 0), (.iinc 4 1, (0, 0, 0, 0, 0), 1, 0), (.aload_n 0, (0, 0, 0, 0, 0), 0, 0), (.dup, (0, 0, 0, 0, 0), 0, 0), (.getfield 291, (12, 27, 0, 0, 0), 0, 0), (.iconst 1, (0, 0, 0, 0, 0), 1, 0), (.iadd, (0, 0, 0, 0, 0), 0, 0), (.putfield 291, (12, 27, 0, 0, 0), 0, 0), (.goto (-71), (0, 0, 0, 0, 0), 0, 0)] = some 99 := by decide +kernel
theorem q_X12_next_132 : px_bk 12 5 cX12_next 132 [(.ldc2_w 306, (0, 0, 0, 0, 0), 0, 64), (.lload_n 2, (0, 0, 0, 0, 0), 0, 0), (.lmul, (0, 0, 0, 0, 0), 0, 0), (.aload_n 0, (0, 0, 0, 0, 0), 0, 0), (.getfield 65, (12, 24, 3, 121, 0), 0, 0), (.aload_n 0, (0, 0, 0, 0, 0), 0, 0), (.getfield 291, (12, 27, 0, 0, 0), 0, 0), (.baload, (0, 0, 0, 0, 0), 0, 0), (.i2l, (0, 0, 0, 0, 0), 0, 0), (.ladd, (0, 0, 0, 0, 0), 0, 0), (.ldc2_w 306, (0, 0, 0, 0, 0), 0, 64), (.lsub, (0, 0, 0, 0, 0), 0, 0), (.goto 4, (0, 0, 0, 0, 0), 0, 0), (.lstore_n 2, (0, 0, 0, 0, 0), 0, 0), (.iinc 4 1, (0, 0, 0, 0, 0), 1, 0), (.aload_n 0, (0, 0, 0, 0, 0), 0, 0), (.dup, (0, 0, 0, 0, 0), 0, 0), (.getfield 291, (12, 27, 0, 0, 0), 0, 0), (.iconst 1, (0, 0, 0, 0, 0), 1, 0), (.iadd, (0, 0, 0, 0, 0), 0, 0), (.putfield 291, (12, 27, 0, 0, 0), 0, 0), (.goto (-71), (0, 0, 0, 0, 0), 0, 0)] = some 99 := by decide +kernel
set_option maxRecDepth 100000 in
theorem l_next99 {n : Nat} {R : px_R} (hg : px_G n R) {Q : px_Q} (x tk len : Int32) {I : px_I} {L : px_L} (hl : I 103 26 = len ∧ len ≤ 400) (ht : 0 ≤ tk ∧ tk < len ∧ I 103 27 ≤ tk) (hx : I 121 tk.toNatClampNeg = x ∧ mLt x) (hq : ∀ I2, mKI I I2 → I 103 27 ≤ I2 103 28 → mTk I2 → Q none n I2 L R) : ∀ a : Int32, a ≤ len → tk ≤ a → ∀ I1, mKI I I1 → I1 103 27 = a → I1 103 28 = tk → ∀ (z : Int64) (c : Int32), px M_X12_next 0 0 99 [(0, .ref 103), (1, .int x), (2, .long z), (4, .int c)] [] n I1 L R Q := by
  refine px_up _ (fun a ih ha => ?_)
  intro h0 I1 hI e27 e28 z c
  have f26 : I1 103 26 = len := (hI.f 26 (by decide)).trans hl.1
  refine px_ige rfl q_X12_next_99 hg rfl trivial (fun c107 => ?_) (fun c107 => ?_)
  · refine px_ine rfl q_X12_next_173 hg rfl trivial (fun c176 => ?_) (fun c176 => ?_)
    · refine px_ile rfl q_X12_next_209 hg rfl trivial (fun c214 => ?_) (fun c214 => ?_)
      · refine px_cSP rfl q_X12_next_221 hg rfl trivial lk_12_313 nm_X12_wordOf (k_wordOf hg _) rfl rfl rfl ⟨rfl, rfl⟩ ?_
        intro x222 h222
        refine px_ge rfl q_X12_next_225 hg rfl trivial (fun c233 => ?_) (fun c233 => ?_)
        · refine px_rv rfl q_X12_next_240 rfl rfl rfl hg rfl trivial ?_
          have hlt : tk < a := by
            by_cases hz : a = tk
            · exfalso
              have f121 := hI.o 121 (by decide)
              grind
            · grind
          refine hq _ (by repeat (first | exact hI | refine mKI.u27 ?_ _ | refine mKI.u28 ?_ _ | refine mKI.u29 ?_ _ | refine mKI.u30 ?_ _)) ?_ ?_
          · simp [px_ur]; grind
          · unfold mTk; simp [px_ur]; grind
        · refine px_rv rfl q_X12_next_236 rfl rfl rfl hg rfl trivial ?_
          have hlt : tk < a := by
            by_cases hz : a = tk
            · exfalso
              have f121 := hI.o 121 (by decide)
              grind
            · grind
          refine hq _ (by repeat (first | exact hI | refine mKI.u27 ?_ _ | refine mKI.u28 ?_ _ | refine mKI.u29 ?_ _ | refine mKI.u30 ?_ _)) ?_ ?_
          · simp [px_ur]; grind
          · unfold mTk; simp [px_ur]; grind
      · refine px_ge rfl q_X12_next_217 hg rfl trivial (fun c233 => ?_) (fun c233 => ?_)
        · refine px_rv rfl q_X12_next_240 rfl rfl rfl hg rfl trivial ?_
          have hlt : tk < a := by
            by_cases hz : a = tk
            · exfalso
              have f121 := hI.o 121 (by decide)
              grind
            · grind
          refine hq _ (by repeat (first | exact hI | refine mKI.u27 ?_ _ | refine mKI.u28 ?_ _ | refine mKI.u29 ?_ _ | refine mKI.u30 ?_ _)) ?_ ?_
          · simp [px_ur]; grind
          · unfold mTk; simp [px_ur]; grind
        · refine px_rv rfl q_X12_next_236 rfl rfl rfl hg rfl trivial ?_
          have hlt : tk < a := by
            by_cases hz : a = tk
            · exfalso
              have f121 := hI.o 121 (by decide)
              grind
            · grind
          refine hq _ (by repeat (first | exact hI | refine mKI.u27 ?_ _ | refine mKI.u28 ?_ _ | refine mKI.u29 ?_ _ | refine mKI.u30 ?_ _)) ?_ ?_
          · simp [px_ur]; grind
          · unfold mTk; simp [px_ur]; grind
    · refine px_cSP rfl q_X12_next_179 hg rfl trivial lk_12_167 nm_X12_in (k_inI hg _ (97) (104) (by decide) (by decide)) rfl rfl rfl ⟨rfl, rfl⟩ ?_
      intro x187 h187
      refine px_eq rfl q_X12_next_190 hg rfl trivial (fun c190 => ?_) (fun c190 => ?_)
      · replace h187 := px_bf h187 c190
        refine px_ile rfl q_X12_next_209 hg rfl trivial (fun c214 => ?_) (fun c214 => ?_)
        · refine px_cSP rfl q_X12_next_221 hg rfl trivial lk_12_313 nm_X12_wordOf (k_wordOf hg _) rfl rfl rfl ⟨rfl, rfl⟩ ?_
          intro x222 h222
          refine px_ge rfl q_X12_next_225 hg rfl trivial (fun c233 => ?_) (fun c233 => ?_)
          · refine px_rv rfl q_X12_next_240 rfl rfl rfl hg rfl trivial ?_
            have hlt : tk < a := by
              by_cases hz : a = tk
              · exfalso
                have f121 := hI.o 121 (by decide)
                grind
              · grind
            refine hq _ (by repeat (first | exact hI | refine mKI.u27 ?_ _ | refine mKI.u28 ?_ _ | refine mKI.u29 ?_ _ | refine mKI.u30 ?_ _)) ?_ ?_
            · simp [px_ur]; grind
            · unfold mTk; simp [px_ur]; grind
          · refine px_rv rfl q_X12_next_236 rfl rfl rfl hg rfl trivial ?_
            have hlt : tk < a := by
              by_cases hz : a = tk
              · exfalso
                have f121 := hI.o 121 (by decide)
                grind
              · grind
            refine hq _ (by repeat (first | exact hI | refine mKI.u27 ?_ _ | refine mKI.u28 ?_ _ | refine mKI.u29 ?_ _ | refine mKI.u30 ?_ _)) ?_ ?_
            · simp [px_ur]; grind
            · unfold mTk; simp [px_ur]; grind
        · refine px_ge rfl q_X12_next_217 hg rfl trivial (fun c233 => ?_) (fun c233 => ?_)
          · refine px_rv rfl q_X12_next_240 rfl rfl rfl hg rfl trivial ?_
            have hlt : tk < a := by
              by_cases hz : a = tk
              · exfalso
                have f121 := hI.o 121 (by decide)
                grind
              · grind
            refine hq _ (by repeat (first | exact hI | refine mKI.u27 ?_ _ | refine mKI.u28 ?_ _ | refine mKI.u29 ?_ _ | refine mKI.u30 ?_ _)) ?_ ?_
            · simp [px_ur]; grind
            · unfold mTk; simp [px_ur]; grind
          · refine px_rv rfl q_X12_next_236 rfl rfl rfl hg rfl trivial ?_
            have hlt : tk < a := by
              by_cases hz : a = tk
              · exfalso
                have f121 := hI.o 121 (by decide)
                grind
              · grind
            refine hq _ (by repeat (first | exact hI | refine mKI.u27 ?_ _ | refine mKI.u28 ?_ _ | refine mKI.u29 ?_ _ | refine mKI.u30 ?_ _)) ?_ ?_
            · simp [px_ur]; grind
            · unfold mTk; simp [px_ur]; grind
      · replace h187 := px_bt h187 c190
        refine px_rv rfl q_X12_next_193 rfl rfl rfl hg rfl trivial ?_
        have hlt : tk < a := by
          by_cases hz : a = tk
          · exfalso
            have f121 := hI.o 121 (by decide)
            grind
          · grind
        refine hq _ (by repeat (first | exact hI | refine mKI.u27 ?_ _ | refine mKI.u28 ?_ _ | refine mKI.u29 ?_ _ | refine mKI.u30 ?_ _)) ?_ ?_
        · simp [px_ur]; grind
        · unfold mTk; simp [px_ur]; grind
  · refine px_cSP rfl q_X12_next_110 hg rfl ⟨trivial, (by first | decide | (refine ⟨?_, ?_⟩ <;> grind) | grind)⟩ lk_12_303 nm_X12_isLetter (k_isLetter hg _) rfl rfl rfl ⟨rfl, rfl⟩ ?_
    intro x119 h119
    refine px_eq rfl q_X12_next_122 hg rfl trivial (fun c122 => ?_) (fun c122 => ?_)
    · replace h119 := px_bf h119 c122
      refine px_ine rfl q_X12_next_173 hg rfl trivial (fun c176 => ?_) (fun c176 => ?_)
      · refine px_ile rfl q_X12_next_209 hg rfl trivial (fun c214 => ?_) (fun c214 => ?_)
        · refine px_cSP rfl q_X12_next_221 hg rfl trivial lk_12_313 nm_X12_wordOf (k_wordOf hg _) rfl rfl rfl ⟨rfl, rfl⟩ ?_
          intro x222 h222
          refine px_ge rfl q_X12_next_225 hg rfl trivial (fun c233 => ?_) (fun c233 => ?_)
          · refine px_rv rfl q_X12_next_240 rfl rfl rfl hg rfl trivial ?_
            have hlt : tk < a := by
              by_cases hz : a = tk
              · exfalso
                have f121 := hI.o 121 (by decide)
                grind
              · grind
            refine hq _ (by repeat (first | exact hI | refine mKI.u27 ?_ _ | refine mKI.u28 ?_ _ | refine mKI.u29 ?_ _ | refine mKI.u30 ?_ _)) ?_ ?_
            · simp [px_ur]; grind
            · unfold mTk; simp [px_ur]; grind
          · refine px_rv rfl q_X12_next_236 rfl rfl rfl hg rfl trivial ?_
            have hlt : tk < a := by
              by_cases hz : a = tk
              · exfalso
                have f121 := hI.o 121 (by decide)
                grind
              · grind
            refine hq _ (by repeat (first | exact hI | refine mKI.u27 ?_ _ | refine mKI.u28 ?_ _ | refine mKI.u29 ?_ _ | refine mKI.u30 ?_ _)) ?_ ?_
            · simp [px_ur]; grind
            · unfold mTk; simp [px_ur]; grind
        · refine px_ge rfl q_X12_next_217 hg rfl trivial (fun c233 => ?_) (fun c233 => ?_)
          · refine px_rv rfl q_X12_next_240 rfl rfl rfl hg rfl trivial ?_
            have hlt : tk < a := by
              by_cases hz : a = tk
              · exfalso
                have f121 := hI.o 121 (by decide)
                grind
              · grind
            refine hq _ (by repeat (first | exact hI | refine mKI.u27 ?_ _ | refine mKI.u28 ?_ _ | refine mKI.u29 ?_ _ | refine mKI.u30 ?_ _)) ?_ ?_
            · simp [px_ur]; grind
            · unfold mTk; simp [px_ur]; grind
          · refine px_rv rfl q_X12_next_236 rfl rfl rfl hg rfl trivial ?_
            have hlt : tk < a := by
              by_cases hz : a = tk
              · exfalso
                have f121 := hI.o 121 (by decide)
                grind
              · grind
            refine hq _ (by repeat (first | exact hI | refine mKI.u27 ?_ _ | refine mKI.u28 ?_ _ | refine mKI.u29 ?_ _ | refine mKI.u30 ?_ _)) ?_ ?_
            · simp [px_ur]; grind
            · unfold mTk; simp [px_ur]; grind
      · refine px_cSP rfl q_X12_next_179 hg rfl trivial lk_12_167 nm_X12_in (k_inI hg _ (97) (104) (by decide) (by decide)) rfl rfl rfl ⟨rfl, rfl⟩ ?_
        intro x187 h187
        refine px_eq rfl q_X12_next_190 hg rfl trivial (fun c190 => ?_) (fun c190 => ?_)
        · replace h187 := px_bf h187 c190
          refine px_ile rfl q_X12_next_209 hg rfl trivial (fun c214 => ?_) (fun c214 => ?_)
          · refine px_cSP rfl q_X12_next_221 hg rfl trivial lk_12_313 nm_X12_wordOf (k_wordOf hg _) rfl rfl rfl ⟨rfl, rfl⟩ ?_
            intro x222 h222
            refine px_ge rfl q_X12_next_225 hg rfl trivial (fun c233 => ?_) (fun c233 => ?_)
            · refine px_rv rfl q_X12_next_240 rfl rfl rfl hg rfl trivial ?_
              have hlt : tk < a := by
                by_cases hz : a = tk
                · exfalso
                  have f121 := hI.o 121 (by decide)
                  grind
                · grind
              refine hq _ (by repeat (first | exact hI | refine mKI.u27 ?_ _ | refine mKI.u28 ?_ _ | refine mKI.u29 ?_ _ | refine mKI.u30 ?_ _)) ?_ ?_
              · simp [px_ur]; grind
              · unfold mTk; simp [px_ur]; grind
            · refine px_rv rfl q_X12_next_236 rfl rfl rfl hg rfl trivial ?_
              have hlt : tk < a := by
                by_cases hz : a = tk
                · exfalso
                  have f121 := hI.o 121 (by decide)
                  grind
                · grind
              refine hq _ (by repeat (first | exact hI | refine mKI.u27 ?_ _ | refine mKI.u28 ?_ _ | refine mKI.u29 ?_ _ | refine mKI.u30 ?_ _)) ?_ ?_
              · simp [px_ur]; grind
              · unfold mTk; simp [px_ur]; grind
          · refine px_ge rfl q_X12_next_217 hg rfl trivial (fun c233 => ?_) (fun c233 => ?_)
            · refine px_rv rfl q_X12_next_240 rfl rfl rfl hg rfl trivial ?_
              have hlt : tk < a := by
                by_cases hz : a = tk
                · exfalso
                  have f121 := hI.o 121 (by decide)
                  grind
                · grind
              refine hq _ (by repeat (first | exact hI | refine mKI.u27 ?_ _ | refine mKI.u28 ?_ _ | refine mKI.u29 ?_ _ | refine mKI.u30 ?_ _)) ?_ ?_
              · simp [px_ur]; grind
              · unfold mTk; simp [px_ur]; grind
            · refine px_rv rfl q_X12_next_236 rfl rfl rfl hg rfl trivial ?_
              have hlt : tk < a := by
                by_cases hz : a = tk
                · exfalso
                  have f121 := hI.o 121 (by decide)
                  grind
                · grind
              refine hq _ (by repeat (first | exact hI | refine mKI.u27 ?_ _ | refine mKI.u28 ?_ _ | refine mKI.u29 ?_ _ | refine mKI.u30 ?_ _)) ?_ ?_
              · simp [px_ur]; grind
              · unfold mTk; simp [px_ur]; grind
        · replace h187 := px_bt h187 c190
          refine px_rv rfl q_X12_next_193 rfl rfl rfl hg rfl trivial ?_
          have hlt : tk < a := by
            by_cases hz : a = tk
            · exfalso
              have f121 := hI.o 121 (by decide)
              grind
            · grind
          refine hq _ (by repeat (first | exact hI | refine mKI.u27 ?_ _ | refine mKI.u28 ?_ _ | refine mKI.u29 ?_ _ | refine mKI.u30 ?_ _)) ?_ ?_
          · simp [px_ur]; grind
          · unfold mTk; simp [px_ur]; grind
    · replace h119 := px_bt h119 c122
      refine px_ige rfl q_X12_next_125 hg rfl trivial (fun c129 => ?_) (fun c129 => ?_)
      · refine px_b rfl q_X12_next_155 hg rfl trivial ?_
        exact px_go (ih (a + 1) (by grind) (by grind) (by grind) _ (by repeat (first | exact hI | refine mKI.u27 ?_ _ | refine mKI.u28 ?_ _ | refine mKI.u29 ?_ _ | refine mKI.u30 ?_ _)) (by simp [px_ur]; grind) (by simp [px_ur]; exact e28) _ _) ⟨rfl, rfl, rfl, rfl, trivial⟩
      · refine px_b rfl q_X12_next_132 hg rfl ⟨trivial, (by first | decide | (refine ⟨?_, ?_⟩ <;> grind) | grind)⟩ ?_
        exact px_go (ih (a + 1) (by grind) (by grind) (by grind) _ (by repeat (first | exact hI | refine mKI.u27 ?_ _ | refine mKI.u28 ?_ _ | refine mKI.u29 ?_ _ | refine mKI.u30 ?_ _)) (by simp [px_ur]; grind) (by simp [px_ur]; exact e28) _ _) ⟨rfl, rfl, rfl, rfl, trivial⟩

theorem q_X12_next_0 : px_bk 12 5 cX12_next 0 [(.aload_n 0, (0, 0, 0, 0, 0), 0, 0), (.getfield 291, (12, 27, 0, 0, 0), 0, 0), (.aload_n 0, (0, 0, 0, 0, 0), 0, 0), (.getfield 294, (12, 26, 0, 0, 0), 0, 0)] = some 8 ∧ px_t2 cX12_next 8 .ge 52 = true := by decide +kernel
theorem q_X12_next_52 : px_bk 12 5 cX12_next 52 [(.aload_n 0, (0, 0, 0, 0, 0), 0, 0), (.aload_n 0, (0, 0, 0, 0, 0), 0, 0), (.getfield 291, (12, 27, 0, 0, 0), 0, 0), (.putfield 297, (12, 28, 0, 0, 0), 0, 0), (.aload_n 0, (0, 0, 0, 0, 0), 0, 0), (.getfield 291, (12, 27, 0, 0, 0), 0, 0), (.aload_n 0, (0, 0, 0, 0, 0), 0, 0), (.getfield 294, (12, 26, 0, 0, 0), 0, 0)] = some 68 ∧ px_t2 cX12_next 68 .ne 77 = true := by decide +kernel
theorem q_X12_next_77 : px_bk 12 5 cX12_next 77 [(.aload_n 0, (0, 0, 0, 0, 0), 0, 0), (.getfield 65, (12, 24, 3, 121, 0), 0, 0), (.aload_n 0, (0, 0, 0, 0, 0), 0, 0), (.getfield 291, (12, 27, 0, 0, 0), 0, 0), (.baload, (0, 0, 0, 0, 0), 0, 0), (.istore_n 1, (0, 0, 0, 0, 0), 0, 0), (.iload_n 1, (0, 0, 0, 0, 0), 0, 0)] = some 88 ∧ px_tS cX12_next 88 303 = true := by decide +kernel
theorem q_X12_next_91 : px_bk 12 5 cX12_next 91 [] = some 91 ∧ px_t1 cX12_next 91 .eq 247 = true := by decide +kernel
theorem q_X12_next_247 : px_bk 12 5 cX12_next 247 [(.iload_n 1, (0, 0, 0, 0, 0), 0, 0), (.i2l, (0, 0, 0, 0, 0), 0, 0), (.ldc2_w 317, (0, 0, 0, 0, 0), 0, 48), (.ldc2_w 319, (0, 0, 0, 0, 0), 0, 57)] = some 255 ∧ px_tS cX12_next 255 167 = true := by decide +kernel
theorem q_X12_next_258 : px_bk 12 5 cX12_next 258 [] = some 258 ∧ px_t1 cX12_next 258 .eq 358 = true := by decide +kernel
theorem q_X12_next_358 : px_bk 12 5 cX12_next 358 [(.aload_n 0, (0, 0, 0, 0, 0), 0, 0), (.dup, (0, 0, 0, 0, 0), 0, 0), (.getfield 291, (12, 27, 0, 0, 0), 0, 0), (.iconst 1, (0, 0, 0, 0, 0), 1, 0), (.iadd, (0, 0, 0, 0, 0), 0, 0), (.putfield 291, (12, 27, 0, 0, 0), 0, 0), (.aload_n 0, (0, 0, 0, 0, 0), 0, 0), (.iload_n 1, (0, 0, 0, 0, 0), 0, 0), (.putfield 310, (12, 30, 0, 0, 0), 0, 0), (.aload_n 0, (0, 0, 0, 0, 0), 0, 0), (.iload_n 1, (0, 0, 0, 0, 0), 0, 0), (.bipush 59, (0, 0, 0, 0, 0), 59, 0)] = some 377 ∧ px_t2 cX12_next 377 .eq 392 = true := by decide +kernel
theorem q_X12_next_392 : px_bk 12 5 cX12_next 392 [(.iconst 4, (0, 0, 0, 0, 0), 4, 0), (.goto 4, (0, 0, 0, 0, 0), 0, 0), (.putfield 300, (12, 29, 0, 0, 0), 0, 0)] = some 400 ∧ px_tr cX12_next 400 .return_ = true := by decide +kernel
theorem q_X12_next_380 : px_bk 12 5 cX12_next 380 [(.iload_n 1, (0, 0, 0, 0, 0), 0, 0), (.bipush 123, (0, 0, 0, 0, 0), 123, 0)] = some 383 ∧ px_t2 cX12_next 383 .eq 392 = true := by decide +kernel
theorem q_X12_next_386 : px_bk 12 5 cX12_next 386 [(.iload_n 1, (0, 0, 0, 0, 0), 0, 0), (.bipush 125, (0, 0, 0, 0, 0), 125, 0)] = some 389 ∧ px_t2 cX12_next 389 .ne 396 = true := by decide +kernel
theorem q_X12_next_396 : px_bk 12 5 cX12_next 396 [(.iconst 5, (0, 0, 0, 0, 0), 5, 0), (.putfield 300, (12, 29, 0, 0, 0), 0, 0)] = some 400 ∧ px_tr cX12_next 400 .return_ = true := by decide +kernel
theorem q_X12_next_261 : px_bk 12 5 cX12_next 261 [(.aload_n 0, (0, 0, 0, 0, 0), 0, 0), (.iconst 3, (0, 0, 0, 0, 0), 3, 0), (.putfield 300, (12, 29, 0, 0, 0), 0, 0), (.aload_n 0, (0, 0, 0, 0, 0), 0, 0), (.iconst 0, (0, 0, 0, 0, 0), 0, 0), (.putfield 310, (12, 30, 0, 0, 0), 0, 0)] = some 271 := by decide +kernel
theorem q_X12_next_94 : px_bk 12 5 cX12_next 94 [(.lconst 0, (0, 0, 0, 0, 0), 0, 0), (.lstore_n 2, (0, 0, 0, 0, 0), 0, 0), (.iconst 0, (0, 0, 0, 0, 0), 0, 0), (.istore 4, (0, 0, 0, 0, 0), 0, 0)] = some 99 := by decide +kernel
theorem q_X12_next_71 : px_bk 12 5 cX12_next 71 [(.aload_n 0, (0, 0, 0, 0, 0), 0, 0), (.iconst 0, (0, 0, 0, 0, 0), 0, 0), (.putfield 300, (12, 29, 0, 0, 0), 0, 0)] = some 76 ∧ px_tr cX12_next 76 .return_ = true := by decide +kernel
theorem q_X12_next_11 : px_bk 12 5 cX12_next 11 [(.aload_n 0, (0, 0, 0, 0, 0), 0, 0), (.getfield 65, (12, 24, 3, 121, 0), 0, 0), (.aload_n 0, (0, 0, 0, 0, 0), 0, 0), (.getfield 291, (12, 27, 0, 0, 0), 0, 0), (.baload, (0, 0, 0, 0, 0), 0, 0), (.bipush 32, (0, 0, 0, 0, 0), 32, 0)] = some 22 ∧ px_t2 cX12_next 22 .eq 39 = true := by decide +kernel
theorem q_X12_next_39 : px_bk 12 5 cX12_next 39 [(.aload_n 0, (0, 0, 0, 0, 0), 0, 0), (.dup, (0, 0, 0, 0, 0), 0, 0), (.getfield 291, (12, 27, 0, 0, 0), 0, 0), (.iconst 1, (0, 0, 0, 0, 0), 1, 0), (.iadd, (0, 0, 0, 0, 0), 0, 0), (.putfield 291, (12, 27, 0, 0, 0), 0, 0), (.goto (-49), (0, 0, 0, 0, 0), 0, 0)] = some 0 := by decide +kernel
theorem q_X12_next_25 : px_bk 12 5 cX12_next 25 [(.aload_n 0, (0, 0, 0, 0, 0), 0, 0), (.getfield 65, (12, 24, 3, 121, 0), 0, 0), (.aload_n 0, (0, 0, 0, 0, 0), 0, 0), (.getfield 291, (12, 27, 0, 0, 0), 0, 0), (.baload, (0, 0, 0, 0, 0), 0, 0), (.bipush 10, (0, 0, 0, 0, 0), 10, 0)] = some 36 ∧ px_t2 cX12_next 36 .ne 52 = true := by decide +kernel
set_option maxRecDepth 100000 in
theorem l_next0 {n : Nat} {R : px_R} (hg : px_G n R) {Q : px_Q} (len : Int32) {I : px_I} {L : px_L} (hl : I 103 26 = len ∧ len ≤ 400) (hz : 0 ≤ I 103 27) (hq : ∀ I2, mKI I I2 → I 103 27 ≤ I2 103 28 → mTk I2 → Q none n I2 L R) : ∀ a : Int32, a ≤ len → I 103 27 ≤ a → ∀ I1, mKI I I1 → I1 103 27 = a → px M_X12_next 0 0 0 [(0, .ref 103)] [] n I1 L R Q := by
  refine px_up _ (fun a ih ha => ?_)
  intro h0 I1 hI e27
  have f26 : I1 103 26 = len := (hI.f 26 (by decide)).trans hl.1
  refine px_ige rfl q_X12_next_0 hg rfl trivial (fun c8 => ?_) (fun c8 => ?_)
  · refine px_ine rfl q_X12_next_52 hg rfl trivial (fun c68 => ?_) (fun c68 => ?_)
    · have f27 : px_u I1 103 28 (I1 103 27) 103 27 = a := by simp [px_ur]; exact e27
      refine px_cSP rfl q_X12_next_77 hg rfl ⟨trivial, (by first | decide | (refine ⟨?_, ?_⟩ <;> grind) | grind)⟩ lk_12_303 nm_X12_isLetter (k_isLetter hg _) rfl rfl rfl ⟨rfl, rfl⟩ ?_
      intro x88 h88
      refine px_eq rfl q_X12_next_91 hg rfl trivial (fun c91 => ?_) (fun c91 => ?_)
      · replace h88 := px_bf h88 c91
        refine px_cSP rfl q_X12_next_247 hg rfl trivial lk_12_167 nm_X12_in (k_inI hg _ (48) (57) (by decide) (by decide)) rfl rfl rfl ⟨rfl, rfl⟩ ?_
        intro x255 h255
        refine px_eq rfl q_X12_next_258 hg rfl trivial (fun c258 => ?_) (fun c258 => ?_)
        · replace h255 := px_bf h255 c258
          refine px_ieq rfl q_X12_next_358 hg rfl trivial (fun c377 => ?_) (fun c377 => ?_)
          · refine px_rv rfl q_X12_next_392 rfl rfl rfl hg rfl trivial ?_
            refine hq _ (by repeat (first | exact hI | refine mKI.u27 ?_ _ | refine mKI.u28 ?_ _ | refine mKI.u29 ?_ _ | refine mKI.u30 ?_ _)) ?_ ?_
            · simp [px_ur]; grind
            · unfold mTk; simp [px_ur]; grind
          · refine px_ieq rfl q_X12_next_380 hg rfl trivial (fun c383 => ?_) (fun c383 => ?_)
            · refine px_rv rfl q_X12_next_392 rfl rfl rfl hg rfl trivial ?_
              refine hq _ (by repeat (first | exact hI | refine mKI.u27 ?_ _ | refine mKI.u28 ?_ _ | refine mKI.u29 ?_ _ | refine mKI.u30 ?_ _)) ?_ ?_
              · simp [px_ur]; grind
              · unfold mTk; simp [px_ur]; grind
            · refine px_ine rfl q_X12_next_386 hg rfl trivial (fun c389 => ?_) (fun c389 => ?_)
              · refine px_rv rfl q_X12_next_396 rfl rfl rfl hg rfl trivial ?_
                refine hq _ (by repeat (first | exact hI | refine mKI.u27 ?_ _ | refine mKI.u28 ?_ _ | refine mKI.u29 ?_ _ | refine mKI.u30 ?_ _)) ?_ ?_
                · simp [px_ur]; grind
                · unfold mTk; simp [px_ur]; grind
              · refine px_rv rfl q_X12_next_392 rfl rfl rfl hg rfl trivial ?_
                refine hq _ (by repeat (first | exact hI | refine mKI.u27 ?_ _ | refine mKI.u28 ?_ _ | refine mKI.u29 ?_ _ | refine mKI.u30 ?_ _)) ?_ ?_
                · simp [px_ur]; grind
                · unfold mTk; simp [px_ur]; grind
        · replace h255 := px_bt h255 c258
          refine px_b rfl q_X12_next_261 hg rfl trivial ?_
          exact px_go (l_next271 hg _ a len hl ⟨by grind, by grind, h0⟩ ⟨by rw [← hI.o 121 (by decide), ← e27]; rfl, h255⟩ hq a (by grind) (Int32.le_refl _) _ (by repeat (first | exact hI | refine mKI.u27 ?_ _ | refine mKI.u28 ?_ _ | refine mKI.u29 ?_ _ | refine mKI.u30 ?_ _)) (by simp [px_ur]; exact e27) (by simp [px_ur]; exact e27) (by simp [px_ur])) ⟨rfl, rfl, trivial⟩
      · replace h88 := px_bt h88 c91
        refine px_b rfl q_X12_next_94 hg rfl trivial ?_
        exact px_go (l_next99 hg _ a len hl ⟨by grind, by grind, h0⟩ ⟨by rw [← hI.o 121 (by decide), ← e27]; rfl, h88⟩ hq a (by grind) (Int32.le_refl _) _ (by repeat (first | exact hI | refine mKI.u27 ?_ _ | refine mKI.u28 ?_ _ | refine mKI.u29 ?_ _ | refine mKI.u30 ?_ _)) (by simp [px_ur]; exact e27) (by simp [px_ur]; exact e27) _ _) ⟨rfl, rfl, rfl, rfl, trivial⟩
    · refine px_rv rfl q_X12_next_71 rfl rfl rfl hg rfl trivial ?_
      refine hq _ (by repeat (first | exact hI | refine mKI.u27 ?_ _ | refine mKI.u28 ?_ _ | refine mKI.u29 ?_ _ | refine mKI.u30 ?_ _)) ?_ ?_
      · simp [px_ur]; grind
      · unfold mTk; simp [px_ur]; grind
  · refine px_ieq rfl q_X12_next_11 hg rfl ⟨trivial, (by first | decide | (refine ⟨?_, ?_⟩ <;> grind) | grind)⟩ (fun c22 => ?_) (fun c22 => ?_)
    · refine px_b rfl q_X12_next_39 hg rfl trivial ?_
      exact px_go (ih (a + 1) (by grind) (by grind) (by grind) _ (by repeat (first | exact hI | refine mKI.u27 ?_ _ | refine mKI.u28 ?_ _ | refine mKI.u29 ?_ _ | refine mKI.u30 ?_ _)) (by simp [px_ur]; grind)) ⟨rfl, trivial⟩
    · refine px_ine rfl q_X12_next_25 hg rfl ⟨trivial, (by first | decide | (refine ⟨?_, ?_⟩ <;> grind) | grind)⟩ (fun c36 => ?_) (fun c36 => ?_)
      · refine px_ine rfl q_X12_next_52 hg rfl trivial (fun c68 => ?_) (fun c68 => ?_)
        · have f27 : px_u I1 103 28 (I1 103 27) 103 27 = a := by simp [px_ur]; exact e27
          refine px_cSP rfl q_X12_next_77 hg rfl ⟨trivial, (by first | decide | (refine ⟨?_, ?_⟩ <;> grind) | grind)⟩ lk_12_303 nm_X12_isLetter (k_isLetter hg _) rfl rfl rfl ⟨rfl, rfl⟩ ?_
          intro x88 h88
          refine px_eq rfl q_X12_next_91 hg rfl trivial (fun c91 => ?_) (fun c91 => ?_)
          · replace h88 := px_bf h88 c91
            refine px_cSP rfl q_X12_next_247 hg rfl trivial lk_12_167 nm_X12_in (k_inI hg _ (48) (57) (by decide) (by decide)) rfl rfl rfl ⟨rfl, rfl⟩ ?_
            intro x255 h255
            refine px_eq rfl q_X12_next_258 hg rfl trivial (fun c258 => ?_) (fun c258 => ?_)
            · replace h255 := px_bf h255 c258
              refine px_ieq rfl q_X12_next_358 hg rfl trivial (fun c377 => ?_) (fun c377 => ?_)
              · refine px_rv rfl q_X12_next_392 rfl rfl rfl hg rfl trivial ?_
                refine hq _ (by repeat (first | exact hI | refine mKI.u27 ?_ _ | refine mKI.u28 ?_ _ | refine mKI.u29 ?_ _ | refine mKI.u30 ?_ _)) ?_ ?_
                · simp [px_ur]; grind
                · unfold mTk; simp [px_ur]; grind
              · refine px_ieq rfl q_X12_next_380 hg rfl trivial (fun c383 => ?_) (fun c383 => ?_)
                · refine px_rv rfl q_X12_next_392 rfl rfl rfl hg rfl trivial ?_
                  refine hq _ (by repeat (first | exact hI | refine mKI.u27 ?_ _ | refine mKI.u28 ?_ _ | refine mKI.u29 ?_ _ | refine mKI.u30 ?_ _)) ?_ ?_
                  · simp [px_ur]; grind
                  · unfold mTk; simp [px_ur]; grind
                · refine px_ine rfl q_X12_next_386 hg rfl trivial (fun c389 => ?_) (fun c389 => ?_)
                  · refine px_rv rfl q_X12_next_396 rfl rfl rfl hg rfl trivial ?_
                    refine hq _ (by repeat (first | exact hI | refine mKI.u27 ?_ _ | refine mKI.u28 ?_ _ | refine mKI.u29 ?_ _ | refine mKI.u30 ?_ _)) ?_ ?_
                    · simp [px_ur]; grind
                    · unfold mTk; simp [px_ur]; grind
                  · refine px_rv rfl q_X12_next_392 rfl rfl rfl hg rfl trivial ?_
                    refine hq _ (by repeat (first | exact hI | refine mKI.u27 ?_ _ | refine mKI.u28 ?_ _ | refine mKI.u29 ?_ _ | refine mKI.u30 ?_ _)) ?_ ?_
                    · simp [px_ur]; grind
                    · unfold mTk; simp [px_ur]; grind
            · replace h255 := px_bt h255 c258
              refine px_b rfl q_X12_next_261 hg rfl trivial ?_
              exact px_go (l_next271 hg _ a len hl ⟨by grind, by grind, h0⟩ ⟨by rw [← hI.o 121 (by decide), ← e27]; rfl, h255⟩ hq a (by grind) (Int32.le_refl _) _ (by repeat (first | exact hI | refine mKI.u27 ?_ _ | refine mKI.u28 ?_ _ | refine mKI.u29 ?_ _ | refine mKI.u30 ?_ _)) (by simp [px_ur]; exact e27) (by simp [px_ur]; exact e27) (by simp [px_ur])) ⟨rfl, rfl, trivial⟩
          · replace h88 := px_bt h88 c91
            refine px_b rfl q_X12_next_94 hg rfl trivial ?_
            exact px_go (l_next99 hg _ a len hl ⟨by grind, by grind, h0⟩ ⟨by rw [← hI.o 121 (by decide), ← e27]; rfl, h88⟩ hq a (by grind) (Int32.le_refl _) _ (by repeat (first | exact hI | refine mKI.u27 ?_ _ | refine mKI.u28 ?_ _ | refine mKI.u29 ?_ _ | refine mKI.u30 ?_ _)) (by simp [px_ur]; exact e27) (by simp [px_ur]; exact e27) _ _) ⟨rfl, rfl, rfl, rfl, trivial⟩
        · refine px_rv rfl q_X12_next_71 rfl rfl rfl hg rfl trivial ?_
          refine hq _ (by repeat (first | exact hI | refine mKI.u27 ?_ _ | refine mKI.u28 ?_ _ | refine mKI.u29 ?_ _ | refine mKI.u30 ?_ _)) ?_ ?_
          · simp [px_ur]; grind
          · unfold mTk; simp [px_ur]; grind
      · refine px_b rfl q_X12_next_39 hg rfl trivial ?_
        exact px_go (ih (a + 1) (by grind) (by grind) (by grind) _ (by repeat (first | exact hI | refine mKI.u27 ?_ _ | refine mKI.u28 ?_ _ | refine mKI.u29 ?_ _ | refine mKI.u30 ?_ _)) (by simp [px_ur]; grind)) ⟨rfl, trivial⟩

set_option maxRecDepth 100000 in
theorem k_next {n : Nat} {I : px_I} {L : px_L} {R : px_R} (hg : px_G n R) (h : 0 ≤ I 103 27 ∧ I 103 27 ≤ I 103 26 ∧ I 103 26 ≤ 400) : px_KV M_X12_next [.ref 103] n I L R (fun I2 L2 => L2 = L ∧ mKI I I2 ∧ I 103 27 ≤ I2 103 28 ∧ mTk I2) := by
  refine px_of (plainFor_of_name np_RX12) (fun _ _ _ => trivial) rfl ?_
  exact l_next0 hg (I 103 26) ⟨rfl, h.2.2⟩ h.1 (fun I2 h1 h2 h3 => ⟨rfl, rfl, rfl, rfl, h1, h2, h3⟩) (I 103 27) h.2.1 (Int32.le_refl _) I (fun _ _ _ => rfl) rfl

theorem q_X12_isSign_0 : px_bk 12 2 cX12_isSign 0 [(.aload_n 0, (0, 0, 0, 0, 0), 0, 0), (.getfield 300, (12, 29, 0, 0, 0), 0, 0), (.iconst 4, (0, 0, 0, 0, 0), 4, 0)] = some 5 ∧ px_t2 cX12_isSign 5 .ne 20 = true := by decide +kernel
theorem q_X12_isSign_20 : px_bk 12 2 cX12_isSign 20 [(.iconst 0, (0, 0, 0, 0, 0), 0, 0)] = some 21 ∧ px_tr cX12_isSign 21 .ireturn = true := by decide +kernel
theorem q_X12_isSign_8 : px_bk 12 2 cX12_isSign 8 [(.aload_n 0, (0, 0, 0, 0, 0), 0, 0), (.getfield 310, (12, 30, 0, 0, 0), 0, 0), (.iload_n 1, (0, 0, 0, 0, 0), 0, 0)] = some 13 ∧ px_t2 cX12_isSign 13 .ne 20 = true := by decide +kernel
theorem q_X12_isSign_16 : px_bk 12 2 cX12_isSign 16 [(.iconst 1, (0, 0, 0, 0, 0), 1, 0), (.goto 4, (0, 0, 0, 0, 0), 0, 0)] = some 21 ∧ px_tr cX12_isSign 21 .ireturn = true := by decide +kernel
set_option maxRecDepth 100000 in
theorem k_isSign {n : Nat} {I : px_I} {L : px_L} {R : px_R} (hg : px_G n R) (s : Int32) : px_KP M_X12_isSign [.ref 103, .int s] n I L R (fun r => (r = 1 ∧ (I 103 29 = 4 ∧ I 103 30 = s)) ∨ (r = 0 ∧ ¬ (I 103 29 = 4 ∧ I 103 30 = s))) := by
  refine px_of (plainFor_of_name np_RX12) (fun _ _ _ => trivial) rfl ?_
  refine px_ine rfl q_X12_isSign_0 hg rfl trivial (fun c5 => ?_) (fun c5 => ?_)
  · refine px_rzP rfl q_X12_isSign_20 rfl rfl rfl hg rfl trivial ⟨⟨rfl, rfl, rfl, rfl⟩, (by first | exact Or.inl rfl | exact Or.inr rfl | grind), ?_⟩
    grind
  · refine px_ine rfl q_X12_isSign_8 hg rfl trivial (fun c13 => ?_) (fun c13 => ?_)
    · refine px_rzP rfl q_X12_isSign_20 rfl rfl rfl hg rfl trivial ⟨⟨rfl, rfl, rfl, rfl⟩, (by first | exact Or.inl rfl | exact Or.inr rfl | grind), ?_⟩
      grind
    · refine px_rzP rfl q_X12_isSign_16 rfl rfl rfl hg rfl trivial ⟨⟨rfl, rfl, rfl, rfl⟩, (by first | exact Or.inl rfl | exact Or.inr rfl | grind), ?_⟩
      grind

theorem q_X12_errs_0 : px_bk 12 2 cX12_errs 0 [(.aload_n 0, (0, 0, 0, 0, 0), 0, 0), (.getfield 322, (12, 31, 0, 0, 0), 0, 0)] = some 4 ∧ px_t1 cX12_errs 4 .ne 20 = true := by decide +kernel
theorem q_X12_errs_20 : px_bk 12 2 cX12_errs 20 [] = some 20 ∧ px_tr cX12_errs 20 .return_ = true := by decide +kernel
theorem q_X12_errs_7 : px_bk 12 2 cX12_errs 7 [(.aload_n 0, (0, 0, 0, 0, 0), 0, 0), (.iload_n 1, (0, 0, 0, 0, 0), 0, 0), (.putfield 322, (12, 31, 0, 0, 0), 0, 0), (.aload_n 0, (0, 0, 0, 0, 0), 0, 0), (.aload_n 0, (0, 0, 0, 0, 0), 0, 0), (.getfield 297, (12, 28, 0, 0, 0), 0, 0), (.putfield 325, (12, 32, 0, 0, 0), 0, 0)] = some 20 ∧ px_tr cX12_errs 20 .return_ = true := by decide +kernel
set_option maxRecDepth 100000 in
theorem k_errs {n : Nat} {I : px_I} {L : px_L} {R : px_R} (hg : px_G n R) (f : Int32) : px_KV M_X12_errs [.ref 103, .int f] n I L R (fun I2 L2 => L2 = L ∧ I2 = if I 103 31 = 0 then px_u (px_u I 103 31 f) 103 32 (I 103 28) else I) := by
  refine px_of (plainFor_of_name np_RX12) (fun _ _ _ => trivial) rfl ?_
  refine px_ne rfl q_X12_errs_0 hg rfl trivial (fun c4 => ?_) (fun c4 => ?_)
  · refine px_rvW rfl q_X12_errs_20 rfl rfl rfl hg rfl trivial ⟨⟨rfl, rfl⟩, ?_⟩
    grind
  · refine px_rvW rfl q_X12_errs_7 rfl rfl rfl hg rfl trivial ⟨⟨rfl, rfl⟩, ?_⟩
    grind

theorem q_X12_emits_0 : px_bk 12 3 cX12_emits 0 [(.aload_n 0, (0, 0, 0, 0, 0), 0, 0), (.getfield 75, (12, 36, 3, 122, 0), 0, 0), (.aload_n 0, (0, 0, 0, 0, 0), 0, 0), (.getfield 328, (12, 35, 0, 0, 0), 0, 0), (.iload_n 1, (0, 0, 0, 0, 0), 0, 0), (.iastore, (0, 0, 0, 0, 0), 0, 0), (.aload_n 0, (0, 0, 0, 0, 0), 0, 0), (.getfield 78, (12, 37, 3, 123, 0), 0, 0), (.aload_n 0, (0, 0, 0, 0, 0), 0, 0), (.getfield 328, (12, 35, 0, 0, 0), 0, 0), (.iload_n 2, (0, 0, 0, 0, 0), 0, 0), (.iastore, (0, 0, 0, 0, 0), 0, 0), (.aload_n 0, (0, 0, 0, 0, 0), 0, 0), (.dup, (0, 0, 0, 0, 0), 0, 0), (.getfield 328, (12, 35, 0, 0, 0), 0, 0), (.iconst 1, (0, 0, 0, 0, 0), 1, 0), (.iadd, (0, 0, 0, 0, 0), 0, 0), (.putfield 328, (12, 35, 0, 0, 0), 0, 0), (.aload_n 0, (0, 0, 0, 0, 0), 0, 0), (.getfield 328, (12, 35, 0, 0, 0), 0, 0), (.iconst 1, (0, 0, 0, 0, 0), 1, 0), (.isub, (0, 0, 0, 0, 0), 0, 0)] = some 36 ∧ px_tr cX12_emits 36 .ireturn = true := by decide +kernel
set_option maxRecDepth 100000 in
theorem k_emits {n : Nat} {I : px_I} {L : px_L} {R : px_R} (hg : px_G n R) (o v : Int32) (hN : 0 ≤ I 103 35 ∧ I 103 35 < 220) : px_KS M_X12_emits [.ref 103, .int o, .int v] n I L R (fun r I2 L2 => L2 = L ∧ r = I 103 35 ∧ I2 = px_u (px_u (px_u I 122 (I 103 35).toNatClampNeg o) 123 (I 103 35).toNatClampNeg v) 103 35 (I 103 35 + 1)) := by
  refine px_of (plainFor_of_name np_RX12) (fun _ _ _ => trivial) rfl ?_
  refine px_riS rfl q_X12_emits_0 rfl rfl rfl hg rfl ⟨⟨trivial, (by first | decide | (refine ⟨?_, ?_⟩ <;> grind) | grind)⟩, (by first | decide | (refine ⟨?_, ?_⟩ <;> grind) | grind)⟩ ⟨⟨rfl, rfl⟩, ?_⟩
  exact ⟨rfl, by grind, rfl⟩

theorem mErr {I I2 : px_I} {f : Int32} (h : I2 = if I 103 31 = 0 then px_u (px_u I 103 31 f) 103 32 (I 103 28) else I) (hw : I 103 31 = 0) (hf : 1 ≤ f) : mPF I I2 ∧ 1 ≤ I2 103 31 := by
  rw [if_pos hw] at h
  subst h
  exact ⟨(mPF.rfl'.u _ _).u _ _, by simp [px_ur]; exact hf⟩
/-- what a piece of reading leaves: a fault, or a text read further -/
def mPo (I I2 : px_I) : Prop := mPF I I2 ∧ (1 ≤ I2 103 31 ∨ (mPI I2 0 ∧ I 103 28 < I2 103 28))
theorem mPI.at {I : px_I} {c : Int32} (h : mPI I c) : 0 ≤ I 103 27 ∧ I 103 27 ≤ I 103 26 ∧ I 103 26 ≤ 400 := by
  obtain ⟨⟨⟨a1, a2, a3, a4⟩, -⟩, -⟩ := h
  exact ⟨Int32.le_trans a1 a2, a3, a4⟩
theorem mPI.N {I : px_I} {c : Int32} (h : mPI I c) (hc : 0 ≤ c ∧ c ≤ 1) : (0 ≤ I 103 35 ∧ I 103 35 ≤ 200) ∧ (0 ≤ I 103 39 ∧ I 103 39 ≤ 8) := by
  obtain ⟨⟨⟨a1, a2, a3, a4⟩, -⟩, -, b1, b2, X, b3⟩ := h
  obtain ⟨c1, c2, -⟩ := b3
  grind
theorem mSI.emit {I : px_I} {X : Int32 → Prop} {fe : Int32} (h : mSI I X fe) (o v : Int32) (hN : fe = I 103 35) : mSI (px_u (px_u (px_u I 122 (I 103 35).toNatClampNeg o) 123 (I 103 35).toNatClampNeg v) 103 35 (I 103 35 + 1)) X fe := by
  have h0 : 0 ≤ I 103 35 := by rw [← hN]; exact h.2.1.1
  have h2 := mSt.emit (o2 := fun j => px_u (px_u (px_u I 122 (I 103 35).toNatClampNeg o) 123 (I 103 35).toNatClampNeg v) 103 35 (I 103 35 + 1) 122 j.toNatClampNeg) (v2 := fun j => px_u (px_u (px_u I 122 (I 103 35).toNatClampNeg o) 123 (I 103 35).toNatClampNeg v) 103 35 (I 103 35 + 1) 123 j.toNatClampNeg) h (fun j h1 h2 => by
    refine ⟨?_, ?_⟩
    · show px_u (px_u (px_u I 122 _ _) 123 _ _) 103 35 _ 122 _ = _
      rw [px_u_ne (by decide), px_u_ne (by decide), px_uJ h1 h0 (by grind)]
    · show px_u (px_u (px_u I 122 _ _) 123 _ _) 103 35 _ 123 _ = _
      rw [px_u_ne (by decide), px_uJ h1 h0 (by grind), px_u_ne (by decide)])
  unfold mSI
  rw [show px_u (px_u (px_u I 122 (I 103 35).toNatClampNeg o) 123 (I 103 35).toNatClampNeg v) 103 35 (I 103 35 + 1) 124 = I 124 by rw [px_u_ne (by decide), px_u_ne (by decide), px_u_ne (by decide)], show px_u (px_u (px_u I 122 (I 103 35).toNatClampNeg o) 123 (I 103 35).toNatClampNeg v) 103 35 (I 103 35 + 1) 125 = I 125 by rw [px_u_ne (by decide), px_u_ne (by decide), px_u_ne (by decide)], show px_u (px_u (px_u I 122 (I 103 35).toNatClampNeg o) 123 (I 103 35).toNatClampNeg v) 103 35 (I 103 35 + 1) 126 = I 126 by rw [px_u_ne (by decide), px_u_ne (by decide), px_u_ne (by decide)], show px_u (px_u (px_u I 122 (I 103 35).toNatClampNeg o) 123 (I 103 35).toNatClampNeg v) 103 35 (I 103 35 + 1) 103 39 = I 103 39 by simp [px_ur], show px_u (px_u (px_u I 122 (I 103 35).toNatClampNeg o) 123 (I 103 35).toNatClampNeg v) 103 35 (I 103 35 + 1) 103 71 = I 103 71 by simp [px_ur]]
  exact h2
theorem mEm122 {I : px_I} {o v : Int32} : px_u (px_u (px_u I 122 (I 103 35).toNatClampNeg o) 123 (I 103 35).toNatClampNeg v) 103 35 (I 103 35 + 1) 122 (I 103 35).toNatClampNeg = o := by rw [px_u_ne (by decide), px_u_ne (by decide), px_u_at]
theorem mEm123 {I : px_I} {o v : Int32} : px_u (px_u (px_u I 122 (I 103 35).toNatClampNeg o) 123 (I 103 35).toNatClampNeg v) 103 35 (I 103 35 + 1) 123 (I 103 35).toNatClampNeg = v := by rw [px_u_ne (by decide), px_u_at]
theorem mSI.stand {I : px_I} {X : Int32 → Prop} {fe : Int32} (h : mSI I X fe) (k : Nat) (v : Int32) : mSI (px_u I 127 k v) X fe := h.same (px_u_ne (by decide)) (px_u_ne (by decide)) (px_u_ne (by decide)) (px_u_ne (by decide)) (px_u_ne (by decide)) (by rw [px_u_ne (by decide)]) (by rw [px_u_ne (by decide)])
theorem mSI.fld {I : px_I} {X : Int32 → Prop} {fe : Int32} (h : mSI I X fe) (k : Nat) (v : Int32) (hk : k ≠ 39 ∧ k ≠ 71 := by decide) : mSI (px_u I 103 k v) X fe := h.same (px_u_ne (by decide)) (px_u_ne (by decide)) (px_u_ne (by decide)) (px_u_ne (by decide)) (px_u_ne (by decide)) (px_u_at_ne (Ne.symm hk.1)) (px_u_at_ne (Ne.symm hk.2))

theorem q_X12_stepIsOver_0 : px_bk 12 1 cX12_stepIsOver 0 [(.aload_n 0, (0, 0, 0, 0, 0), 0, 0), (.bipush 59, (0, 0, 0, 0, 0), 59, 0)] = some 3 ∧ px_tv cX12_stepIsOver 3 331 = true := by decide +kernel
theorem q_X12_stepIsOver_6 : px_bk 12 1 cX12_stepIsOver 6 [] = some 6 ∧ px_t1 cX12_stepIsOver 6 .ne 15 = true := by decide +kernel
theorem q_X12_stepIsOver_15 : px_bk 12 1 cX12_stepIsOver 15 [(.aload_n 0, (0, 0, 0, 0, 0), 0, 0), (.dup, (0, 0, 0, 0, 0), 0, 0), (.getfield 354, (12, 72, 0, 0, 0), 0, 0), (.aload_n 0, (0, 0, 0, 0, 0), 0, 0), (.getfield 337, (12, 39, 0, 0, 0), 0, 0)] = some 24 ∧ px_t1 cX12_stepIsOver 24 .ne 31 = true := by decide +kernel
theorem q_X12_stepIsOver_31 : px_bk 12 1 cX12_stepIsOver 31 [(.iconst 0, (0, 0, 0, 0, 0), 0, 0), (.iadd, (0, 0, 0, 0, 0), 0, 0), (.putfield 354, (12, 72, 0, 0, 0), 0, 0), (.aload_n 0, (0, 0, 0, 0, 0), 0, 0)] = some 37 ∧ px_tv cX12_stepIsOver 37 340 = true := by decide +kernel
theorem q_X12_stepIsOver_40 : px_bk 12 1 cX12_stepIsOver 40 [] = some 40 ∧ px_tr cX12_stepIsOver 40 .return_ = true := by decide +kernel
theorem q_X12_stepIsOver_27 : px_bk 12 1 cX12_stepIsOver 27 [(.iconst 1, (0, 0, 0, 0, 0), 1, 0), (.goto 4, (0, 0, 0, 0, 0), 0, 0), (.iadd, (0, 0, 0, 0, 0), 0, 0), (.putfield 354, (12, 72, 0, 0, 0), 0, 0), (.aload_n 0, (0, 0, 0, 0, 0), 0, 0)] = some 37 ∧ px_tv cX12_stepIsOver 37 340 = true := by decide +kernel
theorem q_X12_stepIsOver_9 : px_bk 12 1 cX12_stepIsOver 9 [(.aload_n 0, (0, 0, 0, 0, 0), 0, 0), (.iconst 1, (0, 0, 0, 0, 0), 1, 0)] = some 11 ∧ px_tv cX12_stepIsOver 11 334 = true := by decide +kernel
theorem q_X12_stepIsOver_14 : px_bk 12 1 cX12_stepIsOver 14 [] = some 14 ∧ px_tr cX12_stepIsOver 14 .return_ = true := by decide +kernel
set_option maxRecDepth 100000 in
theorem k_stepIsOver {n : Nat} {I : px_I} {L : px_L} {R : px_R} (hg : px_G n R) (h : mPI I 1) : px_KV M_X12_stepIsOver [.ref 103] n I L R (fun I2 L2 => L2 = L ∧ mPF I I2 ∧ (1 ≤ I2 103 31 ∨ (mPI I2 0 ∧ I 103 28 < I2 103 28))) := by
  refine px_of (plainFor_of_name np_RX12) (fun _ _ _ => trivial) rfl ?_
  have hat := h.at
  have hat2 : 0 ≤ (px_u I 103 72 (I 103 72 + 1)) 103 27 ∧ (px_u I 103 72 (I 103 72 + 1)) 103 27 ≤ (px_u I 103 72 (I 103 72 + 1)) 103 26 ∧ (px_u I 103 72 (I 103 72 + 1)) 103 26 ≤ 400 := by simpa [px_ur] using hat
  have hat3 : 0 ≤ (px_u I 103 72 (I 103 72 + 0)) 103 27 ∧ (px_u I 103 72 (I 103 72 + 0)) 103 27 ≤ (px_u I 103 72 (I 103 72 + 0)) 103 26 ∧ (px_u I 103 72 (I 103 72 + 0)) 103 26 ≤ 400 := by simpa [px_ur] using hat
  refine px_cVP (ci := 12) rfl q_X12_stepIsOver_0 hg rfl trivial lk_12_331 nm_X12_isSign (k_isSign hg _) rfl rfl (px_lit hg rfl) rfl rfl rfl ⟨rfl, rfl⟩ ?_
  intro x3 h3
  refine px_ne rfl q_X12_stepIsOver_6 hg rfl trivial (fun c6 => ?_) (fun c6 => ?_)
  · replace h3 := px_bt h3 c6
    refine px_ne rfl q_X12_stepIsOver_15 hg rfl trivial (fun c24 => ?_) (fun c24 => ?_)
    · refine px_cVW (ci := 12) rfl q_X12_stepIsOver_31 hg rfl trivial lk_12_340 nm_X12_next (k_next hg (by assumption)) rfl rfl (px_lit hg rfl) rfl rfl rfl ⟨rfl, rfl⟩ ?_
      intro I37 L37 h37
      refine px_rvW rfl q_X12_stepIsOver_40 rfl rfl rfl hg rfl trivial ⟨⟨rfl, rfl⟩, ?_⟩
      obtain ⟨h37a, h37b, h37c, h37d⟩ := h37
      obtain ⟨k1, k2, k3, k4, X, k5⟩ := h
      refine ⟨h37a, (mPF.rfl'.u 72 _).trans h37b.P, Or.inr ⟨⟨h37d, ?_, ?_, ?_, X, ?_⟩, ?_⟩⟩
      · rw [h37b.f 31 (by decide)]; simpa [px_ur] using k2
      · rw [h37b.f 35 (by decide)]; simpa [px_ur] using k3
      · rw [h37b.f 35 (by decide), h37b.f 39 (by decide)]
        simp [px_ur] at h37c ⊢
        unfold mTk at k1
        grind
      · rw [h37b.f 35 (by decide)]
        exact h37b.S (by simp only [px_ur]; exact k5.fld _ _)
      · simp [px_ur] at h37c
        unfold mTk at k1
        grind
    · refine px_cVW (ci := 12) rfl q_X12_stepIsOver_27 hg rfl trivial lk_12_340 nm_X12_next (k_next hg (by assumption)) rfl rfl (px_lit hg rfl) rfl rfl rfl ⟨rfl, rfl⟩ ?_
      intro I37 L37 h37
      refine px_rvW rfl q_X12_stepIsOver_40 rfl rfl rfl hg rfl trivial ⟨⟨rfl, rfl⟩, ?_⟩
      obtain ⟨h37a, h37b, h37c, h37d⟩ := h37
      obtain ⟨k1, k2, k3, k4, X, k5⟩ := h
      refine ⟨h37a, (mPF.rfl'.u 72 _).trans h37b.P, Or.inr ⟨⟨h37d, ?_, ?_, ?_, X, ?_⟩, ?_⟩⟩
      · rw [h37b.f 31 (by decide)]; simpa [px_ur] using k2
      · rw [h37b.f 35 (by decide)]; simpa [px_ur] using k3
      · rw [h37b.f 35 (by decide), h37b.f 39 (by decide)]
        simp [px_ur] at h37c ⊢
        unfold mTk at k1
        grind
      · rw [h37b.f 35 (by decide)]
        exact h37b.S (by simp only [px_ur]; exact k5.fld _ _)
      · simp [px_ur] at h37c
        unfold mTk at k1
        grind
  · replace h3 := px_bf h3 c6
    refine px_cVW (ci := 12) rfl q_X12_stepIsOver_9 hg rfl trivial lk_12_334 nm_X12_errs (k_errs hg _) rfl rfl (px_lit hg rfl) rfl rfl rfl ⟨rfl, rfl⟩ ?_
    intro I11 L11 h11
    refine px_rvW rfl q_X12_stepIsOver_14 rfl rfl rfl hg rfl trivial ⟨⟨rfl, rfl⟩, ?_⟩
    obtain ⟨e1, e2⟩ := mErr h11.2 h.2.1 (by decide)
    exact ⟨h11.1, e1, Or.inl e2⟩

/-! an order is written -/
def mE (I : px_I) (o v : Int32) : px_I := px_u (px_u (px_u I 122 (I 103 35).toNatClampNeg o) 123 (I 103 35).toNatClampNeg v) 103 35 (I 103 35 + 1)
theorem mE_f {I I2 : px_I} {o v : Int32} (h : I2 = mE I o v) {j : Nat} (hj : j ≠ 35) : I2 103 j = I 103 j := by
  subst h
  unfold mE
  rw [px_u_at_ne hj, px_u_ne (by decide), px_u_ne (by decide)]
theorem mE_35 {I I2 : px_I} {o v : Int32} (h : I2 = mE I o v) : I2 103 35 = I 103 35 + 1 := by
  subst h
  exact px_u_at
theorem mE_b {I I2 : px_I} {o v : Int32} (h : I2 = mE I o v) {b : Nat} (h1 : b ≠ 103) (h2 : b ≠ 122) (h3 : b ≠ 123) : I2 b = I b := by
  subst h
  unfold mE
  rw [px_u_ne h1, px_u_ne h3, px_u_ne h2]
theorem mE_122 {I I2 : px_I} {o v : Int32} (h : I2 = mE I o v) : I2 122 (I 103 35).toNatClampNeg = o := by subst h; exact mEm122
theorem mE_123 {I I2 : px_I} {o v : Int32} (h : I2 = mE I o v) : I2 123 (I 103 35).toNatClampNeg = v := by subst h; exact mEm123
theorem mE_lo {I I2 : px_I} {o v : Int32} (h : I2 = mE I o v) (h0 : 0 ≤ I 103 35) {j : Int32} (hj : 0 ≤ j) (hn : j ≠ I 103 35) : I2 122 j.toNatClampNeg = I 122 j.toNatClampNeg ∧ I2 123 j.toNatClampNeg = I 123 j.toNatClampNeg := by
  subst h
  unfold mE
  refine ⟨?_, ?_⟩
  · rw [px_u_ne (by decide), px_u_ne (by decide), px_uJ hj h0 hn]
  · rw [px_u_ne (by decide), px_uJ hj h0 hn, px_u_ne (by decide)]
theorem mE_P {I I2 : px_I} {o v : Int32} (h : I2 = mE I o v) : mPF I I2 := by
  subst h
  exact ((mPF.rfl'.a 122 _ _).a 123 _ _).u 35 _
theorem mSI.em {I I2 : px_I} {X : Int32 → Prop} {fe o v : Int32} (h : mSI I X fe) (he : I2 = mE I o v) (hN : fe = I 103 35) : mSI I2 X fe := by
  subst he
  exact h.emit o v hN
theorem mSI.emS {I I2 : px_I} {X : Int32 → Prop} {o v : Int32} (h : mSI I X (I 103 35)) (he : I2 = mE I o v) (hN : I 103 35 < 210) (h1 : 1 ≤ o) (h6 : o ≤ 6) : ∃ X, mSI I2 X (I2 103 35) := by
  have h2 := h.em he rfl
  have e := mE_122 he
  rw [mE_35 he]
  exact ⟨_, mSt.stp h2 hN (by show 1 ≤ I2 122 _; rw [e]; exact h1) (by show I2 122 _ ≤ 6; rw [e]; exact h6)⟩
theorem mSI.emC {I I2 : px_I} {X : Int32 → Prop} {l : Int32} (h : mSI I X (I 103 35)) (he : I2 = mE I 7 (I 124 l.toNatClampNeg)) (hN : I 103 35 < 210) (hl : 0 ≤ l ∧ l ≤ 7) (hd : 0 ≤ I 124 l.toNatClampNeg) : ∃ X, mSI I2 X (I2 103 35) := by
  have h2 := h.em he rfl
  have f := mE_b (b := 124) he (by decide) (by decide) (by decide)
  rw [mE_35 he]
  exact ⟨_, mSt.cal h2 hN (mE_122 he) (by show I2 123 _ = I2 124 _; rw [mE_123 he, f]) hl (by show 0 ≤ I2 124 _; rw [f]; exact hd)⟩
theorem mPI.nx {J K : px_I} {c : Int32} (h1 : mKI J K) (h2 : mTk K) (h3 : J 103 31 = 0) (h4 : 0 ≤ J 103 35) (h5 : 2 * J 103 35 + J 103 39 ≤ K 103 28 + c) (h6 : ∃ X, mSI J X (J 103 35)) : mPI K c := by
  obtain ⟨X, h6⟩ := h6
  have e31 := h1.f 31 (by decide)
  have e35 := h1.f 35 (by decide)
  have e39 := h1.f 39 (by decide)
  exact ⟨h2, e31.trans h3, by rw [e35]; exact h4, by rw [e35, e39]; exact h5, X, by rw [e35]; exact h1.S h6⟩
theorem mSI.st {I : px_I} (h : ∃ X, mSI I X (I 103 35)) (k : Nat) (v : Int32) : ∃ X, mSI (px_u I 127 k v) X (px_u I 127 k v 103 35) := by
  obtain ⟨X, h⟩ := h
  exact ⟨X, by rw [px_u_ne (by decide)]; exact h.stand k v⟩
theorem mSI.opn {I J : px_I} {X : Int32 → Prop} {wh dv : Int32} (h : mSI I X wh) (hN : wh < 210) (h8 : I 103 39 < 8) (hd : dv = 1 → I 103 39 = 0 ∧ I 122 wh.toNatClampNeg = 23 ∧ (0 ≤ I 103 71 ∧ I 103 71 ≤ 7) ∧ I 124 (I 103 71).toNatClampNeg < 0) (k : Nat) (st : Int32)
    (hJ : J = px_u (px_u (px_u (px_u I 125 (I 103 39).toNatClampNeg dv) 126 (I 103 39).toNatClampNeg wh) 103 39 (I 103 39 + 1)) 127 k st) : mSI J X (wh + 1) := by
  have hop := h.1.1
  have j122 : J 122 = I 122 := by subst hJ; funext j; simp [px_ur]
  have j123 : J 123 = I 123 := by subst hJ; funext j; simp [px_ur]
  have j124 : J 124 = I 124 := by subst hJ; funext j; simp [px_ur]
  have j39 : J 103 39 = I 103 39 + 1 := by subst hJ; simp [px_ur]
  have j71 : J 103 71 = I 103 71 := by subst hJ; simp [px_ur]
  have j125 : ∀ q : Int32, J 125 q.toNatClampNeg = px_u I 125 (I 103 39).toNatClampNeg dv 125 q.toNatClampNeg := by subst hJ; intro q; simp [px_ur]
  have j126 : ∀ q : Int32, J 126 q.toNatClampNeg = px_u I 126 (I 103 39).toNatClampNeg wh 126 q.toNatClampNeg := by subst hJ; intro q; simp [px_ur]
  have e := mSt.opn (oD2 := fun j => J 125 j.toNatClampNeg) (oA2 := fun j => J 126 j.toNatClampNeg) (lt2 := J 103 71) h hN h8 (fun q q1 q2 => ⟨by
    show J 125 _ = _
    rw [j125, px_uJ q1 hop (by grind)], by
    show J 126 _ = _
    rw [j126, px_uJ q1 hop (by grind)]⟩) (by show J 126 _ = _; rw [j126, px_u_at]) (by
      show J 125 _ = 1 → _
      rw [j125, px_u_at, j71]
      exact hd) (fun _ => j71)
  unfold mSI
  rw [j122, j123, j124, j39]
  exact e

theorem q_X12_opens_0 : px_bk 12 3 cX12_opens 0 [(.aload_n 0, (0, 0, 0, 0, 0), 0, 0), (.bipush 123, (0, 0, 0, 0, 0), 123, 0)] = some 3 ∧ px_tv cX12_opens 3 331 = true := by decide +kernel
theorem q_X12_opens_6 : px_bk 12 3 cX12_opens 6 [] = some 6 ∧ px_t1 cX12_opens 6 .ne 17 = true := by decide +kernel
theorem q_X12_opens_17 : px_bk 12 3 cX12_opens 17 [(.aload_n 0, (0, 0, 0, 0, 0), 0, 0), (.getfield 337, (12, 39, 0, 0, 0), 0, 0), (.bipush 8, (0, 0, 0, 0, 0), 8, 0)] = some 23 ∧ px_t2 cX12_opens 23 .ne 31 = true := by decide +kernel
theorem q_X12_opens_31 : px_bk 12 3 cX12_opens 31 [(.aload_n 0, (0, 0, 0, 0, 0), 0, 0), (.getfield 322, (12, 31, 0, 0, 0), 0, 0)] = some 35 ∧ px_t1 cX12_opens 35 .le 39 = true := by decide +kernel
theorem q_X12_opens_39 : px_bk 12 3 cX12_opens 39 [(.aload_n 0, (0, 0, 0, 0, 0), 0, 0), (.getfield 84, (12, 40, 3, 125, 0), 0, 0), (.aload_n 0, (0, 0, 0, 0, 0), 0, 0), (.getfield 337, (12, 39, 0, 0, 0), 0, 0), (.iload_n 1, (0, 0, 0, 0, 0), 0, 0)] = some 48 ∧ px_t1 cX12_opens 48 .eq 55 = true := by decide +kernel
theorem q_X12_opens_55 : px_bk 12 3 cX12_opens 55 [(.iconst 0, (0, 0, 0, 0, 0), 0, 0), (.iastore, (0, 0, 0, 0, 0), 0, 0), (.aload_n 0, (0, 0, 0, 0, 0), 0, 0), (.getfield 87, (12, 41, 3, 126, 0), 0, 0), (.aload_n 0, (0, 0, 0, 0, 0), 0, 0), (.getfield 337, (12, 39, 0, 0, 0), 0, 0), (.iload_n 2, (0, 0, 0, 0, 0), 0, 0), (.iastore, (0, 0, 0, 0, 0), 0, 0), (.aload_n 0, (0, 0, 0, 0, 0), 0, 0), (.dup, (0, 0, 0, 0, 0), 0, 0), (.getfield 337, (12, 39, 0, 0, 0), 0, 0), (.iconst 1, (0, 0, 0, 0, 0), 1, 0), (.iadd, (0, 0, 0, 0, 0), 0, 0), (.putfield 337, (12, 39, 0, 0, 0), 0, 0), (.aload_n 0, (0, 0, 0, 0, 0), 0, 0), (.getfield 90, (12, 42, 3, 127, 0), 0, 0), (.aload_n 0, (0, 0, 0, 0, 0), 0, 0), (.getfield 337, (12, 39, 0, 0, 0), 0, 0), (.iconst 0, (0, 0, 0, 0, 0), 0, 0), (.bastore, (0, 0, 0, 0, 0), 0, 0), (.aload_n 0, (0, 0, 0, 0, 0), 0, 0)] = some 88 ∧ px_tv cX12_opens 88 340 = true := by decide +kernel
theorem q_X12_opens_91 : px_bk 12 3 cX12_opens 91 [] = some 91 ∧ px_tr cX12_opens 91 .return_ = true := by decide +kernel
theorem q_X12_opens_51 : px_bk 12 3 cX12_opens 51 [(.iconst 1, (0, 0, 0, 0, 0), 1, 0), (.goto 4, (0, 0, 0, 0, 0), 0, 0), (.iastore, (0, 0, 0, 0, 0), 0, 0), (.aload_n 0, (0, 0, 0, 0, 0), 0, 0), (.getfield 87, (12, 41, 3, 126, 0), 0, 0), (.aload_n 0, (0, 0, 0, 0, 0), 0, 0), (.getfield 337, (12, 39, 0, 0, 0), 0, 0), (.iload_n 2, (0, 0, 0, 0, 0), 0, 0), (.iastore, (0, 0, 0, 0, 0), 0, 0), (.aload_n 0, (0, 0, 0, 0, 0), 0, 0), (.dup, (0, 0, 0, 0, 0), 0, 0), (.getfield 337, (12, 39, 0, 0, 0), 0, 0), (.iconst 1, (0, 0, 0, 0, 0), 1, 0), (.iadd, (0, 0, 0, 0, 0), 0, 0), (.putfield 337, (12, 39, 0, 0, 0), 0, 0), (.aload_n 0, (0, 0, 0, 0, 0), 0, 0), (.getfield 90, (12, 42, 3, 127, 0), 0, 0), (.aload_n 0, (0, 0, 0, 0, 0), 0, 0), (.getfield 337, (12, 39, 0, 0, 0), 0, 0), (.iconst 0, (0, 0, 0, 0, 0), 0, 0), (.bastore, (0, 0, 0, 0, 0), 0, 0), (.aload_n 0, (0, 0, 0, 0, 0), 0, 0)] = some 88 ∧ px_tv cX12_opens 88 340 = true := by decide +kernel
theorem q_X12_opens_26 : px_bk 12 3 cX12_opens 26 [(.aload_n 0, (0, 0, 0, 0, 0), 0, 0), (.iconst 3, (0, 0, 0, 0, 0), 3, 0)] = some 28 ∧ px_tv cX12_opens 28 334 = true := by decide +kernel
theorem q_X12_opens_38 : px_bk 12 3 cX12_opens 38 [] = some 38 ∧ px_tr cX12_opens 38 .return_ = true := by decide +kernel
theorem q_X12_opens_9 : px_bk 12 3 cX12_opens 9 [(.aload_n 0, (0, 0, 0, 0, 0), 0, 0), (.iconst 1, (0, 0, 0, 0, 0), 1, 0)] = some 11 ∧ px_tv cX12_opens 11 334 = true := by decide +kernel
theorem q_X12_opens_14 : px_bk 12 3 cX12_opens 14 [(.goto 17, (0, 0, 0, 0, 0), 0, 0), (.aload_n 0, (0, 0, 0, 0, 0), 0, 0), (.getfield 322, (12, 31, 0, 0, 0), 0, 0)] = some 35 ∧ px_t1 cX12_opens 35 .le 39 = true := by decide +kernel
set_option maxRecDepth 100000 in
theorem k_opens {n : Nat} {I : px_I} {L : px_L} {R : px_R} (hg : px_G n R) (d wh : Int32) (hk : mTk I) (h0 : I 103 31 = 0) (hN : wh + 1 = I 103 35 ∧ 0 ≤ wh) (hb : 2 * I 103 35 + I 103 39 ≤ I 103 28) (hs : ∃ X, mSI I X wh) (hd : ¬ d = 0 → I 103 39 = 0 ∧ I 122 wh.toNatClampNeg = 23 ∧ (0 ≤ I 103 71 ∧ I 103 71 ≤ 7) ∧ I 124 (I 103 71).toNatClampNeg < 0) : px_KV M_X12_opens [.ref 103, .int d, .int wh] n I L R (fun I2 L2 => L2 = L ∧ mPo I I2) := by
  refine px_of (plainFor_of_name np_RX12) (fun _ _ _ => trivial) rfl ?_
  have hat : 0 ≤ I 103 27 ∧ I 103 27 ≤ I 103 26 ∧ I 103 26 ≤ 400 := by unfold mTk at hk; grind
  obtain ⟨X, hs⟩ := hs
  have hop : 0 ≤ I 103 39 ∧ I 103 39 ≤ 8 := hs.1
  have hwb : 0 ≤ wh ∧ wh ≤ 210 := hs.2.1
  have hw2 : wh < 210 := by unfold mTk at hk; grind
  refine px_cVP (ci := 12) rfl q_X12_opens_0 hg rfl trivial lk_12_331 nm_X12_isSign (k_isSign hg _) rfl rfl (px_lit hg rfl) rfl rfl rfl ⟨rfl, rfl⟩ ?_
  intro x3 h3
  refine px_ne rfl q_X12_opens_6 hg rfl trivial (fun c6 => ?_) (fun c6 => ?_)
  · replace h3 := px_bt h3 c6
    refine px_ine rfl q_X12_opens_17 hg rfl trivial (fun c23 => ?_) (fun c23 => ?_)
    · refine px_le rfl q_X12_opens_31 hg rfl trivial (fun c35 => ?_) (fun c35 => ?_)
      · refine px_eq rfl q_X12_opens_39 hg rfl trivial (fun c48 => ?_) (fun c48 => ?_)
        · refine px_cVW (ci := 12) rfl q_X12_opens_55 hg rfl ⟨⟨⟨trivial, (by first | with_reducible assumption | (refine ⟨?_, ?_⟩ <;> grind))⟩, (by first | with_reducible assumption | (refine ⟨?_, ?_⟩ <;> grind))⟩, (by first | with_reducible assumption | (refine ⟨?_, ?_⟩ <;> grind))⟩ lk_12_340 nm_X12_next (k_next hg (by first | assumption | simpa [px_ur] using hat)) rfl rfl (px_lit hg rfl) rfl rfl rfl ⟨rfl, rfl⟩ ?_
          intro I88 L88 h88
          refine px_rvW rfl q_X12_opens_91 rfl rfl rfl hg rfl trivial ⟨⟨rfl, rfl⟩, ?_⟩
          obtain ⟨rfl, g1, g2, g3⟩ := h88
          have g4 : I 103 28 < I 103 27 := by unfold mTk at hk; grind
          have g5 : I 103 27 ≤ I88 103 28 := by simpa [px_ur] using g2
          have g6 := mSI.opn (J := px_u (px_u (px_u (px_u I 125 (I 103 39).toNatClampNeg 0) 126 (I 103 39).toNatClampNeg wh) 103 39 (I 103 39 + 1)) 127 (I 103 39 + 1).toNatClampNeg (0 &&& 1)) (dv := 0) hs hw2 (by grind) (by first | exact fun _ => hd (by assumption) | exact fun hz => absurd hz (by decide)) (I 103 39 + 1).toNatClampNeg (0 &&& 1) rfl
          refine ⟨rfl, ((((mPF.rfl'.a 125 _ _).a 126 _ _).u 39 _).a 127 _ _).trans g1.P, Or.inr ⟨mPI.nx g1 g3 (by simpa [px_ur] using h0) (by simp [px_ur]; grind) ?_ ⟨X, ?_⟩, by grind⟩⟩
          · simp [px_ur]; grind
          · have e : (px_u (px_u (px_u (px_u I 125 (I 103 39).toNatClampNeg 0) 126 (I 103 39).toNatClampNeg wh) 103 39 (I 103 39 + 1)) 127 (I 103 39 + 1).toNatClampNeg (0 &&& 1)) 103 35 = wh + 1 := by simp [px_ur]; exact hN.1.symm
            rw [e]
            exact g6
        · refine px_cVW (ci := 12) rfl q_X12_opens_51 hg rfl ⟨⟨⟨trivial, (by first | with_reducible assumption | (refine ⟨?_, ?_⟩ <;> grind))⟩, (by first | with_reducible assumption | (refine ⟨?_, ?_⟩ <;> grind))⟩, (by first | with_reducible assumption | (refine ⟨?_, ?_⟩ <;> grind))⟩ lk_12_340 nm_X12_next (k_next hg (by first | assumption | simpa [px_ur] using hat)) rfl rfl (px_lit hg rfl) rfl rfl rfl ⟨rfl, rfl⟩ ?_
          intro I88 L88 h88
          refine px_rvW rfl q_X12_opens_91 rfl rfl rfl hg rfl trivial ⟨⟨rfl, rfl⟩, ?_⟩
          obtain ⟨rfl, g1, g2, g3⟩ := h88
          have g4 : I 103 28 < I 103 27 := by unfold mTk at hk; grind
          have g5 : I 103 27 ≤ I88 103 28 := by simpa [px_ur] using g2
          have g6 := mSI.opn (J := px_u (px_u (px_u (px_u I 125 (I 103 39).toNatClampNeg 1) 126 (I 103 39).toNatClampNeg wh) 103 39 (I 103 39 + 1)) 127 (I 103 39 + 1).toNatClampNeg (0 &&& 1)) (dv := 1) hs hw2 (by grind) (by first | exact fun _ => hd (by assumption) | exact fun hz => absurd hz (by decide)) (I 103 39 + 1).toNatClampNeg (0 &&& 1) rfl
          refine ⟨rfl, ((((mPF.rfl'.a 125 _ _).a 126 _ _).u 39 _).a 127 _ _).trans g1.P, Or.inr ⟨mPI.nx g1 g3 (by simpa [px_ur] using h0) (by simp [px_ur]; grind) ?_ ⟨X, ?_⟩, by grind⟩⟩
          · simp [px_ur]; grind
          · have e : (px_u (px_u (px_u (px_u I 125 (I 103 39).toNatClampNeg 1) 126 (I 103 39).toNatClampNeg wh) 103 39 (I 103 39 + 1)) 127 (I 103 39 + 1).toNatClampNeg (0 &&& 1)) 103 35 = wh + 1 := by simp [px_ur]; exact hN.1.symm
            rw [e]
            exact g6
      · exact absurd c35 (by rw [h0]; decide)
    · refine px_cVW (ci := 12) rfl q_X12_opens_26 hg rfl trivial lk_12_334 nm_X12_errs (k_errs hg _) rfl rfl (px_lit hg rfl) rfl rfl rfl ⟨rfl, rfl⟩ ?_
      intro I28 L28 h28
      obtain ⟨rfl, h28⟩ := h28
      have e9 := mErr h28 h0 (by decide)
      refine px_le rfl q_X12_opens_31 hg rfl trivial (fun c35 => ?_) (fun c35 => ?_)
      · exact absurd c35 (by have := e9.2; grind)
      · refine px_rvW rfl q_X12_opens_38 rfl rfl rfl hg rfl trivial ⟨⟨rfl, rfl⟩, ?_⟩
        exact ⟨rfl, e9.1, Or.inl e9.2⟩
  · replace h3 := px_bf h3 c6
    refine px_cVW (ci := 12) rfl q_X12_opens_9 hg rfl trivial lk_12_334 nm_X12_errs (k_errs hg _) rfl rfl (px_lit hg rfl) rfl rfl rfl ⟨rfl, rfl⟩ ?_
    intro I11 L11 h11
    obtain ⟨rfl, h11⟩ := h11
    have e9 := mErr h11 h0 (by decide)
    refine px_le rfl q_X12_opens_14 hg rfl trivial (fun c35 => ?_) (fun c35 => ?_)
    · exact absurd c35 (by have := e9.2; grind)
    · refine px_rvW rfl q_X12_opens_38 rfl rfl rfl hg rfl trivial ⟨⟨rfl, rfl⟩, ?_⟩
      exact ⟨rfl, e9.1, Or.inl e9.2⟩

theorem q_X12_numbered_56 : px_bk 12 5 cX12_numbered 56 [(.aload_n 0, (0, 0, 0, 0, 0), 0, 0), (.getfield 300, (12, 29, 0, 0, 0), 0, 0), (.iconst 3, (0, 0, 0, 0, 0), 3, 0)] = some 61 ∧ px_t2 cX12_numbered 61 .eq 72 = true := by decide +kernel
theorem q_X12_numbered_72 : px_bk 12 5 cX12_numbered 72 [(.aload_n 0, (0, 0, 0, 0, 0), 0, 0), (.getfield 310, (12, 30, 0, 0, 0), 0, 0), (.i2l, (0, 0, 0, 0, 0), 0, 0), (.iload_n 2, (0, 0, 0, 0, 0), 0, 0), (.i2l, (0, 0, 0, 0, 0), 0, 0), (.iload_n 3, (0, 0, 0, 0, 0), 0, 0), (.i2l, (0, 0, 0, 0, 0), 0, 0)] = some 81 ∧ px_tS cX12_numbered 81 167 = true := by decide +kernel
theorem q_X12_numbered_84 : px_bk 12 5 cX12_numbered 84 [] = some 84 ∧ px_t1 cX12_numbered 84 .ne 92 = true := by decide +kernel
theorem q_X12_numbered_92 : px_bk 12 5 cX12_numbered 92 [(.aload_n 0, (0, 0, 0, 0, 0), 0, 0), (.getfield 322, (12, 31, 0, 0, 0), 0, 0)] = some 96 ∧ px_t1 cX12_numbered 96 .le 100 = true := by decide +kernel
theorem q_X12_numbered_100 : px_bk 12 5 cX12_numbered 100 [(.aload_n 0, (0, 0, 0, 0, 0), 0, 0), (.iload_n 1, (0, 0, 0, 0, 0), 0, 0), (.aload_n 0, (0, 0, 0, 0, 0), 0, 0), (.getfield 310, (12, 30, 0, 0, 0), 0, 0)] = some 106 ∧ px_tv cX12_numbered 106 346 = true := by decide +kernel
theorem q_X12_numbered_109 : px_bk 12 5 cX12_numbered 109 [(.istore 4, (0, 0, 0, 0, 0), 0, 0), (.aload_n 0, (0, 0, 0, 0, 0), 0, 0), (.getfield 90, (12, 42, 3, 127, 0), 0, 0), (.aload_n 0, (0, 0, 0, 0, 0), 0, 0), (.getfield 337, (12, 39, 0, 0, 0), 0, 0), (.aload_n 0, (0, 0, 0, 0, 0), 0, 0), (.getfield 90, (12, 42, 3, 127, 0), 0, 0), (.aload_n 0, (0, 0, 0, 0, 0), 0, 0), (.getfield 337, (12, 39, 0, 0, 0), 0, 0), (.baload, (0, 0, 0, 0, 0), 0, 0)] = some 128 ∧ px_t1 cX12_numbered 128 .ne 137 = true := by decide +kernel
theorem q_X12_numbered_137 : px_bk 12 5 cX12_numbered 137 [(.iconst 1, (0, 0, 0, 0, 0), 1, 0), (.goto 4, (0, 0, 0, 0, 0), 0, 0), (.bastore, (0, 0, 0, 0, 0), 0, 0), (.aload_n 0, (0, 0, 0, 0, 0), 0, 0)] = some 144 ∧ px_tv cX12_numbered 144 340 = true := by decide +kernel
theorem q_X12_numbered_147 : px_bk 12 5 cX12_numbered 147 [(.iload_n 1, (0, 0, 0, 0, 0), 0, 0), (.bipush 8, (0, 0, 0, 0, 0), 8, 0)] = some 150 ∧ px_t2 cX12_numbered 150 .ne 163 = true := by decide +kernel
theorem q_X12_numbered_163 : px_bk 12 5 cX12_numbered 163 [(.aload_n 0, (0, 0, 0, 0, 0), 0, 0)] = some 164 ∧ px_tv cX12_numbered 164 358 = true := by decide +kernel
theorem q_X12_numbered_167 : px_bk 12 5 cX12_numbered 167 [] = some 167 ∧ px_tr cX12_numbered 167 .return_ = true := by decide +kernel
theorem q_X12_numbered_153 : px_bk 12 5 cX12_numbered 153 [(.aload_n 0, (0, 0, 0, 0, 0), 0, 0), (.iconst 0, (0, 0, 0, 0, 0), 0, 0), (.iload 4, (0, 0, 0, 0, 0), 0, 0)] = some 157 ∧ px_tv cX12_numbered 157 350 = true := by decide +kernel
theorem q_X12_numbered_160 : px_bk 12 5 cX12_numbered 160 [(.goto 7, (0, 0, 0, 0, 0), 0, 0)] = some 167 ∧ px_tr cX12_numbered 167 .return_ = true := by decide +kernel
theorem q_X12_numbered_131 : px_bk 12 5 cX12_numbered 131 [(.iload_n 1, (0, 0, 0, 0, 0), 0, 0), (.bipush 8, (0, 0, 0, 0, 0), 8, 0)] = some 134 ∧ px_t2 cX12_numbered 134 .eq 141 = true := by decide +kernel
theorem q_X12_numbered_141 : px_bk 12 5 cX12_numbered 141 [(.iconst 0, (0, 0, 0, 0, 0), 0, 0), (.bastore, (0, 0, 0, 0, 0), 0, 0), (.aload_n 0, (0, 0, 0, 0, 0), 0, 0)] = some 144 ∧ px_tv cX12_numbered 144 340 = true := by decide +kernel
theorem q_X12_numbered_87 : px_bk 12 5 cX12_numbered 87 [(.aload_n 0, (0, 0, 0, 0, 0), 0, 0), (.iconst 2, (0, 0, 0, 0, 0), 2, 0)] = some 89 ∧ px_tv cX12_numbered 89 334 = true := by decide +kernel
theorem q_X12_numbered_99 : px_bk 12 5 cX12_numbered 99 [] = some 99 ∧ px_tr cX12_numbered 99 .return_ = true := by decide +kernel
theorem q_X12_numbered_64 : px_bk 12 5 cX12_numbered 64 [(.aload_n 0, (0, 0, 0, 0, 0), 0, 0), (.iconst 1, (0, 0, 0, 0, 0), 1, 0)] = some 66 ∧ px_tv cX12_numbered 66 334 = true := by decide +kernel
theorem q_X12_numbered_69 : px_bk 12 5 cX12_numbered 69 [(.goto 23, (0, 0, 0, 0, 0), 0, 0), (.aload_n 0, (0, 0, 0, 0, 0), 0, 0), (.getfield 322, (12, 31, 0, 0, 0), 0, 0)] = some 96 ∧ px_t1 cX12_numbered 96 .le 100 = true := by decide +kernel
set_option maxRecDepth 100000 in
theorem l_numbered56 {n : Nat} {R : px_R} (hg : px_G n R) {Q : px_Q} (w lo hi : Int32) {I I1 : px_I} {L : px_L} (h : mPI I 0) (hlt : I 103 28 < I 103 27) (h1 : mKI I I1) (h2 : I 103 27 ≤ I1 103 28) (h3 : mTk I1) (hw : w = 1 ∨ w = 2 ∨ w = 3 ∨ w = 4 ∨ w = 8) (hq : ∀ I2, mPo I I2 → Q none n I2 L R) : px M_X12_numbered 0 0 56 [(0, .ref 103), (1, .int w), (2, .int lo), (3, .int hi)] [] n I1 L R Q := by
  obtain ⟨hN, hop⟩ := h.N (by decide)
  have h0 : I1 103 31 = 0 := (h1.f 31 (by decide)).trans h.2.1
  have f35 := h1.f 35 (by decide)
  have f39 := h1.f 39 (by decide)
  have hN1 : 0 ≤ I1 103 35 ∧ I1 103 35 < 220 := by grind
  have hop1 : 0 ≤ I1 103 39 ∧ I1 103 39 < 10 := by grind
  have hat : 0 ≤ I1 103 27 ∧ I1 103 27 ≤ I1 103 26 ∧ I1 103 26 ≤ 400 := by unfold mTk at h3; grind
  obtain ⟨hk1, -, -, hk4, X, hk5⟩ := id h
  have hX : mSI I1 X (I1 103 35) := by rw [f35]; exact h1.S hk5
  have hbd : 2 * I1 103 35 + I1 103 39 + 1 ≤ I1 103 28 := by unfold mTk at h3; grind
  have h128 : I1 103 28 ≤ I1 103 27 := h3.1.2.1
  have g4 : I1 103 29 = 3 → I1 103 28 < I1 103 27 := fun hz => h3.2.1 (by rw [hz]; decide)
  refine px_ieq rfl q_X12_numbered_56 hg rfl trivial (fun c61 => ?_) (fun c61 => ?_)
  · refine px_cSP rfl q_X12_numbered_72 hg rfl trivial lk_12_167 nm_X12_in (k_inI hg _ _ _ rfl rfl) rfl rfl rfl ⟨rfl, rfl⟩ ?_
    intro x81 h81
    refine px_ne rfl q_X12_numbered_84 hg rfl trivial (fun c84 => ?_) (fun c84 => ?_)
    · replace h81 := px_bt h81 c84
      refine px_le rfl q_X12_numbered_92 hg rfl trivial (fun c96 => ?_) (fun c96 => ?_)
      · refine px_cVS (ci := 12) rfl q_X12_numbered_100 hg rfl trivial lk_12_346 nm_X12_emits (k_emits hg _ _ hN1) rfl rfl (px_lit hg rfl) rfl rfl rfl ⟨rfl, rfl⟩ ?_
        intro x106 I106 L106 h106
        obtain ⟨rfl, rfl, h106⟩ := h106
        have e39 := mE_f h106 (j := 39) (by decide)
        have e35 := mE_35 h106
        have e31 := mE_f h106 (j := 31) (by decide)
        have e28 := mE_f h106 (j := 28) (by decide)
        have e27 := mE_f h106 (j := 27) (by decide)
        have e26 := mE_f h106 (j := 26) (by decide)
        have eP := mE_P h106
        refine px_ne rfl q_X12_numbered_109 hg rfl ⟨trivial, (by first | with_reducible assumption | (rw [e39]; with_reducible assumption))⟩ (fun c128 => ?_) (fun c128 => ?_)
        · refine px_cVW (ci := 12) rfl q_X12_numbered_137 hg rfl ⟨trivial, (by first | with_reducible assumption | (rw [e39]; with_reducible assumption))⟩ lk_12_340 nm_X12_next (k_next hg (by simpa [px_ur, e26, e27] using hat)) rfl rfl (px_lit hg rfl) rfl rfl rfl ⟨rfl, rfl⟩ ?_
          intro I144 L144 h144
          obtain ⟨rfl, g1, g2, g3⟩ := h144
          have g2 : I1 103 27 ≤ I144 103 28 := by rw [px_u_ne (by decide), e27] at g2; exact g2
          have g9 := g3.b
          refine px_ine rfl q_X12_numbered_147 hg rfl trivial (fun c150 => ?_) (fun c150 => ?_)
          · refine px_cVW (ci := 12) rfl q_X12_numbered_163 hg rfl trivial lk_12_358 nm_X12_stepIsOver (k_stepIsOver hg (mPI.nx g1 g3 (by rw [px_u_ne (by decide), e31]; exact h0) (by rw [px_u_ne (by decide), e35]; grind) (by rw [px_u_ne (by decide), e35, e39]; grind) (mSI.st (hX.emS h106 (by grind) (by grind) (by grind)) _ _))) rfl rfl (px_lit hg rfl) rfl rfl rfl ⟨rfl, rfl⟩ ?_
            intro I164 L164 h164
            refine px_rv rfl q_X12_numbered_167 rfl rfl rfl hg rfl trivial ?_
            obtain ⟨rfl, g5, g6⟩ := h164
            exact hq _ ⟨(h1.P.trans (eP.trans ((mPF.rfl'.a 127 _ _).trans g1.P))).trans g5, g6.imp id (fun q => ⟨q.1, by have := q.2; grind⟩)⟩
          · refine px_cVW (ci := 12) rfl q_X12_numbered_153 hg rfl trivial lk_12_350 nm_X12_opens (k_opens hg 0 (I1 103 35) g3 (by rw [g1.f 31 (by decide), px_u_ne (by decide), e31]; exact h0) ⟨by rw [g1.f 35 (by decide), px_u_ne (by decide), e35], hN1.1⟩ (by rw [g1.f 35 (by decide), g1.f 39 (by decide), px_u_ne (by decide), e35, e39]; grind) ⟨X, g1.S ((hX.em h106 rfl).stand _ _)⟩ (fun hz => absurd rfl hz)) rfl rfl (px_lit hg rfl) rfl rfl rfl ⟨rfl, rfl⟩ ?_
            intro I157 L157 h157
            refine px_rv rfl q_X12_numbered_160 rfl rfl rfl hg rfl trivial ?_
            obtain ⟨rfl, g5, g6⟩ := h157
            exact hq _ ⟨(h1.P.trans (eP.trans ((mPF.rfl'.a 127 _ _).trans g1.P))).trans g5, g6.imp id (fun q => ⟨q.1, by have := q.2; grind⟩)⟩
        · refine px_ieq rfl q_X12_numbered_131 hg rfl trivial (fun c134 => ?_) (fun c134 => ?_)
          · refine px_cVW (ci := 12) rfl q_X12_numbered_141 hg rfl ⟨trivial, (by first | with_reducible assumption | (rw [e39]; with_reducible assumption))⟩ lk_12_340 nm_X12_next (k_next hg (by simpa [px_ur, e26, e27] using hat)) rfl rfl (px_lit hg rfl) rfl rfl rfl ⟨rfl, rfl⟩ ?_
            intro I144 L144 h144
            obtain ⟨rfl, g1, g2, g3⟩ := h144
            have g2 : I1 103 27 ≤ I144 103 28 := by rw [px_u_ne (by decide), e27] at g2; exact g2
            have g9 := g3.b
            refine px_ine rfl q_X12_numbered_147 hg rfl trivial (fun c150 => ?_) (fun c150 => ?_)
            · refine px_cVW (ci := 12) rfl q_X12_numbered_163 hg rfl trivial lk_12_358 nm_X12_stepIsOver (k_stepIsOver hg (mPI.nx g1 g3 (by rw [px_u_ne (by decide), e31]; exact h0) (by rw [px_u_ne (by decide), e35]; grind) (by rw [px_u_ne (by decide), e35, e39]; grind) (mSI.st (hX.emS h106 (by grind) (by grind) (by grind)) _ _))) rfl rfl (px_lit hg rfl) rfl rfl rfl ⟨rfl, rfl⟩ ?_
              intro I164 L164 h164
              refine px_rv rfl q_X12_numbered_167 rfl rfl rfl hg rfl trivial ?_
              obtain ⟨rfl, g5, g6⟩ := h164
              exact hq _ ⟨(h1.P.trans (eP.trans ((mPF.rfl'.a 127 _ _).trans g1.P))).trans g5, g6.imp id (fun q => ⟨q.1, by have := q.2; grind⟩)⟩
            · refine px_cVW (ci := 12) rfl q_X12_numbered_153 hg rfl trivial lk_12_350 nm_X12_opens (k_opens hg 0 (I1 103 35) g3 (by rw [g1.f 31 (by decide), px_u_ne (by decide), e31]; exact h0) ⟨by rw [g1.f 35 (by decide), px_u_ne (by decide), e35], hN1.1⟩ (by rw [g1.f 35 (by decide), g1.f 39 (by decide), px_u_ne (by decide), e35, e39]; grind) ⟨X, g1.S ((hX.em h106 rfl).stand _ _)⟩ (fun hz => absurd rfl hz)) rfl rfl (px_lit hg rfl) rfl rfl rfl ⟨rfl, rfl⟩ ?_
              intro I157 L157 h157
              refine px_rv rfl q_X12_numbered_160 rfl rfl rfl hg rfl trivial ?_
              obtain ⟨rfl, g5, g6⟩ := h157
              exact hq _ ⟨(h1.P.trans (eP.trans ((mPF.rfl'.a 127 _ _).trans g1.P))).trans g5, g6.imp id (fun q => ⟨q.1, by have := q.2; grind⟩)⟩
          · refine px_cVW (ci := 12) rfl q_X12_numbered_137 hg rfl ⟨trivial, (by first | with_reducible assumption | (rw [e39]; with_reducible assumption))⟩ lk_12_340 nm_X12_next (k_next hg (by simpa [px_ur, e26, e27] using hat)) rfl rfl (px_lit hg rfl) rfl rfl rfl ⟨rfl, rfl⟩ ?_
            intro I144 L144 h144
            obtain ⟨rfl, g1, g2, g3⟩ := h144
            have g2 : I1 103 27 ≤ I144 103 28 := by rw [px_u_ne (by decide), e27] at g2; exact g2
            have g9 := g3.b
            refine px_ine rfl q_X12_numbered_147 hg rfl trivial (fun c150 => ?_) (fun c150 => ?_)
            · refine px_cVW (ci := 12) rfl q_X12_numbered_163 hg rfl trivial lk_12_358 nm_X12_stepIsOver (k_stepIsOver hg (mPI.nx g1 g3 (by rw [px_u_ne (by decide), e31]; exact h0) (by rw [px_u_ne (by decide), e35]; grind) (by rw [px_u_ne (by decide), e35, e39]; grind) (mSI.st (hX.emS h106 (by grind) (by grind) (by grind)) _ _))) rfl rfl (px_lit hg rfl) rfl rfl rfl ⟨rfl, rfl⟩ ?_
              intro I164 L164 h164
              refine px_rv rfl q_X12_numbered_167 rfl rfl rfl hg rfl trivial ?_
              obtain ⟨rfl, g5, g6⟩ := h164
              exact hq _ ⟨(h1.P.trans (eP.trans ((mPF.rfl'.a 127 _ _).trans g1.P))).trans g5, g6.imp id (fun q => ⟨q.1, by have := q.2; grind⟩)⟩
            · refine px_cVW (ci := 12) rfl q_X12_numbered_153 hg rfl trivial lk_12_350 nm_X12_opens (k_opens hg 0 (I1 103 35) g3 (by rw [g1.f 31 (by decide), px_u_ne (by decide), e31]; exact h0) ⟨by rw [g1.f 35 (by decide), px_u_ne (by decide), e35], hN1.1⟩ (by rw [g1.f 35 (by decide), g1.f 39 (by decide), px_u_ne (by decide), e35, e39]; grind) ⟨X, g1.S ((hX.em h106 rfl).stand _ _)⟩ (fun hz => absurd rfl hz)) rfl rfl (px_lit hg rfl) rfl rfl rfl ⟨rfl, rfl⟩ ?_
              intro I157 L157 h157
              refine px_rv rfl q_X12_numbered_160 rfl rfl rfl hg rfl trivial ?_
              obtain ⟨rfl, g5, g6⟩ := h157
              exact hq _ ⟨(h1.P.trans (eP.trans ((mPF.rfl'.a 127 _ _).trans g1.P))).trans g5, g6.imp id (fun q => ⟨q.1, by have := q.2; grind⟩)⟩
      · exact absurd c96 (by rw [h0]; decide)
    · replace h81 := px_bf h81 c84
      refine px_cVW (ci := 12) rfl q_X12_numbered_87 hg rfl trivial lk_12_334 nm_X12_errs (k_errs hg _) rfl rfl (px_lit hg rfl) rfl rfl rfl ⟨rfl, rfl⟩ ?_
      intro I89 L89 h89
      obtain ⟨rfl, h89⟩ := h89
      have e9 := mErr h89 h0 (by decide)
      refine px_le rfl q_X12_numbered_92 hg rfl trivial (fun c96 => ?_) (fun c96 => ?_)
      · exact absurd c96 (by have := e9.2; grind)
      · refine px_rv rfl q_X12_numbered_99 rfl rfl rfl hg rfl trivial ?_
        exact hq _ ⟨h1.P.trans e9.1, Or.inl e9.2⟩
  · refine px_cVW (ci := 12) rfl q_X12_numbered_64 hg rfl trivial lk_12_334 nm_X12_errs (k_errs hg _) rfl rfl (px_lit hg rfl) rfl rfl rfl ⟨rfl, rfl⟩ ?_
    intro I66 L66 h66
    obtain ⟨rfl, h66⟩ := h66
    have e9 := mErr h66 h0 (by decide)
    refine px_le rfl q_X12_numbered_69 hg rfl trivial (fun c96 => ?_) (fun c96 => ?_)
    · exact absurd c96 (by have := e9.2; grind)
    · refine px_rv rfl q_X12_numbered_99 rfl rfl rfl hg rfl trivial ?_
      exact hq _ ⟨h1.P.trans e9.1, Or.inl e9.2⟩

theorem q_X12_numbered_20 : px_bk 12 5 cX12_numbered 20 [(.iload_n 1, (0, 0, 0, 0, 0), 0, 0), (.iconst 1, (0, 0, 0, 0, 0), 1, 0)] = some 22 ∧ px_t2 cX12_numbered 22 .ne 31 = true := by decide +kernel
theorem q_X12_numbered_31 : px_bk 12 5 cX12_numbered 31 [(.iload_n 1, (0, 0, 0, 0, 0), 0, 0), (.iconst 2, (0, 0, 0, 0, 0), 2, 0)] = some 33 ∧ px_t2 cX12_numbered 33 .ne 41 = true := by decide +kernel
theorem q_X12_numbered_41 : px_bk 12 5 cX12_numbered 41 [(.iload_n 1, (0, 0, 0, 0, 0), 0, 0), (.bipush 8, (0, 0, 0, 0, 0), 8, 0)] = some 44 ∧ px_t2 cX12_numbered 44 .ne 52 = true := by decide +kernel
theorem q_X12_numbered_52 : px_bk 12 5 cX12_numbered 52 [(.ldc_w 357, (0, 0, 0, 0, 0), 100000, 0), (.istore_n 3, (0, 0, 0, 0, 0), 0, 0)] = some 56 := by decide +kernel
theorem q_X12_numbered_47 : px_bk 12 5 cX12_numbered 47 [(.bipush 99, (0, 0, 0, 0, 0), 99, 0), (.goto 6, (0, 0, 0, 0, 0), 0, 0), (.istore_n 3, (0, 0, 0, 0, 0), 0, 0)] = some 56 := by decide +kernel
theorem q_X12_numbered_36 : px_bk 12 5 cX12_numbered 36 [(.bipush 15, (0, 0, 0, 0, 0), 15, 0), (.goto 17, (0, 0, 0, 0, 0), 0, 0), (.istore_n 3, (0, 0, 0, 0, 0), 0, 0)] = some 56 := by decide +kernel
theorem q_X12_numbered_25 : px_bk 12 5 cX12_numbered 25 [(.sipush 9999, (0, 0, 0, 0, 0), 9999, 0), (.goto 27, (0, 0, 0, 0, 0), 0, 0), (.istore_n 3, (0, 0, 0, 0, 0), 0, 0)] = some 56 := by decide +kernel
set_option maxRecDepth 100000 in
theorem l_numbered20 {n : Nat} {R : px_R} (hg : px_G n R) {Q : px_Q} (w lo : Int32) {I I1 : px_I} {L : px_L} (h : mPI I 0) (hlt : I 103 28 < I 103 27) (h1 : mKI I I1) (h2 : I 103 27 ≤ I1 103 28) (h3 : mTk I1) (hw : w = 1 ∨ w = 2 ∨ w = 3 ∨ w = 4 ∨ w = 8) (hq : ∀ I2, mPo I I2 → Q none n I2 L R) : px M_X12_numbered 0 0 20 [(0, .ref 103), (1, .int w), (2, .int lo)] [] n I1 L R Q := by
  skip
  refine px_ine rfl q_X12_numbered_20 hg rfl trivial (fun c22 => ?_) (fun c22 => ?_)
  · refine px_ine rfl q_X12_numbered_31 hg rfl trivial (fun c33 => ?_) (fun c33 => ?_)
    · refine px_ine rfl q_X12_numbered_41 hg rfl trivial (fun c44 => ?_) (fun c44 => ?_)
      · refine px_b rfl q_X12_numbered_52 hg rfl trivial ?_
        exact px_go (l_numbered56 hg w lo _ h hlt h1 h2 h3 hw hq) ⟨rfl, rfl, rfl, rfl, trivial⟩
      · refine px_b rfl q_X12_numbered_47 hg rfl trivial ?_
        exact px_go (l_numbered56 hg w lo _ h hlt h1 h2 h3 hw hq) ⟨rfl, rfl, rfl, rfl, trivial⟩
    · refine px_b rfl q_X12_numbered_36 hg rfl trivial ?_
      exact px_go (l_numbered56 hg w lo _ h hlt h1 h2 h3 hw hq) ⟨rfl, rfl, rfl, rfl, trivial⟩
  · refine px_b rfl q_X12_numbered_25 hg rfl trivial ?_
    exact px_go (l_numbered56 hg w lo _ h hlt h1 h2 h3 hw hq) ⟨rfl, rfl, rfl, rfl, trivial⟩

theorem q_X12_numbered_0 : px_bk 12 5 cX12_numbered 0 [(.aload_n 0, (0, 0, 0, 0, 0), 0, 0)] = some 1 ∧ px_tv cX12_numbered 1 340 = true := by decide +kernel
theorem q_X12_numbered_4 : px_bk 12 5 cX12_numbered 4 [(.iload_n 1, (0, 0, 0, 0, 0), 0, 0), (.iconst 3, (0, 0, 0, 0, 0), 3, 0)] = some 6 ∧ px_t2 cX12_numbered 6 .eq 14 = true := by decide +kernel
theorem q_X12_numbered_14 : px_bk 12 5 cX12_numbered 14 [(.iconst 0, (0, 0, 0, 0, 0), 0, 0), (.goto 4, (0, 0, 0, 0, 0), 0, 0), (.istore_n 2, (0, 0, 0, 0, 0), 0, 0)] = some 20 := by decide +kernel
theorem q_X12_numbered_9 : px_bk 12 5 cX12_numbered 9 [(.iload_n 1, (0, 0, 0, 0, 0), 0, 0), (.iconst 4, (0, 0, 0, 0, 0), 4, 0)] = some 11 ∧ px_t2 cX12_numbered 11 .ne 18 = true := by decide +kernel
theorem q_X12_numbered_18 : px_bk 12 5 cX12_numbered 18 [(.iconst 1, (0, 0, 0, 0, 0), 1, 0), (.istore_n 2, (0, 0, 0, 0, 0), 0, 0)] = some 20 := by decide +kernel
set_option maxRecDepth 100000 in
theorem k_numbered {n : Nat} {I : px_I} {L : px_L} {R : px_R} (hg : px_G n R) (w : Int32) (h : mPI I 0) (hlt : I 103 28 < I 103 27) (hw : w = 1 ∨ w = 2 ∨ w = 3 ∨ w = 4 ∨ w = 8) : px_KV M_X12_numbered [.ref 103, .int w] n I L R (fun I2 L2 => L2 = L ∧ mPo I I2) := by
  refine px_of (plainFor_of_name np_RX12) (fun _ _ _ => trivial) rfl ?_
  have hat := h.at
  refine px_cVW (ci := 12) rfl q_X12_numbered_0 hg rfl trivial lk_12_340 nm_X12_next (k_next hg (by first | assumption | simpa [px_ur] using hat)) rfl rfl (px_lit hg rfl) rfl rfl rfl ⟨rfl, rfl⟩ ?_
  intro I1 L1 h1
  obtain ⟨rfl, h1, h2, h3⟩ := h1
  refine px_ieq rfl q_X12_numbered_4 hg rfl trivial (fun c6 => ?_) (fun c6 => ?_)
  · refine px_b rfl q_X12_numbered_14 hg rfl trivial ?_
    exact px_go (l_numbered20 hg w _ h hlt h1 h2 h3 hw (fun I2 hp => ⟨rfl, rfl, rfl, rfl, hp⟩)) ⟨rfl, rfl, rfl, trivial⟩
  · refine px_ine rfl q_X12_numbered_9 hg rfl trivial (fun c11 => ?_) (fun c11 => ?_)
    · refine px_b rfl q_X12_numbered_18 hg rfl trivial ?_
      exact px_go (l_numbered20 hg w _ h hlt h1 h2 h3 hw (fun I2 hp => ⟨rfl, rfl, rfl, rfl, hp⟩)) ⟨rfl, rfl, rfl, trivial⟩
    · refine px_b rfl q_X12_numbered_14 hg rfl trivial ?_
      exact px_go (l_numbered20 hg w _ h hlt h1 h2 h3 hw (fun I2 hp => ⟨rfl, rfl, rfl, rfl, hp⟩)) ⟨rfl, rfl, rfl, trivial⟩

theorem q_X12_step_0 : px_bk 12 3 cX12_step 0 [(.aload_n 0, (0, 0, 0, 0, 0), 0, 0), (.getfield 310, (12, 30, 0, 0, 0), 0, 0), (.istore_n 1, (0, 0, 0, 0, 0), 0, 0), (.iload_n 1, (0, 0, 0, 0, 0), 0, 0), (.iconst 5, (0, 0, 0, 0, 0), 5, 0)] = some 7 ∧ px_t2 cX12_step 7 .eq 16 = true := by decide +kernel
theorem q_X12_step_16 : px_bk 12 3 cX12_step 16 [(.aload_n 0, (0, 0, 0, 0, 0), 0, 0), (.iload_n 1, (0, 0, 0, 0, 0), 0, 0), (.iconst 0, (0, 0, 0, 0, 0), 0, 0)] = some 19 ∧ px_tv cX12_step 19 346 = true := by decide +kernel
theorem q_X12_step_22 : px_bk 12 3 cX12_step 22 [(.istore_n 2, (0, 0, 0, 0, 0), 0, 0), (.aload_n 0, (0, 0, 0, 0, 0), 0, 0), (.getfield 90, (12, 42, 3, 127, 0), 0, 0), (.aload_n 0, (0, 0, 0, 0, 0), 0, 0), (.getfield 337, (12, 39, 0, 0, 0), 0, 0), (.iconst 1, (0, 0, 0, 0, 0), 1, 0), (.bastore, (0, 0, 0, 0, 0), 0, 0), (.aload_n 0, (0, 0, 0, 0, 0), 0, 0)] = some 34 ∧ px_tv cX12_step 34 340 = true := by decide +kernel
theorem q_X12_step_37 : px_bk 12 3 cX12_step 37 [(.aload_n 0, (0, 0, 0, 0, 0), 0, 0)] = some 38 ∧ px_tv cX12_step 38 358 = true := by decide +kernel
theorem q_X12_step_41 : px_bk 12 3 cX12_step 41 [(.goto 107, (0, 0, 0, 0, 0), 0, 0)] = some 148 ∧ px_tr cX12_step 148 .return_ = true := by decide +kernel
theorem q_X12_step_10 : px_bk 12 3 cX12_step 10 [(.iload_n 1, (0, 0, 0, 0, 0), 0, 0), (.bipush 6, (0, 0, 0, 0, 0), 6, 0)] = some 13 ∧ px_t2 cX12_step 13 .ne 44 = true := by decide +kernel
theorem q_X12_step_44 : px_bk 12 3 cX12_step 44 [(.iload_n 1, (0, 0, 0, 0, 0), 0, 0), (.bipush 7, (0, 0, 0, 0, 0), 7, 0)] = some 47 ∧ px_t2 cX12_step 47 .ne 143 = true := by decide +kernel
theorem q_X12_step_143 : px_bk 12 3 cX12_step 143 [(.aload_n 0, (0, 0, 0, 0, 0), 0, 0), (.iload_n 1, (0, 0, 0, 0, 0), 0, 0)] = some 145 ∧ px_tv cX12_step 145 361 = true := by decide +kernel
theorem q_X12_step_148 : px_bk 12 3 cX12_step 148 [] = some 148 ∧ px_tr cX12_step 148 .return_ = true := by decide +kernel
theorem q_X12_step_50 : px_bk 12 3 cX12_step 50 [(.aload_n 0, (0, 0, 0, 0, 0), 0, 0)] = some 51 ∧ px_tv cX12_step 51 340 = true := by decide +kernel
theorem q_X12_step_54 : px_bk 12 3 cX12_step 54 [(.aload_n 0, (0, 0, 0, 0, 0), 0, 0), (.getfield 300, (12, 29, 0, 0, 0), 0, 0), (.iconst 2, (0, 0, 0, 0, 0), 2, 0)] = some 59 ∧ px_t2 cX12_step 59 .eq 70 = true := by decide +kernel
theorem q_X12_step_70 : px_bk 12 3 cX12_step 70 [(.aload_n 0, (0, 0, 0, 0, 0), 0, 0), (.getfield 81, (12, 38, 3, 124, 0), 0, 0), (.aload_n 0, (0, 0, 0, 0, 0), 0, 0), (.getfield 310, (12, 30, 0, 0, 0), 0, 0), (.iaload, (0, 0, 0, 0, 0), 0, 0)] = some 79 ∧ px_t1 cX12_step 79 .ge 87 = true := by decide +kernel
theorem q_X12_step_87 : px_bk 12 3 cX12_step 87 [(.aload_n 0, (0, 0, 0, 0, 0), 0, 0), (.getfield 322, (12, 31, 0, 0, 0), 0, 0)] = some 91 ∧ px_t1 cX12_step 91 .ne 148 = true := by decide +kernel
theorem q_X12_step_94 : px_bk 12 3 cX12_step 94 [(.aload_n 0, (0, 0, 0, 0, 0), 0, 0), (.getfield 94, (12, 43, 3, 128, 0), 0, 0), (.aload_n 0, (0, 0, 0, 0, 0), 0, 0), (.getfield 310, (12, 30, 0, 0, 0), 0, 0), (.baload, (0, 0, 0, 0, 0), 0, 0)] = some 103 ∧ px_t1 cX12_step 103 .eq 132 = true := by decide +kernel
theorem q_X12_step_132 : px_bk 12 3 cX12_step 132 [(.aload_n 0, (0, 0, 0, 0, 0), 0, 0)] = some 133 ∧ px_tv cX12_step 133 340 = true := by decide +kernel
theorem q_X12_step_136 : px_bk 12 3 cX12_step 136 [(.aload_n 0, (0, 0, 0, 0, 0), 0, 0)] = some 137 ∧ px_tv cX12_step 137 358 = true := by decide +kernel
theorem q_X12_step_140 : px_bk 12 3 cX12_step 140 [(.goto 8, (0, 0, 0, 0, 0), 0, 0)] = some 148 ∧ px_tr cX12_step 148 .return_ = true := by decide +kernel
theorem q_X12_step_106 : px_bk 12 3 cX12_step 106 [(.aload_n 0, (0, 0, 0, 0, 0), 0, 0), (.bipush 7, (0, 0, 0, 0, 0), 7, 0), (.aload_n 0, (0, 0, 0, 0, 0), 0, 0), (.getfield 81, (12, 38, 3, 124, 0), 0, 0), (.aload_n 0, (0, 0, 0, 0, 0), 0, 0), (.getfield 310, (12, 30, 0, 0, 0), 0, 0), (.iaload, (0, 0, 0, 0, 0), 0, 0)] = some 118 ∧ px_tv cX12_step 118 346 = true := by decide +kernel
theorem q_X12_step_121 : px_bk 12 3 cX12_step 121 [(.istore_n 2, (0, 0, 0, 0, 0), 0, 0), (.aload_n 0, (0, 0, 0, 0, 0), 0, 0), (.getfield 90, (12, 42, 3, 127, 0), 0, 0), (.aload_n 0, (0, 0, 0, 0, 0), 0, 0), (.getfield 337, (12, 39, 0, 0, 0), 0, 0), (.iconst 1, (0, 0, 0, 0, 0), 1, 0), (.bastore, (0, 0, 0, 0, 0), 0, 0), (.aload_n 0, (0, 0, 0, 0, 0), 0, 0)] = some 133 ∧ px_tv cX12_step 133 340 = true := by decide +kernel
theorem q_X12_step_82 : px_bk 12 3 cX12_step 82 [(.aload_n 0, (0, 0, 0, 0, 0), 0, 0), (.iconst 4, (0, 0, 0, 0, 0), 4, 0)] = some 84 ∧ px_tv cX12_step 84 334 = true := by decide +kernel
theorem q_X12_step_62 : px_bk 12 3 cX12_step 62 [(.aload_n 0, (0, 0, 0, 0, 0), 0, 0), (.iconst 1, (0, 0, 0, 0, 0), 1, 0)] = some 64 ∧ px_tv cX12_step 64 334 = true := by decide +kernel
theorem q_X12_step_67 : px_bk 12 3 cX12_step 67 [(.goto 20, (0, 0, 0, 0, 0), 0, 0), (.aload_n 0, (0, 0, 0, 0, 0), 0, 0), (.getfield 322, (12, 31, 0, 0, 0), 0, 0)] = some 91 ∧ px_t1 cX12_step 91 .ne 148 = true := by decide +kernel
set_option maxRecDepth 100000 in
theorem k_step {n : Nat} {I : px_I} {L : px_L} {R : px_R} (hg : px_G n R) (h : mPI I 0) (hs : I 103 29 = 1) (hw : ¬ I 103 30 = 0) : px_KV M_X12_step [.ref 103] n I L R (fun I2 L2 => L2 = L ∧ mPo I I2) := by
  refine px_of (plainFor_of_name np_RX12) (fun _ _ _ => trivial) rfl ?_
  have hat := h.at
  obtain ⟨hN, hop⟩ := h.N (by decide)
  have h0 := h.2.1
  obtain ⟨hk1, -, -, hk4, X, hk5⟩ := id h
  have hlt : I 103 28 < I 103 27 := hk1.2.1 (by rw [hs]; decide)
  have htd := hk1.2.2.2 hs
  have hN1 : 0 ≤ I 103 35 ∧ I 103 35 < 220 := by grind
  have hop1 : 0 ≤ I 103 39 ∧ I 103 39 < 10 := by grind
  refine px_ieq rfl q_X12_step_0 hg rfl trivial (fun c7 => ?_) (fun c7 => ?_)
  · refine px_cVS (ci := 12) rfl q_X12_step_16 hg rfl trivial lk_12_346 nm_X12_emits (k_emits hg _ _ hN1) rfl rfl (px_lit hg rfl) rfl rfl rfl ⟨rfl, rfl⟩ ?_
    intro x19 I19 L19 h19
    obtain ⟨rfl, rfl, h19⟩ := h19
    have e39 := mE_f h19 (j := 39) (by decide)
    have e35 := mE_35 h19
    have e31 := mE_f h19 (j := 31) (by decide)
    have e28 := mE_f h19 (j := 28) (by decide)
    have e27 := mE_f h19 (j := 27) (by decide)
    have e26 := mE_f h19 (j := 26) (by decide)
    have eP := mE_P h19
    refine px_cVW (ci := 12) rfl q_X12_step_22 hg rfl ⟨trivial, (by first | with_reducible assumption | (rw [e39]; with_reducible assumption))⟩ lk_12_340 nm_X12_next (k_next hg (by simpa [px_ur, e26, e27] using hat)) rfl rfl (px_lit hg rfl) rfl rfl rfl ⟨rfl, rfl⟩ ?_
    intro I34 L34 h34
    obtain ⟨rfl, g1, g2, g3⟩ := h34
    have g2 : I 103 27 ≤ I34 103 28 := by rw [px_u_ne (by decide), e27] at g2; exact g2
    have g9 := g3.b
    refine px_cVW (ci := 12) rfl q_X12_step_37 hg rfl trivial lk_12_358 nm_X12_stepIsOver (k_stepIsOver hg (mPI.nx g1 g3 (by rw [px_u_ne (by decide), e31]; exact h0) (by rw [px_u_ne (by decide), e35]; grind) (by rw [px_u_ne (by decide), e35, e39]; grind) (mSI.st (hk5.emS h19 (by grind) (by grind) (by grind)) _ _))) rfl rfl (px_lit hg rfl) rfl rfl rfl ⟨rfl, rfl⟩ ?_
    intro I38 L38 h38
    refine px_rvW rfl q_X12_step_41 rfl rfl rfl hg rfl trivial ⟨⟨rfl, rfl⟩, ?_⟩
    obtain ⟨rfl, g5, g6⟩ := h38
    exact ⟨rfl, (eP.trans ((mPF.rfl'.a 127 _ _).trans g1.P)).trans g5, g6.imp id (fun q => ⟨q.1, by have := q.2; grind⟩)⟩
  · refine px_ine rfl q_X12_step_10 hg rfl trivial (fun c13 => ?_) (fun c13 => ?_)
    · refine px_ine rfl q_X12_step_44 hg rfl trivial (fun c47 => ?_) (fun c47 => ?_)
      · refine px_cVW (ci := 12) rfl q_X12_step_143 hg rfl trivial lk_12_361 nm_X12_numbered (k_numbered hg _ h hlt (by grind)) rfl rfl (px_lit hg rfl) rfl rfl rfl ⟨rfl, rfl⟩ ?_
        intro I145 L145 h145
        refine px_rvW rfl q_X12_step_148 rfl rfl rfl hg rfl trivial ⟨⟨rfl, rfl⟩, ?_⟩
        obtain ⟨rfl, g5, g6⟩ := h145
        exact ⟨rfl, g5, g6⟩
      · refine px_cVW (ci := 12) rfl q_X12_step_50 hg rfl trivial lk_12_340 nm_X12_next (k_next hg hat) rfl rfl (px_lit hg rfl) rfl rfl rfl ⟨rfl, rfl⟩ ?_
        intro I51 L51 h51
        obtain ⟨rfl, g1, g2, g3⟩ := h51
        have h051 : I51 103 31 = 0 := (g1.f 31 (by decide)).trans h0
        have f35 := g1.f 35 (by decide)
        have f39 := g1.f 39 (by decide)
        have hN51 : 0 ≤ I51 103 35 ∧ I51 103 35 < 220 := by grind
        have hop51 : 0 ≤ I51 103 39 ∧ I51 103 39 < 10 := by grind
        have hX : mSI I51 X (I51 103 35) := by rw [f35]; exact g1.S hk5
        have hl51 : I51 103 28 ≤ I51 103 27 := g3.1.2.1
        have hat51 : 0 ≤ I51 103 27 ∧ I51 103 27 ≤ I51 103 26 ∧ I51 103 26 ≤ 400 := ⟨Int32.le_trans g3.1.1 hl51, g3.1.2.2.1, g3.1.2.2.2⟩
        have g4 : mPF I I51 := g1.P
        refine px_ieq rfl q_X12_step_54 hg rfl trivial (fun c59 => ?_) (fun c59 => ?_)
        · have htl := g3.2.2.1 (by assumption)
          have htl2 : 0 ≤ I51 103 30 ∧ I51 103 30 < 8 := by grind
          have hl52 : I51 103 28 < I51 103 27 := g3.2.1 (by rw [show I51 103 29 = 2 by assumption]; decide)
          refine px_ge rfl q_X12_step_70 hg rfl ⟨trivial, (by first | with_reducible assumption | (rw [e39]; with_reducible assumption))⟩ (fun c79 => ?_) (fun c79 => ?_)
          · refine px_ne rfl q_X12_step_87 hg rfl trivial (fun c91 => ?_) (fun c91 => ?_)
            · exact absurd h051 c91
            · refine px_eq rfl q_X12_step_94 hg rfl ⟨trivial, (by first | with_reducible assumption | (rw [e39]; with_reducible assumption))⟩ (fun c103 => ?_) (fun c103 => ?_)
              · refine px_cVW (ci := 12) rfl q_X12_step_132 hg rfl trivial lk_12_340 nm_X12_next (k_next hg (by first | exact hat51 | simpa [px_ur, e26, e27] using hat51)) rfl rfl (px_lit hg rfl) rfl rfl rfl ⟨rfl, rfl⟩ ?_
                intro I133 L133 h133
                obtain ⟨rfl, g1, g2, g3⟩ := h133
                have g9 := g3.b
                refine px_cVW (ci := 12) rfl q_X12_step_136 hg rfl trivial lk_12_358 nm_X12_stepIsOver (k_stepIsOver hg (mPI.nx g1 g3 h051 hN51.1 (by grind) ⟨X, hX⟩)) rfl rfl (px_lit hg rfl) rfl rfl rfl ⟨rfl, rfl⟩ ?_
                intro I137 L137 h137
                refine px_rvW rfl q_X12_step_140 rfl rfl rfl hg rfl trivial ⟨⟨rfl, rfl⟩, ?_⟩
                obtain ⟨rfl, g5, g6⟩ := h137
                exact ⟨rfl, (g4.trans g1.P).trans g5, g6.imp id (fun q => ⟨q.1, by have := q.2; grind⟩)⟩
              · refine px_cVS (ci := 12) rfl q_X12_step_106 hg rfl ⟨trivial, (by first | with_reducible assumption | (rw [e39]; with_reducible assumption))⟩ lk_12_346 nm_X12_emits (k_emits hg _ _ hN51) rfl rfl (px_lit hg rfl) rfl rfl rfl ⟨rfl, rfl⟩ ?_
                intro x118 I118 L118 h118
                obtain ⟨rfl, rfl, h118⟩ := h118
                have e39 := mE_f h118 (j := 39) (by decide)
                have e35 := mE_35 h118
                have e31 := mE_f h118 (j := 31) (by decide)
                have e28 := mE_f h118 (j := 28) (by decide)
                have e27 := mE_f h118 (j := 27) (by decide)
                have e26 := mE_f h118 (j := 26) (by decide)
                have eP := mE_P h118
                refine px_cVW (ci := 12) rfl q_X12_step_121 hg rfl ⟨trivial, (by first | with_reducible assumption | (rw [e39]; with_reducible assumption))⟩ lk_12_340 nm_X12_next (k_next hg (by first | exact hat51 | simpa [px_ur, e26, e27] using hat51)) rfl rfl (px_lit hg rfl) rfl rfl rfl ⟨rfl, rfl⟩ ?_
                intro I133 L133 h133
                obtain ⟨rfl, g1, g2, g3⟩ := h133
                have g2 : I51 103 27 ≤ I133 103 28 := by rw [px_u_ne (by decide), e27] at g2; exact g2
                have g9 := g3.b
                refine px_cVW (ci := 12) rfl q_X12_step_136 hg rfl trivial lk_12_358 nm_X12_stepIsOver (k_stepIsOver hg (mPI.nx g1 g3 (by rw [px_u_ne (by decide), e31]; exact h051) (by rw [px_u_ne (by decide), e35]; grind) (by rw [px_u_ne (by decide), e35, e39]; grind) (mSI.st (hX.emC h118 (by grind) ⟨by grind, by grind⟩ (by assumption)) _ _))) rfl rfl (px_lit hg rfl) rfl rfl rfl ⟨rfl, rfl⟩ ?_
                intro I137 L137 h137
                refine px_rvW rfl q_X12_step_140 rfl rfl rfl hg rfl trivial ⟨⟨rfl, rfl⟩, ?_⟩
                obtain ⟨rfl, g5, g6⟩ := h137
                exact ⟨rfl, (g4.trans (eP.trans ((mPF.rfl'.a 127 _ _).trans g1.P))).trans g5, g6.imp id (fun q => ⟨q.1, by have := q.2; grind⟩)⟩
          · refine px_cVW (ci := 12) rfl q_X12_step_82 hg rfl trivial lk_12_334 nm_X12_errs (k_errs hg _) rfl rfl (px_lit hg rfl) rfl rfl rfl ⟨rfl, rfl⟩ ?_
            intro I84 L84 h84
            obtain ⟨rfl, h84⟩ := h84
            have e9 := mErr h84 h051 (by decide)
            refine px_ne rfl q_X12_step_87 hg rfl trivial (fun c91 => ?_) (fun c91 => ?_)
            · refine px_rvW rfl q_X12_step_148 rfl rfl rfl hg rfl trivial ⟨⟨rfl, rfl⟩, ?_⟩
              exact ⟨rfl, g4.trans e9.1, Or.inl e9.2⟩
            · exact absurd c91 (by have := e9.2; grind)
        · refine px_cVW (ci := 12) rfl q_X12_step_62 hg rfl trivial lk_12_334 nm_X12_errs (k_errs hg _) rfl rfl (px_lit hg rfl) rfl rfl rfl ⟨rfl, rfl⟩ ?_
          intro I64 L64 h64
          obtain ⟨rfl, h64⟩ := h64
          have e9 := mErr h64 h051 (by decide)
          refine px_ne rfl q_X12_step_67 hg rfl trivial (fun c91 => ?_) (fun c91 => ?_)
          · refine px_rvW rfl q_X12_step_148 rfl rfl rfl hg rfl trivial ⟨⟨rfl, rfl⟩, ?_⟩
            exact ⟨rfl, g4.trans e9.1, Or.inl e9.2⟩
          · exact absurd c91 (by have := e9.2; grind)
    · refine px_cVS (ci := 12) rfl q_X12_step_16 hg rfl trivial lk_12_346 nm_X12_emits (k_emits hg _ _ hN1) rfl rfl (px_lit hg rfl) rfl rfl rfl ⟨rfl, rfl⟩ ?_
      intro x19 I19 L19 h19
      obtain ⟨rfl, rfl, h19⟩ := h19
      have e39 := mE_f h19 (j := 39) (by decide)
      have e35 := mE_35 h19
      have e31 := mE_f h19 (j := 31) (by decide)
      have e28 := mE_f h19 (j := 28) (by decide)
      have e27 := mE_f h19 (j := 27) (by decide)
      have e26 := mE_f h19 (j := 26) (by decide)
      have eP := mE_P h19
      refine px_cVW (ci := 12) rfl q_X12_step_22 hg rfl ⟨trivial, (by first | with_reducible assumption | (rw [e39]; with_reducible assumption))⟩ lk_12_340 nm_X12_next (k_next hg (by simpa [px_ur, e26, e27] using hat)) rfl rfl (px_lit hg rfl) rfl rfl rfl ⟨rfl, rfl⟩ ?_
      intro I34 L34 h34
      obtain ⟨rfl, g1, g2, g3⟩ := h34
      have g2 : I 103 27 ≤ I34 103 28 := by rw [px_u_ne (by decide), e27] at g2; exact g2
      have g9 := g3.b
      refine px_cVW (ci := 12) rfl q_X12_step_37 hg rfl trivial lk_12_358 nm_X12_stepIsOver (k_stepIsOver hg (mPI.nx g1 g3 (by rw [px_u_ne (by decide), e31]; exact h0) (by rw [px_u_ne (by decide), e35]; grind) (by rw [px_u_ne (by decide), e35, e39]; grind) (mSI.st (hk5.emS h19 (by grind) (by grind) (by grind)) _ _))) rfl rfl (px_lit hg rfl) rfl rfl rfl ⟨rfl, rfl⟩ ?_
      intro I38 L38 h38
      refine px_rvW rfl q_X12_step_41 rfl rfl rfl hg rfl trivial ⟨⟨rfl, rfl⟩, ?_⟩
      obtain ⟨rfl, g5, g6⟩ := h38
      exact ⟨rfl, (eP.trans ((mPF.rfl'.a 127 _ _).trans g1.P)).trans g5, g6.imp id (fun q => ⟨q.1, by have := q.2; grind⟩)⟩

theorem mSI.let0 {I : px_I} {X : Int32 → Prop} {fe : Int32} (h : mSI I X fe) (h0 : I 103 39 = 0) (v : Int32) : mSI (px_u I 103 71 v) X fe := by
  have e : ∀ b, b ≠ 103 → px_u I 103 71 v b = I b := fun b hb => px_u_ne hb
  have e39 : px_u I 103 71 v 103 39 = 0 := by rw [px_u_at_ne (by decide)]; exact h0
  unfold mSI at *
  rw [e 122 (by decide), e 123 (by decide), e 124 (by decide), e 125 (by decide), e 126 (by decide), e39]
  rw [h0] at h
  obtain ⟨h1, h2, h3, h4, h5, h6, h7⟩ := h
  exact ⟨h1, h2, h3, fun q q1 q2 => by grind, fun p q p1 p2 p3 => by grind, h6, h7⟩

theorem q_X12_def_0 : px_bk 12 2 cX12_def 0 [(.aload_n 0, (0, 0, 0, 0, 0), 0, 0)] = some 1 ∧ px_tv cX12_def 1 340 = true := by decide +kernel
theorem q_X12_def_4 : px_bk 12 2 cX12_def 4 [(.aload_n 0, (0, 0, 0, 0, 0), 0, 0), (.getfield 300, (12, 29, 0, 0, 0), 0, 0), (.iconst 2, (0, 0, 0, 0, 0), 2, 0)] = some 9 ∧ px_t2 cX12_def 9 .eq 20 = true := by decide +kernel
theorem q_X12_def_20 : px_bk 12 2 cX12_def 20 [(.aload_n 0, (0, 0, 0, 0, 0), 0, 0), (.getfield 81, (12, 38, 3, 124, 0), 0, 0), (.aload_n 0, (0, 0, 0, 0, 0), 0, 0), (.getfield 310, (12, 30, 0, 0, 0), 0, 0), (.iaload, (0, 0, 0, 0, 0), 0, 0)] = some 29 ∧ px_t1 cX12_def 29 .lt 37 = true := by decide +kernel
theorem q_X12_def_37 : px_bk 12 2 cX12_def 37 [(.aload_n 0, (0, 0, 0, 0, 0), 0, 0), (.getfield 322, (12, 31, 0, 0, 0), 0, 0)] = some 41 ∧ px_t1 cX12_def 41 .le 45 = true := by decide +kernel
theorem q_X12_def_45 : px_bk 12 2 cX12_def 45 [(.aload_n 0, (0, 0, 0, 0, 0), 0, 0), (.aload_n 0, (0, 0, 0, 0, 0), 0, 0), (.getfield 310, (12, 30, 0, 0, 0), 0, 0), (.putfield 343, (12, 71, 0, 0, 0), 0, 0), (.aload_n 0, (0, 0, 0, 0, 0), 0, 0)] = some 54 ∧ px_tv cX12_def 54 340 = true := by decide +kernel
theorem q_X12_def_57 : px_bk 12 2 cX12_def 57 [(.aload_n 0, (0, 0, 0, 0, 0), 0, 0), (.bipush 23, (0, 0, 0, 0, 0), 23, 0), (.iconst 0, (0, 0, 0, 0, 0), 0, 0)] = some 61 ∧ px_tv cX12_def 61 346 = true := by decide +kernel
theorem q_X12_def_64 : px_bk 12 2 cX12_def 64 [(.istore_n 1, (0, 0, 0, 0, 0), 0, 0), (.aload_n 0, (0, 0, 0, 0, 0), 0, 0), (.iconst 1, (0, 0, 0, 0, 0), 1, 0), (.iload_n 1, (0, 0, 0, 0, 0), 0, 0)] = some 68 ∧ px_tv cX12_def 68 350 = true := by decide +kernel
theorem q_X12_def_71 : px_bk 12 2 cX12_def 71 [] = some 71 ∧ px_tr cX12_def 71 .return_ = true := by decide +kernel
theorem q_X12_def_32 : px_bk 12 2 cX12_def 32 [(.aload_n 0, (0, 0, 0, 0, 0), 0, 0), (.iconst 4, (0, 0, 0, 0, 0), 4, 0)] = some 34 ∧ px_tv cX12_def 34 334 = true := by decide +kernel
theorem q_X12_def_44 : px_bk 12 2 cX12_def 44 [] = some 44 ∧ px_tr cX12_def 44 .return_ = true := by decide +kernel
theorem q_X12_def_12 : px_bk 12 2 cX12_def 12 [(.aload_n 0, (0, 0, 0, 0, 0), 0, 0), (.iconst 1, (0, 0, 0, 0, 0), 1, 0)] = some 14 ∧ px_tv cX12_def 14 334 = true := by decide +kernel
theorem q_X12_def_17 : px_bk 12 2 cX12_def 17 [(.goto 20, (0, 0, 0, 0, 0), 0, 0), (.aload_n 0, (0, 0, 0, 0, 0), 0, 0), (.getfield 322, (12, 31, 0, 0, 0), 0, 0)] = some 41 ∧ px_t1 cX12_def 41 .le 45 = true := by decide +kernel
set_option maxRecDepth 100000 in
theorem k_def {n : Nat} {I : px_I} {L : px_L} {R : px_R} (hg : px_G n R) (h : mPI I 0) (hlt : I 103 28 < I 103 27) (hz : I 103 39 = 0) : px_KV M_X12_def [.ref 103] n I L R (fun I2 L2 => L2 = L ∧ mPo I I2) := by
  refine px_of (plainFor_of_name np_RX12) (fun _ _ _ => trivial) rfl ?_
  have hat := h.at
  obtain ⟨hN, hop⟩ := h.N (by decide)
  have h0 := h.2.1
  obtain ⟨hk1, -, -, hk4, X, hk5⟩ := id h
  refine px_cVW (ci := 12) rfl q_X12_def_0 hg rfl trivial lk_12_340 nm_X12_next (k_next hg hat) rfl rfl (px_lit hg rfl) rfl rfl rfl ⟨rfl, rfl⟩ ?_
  intro I1 L1 h1
  obtain ⟨rfl, g1, g2, g3⟩ := h1
  have h01 : I1 103 31 = 0 := (g1.f 31 (by decide)).trans h0
  have f35 := g1.f 35 (by decide)
  have f39 := (g1.f 39 (by decide)).trans hz
  have hX : mSI I1 X (I1 103 35) := by rw [f35]; exact g1.S hk5
  have hl1 : I1 103 28 ≤ I1 103 27 := g3.1.2.1
  have hat1 : 0 ≤ I1 103 27 ∧ I1 103 27 ≤ I1 103 26 ∧ I1 103 26 ≤ 400 := ⟨Int32.le_trans g3.1.1 hl1, g3.1.2.2.1, g3.1.2.2.2⟩
  have g4 : mPF I I1 := g1.P
  refine px_ieq rfl q_X12_def_4 hg rfl trivial (fun c9 => ?_) (fun c9 => ?_)
  · have htl := g3.2.2.1 (by assumption)
    have htl2 : 0 ≤ I1 103 30 ∧ I1 103 30 < 8 := by grind
    have hl52 : I1 103 28 < I1 103 27 := g3.2.1 (by rw [show I1 103 29 = 2 by assumption]; decide)
    refine px_lt rfl q_X12_def_20 hg rfl ⟨trivial, (by with_reducible assumption)⟩ (fun c29 => ?_) (fun c29 => ?_)
    · refine px_le rfl q_X12_def_37 hg rfl trivial (fun c41 => ?_) (fun c41 => ?_)
      · refine px_cVW (ci := 12) rfl q_X12_def_45 hg rfl trivial lk_12_340 nm_X12_next (k_next hg (by simpa [px_ur] using hat1)) rfl rfl (px_lit hg rfl) rfl rfl rfl ⟨rfl, rfl⟩ ?_
        intro I54 L54 h54
        obtain ⟨rfl, k1, k2, k3⟩ := h54
        have k2 : I1 103 27 ≤ I54 103 28 := by simpa [px_ur] using k2
        have d39 : I54 103 39 = 0 := by rw [k1.f 39 (by decide), px_u_at_ne (by decide)]; exact f39
        have d35 : I54 103 35 = I1 103 35 := by rw [k1.f 35 (by decide), px_u_at_ne (by decide)]
        have d31 : I54 103 31 = 0 := by rw [k1.f 31 (by decide), px_u_at_ne (by decide)]; exact h01
        have d71 : I54 103 71 = I1 103 30 := by rw [k1.f 71 (by decide), px_u_at]
        have d124 : I54 124 = I1 124 := by rw [k1.o 124 (by decide), px_u_ne (by decide)]
        have hN54 : 0 ≤ I54 103 35 ∧ I54 103 35 < 220 := by grind
        have hX54 : mSI I54 X (I54 103 35) := by rw [d35]; exact k1.S (hX.let0 f39 _)
        have k4 : mPF I1 I54 := (mPF.rfl'.u 71 _).trans k1.P
        have k9 := k3.b
        refine px_cVS (ci := 12) rfl q_X12_def_57 hg rfl trivial lk_12_346 nm_X12_emits (k_emits hg _ _ hN54) rfl rfl (px_lit hg rfl) rfl rfl rfl ⟨rfl, rfl⟩ ?_
        intro x61 I61 L61 h61
        obtain ⟨rfl, rfl, h61⟩ := h61
        have e39 := mE_f h61 (j := 39) (by decide)
        have e35 := mE_35 h61
        have e31 := mE_f h61 (j := 31) (by decide)
        have e28 := mE_f h61 (j := 28) (by decide)
        have e27 := mE_f h61 (j := 27) (by decide)
        have e26 := mE_f h61 (j := 26) (by decide)
        have eP := mE_P h61
        refine px_cVW (ci := 12) rfl q_X12_def_64 hg rfl trivial lk_12_350 nm_X12_opens (k_opens hg 1 (I54 103 35) (by unfold mTk at *; rw [mE_f h61 (j := 29) (by decide), mE_f h61 (j := 30) (by decide), e26, e27, e28]; exact k3) (by rw [e31]; exact d31) ⟨by rw [e35], hN54.1⟩ (by rw [e35, e39, e28]; grind) ⟨X, hX54.em h61 rfl⟩ (fun _ => ⟨by rw [e39]; exact d39, mE_122 h61, by rw [mE_f h61 (j := 71) (by decide), d71]; exact htl, by rw [mE_f h61 (j := 71) (by decide), d71, mE_b h61 (b := 124) (by decide) (by decide) (by decide), d124]; assumption⟩)) rfl rfl (px_lit hg rfl) rfl rfl rfl ⟨rfl, rfl⟩ ?_
        intro I68 L68 h68
        refine px_rvW rfl q_X12_def_71 rfl rfl rfl hg rfl trivial ⟨⟨rfl, rfl⟩, ?_⟩
        obtain ⟨rfl, g5, g6⟩ := h68
        exact ⟨rfl, (g4.trans (k4.trans eP)).trans g5, g6.imp id (fun q => ⟨q.1, by have := q.2; grind⟩)⟩
      · exact absurd c41 (by rw [h01]; decide)
    · refine px_cVW (ci := 12) rfl q_X12_def_32 hg rfl trivial lk_12_334 nm_X12_errs (k_errs hg _) rfl rfl (px_lit hg rfl) rfl rfl rfl ⟨rfl, rfl⟩ ?_
      intro I34 L34 h34
      obtain ⟨rfl, h34⟩ := h34
      have e9 := mErr h34 h01 (by decide)
      refine px_le rfl q_X12_def_37 hg rfl trivial (fun c41 => ?_) (fun c41 => ?_)
      · exact absurd c41 (by have := e9.2; grind)
      · refine px_rvW rfl q_X12_def_44 rfl rfl rfl hg rfl trivial ⟨⟨rfl, rfl⟩, ?_⟩
        exact ⟨rfl, g4.trans e9.1, Or.inl e9.2⟩
  · refine px_cVW (ci := 12) rfl q_X12_def_12 hg rfl trivial lk_12_334 nm_X12_errs (k_errs hg _) rfl rfl (px_lit hg rfl) rfl rfl rfl ⟨rfl, rfl⟩ ?_
    intro I14 L14 h14
    obtain ⟨rfl, h14⟩ := h14
    have e9 := mErr h14 h01 (by decide)
    refine px_le rfl q_X12_def_17 hg rfl trivial (fun c41 => ?_) (fun c41 => ?_)
    · exact absurd c41 (by have := e9.2; grind)
    · refine px_rvW rfl q_X12_def_44 rfl rfl rfl hg rfl trivial ⟨⟨rfl, rfl⟩, ?_⟩
      exact ⟨rfl, g4.trans e9.1, Or.inl e9.2⟩
end
