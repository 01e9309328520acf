-- ===== PART A: goes FIRST, ahead of the names: the tables' words, and 'selects' of the private methods out of them =====
/-- a private method of a class that the tables say can be made, by its rows of tables_1 -/
def lw_okq (q : MethodName × Nat) : Prop := (q.1.cls ≠ "java/lang/invoke/MethodHandle" ∧ q.1.cls ≠ "java/lang/invoke/VarHandle") ∧ Cond.instantiable q.1.cls q.2 ∈ tables_1 ∧ Cond.privateMethod q.1 ∈ tables_1 ∧ Cond.instanceMethod q.1 ∈ tables_1
theorem lw_p0 : lw_okq (⟨"TunnelBook$Survey", "shortenAll", "(III)Z"⟩, 9) := ⟨⟨by decide +kernel, by decide +kernel⟩, List.mem_of_getElem? (i := 28) (by decide +kernel), List.mem_of_getElem? (i := 514) (by decide +kernel), List.mem_of_getElem? (i := 515) (by decide +kernel)⟩
theorem lw_p1 : lw_okq (⟨"TunnelBook$Survey", "counts", "(III)Z"⟩, 9) := ⟨⟨by decide +kernel, by decide +kernel⟩, List.mem_of_getElem? (i := 28) (by decide +kernel), List.mem_of_getElem? (i := 518) (by decide +kernel), List.mem_of_getElem? (i := 519) (by decide +kernel)⟩
theorem lw_p2 : lw_okq (⟨"TunnelBook$Survey", "shorten", "(III)Z"⟩, 9) := ⟨⟨by decide +kernel, by decide +kernel⟩, List.mem_of_getElem? (i := 28) (by decide +kernel), List.mem_of_getElem? (i := 522) (by decide +kernel), List.mem_of_getElem? (i := 523) (by decide +kernel)⟩
theorem lw_p3 : lw_okq (⟨"TunnelBook", "galleryOf", "(I)LTunnelBook$Gallery;"⟩, 11) := ⟨⟨by decide +kernel, by decide +kernel⟩, List.mem_of_getElem? (i := 20) (by decide +kernel), List.mem_of_getElem? (i := 555) (by decide +kernel), List.mem_of_getElem? (i := 556) (by decide +kernel)⟩
theorem lw_p4 : lw_okq (⟨"TunnelBook$Gallery", "addPeg", "(I)V"⟩, 16) := ⟨⟨by decide +kernel, by decide +kernel⟩, List.mem_of_getElem? (i := 66) (by decide +kernel), List.mem_of_getElem? (i := 566) (by decide +kernel), List.mem_of_getElem? (i := 567) (by decide +kernel)⟩
theorem lw_p5 : lw_okq (⟨"TunnelBook", "marks", "()I"⟩, 11) := ⟨⟨by decide +kernel, by decide +kernel⟩, List.mem_of_getElem? (i := 20) (by decide +kernel), List.mem_of_getElem? (i := 582) (by decide +kernel), List.mem_of_getElem? (i := 583) (by decide +kernel)⟩
theorem lw_p6 : lw_okq (⟨"TunnelBook$Gallery", "dig", "()Z"⟩, 16) := ⟨⟨by decide +kernel, by decide +kernel⟩, List.mem_of_getElem? (i := 66) (by decide +kernel), List.mem_of_getElem? (i := 608) (by decide +kernel), List.mem_of_getElem? (i := 609) (by decide +kernel)⟩
theorem lw_p7 : lw_okq (⟨"TunnelBook$Tape", "goesOn", "(II)Z"⟩, 7) := ⟨⟨by decide +kernel, by decide +kernel⟩, List.mem_of_getElem? (i := 149) (by decide +kernel), List.mem_of_getElem? (i := 691) (by decide +kernel), List.mem_of_getElem? (i := 692) (by decide +kernel)⟩
theorem lw_p8 : lw_okq (⟨"TunnelBook$Tape", "addToken", "(II)V"⟩, 7) := ⟨⟨by decide +kernel, by decide +kernel⟩, List.mem_of_getElem? (i := 149) (by decide +kernel), List.mem_of_getElem? (i := 695) (by decide +kernel), List.mem_of_getElem? (i := 696) (by decide +kernel)⟩
theorem lw_p9 : lw_okq (⟨"TunnelBook$Tape", "lengthen", "(I)V"⟩, 7) := ⟨⟨by decide +kernel, by decide +kernel⟩, List.mem_of_getElem? (i := 149) (by decide +kernel), List.mem_of_getElem? (i := 699) (by decide +kernel), List.mem_of_getElem? (i := 700) (by decide +kernel)⟩
theorem lw_p10 : lw_okq (⟨"TunnelBook$Reader", "begin", "()V"⟩, 16) := ⟨⟨by decide +kernel, by decide +kernel⟩, List.mem_of_getElem? (i := 183) (by decide +kernel), List.mem_of_getElem? (i := 705) (by decide +kernel), List.mem_of_getElem? (i := 706) (by decide +kernel)⟩
theorem lw_p11 : lw_okq (⟨"TunnelBook$Reader", "nextToken", "()V"⟩, 16) := ⟨⟨by decide +kernel, by decide +kernel⟩, List.mem_of_getElem? (i := 183) (by decide +kernel), List.mem_of_getElem? (i := 709) (by decide +kernel), List.mem_of_getElem? (i := 710) (by decide +kernel)⟩
theorem lw_p12 : lw_okq (⟨"TunnelBook$Reader", "closeBlock", "()V"⟩, 16) := ⟨⟨by decide +kernel, by decide +kernel⟩, List.mem_of_getElem? (i := 183) (by decide +kernel), List.mem_of_getElem? (i := 713) (by decide +kernel), List.mem_of_getElem? (i := 714) (by decide +kernel)⟩
theorem lw_p13 : lw_okq (⟨"TunnelBook$Reader", "fail", "(I)V"⟩, 16) := ⟨⟨by decide +kernel, by decide +kernel⟩, List.mem_of_getElem? (i := 183) (by decide +kernel), List.mem_of_getElem? (i := 718) (by decide +kernel), List.mem_of_getElem? (i := 719) (by decide +kernel)⟩
theorem lw_p14 : lw_okq (⟨"TunnelBook$Reader", "closeDef", "(I)V"⟩, 16) := ⟨⟨by decide +kernel, by decide +kernel⟩, List.mem_of_getElem? (i := 183) (by decide +kernel), List.mem_of_getElem? (i := 722) (by decide +kernel), List.mem_of_getElem? (i := 723) (by decide +kernel)⟩
theorem lw_p15 : lw_okq (⟨"TunnelBook$Reader", "addSteps", "(I)V"⟩, 16) := ⟨⟨by decide +kernel, by decide +kernel⟩, List.mem_of_getElem? (i := 183) (by decide +kernel), List.mem_of_getElem? (i := 730) (by decide +kernel), List.mem_of_getElem? (i := 731) (by decide +kernel)⟩
def lw_privs_1 : List (MethodName × Nat) := [(⟨"TunnelBook$Survey", "shortenAll", "(III)Z"⟩, 9), (⟨"TunnelBook$Survey", "counts", "(III)Z"⟩, 9), (⟨"TunnelBook$Survey", "shorten", "(III)Z"⟩, 9), (⟨"TunnelBook", "galleryOf", "(I)LTunnelBook$Gallery;"⟩, 11), (⟨"TunnelBook$Gallery", "addPeg", "(I)V"⟩, 16), (⟨"TunnelBook", "marks", "()I"⟩, 11), (⟨"TunnelBook$Gallery", "dig", "()Z"⟩, 16), (⟨"TunnelBook$Tape", "goesOn", "(II)Z"⟩, 7), (⟨"TunnelBook$Tape", "addToken", "(II)V"⟩, 7), (⟨"TunnelBook$Tape", "lengthen", "(I)V"⟩, 7), (⟨"TunnelBook$Reader", "begin", "()V"⟩, 16), (⟨"TunnelBook$Reader", "nextToken", "()V"⟩, 16), (⟨"TunnelBook$Reader", "closeBlock", "()V"⟩, 16), (⟨"TunnelBook$Reader", "fail", "(I)V"⟩, 16), (⟨"TunnelBook$Reader", "closeDef", "(I)V"⟩, 16), (⟨"TunnelBook$Reader", "addSteps", "(I)V"⟩, 16)]
theorem lw_r1 : ∀ q ∈ lw_privs_1, lw_okq q := List.forall_mem_cons.mpr ⟨lw_p0, List.forall_mem_cons.mpr ⟨lw_p1, List.forall_mem_cons.mpr ⟨lw_p2, List.forall_mem_cons.mpr ⟨lw_p3, List.forall_mem_cons.mpr ⟨lw_p4, List.forall_mem_cons.mpr ⟨lw_p5, List.forall_mem_cons.mpr ⟨lw_p6, List.forall_mem_cons.mpr ⟨lw_p7, List.forall_mem_cons.mpr ⟨lw_p8, List.forall_mem_cons.mpr ⟨lw_p9, List.forall_mem_cons.mpr ⟨lw_p10, List.forall_mem_cons.mpr ⟨lw_p11, List.forall_mem_cons.mpr ⟨lw_p12, List.forall_mem_cons.mpr ⟨lw_p13, List.forall_mem_cons.mpr ⟨lw_p14, List.forall_mem_cons.mpr ⟨lw_p15, fun _ h => absurd h List.not_mem_nil⟩⟩⟩⟩⟩⟩⟩⟩⟩⟩⟩⟩⟩⟩⟩⟩
theorem lw_p16 : lw_okq (⟨"TunnelBook$Reader", "readPart", "()V"⟩, 16) := ⟨⟨by decide +kernel, by decide +kernel⟩, List.mem_of_getElem? (i := 183) (by decide +kernel), List.mem_of_getElem? (i := 735) (by decide +kernel), List.mem_of_getElem? (i := 736) (by decide +kernel)⟩
theorem lw_p17 : lw_okq (⟨"TunnelBook$Reader", "readStep", "(III)V"⟩, 16) := ⟨⟨by decide +kernel, by decide +kernel⟩, List.mem_of_getElem? (i := 183) (by decide +kernel), List.mem_of_getElem? (i := 792) (by decide +kernel), List.mem_of_getElem? (i := 793) (by decide +kernel)⟩
theorem lw_p18 : lw_okq (⟨"TunnelBook$Reader", "takeNumber", "(II)V"⟩, 16) := ⟨⟨by decide +kernel, by decide +kernel⟩, List.mem_of_getElem? (i := 183) (by decide +kernel), List.mem_of_getElem? (i := 796) (by decide +kernel), List.mem_of_getElem? (i := 797) (by decide +kernel)⟩
theorem lw_p19 : lw_okq (⟨"TunnelBook$Reader", "take", "(I)V"⟩, 16) := ⟨⟨by decide +kernel, by decide +kernel⟩, List.mem_of_getElem? (i := 183) (by decide +kernel), List.mem_of_getElem? (i := 800) (by decide +kernel), List.mem_of_getElem? (i := 801) (by decide +kernel)⟩
theorem lw_p20 : lw_okq (⟨"TunnelBook$Reader", "readBareStep", "(I)V"⟩, 16) := ⟨⟨by decide +kernel, by decide +kernel⟩, List.mem_of_getElem? (i := 183) (by decide +kernel), List.mem_of_getElem? (i := 809) (by decide +kernel), List.mem_of_getElem? (i := 810) (by decide +kernel)⟩
theorem lw_p21 : lw_okq (⟨"TunnelBook$Reader", "readDo", "()V"⟩, 16) := ⟨⟨by decide +kernel, by decide +kernel⟩, List.mem_of_getElem? (i := 183) (by decide +kernel), List.mem_of_getElem? (i := 815) (by decide +kernel), List.mem_of_getElem? (i := 816) (by decide +kernel)⟩
theorem lw_p22 : lw_okq (⟨"TunnelBook$Reader", "takeLetter", "(Z)I"⟩, 16) := ⟨⟨by decide +kernel, by decide +kernel⟩, List.mem_of_getElem? (i := 183) (by decide +kernel), List.mem_of_getElem? (i := 819) (by decide +kernel), List.mem_of_getElem? (i := 820) (by decide +kernel)⟩
theorem lw_p23 : lw_okq (⟨"TunnelBook$Reader", "letterHere", "()I"⟩, 16) := ⟨⟨by decide +kernel, by decide +kernel⟩, List.mem_of_getElem? (i := 183) (by decide +kernel), List.mem_of_getElem? (i := 823) (by decide +kernel), List.mem_of_getElem? (i := 824) (by decide +kernel)⟩
theorem lw_p24 : lw_okq (⟨"TunnelBook$Reader", "readRepeat", "()V"⟩, 16) := ⟨⟨by decide +kernel, by decide +kernel⟩, List.mem_of_getElem? (i := 183) (by decide +kernel), List.mem_of_getElem? (i := 829) (by decide +kernel), List.mem_of_getElem? (i := 830) (by decide +kernel)⟩
theorem lw_p25 : lw_okq (⟨"TunnelBook$Reader", "takeOpening", "()V"⟩, 16) := ⟨⟨by decide +kernel, by decide +kernel⟩, List.mem_of_getElem? (i := 183) (by decide +kernel), List.mem_of_getElem? (i := 833) (by decide +kernel), List.mem_of_getElem? (i := 834) (by decide +kernel)⟩
theorem lw_p26 : lw_okq (⟨"TunnelBook$Reader", "openBlock", "(I)V"⟩, 16) := ⟨⟨by decide +kernel, by decide +kernel⟩, List.mem_of_getElem? (i := 183) (by decide +kernel), List.mem_of_getElem? (i := 837) (by decide +kernel), List.mem_of_getElem? (i := 838) (by decide +kernel)⟩
theorem lw_p27 : lw_okq (⟨"TunnelBook$Reader", "readDef", "()V"⟩, 16) := ⟨⟨by decide +kernel, by decide +kernel⟩, List.mem_of_getElem? (i := 183) (by decide +kernel), List.mem_of_getElem? (i := 842) (by decide +kernel), List.mem_of_getElem? (i := 843) (by decide +kernel)⟩
theorem lw_p28 : lw_okq (⟨"TunnelBook$Walk", "begin", "(I)V"⟩, 18) := ⟨⟨by decide +kernel, by decide +kernel⟩, List.mem_of_getElem? (i := 274) (by decide +kernel), List.mem_of_getElem? (i := 888) (by decide +kernel), List.mem_of_getElem? (i := 889) (by decide +kernel)⟩
theorem lw_p29 : lw_okq (⟨"TunnelBook$Walk", "follow", "(III)I"⟩, 18) := ⟨⟨by decide +kernel, by decide +kernel⟩, List.mem_of_getElem? (i := 274) (by decide +kernel), List.mem_of_getElem? (i := 894) (by decide +kernel), List.mem_of_getElem? (i := 895) (by decide +kernel)⟩
theorem lw_p30 : lw_okq (⟨"TunnelBook$Walk", "push", "(II)V"⟩, 18) := ⟨⟨by decide +kernel, by decide +kernel⟩, List.mem_of_getElem? (i := 274) (by decide +kernel), List.mem_of_getElem? (i := 898) (by decide +kernel), List.mem_of_getElem? (i := 899) (by decide +kernel)⟩
theorem lw_p31 : lw_okq (⟨"TunnelBook$Walk", "turnBack", "(I)I"⟩, 18) := ⟨⟨by decide +kernel, by decide +kernel⟩, List.mem_of_getElem? (i := 274) (by decide +kernel), List.mem_of_getElem? (i := 902) (by decide +kernel), List.mem_of_getElem? (i := 903) (by decide +kernel)⟩
def lw_privs_2 : List (MethodName × Nat) := [(⟨"TunnelBook$Reader", "readPart", "()V"⟩, 16), (⟨"TunnelBook$Reader", "readStep", "(III)V"⟩, 16), (⟨"TunnelBook$Reader", "takeNumber", "(II)V"⟩, 16), (⟨"TunnelBook$Reader", "take", "(I)V"⟩, 16), (⟨"TunnelBook$Reader", "readBareStep", "(I)V"⟩, 16), (⟨"TunnelBook$Reader", "readDo", "()V"⟩, 16), (⟨"TunnelBook$Reader", "takeLetter", "(Z)I"⟩, 16), (⟨"TunnelBook$Reader", "letterHere", "()I"⟩, 16), (⟨"TunnelBook$Reader", "readRepeat", "()V"⟩, 16), (⟨"TunnelBook$Reader", "takeOpening", "()V"⟩, 16), (⟨"TunnelBook$Reader", "openBlock", "(I)V"⟩, 16), (⟨"TunnelBook$Reader", "readDef", "()V"⟩, 16), (⟨"TunnelBook$Walk", "begin", "(I)V"⟩, 18), (⟨"TunnelBook$Walk", "follow", "(III)I"⟩, 18), (⟨"TunnelBook$Walk", "push", "(II)V"⟩, 18), (⟨"TunnelBook$Walk", "turnBack", "(I)I"⟩, 18)]
theorem lw_r2 : ∀ q ∈ lw_privs_2, lw_okq q := List.forall_mem_cons.mpr ⟨lw_p16, List.forall_mem_cons.mpr ⟨lw_p17, List.forall_mem_cons.mpr ⟨lw_p18, List.forall_mem_cons.mpr ⟨lw_p19, List.forall_mem_cons.mpr ⟨lw_p20, List.forall_mem_cons.mpr ⟨lw_p21, List.forall_mem_cons.mpr ⟨lw_p22, List.forall_mem_cons.mpr ⟨lw_p23, List.forall_mem_cons.mpr ⟨lw_p24, List.forall_mem_cons.mpr ⟨lw_p25, List.forall_mem_cons.mpr ⟨lw_p26, List.forall_mem_cons.mpr ⟨lw_p27, List.forall_mem_cons.mpr ⟨lw_p28, List.forall_mem_cons.mpr ⟨lw_p29, List.forall_mem_cons.mpr ⟨lw_p30, List.forall_mem_cons.mpr ⟨lw_p31, fun _ h => absurd h List.not_mem_nil⟩⟩⟩⟩⟩⟩⟩⟩⟩⟩⟩⟩⟩⟩⟩⟩
theorem lw_p32 : lw_okq (⟨"TunnelBook$Walk", "pop", "(I)I"⟩, 18) := ⟨⟨by decide +kernel, by decide +kernel⟩, List.mem_of_getElem? (i := 274) (by decide +kernel), List.mem_of_getElem? (i := 906) (by decide +kernel), List.mem_of_getElem? (i := 907) (by decide +kernel)⟩
theorem lw_p33 : lw_okq (⟨"TunnelBook$Walk", "step", "(II)V"⟩, 18) := ⟨⟨by decide +kernel, by decide +kernel⟩, List.mem_of_getElem? (i := 274) (by decide +kernel), List.mem_of_getElem? (i := 910) (by decide +kernel), List.mem_of_getElem? (i := 911) (by decide +kernel)⟩
theorem lw_p34 : lw_okq (⟨"TunnelBook$Walk", "layLine", "(I)V"⟩, 18) := ⟨⟨by decide +kernel, by decide +kernel⟩, List.mem_of_getElem? (i := 274) (by decide +kernel), List.mem_of_getElem? (i := 914) (by decide +kernel), List.mem_of_getElem? (i := 915) (by decide +kernel)⟩
theorem lw_p35 : lw_okq (⟨"TunnelBook$Walk", "staysNear", "()Z"⟩, 18) := ⟨⟨by decide +kernel, by decide +kernel⟩, List.mem_of_getElem? (i := 274) (by decide +kernel), List.mem_of_getElem? (i := 932) (by decide +kernel), List.mem_of_getElem? (i := 933) (by decide +kernel)⟩
theorem lw_p36 : lw_okq (⟨"TunnelBook$Runs", "keep", "(I)V"⟩, 4) := ⟨⟨by decide +kernel, by decide +kernel⟩, List.mem_of_getElem? (i := 268) (by decide +kernel), List.mem_of_getElem? (i := 940) (by decide +kernel), List.mem_of_getElem? (i := 941) (by decide +kernel)⟩
theorem lw_p37 : lw_okq (⟨"TunnelBook", "canMeet", "(IIII)Z"⟩, 11) := ⟨⟨by decide +kernel, by decide +kernel⟩, List.mem_of_getElem? (i := 20) (by decide +kernel), List.mem_of_getElem? (i := 954) (by decide +kernel), List.mem_of_getElem? (i := 955) (by decide +kernel)⟩
theorem lw_p38 : lw_okq (⟨"TunnelBook$Search", "startAt", "(IJJ)V"⟩, 6) := ⟨⟨by decide +kernel, by decide +kernel⟩, List.mem_of_getElem? (i := 387) (by decide +kernel), List.mem_of_getElem? (i := 1018) (by decide +kernel), List.mem_of_getElem? (i := 1019) (by decide +kernel)⟩
theorem lw_p39 : lw_okq (⟨"TunnelBook$Search", "clearNext", "(J)V"⟩, 6) := ⟨⟨by decide +kernel, by decide +kernel⟩, List.mem_of_getElem? (i := 387) (by decide +kernel), List.mem_of_getElem? (i := 1022) (by decide +kernel), List.mem_of_getElem? (i := 1023) (by decide +kernel)⟩
theorem lw_p40 : lw_okq (⟨"TunnelBook$Search", "spread", "(II)V"⟩, 6) := ⟨⟨by decide +kernel, by decide +kernel⟩, List.mem_of_getElem? (i := 387) (by decide +kernel), List.mem_of_getElem? (i := 1026) (by decide +kernel), List.mem_of_getElem? (i := 1027) (by decide +kernel)⟩
theorem lw_p41 : lw_okq (⟨"TunnelBook$Search", "pulled", "(II)I"⟩, 6) := ⟨⟨by decide +kernel, by decide +kernel⟩, List.mem_of_getElem? (i := 387) (by decide +kernel), List.mem_of_getElem? (i := 1030) (by decide +kernel), List.mem_of_getElem? (i := 1031) (by decide +kernel)⟩
theorem lw_p42 : lw_okq (⟨"TunnelBook$Search", "swap", "()V"⟩, 6) := ⟨⟨by decide +kernel, by decide +kernel⟩, List.mem_of_getElem? (i := 387) (by decide +kernel), List.mem_of_getElem? (i := 1036) (by decide +kernel), List.mem_of_getElem? (i := 1037) (by decide +kernel)⟩
theorem lw_p43 : lw_okq (⟨"TunnelBook$Search", "misses", "(I)Z"⟩, 6) := ⟨⟨by decide +kernel, by decide +kernel⟩, List.mem_of_getElem? (i := 387) (by decide +kernel), List.mem_of_getElem? (i := 1040) (by decide +kernel), List.mem_of_getElem? (i := 1041) (by decide +kernel)⟩
theorem lw_p44 : lw_okq (⟨"TunnelBook$Search", "prolong", "(IIZ)V"⟩, 6) := ⟨⟨by decide +kernel, by decide +kernel⟩, List.mem_of_getElem? (i := 387) (by decide +kernel), List.mem_of_getElem? (i := 1057) (by decide +kernel), List.mem_of_getElem? (i := 1058) (by decide +kernel)⟩
theorem lw_p45 : lw_okq (⟨"TunnelBook", "repairs", "()I"⟩, 11) := ⟨⟨by decide +kernel, by decide +kernel⟩, List.mem_of_getElem? (i := 20) (by decide +kernel), List.mem_of_getElem? (i := 1081) (by decide +kernel), List.mem_of_getElem? (i := 1082) (by decide +kernel)⟩
theorem lw_p46 : lw_okq (⟨"TunnelBook$Channel", "letThrough", "(LTunnelBook$Gallery;IIIZ)I"⟩, 4) := ⟨⟨by decide +kernel, by decide +kernel⟩, List.mem_of_getElem? (i := 412) (by decide +kernel), List.mem_of_getElem? (i := 1101) (by decide +kernel), List.mem_of_getElem? (i := 1102) (by decide +kernel)⟩
theorem lw_p47 : lw_okq (⟨"TunnelBookModel", "isStation", "(I)Z"⟩, 77) := ⟨⟨by decide +kernel, by decide +kernel⟩, List.mem_of_getElem? (i := 1139) (by decide +kernel), List.mem_of_getElem? (i := 1397) (by decide +kernel), List.mem_of_getElem? (i := 1398) (by decide +kernel)⟩
def lw_privs_3 : List (MethodName × Nat) := [(⟨"TunnelBook$Walk", "pop", "(I)I"⟩, 18), (⟨"TunnelBook$Walk", "step", "(II)V"⟩, 18), (⟨"TunnelBook$Walk", "layLine", "(I)V"⟩, 18), (⟨"TunnelBook$Walk", "staysNear", "()Z"⟩, 18), (⟨"TunnelBook$Runs", "keep", "(I)V"⟩, 4), (⟨"TunnelBook", "canMeet", "(IIII)Z"⟩, 11), (⟨"TunnelBook$Search", "startAt", "(IJJ)V"⟩, 6), (⟨"TunnelBook$Search", "clearNext", "(J)V"⟩, 6), (⟨"TunnelBook$Search", "spread", "(II)V"⟩, 6), (⟨"TunnelBook$Search", "pulled", "(II)I"⟩, 6), (⟨"TunnelBook$Search", "swap", "()V"⟩, 6), (⟨"TunnelBook$Search", "misses", "(I)Z"⟩, 6), (⟨"TunnelBook$Search", "prolong", "(IIZ)V"⟩, 6), (⟨"TunnelBook", "repairs", "()I"⟩, 11), (⟨"TunnelBook$Channel", "letThrough", "(LTunnelBook$Gallery;IIIZ)I"⟩, 4), (⟨"TunnelBookModel", "isStation", "(I)Z"⟩, 77)]
theorem lw_r3 : ∀ q ∈ lw_privs_3, lw_okq q := List.forall_mem_cons.mpr ⟨lw_p32, List.forall_mem_cons.mpr ⟨lw_p33, List.forall_mem_cons.mpr ⟨lw_p34, List.forall_mem_cons.mpr ⟨lw_p35, List.forall_mem_cons.mpr ⟨lw_p36, List.forall_mem_cons.mpr ⟨lw_p37, List.forall_mem_cons.mpr ⟨lw_p38, List.forall_mem_cons.mpr ⟨lw_p39, List.forall_mem_cons.mpr ⟨lw_p40, List.forall_mem_cons.mpr ⟨lw_p41, List.forall_mem_cons.mpr ⟨lw_p42, List.forall_mem_cons.mpr ⟨lw_p43, List.forall_mem_cons.mpr ⟨lw_p44, List.forall_mem_cons.mpr ⟨lw_p45, List.forall_mem_cons.mpr ⟨lw_p46, List.forall_mem_cons.mpr ⟨lw_p47, fun _ h => absurd h List.not_mem_nil⟩⟩⟩⟩⟩⟩⟩⟩⟩⟩⟩⟩⟩⟩⟩⟩
theorem lw_p48 : lw_okq (⟨"TunnelBookModel", "isClosed", "(III)Z"⟩, 77) := ⟨⟨by decide +kernel, by decide +kernel⟩, List.mem_of_getElem? (i := 1139) (by decide +kernel), List.mem_of_getElem? (i := 1411) (by decide +kernel), List.mem_of_getElem? (i := 1412) (by decide +kernel)⟩
theorem lw_p49 : lw_okq (⟨"TunnelBookModel", "begins", "(I)V"⟩, 77) := ⟨⟨by decide +kernel, by decide +kernel⟩, List.mem_of_getElem? (i := 1139) (by decide +kernel), List.mem_of_getElem? (i := 1415) (by decide +kernel), List.mem_of_getElem? (i := 1416) (by decide +kernel)⟩
theorem lw_p50 : lw_okq (⟨"TunnelBookModel", "bounds", "(IIJ)V"⟩, 77) := ⟨⟨by decide +kernel, by decide +kernel⟩, List.mem_of_getElem? (i := 1139) (by decide +kernel), List.mem_of_getElem? (i := 1420) (by decide +kernel), List.mem_of_getElem? (i := 1421) (by decide +kernel)⟩
theorem lw_p51 : lw_okq (⟨"TunnelBookModel", "closes", "()Z"⟩, 77) := ⟨⟨by decide +kernel, by decide +kernel⟩, List.mem_of_getElem? (i := 1139) (by decide +kernel), List.mem_of_getElem? (i := 1424) (by decide +kernel), List.mem_of_getElem? (i := 1425) (by decide +kernel)⟩
theorem lw_p52 : lw_okq (⟨"TunnelBookModel", "gapOf", "(IIZ)I"⟩, 77) := ⟨⟨by decide +kernel, by decide +kernel⟩, List.mem_of_getElem? (i := 1139) (by decide +kernel), List.mem_of_getElem? (i := 1433) (by decide +kernel), List.mem_of_getElem? (i := 1434) (by decide +kernel)⟩
theorem lw_p53 : lw_okq (⟨"TunnelBookModel", "isPeg", "(II)Z"⟩, 77) := ⟨⟨by decide +kernel, by decide +kernel⟩, List.mem_of_getElem? (i := 1139) (by decide +kernel), List.mem_of_getElem? (i := 1461) (by decide +kernel), List.mem_of_getElem? (i := 1462) (by decide +kernel)⟩
theorem lw_p54 : lw_okq (⟨"TunnelBookModel", "isDug", "(I)Z"⟩, 77) := ⟨⟨by decide +kernel, by decide +kernel⟩, List.mem_of_getElem? (i := 1139) (by decide +kernel), List.mem_of_getElem? (i := 1470) (by decide +kernel), List.mem_of_getElem? (i := 1471) (by decide +kernel)⟩
theorem lw_p55 : lw_okq (⟨"TunnelBookModel", "put", "(I)V"⟩, 77) := ⟨⟨by decide +kernel, by decide +kernel⟩, List.mem_of_getElem? (i := 1139) (by decide +kernel), List.mem_of_getElem? (i := 1496) (by decide +kernel), List.mem_of_getElem? (i := 1497) (by decide +kernel)⟩
theorem lw_p56 : lw_okq (⟨"TunnelBookModel", "next", "()V"⟩, 77) := ⟨⟨by decide +kernel, by decide +kernel⟩, List.mem_of_getElem? (i := 1139) (by decide +kernel), List.mem_of_getElem? (i := 1509) (by decide +kernel), List.mem_of_getElem? (i := 1510) (by decide +kernel)⟩
theorem lw_p57 : lw_okq (⟨"TunnelBookModel", "isSign", "(I)Z"⟩, 77) := ⟨⟨by decide +kernel, by decide +kernel⟩, List.mem_of_getElem? (i := 1139) (by decide +kernel), List.mem_of_getElem? (i := 1537) (by decide +kernel), List.mem_of_getElem? (i := 1538) (by decide +kernel)⟩
theorem lw_p58 : lw_okq (⟨"TunnelBookModel", "closesBrace", "()V"⟩, 77) := ⟨⟨by decide +kernel, by decide +kernel⟩, List.mem_of_getElem? (i := 1139) (by decide +kernel), List.mem_of_getElem? (i := 1541) (by decide +kernel), List.mem_of_getElem? (i := 1542) (by decide +kernel)⟩
theorem lw_p59 : lw_okq (⟨"TunnelBookModel", "emits", "(II)I"⟩, 77) := ⟨⟨by decide +kernel, by decide +kernel⟩, List.mem_of_getElem? (i := 1139) (by decide +kernel), List.mem_of_getElem? (i := 1545) (by decide +kernel), List.mem_of_getElem? (i := 1546) (by decide +kernel)⟩
theorem lw_p60 : lw_okq (⟨"TunnelBookModel", "errs", "(I)V"⟩, 77) := ⟨⟨by decide +kernel, by decide +kernel⟩, List.mem_of_getElem? (i := 1139) (by decide +kernel), List.mem_of_getElem? (i := 1549) (by decide +kernel), List.mem_of_getElem? (i := 1550) (by decide +kernel)⟩
theorem lw_p61 : lw_okq (⟨"TunnelBookModel", "def", "()V"⟩, 77) := ⟨⟨by decide +kernel, by decide +kernel⟩, List.mem_of_getElem? (i := 1139) (by decide +kernel), List.mem_of_getElem? (i := 1553) (by decide +kernel), List.mem_of_getElem? (i := 1554) (by decide +kernel)⟩
theorem lw_p62 : lw_okq (⟨"TunnelBookModel", "opens", "(ZI)V"⟩, 77) := ⟨⟨by decide +kernel, by decide +kernel⟩, List.mem_of_getElem? (i := 1139) (by decide +kernel), List.mem_of_getElem? (i := 1557) (by decide +kernel), List.mem_of_getElem? (i := 1558) (by decide +kernel)⟩
theorem lw_p63 : lw_okq (⟨"TunnelBookModel", "step", "()V"⟩, 77) := ⟨⟨by decide +kernel, by decide +kernel⟩, List.mem_of_getElem? (i := 1139) (by decide +kernel), List.mem_of_getElem? (i := 1561) (by decide +kernel), List.mem_of_getElem? (i := 1562) (by decide +kernel)⟩
def lw_privs_4 : List (MethodName × Nat) := [(⟨"TunnelBookModel", "isClosed", "(III)Z"⟩, 77), (⟨"TunnelBookModel", "begins", "(I)V"⟩, 77), (⟨"TunnelBookModel", "bounds", "(IIJ)V"⟩, 77), (⟨"TunnelBookModel", "closes", "()Z"⟩, 77), (⟨"TunnelBookModel", "gapOf", "(IIZ)I"⟩, 77), (⟨"TunnelBookModel", "isPeg", "(II)Z"⟩, 77), (⟨"TunnelBookModel", "isDug", "(I)Z"⟩, 77), (⟨"TunnelBookModel", "put", "(I)V"⟩, 77), (⟨"TunnelBookModel", "next", "()V"⟩, 77), (⟨"TunnelBookModel", "isSign", "(I)Z"⟩, 77), (⟨"TunnelBookModel", "closesBrace", "()V"⟩, 77), (⟨"TunnelBookModel", "emits", "(II)I"⟩, 77), (⟨"TunnelBookModel", "errs", "(I)V"⟩, 77), (⟨"TunnelBookModel", "def", "()V"⟩, 77), (⟨"TunnelBookModel", "opens", "(ZI)V"⟩, 77), (⟨"TunnelBookModel", "step", "()V"⟩, 77)]
theorem lw_r4 : ∀ q ∈ lw_privs_4, lw_okq q := List.forall_mem_cons.mpr ⟨lw_p48, List.forall_mem_cons.mpr ⟨lw_p49, List.forall_mem_cons.mpr ⟨lw_p50, List.forall_mem_cons.mpr ⟨lw_p51, List.forall_mem_cons.mpr ⟨lw_p52, List.forall_mem_cons.mpr ⟨lw_p53, List.forall_mem_cons.mpr ⟨lw_p54, List.forall_mem_cons.mpr ⟨lw_p55, List.forall_mem_cons.mpr ⟨lw_p56, List.forall_mem_cons.mpr ⟨lw_p57, List.forall_mem_cons.mpr ⟨lw_p58, List.forall_mem_cons.mpr ⟨lw_p59, List.forall_mem_cons.mpr ⟨lw_p60, List.forall_mem_cons.mpr ⟨lw_p61, List.forall_mem_cons.mpr ⟨lw_p62, List.forall_mem_cons.mpr ⟨lw_p63, fun _ h => absurd h List.not_mem_nil⟩⟩⟩⟩⟩⟩⟩⟩⟩⟩⟩⟩⟩⟩⟩⟩
theorem lw_p64 : lw_okq (⟨"TunnelBookModel", "stepIsOver", "()V"⟩, 77) := ⟨⟨by decide +kernel, by decide +kernel⟩, List.mem_of_getElem? (i := 1139) (by decide +kernel), List.mem_of_getElem? (i := 1565) (by decide +kernel), List.mem_of_getElem? (i := 1566) (by decide +kernel)⟩
theorem lw_p65 : lw_okq (⟨"TunnelBookModel", "numbered", "(I)V"⟩, 77) := ⟨⟨by decide +kernel, by decide +kernel⟩, List.mem_of_getElem? (i := 1139) (by decide +kernel), List.mem_of_getElem? (i := 1569) (by decide +kernel), List.mem_of_getElem? (i := 1570) (by decide +kernel)⟩
theorem lw_p66 : lw_okq (⟨"TunnelBookModel", "isWay", "(I)Z"⟩, 77) := ⟨⟨by decide +kernel, by decide +kernel⟩, List.mem_of_getElem? (i := 1139) (by decide +kernel), List.mem_of_getElem? (i := 1586) (by decide +kernel), List.mem_of_getElem? (i := 1587) (by decide +kernel)⟩
theorem lw_p67 : lw_okq (⟨"TunnelBookModel", "runs", "(II)Z"⟩, 77) := ⟨⟨by decide +kernel, by decide +kernel⟩, List.mem_of_getElem? (i := 1139) (by decide +kernel), List.mem_of_getElem? (i := 1592) (by decide +kernel), List.mem_of_getElem? (i := 1593) (by decide +kernel)⟩
theorem lw_p68 : lw_okq (⟨"TunnelBookModel", "does", "(II)V"⟩, 77) := ⟨⟨by decide +kernel, by decide +kernel⟩, List.mem_of_getElem? (i := 1139) (by decide +kernel), List.mem_of_getElem? (i := 1596) (by decide +kernel), List.mem_of_getElem? (i := 1597) (by decide +kernel)⟩
theorem lw_p69 : lw_okq (⟨"TunnelBookModel", "goesOn", "(I)V"⟩, 77) := ⟨⟨by decide +kernel, by decide +kernel⟩, List.mem_of_getElem? (i := 1139) (by decide +kernel), List.mem_of_getElem? (i := 1600) (by decide +kernel), List.mem_of_getElem? (i := 1601) (by decide +kernel)⟩
theorem lw_p70 : lw_okq (⟨"TunnelBookModel", "isBeyond", "()Z"⟩, 77) := ⟨⟨by decide +kernel, by decide +kernel⟩, List.mem_of_getElem? (i := 1139) (by decide +kernel), List.mem_of_getElem? (i := 1615) (by decide +kernel), List.mem_of_getElem? (i := 1616) (by decide +kernel)⟩
theorem lw_p71 : lw_okq (⟨"TunnelBookModel", "areAsked", "(IIII)Z"⟩, 77) := ⟨⟨by decide +kernel, by decide +kernel⟩, List.mem_of_getElem? (i := 1139) (by decide +kernel), List.mem_of_getElem? (i := 1625) (by decide +kernel), List.mem_of_getElem? (i := 1626) (by decide +kernel)⟩
theorem lw_p72 : lw_okq (⟨"TunnelBookModel", "runsBoth", "(II)V"⟩, 77) := ⟨⟨by decide +kernel, by decide +kernel⟩, List.mem_of_getElem? (i := 1139) (by decide +kernel), List.mem_of_getElem? (i := 1633) (by decide +kernel), List.mem_of_getElem? (i := 1634) (by decide +kernel)⟩
theorem lw_p73 : lw_okq (⟨"TunnelBookModel", "meets", "(IIIZ)J"⟩, 77) := ⟨⟨by decide +kernel, by decide +kernel⟩, List.mem_of_getElem? (i := 1139) (by decide +kernel), List.mem_of_getElem? (i := 1637) (by decide +kernel), List.mem_of_getElem? (i := 1638) (by decide +kernel)⟩
theorem lw_p74 : lw_okq (⟨"TunnelBookModel", "off", "(III)I"⟩, 77) := ⟨⟨by decide +kernel, by decide +kernel⟩, List.mem_of_getElem? (i := 1139) (by decide +kernel), List.mem_of_getElem? (i := 1670) (by decide +kernel), List.mem_of_getElem? (i := 1671) (by decide +kernel)⟩
theorem lw_p75 : lw_okq (⟨"TunnelBookModel", "isFlow", "(III)Z"⟩, 77) := ⟨⟨by decide +kernel, by decide +kernel⟩, List.mem_of_getElem? (i := 1139) (by decide +kernel), List.mem_of_getElem? (i := 1694) (by decide +kernel), List.mem_of_getElem? (i := 1695) (by decide +kernel)⟩
theorem lw_p76 : lw_okq (⟨"TunnelBookModel", "narrowest", "(IIIZ)I"⟩, 77) := ⟨⟨by decide +kernel, by decide +kernel⟩, List.mem_of_getElem? (i := 1139) (by decide +kernel), List.mem_of_getElem? (i := 1698) (by decide +kernel), List.mem_of_getElem? (i := 1699) (by decide +kernel)⟩
theorem lw_p77 : lw_okq (⟨"TunnelBookModel", "letsBy", "(IIIIZ)I"⟩, 77) := ⟨⟨by decide +kernel, by decide +kernel⟩, List.mem_of_getElem? (i := 1139) (by decide +kernel), List.mem_of_getElem? (i := 1702) (by decide +kernel), List.mem_of_getElem? (i := 1703) (by decide +kernel)⟩
theorem lw_p78 : lw_okq (⟨"TunnelBookModel", "widthOf", "(IIII)I"⟩, 77) := ⟨⟨by decide +kernel, by decide +kernel⟩, List.mem_of_getElem? (i := 1139) (by decide +kernel), List.mem_of_getElem? (i := 1709) (by decide +kernel), List.mem_of_getElem? (i := 1710) (by decide +kernel)⟩
theorem lw_p79 : lw_okq (⟨"TunnelBookModel", "lets", "(JI)I"⟩, 77) := ⟨⟨by decide +kernel, by decide +kernel⟩, List.mem_of_getElem? (i := 1139) (by decide +kernel), List.mem_of_getElem? (i := 1713) (by decide +kernel), List.mem_of_getElem? (i := 1714) (by decide +kernel)⟩
def lw_privs_5 : List (MethodName × Nat) := [(⟨"TunnelBookModel", "stepIsOver", "()V"⟩, 77), (⟨"TunnelBookModel", "numbered", "(I)V"⟩, 77), (⟨"TunnelBookModel", "isWay", "(I)Z"⟩, 77), (⟨"TunnelBookModel", "runs", "(II)Z"⟩, 77), (⟨"TunnelBookModel", "does", "(II)V"⟩, 77), (⟨"TunnelBookModel", "goesOn", "(I)V"⟩, 77), (⟨"TunnelBookModel", "isBeyond", "()Z"⟩, 77), (⟨"TunnelBookModel", "areAsked", "(IIII)Z"⟩, 77), (⟨"TunnelBookModel", "runsBoth", "(II)V"⟩, 77), (⟨"TunnelBookModel", "meets", "(IIIZ)J"⟩, 77), (⟨"TunnelBookModel", "off", "(III)I"⟩, 77), (⟨"TunnelBookModel", "isFlow", "(III)Z"⟩, 77), (⟨"TunnelBookModel", "narrowest", "(IIIZ)I"⟩, 77), (⟨"TunnelBookModel", "letsBy", "(IIIIZ)I"⟩, 77), (⟨"TunnelBookModel", "widthOf", "(IIII)I"⟩, 77), (⟨"TunnelBookModel", "lets", "(JI)I"⟩, 77)]
theorem lw_r5 : ∀ q ∈ lw_privs_5, lw_okq q := List.forall_mem_cons.mpr ⟨lw_p64, List.forall_mem_cons.mpr ⟨lw_p65, List.forall_mem_cons.mpr ⟨lw_p66, List.forall_mem_cons.mpr ⟨lw_p67, List.forall_mem_cons.mpr ⟨lw_p68, List.forall_mem_cons.mpr ⟨lw_p69, List.forall_mem_cons.mpr ⟨lw_p70, List.forall_mem_cons.mpr ⟨lw_p71, List.forall_mem_cons.mpr ⟨lw_p72, List.forall_mem_cons.mpr ⟨lw_p73, List.forall_mem_cons.mpr ⟨lw_p74, List.forall_mem_cons.mpr ⟨lw_p75, List.forall_mem_cons.mpr ⟨lw_p76, List.forall_mem_cons.mpr ⟨lw_p77, List.forall_mem_cons.mpr ⟨lw_p78, List.forall_mem_cons.mpr ⟨lw_p79, fun _ h => absurd h List.not_mem_nil⟩⟩⟩⟩⟩⟩⟩⟩⟩⟩⟩⟩⟩⟩⟩⟩
def lw_privs : List (MethodName × Nat) := lw_privs_1 ++ (lw_privs_2 ++ (lw_privs_3 ++ (lw_privs_4 ++ (lw_privs_5))))
def lw_tbl : List Cond := k2_sels lw_privs ++ tables_1
theorem lw_privs_ok : ∀ q ∈ lw_privs, lw_okq q := by
  show ∀ q ∈ lw_privs_1 ++ (lw_privs_2 ++ (lw_privs_3 ++ (lw_privs_4 ++ (lw_privs_5)))), lw_okq q
  exact List.forall_mem_append.mpr ⟨lw_r1, List.forall_mem_append.mpr ⟨lw_r2, List.forall_mem_append.mpr ⟨lw_r3, List.forall_mem_append.mpr ⟨lw_r4, lw_r5⟩⟩⟩⟩

def RX0 : String := "TunnelBook$Channel"
def TX0 : u_T := fun k => match k with
  | 0 => ("TunnelBook$Channel", "survey", "LTunnelBook$Survey;", true)
  | 1 => ("TunnelBook$Channel", "rowOfClass", "[I", true)
  | 2 => ("TunnelBook$Channel", "growth", "I", false)
  | _ => ("TunnelBook$Channel", "leastLet", "I", false)
def tyX0 : Nat → FieldType := fun k => match k with
  | 0 => .object "TunnelBook$Survey"
  | 1 => .array .int
  | 2 => .int
  | _ => .int
theorem nmX0 : ∀ a, a < 4 → ∀ b, b < 4 → a ≠ b → (TX0 a).2.1 ≠ (TX0 b).2.1 := by decide +kernel
theorem tyX0_ok : ∀ k, k < 4 → parseFieldDescriptor (TX0 k).2.2.1 = some (tyX0 k) := by decide +kernel
abbrev cX0_init : ByteArray := prog_2_method_1_code
def yX0_init : MethodName := ⟨RX0, "<init>", "(LTunnelBook$Survey;)V"⟩
abbrev cX0_setRow : ByteArray := prog_2_method_2_code
def yX0_setRow : MethodName := ⟨RX0, "setRow", "(II)Z"⟩
abbrev cX0_rowOf : ByteArray := prog_2_method_3_code
def yX0_rowOf : MethodName := ⟨RX0, "rowOf", "(I)I"⟩
abbrev cX0_tightest : ByteArray := prog_2_method_4_code
def yX0_tightest : MethodName := ⟨RX0, "tightest", "(LTunnelBook$Gallery;IIZ)I"⟩
abbrev cX0_letThrough : ByteArray := prog_2_method_5_code
def yX0_letThrough : MethodName := ⟨RX0, "letThrough", "(LTunnelBook$Gallery;IIIZ)I"⟩
abbrev cX0_classOf : ByteArray := prog_2_method_6_code
def yX0_classOf : MethodName := ⟨RX0, "classOf", "(J)I"⟩
def RX1 : String := "TunnelBook$Gallery"
def TX1 : u_T := fun k => match k with
  | 0 => ("TunnelBook$Gallery", "stationOf", "[I", true)
  | 1 => ("TunnelBook$Gallery", "low", "[I", true)
  | 2 => ("TunnelBook$Gallery", "high", "[I", true)
  | 3 => ("TunnelBook$Gallery", "fewestDays", "[I", true)
  | 4 => ("TunnelBook$Gallery", "mostDays", "[I", true)
  | 5 => ("TunnelBook$Gallery", "width", "[I", true)
  | 6 => ("TunnelBook$Gallery", "markedFrom", "[I", true)
  | 7 => ("TunnelBook$Gallery", "markedTo", "[I", true)
  | 8 => ("TunnelBook$Gallery", "earliest", "[I", true)
  | 9 => ("TunnelBook$Gallery", "latest", "[I", true)
  | 10 => ("TunnelBook$Gallery", "repairPeg", "[I", true)
  | 11 => ("TunnelBook$Gallery", "repairYear", "[I", true)
  | 12 => ("TunnelBook$Gallery", "repairTold", "[I", true)
  | 13 => ("TunnelBook$Gallery", "pegs", "I", false)
  | 14 => ("TunnelBook$Gallery", "marks", "I", false)
  | _ => ("TunnelBook$Gallery", "repairs", "I", false)
def tyX1 : Nat → FieldType := fun k => match k with
  | 0 => .array .int
  | 1 => .array .int
  | 2 => .array .int
  | 3 => .array .int
  | 4 => .array .int
  | 5 => .array .int
  | 6 => .array .int
  | 7 => .array .int
  | 8 => .array .int
  | 9 => .array .int
  | 10 => .array .int
  | 11 => .array .int
  | 12 => .array .int
  | 13 => .int
  | 14 => .int
  | _ => .int
theorem nmX1 : ∀ a, a < 16 → ∀ b, b < 16 → a ≠ b → (TX1 a).2.1 ≠ (TX1 b).2.1 := by decide +kernel
theorem tyX1_ok : ∀ k, k < 16 → parseFieldDescriptor (TX1 k).2.2.1 = some (tyX1 k) := by decide +kernel
abbrev cX1_init : ByteArray := prog_3_method_1_code
def yX1_init : MethodName := ⟨RX1, "<init>", "()V"⟩
abbrev cX1_hasPeg : ByteArray := prog_3_method_2_code
def yX1_hasPeg : MethodName := ⟨RX1, "hasPeg", "(I)Z"⟩
abbrev cX1_hasReach : ByteArray := prog_3_method_3_code
def yX1_hasReach : MethodName := ⟨RX1, "hasReach", "(I)Z"⟩
abbrev cX1_addReach : ByteArray := prog_3_method_4_code
def yX1_addReach : MethodName := ⟨RX1, "addReach", "(IIIIII)I"⟩
abbrev cX1_addPeg : ByteArray := prog_3_method_5_code
def yX1_addPeg : MethodName := ⟨RX1, "addPeg", "(I)V"⟩
abbrev cX1_openAt : ByteArray := prog_3_method_6_code
def yX1_openAt : MethodName := ⟨RX1, "openAt", "(I)Z"⟩
abbrev cX1_addMark : ByteArray := prog_3_method_7_code
def yX1_addMark : MethodName := ⟨RX1, "addMark", "(III)Z"⟩
abbrev cX1_dayOf : ByteArray := prog_3_method_8_code
def yX1_dayOf : MethodName := ⟨RX1, "dayOf", "(IZ)I"⟩
abbrev cX1_daysFrom : ByteArray := prog_3_method_9_code
def yX1_daysFrom : MethodName := ⟨RX1, "daysFrom", "(IIZ)I"⟩
abbrev cX1_dig : ByteArray := prog_3_method_10_code
def yX1_dig : MethodName := ⟨RX1, "dig", "()Z"⟩
abbrev cX1_holesAgree : ByteArray := prog_3_method_11_code
def yX1_holesAgree : MethodName := ⟨RX1, "holesAgree", "(IIII)Z"⟩
abbrev cX1_addRepair : ByteArray := prog_3_method_12_code
def yX1_addRepair : MethodName := ⟨RX1, "addRepair", "(III)Z"⟩
abbrev cX1_limeYears : ByteArray := prog_3_method_13_code
def yX1_limeYears : MethodName := ⟨RX1, "limeYears", "(III)I"⟩
def RX2 : String := "TunnelBook$Measure"
def TX2 : u_T := fun k => match k with
  | 0 => ("TunnelBook$Measure", "counts", "I", false)
  | 1 => ("TunnelBook$Measure", "least", "I", false)
  | _ => ("TunnelBook$Measure", "greatest", "I", false)
def tyX2 : Nat → FieldType := fun k => match k with
  | 0 => .int
  | 1 => .int
  | _ => .int
theorem nmX2 : ∀ a, a < 3 → ∀ b, b < 3 → a ≠ b → (TX2 a).2.1 ≠ (TX2 b).2.1 := by decide +kernel
theorem tyX2_ok : ∀ k, k < 3 → parseFieldDescriptor (TX2 k).2.2.1 = some (tyX2 k) := by decide +kernel
abbrev cX2_init : ByteArray := prog_4_method_1_code
def yX2_init : MethodName := ⟨RX2, "<init>", "()V"⟩
abbrev cX2_addCount : ByteArray := prog_4_method_2_code
def yX2_addCount : MethodName := ⟨RX2, "addCount", "(III)I"⟩
def RX3 : String := "TunnelBook$Meetings"
def TX3 : u_T := fun k => match k with
  | 0 => ("TunnelBook$Meetings", "survey", "LTunnelBook$Survey;", true)
  | 1 => ("TunnelBook$Meetings", "runs", "LTunnelBook$Runs;", true)
  | 2 => ("TunnelBook$Meetings", "thereLow", "[I", true)
  | 3 => ("TunnelBook$Meetings", "thereHigh", "[I", true)
  | 4 => ("TunnelBook$Meetings", "gapLow", "[I", true)
  | _ => ("TunnelBook$Meetings", "gapHigh", "[I", true)
def tyX3 : Nat → FieldType := fun k => match k with
  | 0 => .object "TunnelBook$Survey"
  | 1 => .object "TunnelBook$Runs"
  | 2 => .array .int
  | 3 => .array .int
  | 4 => .array .int
  | _ => .array .int
theorem nmX3 : ∀ a, a < 6 → ∀ b, b < 6 → a ≠ b → (TX3 a).2.1 ≠ (TX3 b).2.1 := by decide +kernel
theorem tyX3_ok : ∀ k, k < 6 → parseFieldDescriptor (TX3 k).2.2.1 = some (tyX3 k) := by decide +kernel
abbrev cX3_init : ByteArray := prog_5_method_1_code
def yX3_init : MethodName := ⟨RX3, "<init>", "(LTunnelBook$Survey;LTunnelBook$Runs;)V"⟩
abbrev cX3_seen : ByteArray := prog_5_method_2_code
def yX3_seen : MethodName := ⟨RX3, "seen", "(III)V"⟩
abbrev cX3_look : ByteArray := prog_5_method_3_code
def yX3_look : MethodName := ⟨RX3, "look", "(III)V"⟩
abbrev cX3_bound : ByteArray := prog_5_method_4_code
def yX3_bound : MethodName := ⟨RX3, "bound", "(IIIZ)I"⟩
abbrev cX3_judge : ByteArray := prog_5_method_5_code
def yX3_judge : MethodName := ⟨RX3, "judge", "(II)I"⟩
abbrev cX3_pairs : ByteArray := prog_5_method_6_code
def yX3_pairs : MethodName := ⟨RX3, "pairs", "(III)I"⟩
def RX4 : String := "TunnelBook$Reader"
def TX4 : u_T := fun k => match k with
  | 0 => ("TunnelBook$Reader", "tape", "LTunnelBook$Tape;", true)
  | 1 => ("TunnelBook$Reader", "draft", "LTunnelBook$Way;", false)
  | 2 => ("TunnelBook$Reader", "blockStart", "[I", true)
  | 3 => ("TunnelBook$Reader", "blockTimes", "[I", true)
  | 4 => ("TunnelBook$Reader", "blockSteps", "[I", true)
  | 5 => ("TunnelBook$Reader", "bodyStart", "[I", true)
  | 6 => ("TunnelBook$Reader", "bodySteps", "[I", true)
  | 7 => ("TunnelBook$Reader", "depth", "I", false)
  | 8 => ("TunnelBook$Reader", "openLetter", "I", false)
  | 9 => ("TunnelBook$Reader", "token", "I", false)
  | 10 => ("TunnelBook$Reader", "kind", "I", false)
  | 11 => ("TunnelBook$Reader", "place", "I", false)
  | 12 => ("TunnelBook$Reader", "number", "I", false)
  | 13 => ("TunnelBook$Reader", "parts", "I", false)
  | 14 => ("TunnelBook$Reader", "fault", "I", false)
  | _ => ("TunnelBook$Reader", "faultPlace", "I", false)
def tyX4 : Nat → FieldType := fun k => match k with
  | 0 => .object "TunnelBook$Tape"
  | 1 => .object "TunnelBook$Way"
  | 2 => .array .int
  | 3 => .array .int
  | 4 => .array .int
  | 5 => .array .int
  | 6 => .array .int
  | 7 => .int
  | 8 => .int
  | 9 => .int
  | 10 => .int
  | 11 => .int
  | 12 => .int
  | 13 => .int
  | 14 => .int
  | _ => .int
theorem nmX4 : ∀ a, a < 16 → ∀ b, b < 16 → a ≠ b → (TX4 a).2.1 ≠ (TX4 b).2.1 := by decide +kernel
theorem tyX4_ok : ∀ k, k < 16 → parseFieldDescriptor (TX4 k).2.2.1 = some (tyX4 k) := by decide +kernel
abbrev cX4_init : ByteArray := prog_6_method_1_code
def yX4_init : MethodName := ⟨RX4, "<init>", "(LTunnelBook$Tape;)V"⟩
abbrev cX4_read : ByteArray := prog_6_method_2_code
def yX4_read : MethodName := ⟨RX4, "read", "()Z"⟩
abbrev cX4_begin : ByteArray := prog_6_method_3_code
def yX4_begin : MethodName := ⟨RX4, "begin", "()V"⟩
abbrev cX4_fail : ByteArray := prog_6_method_4_code
def yX4_fail : MethodName := ⟨RX4, "fail", "(I)V"⟩
abbrev cX4_readPart : ByteArray := prog_6_method_5_code
def yX4_readPart : MethodName := ⟨RX4, "readPart", "()V"⟩
abbrev cX4_readStep : ByteArray := prog_6_method_6_code
def yX4_readStep : MethodName := ⟨RX4, "readStep", "(III)V"⟩
abbrev cX4_readBareStep : ByteArray := prog_6_method_7_code
def yX4_readBareStep : MethodName := ⟨RX4, "readBareStep", "(I)V"⟩
abbrev cX4_readDo : ByteArray := prog_6_method_8_code
def yX4_readDo : MethodName := ⟨RX4, "readDo", "()V"⟩
abbrev cX4_readRepeat : ByteArray := prog_6_method_9_code
def yX4_readRepeat : MethodName := ⟨RX4, "readRepeat", "()V"⟩
abbrev cX4_readDef : ByteArray := prog_6_method_10_code
def yX4_readDef : MethodName := ⟨RX4, "readDef", "()V"⟩
abbrev cX4_openBlock : ByteArray := prog_6_method_11_code
def yX4_openBlock : MethodName := ⟨RX4, "openBlock", "(I)V"⟩
abbrev cX4_closeBlock : ByteArray := prog_6_method_12_code
def yX4_closeBlock : MethodName := ⟨RX4, "closeBlock", "()V"⟩
abbrev cX4_closeDef : ByteArray := prog_6_method_13_code
def yX4_closeDef : MethodName := ⟨RX4, "closeDef", "(I)V"⟩
abbrev cX4_addSteps : ByteArray := prog_6_method_14_code
def yX4_addSteps : MethodName := ⟨RX4, "addSteps", "(I)V"⟩
abbrev cX4_take : ByteArray := prog_6_method_15_code
def yX4_take : MethodName := ⟨RX4, "take", "(I)V"⟩
abbrev cX4_takeNumber : ByteArray := prog_6_method_16_code
def yX4_takeNumber : MethodName := ⟨RX4, "takeNumber", "(II)V"⟩
abbrev cX4_takeOpening : ByteArray := prog_6_method_17_code
def yX4_takeOpening : MethodName := ⟨RX4, "takeOpening", "()V"⟩
abbrev cX4_takeLetter : ByteArray := prog_6_method_18_code
def yX4_takeLetter : MethodName := ⟨RX4, "takeLetter", "(Z)I"⟩
abbrev cX4_letterHere : ByteArray := prog_6_method_19_code
def yX4_letterHere : MethodName := ⟨RX4, "letterHere", "()I"⟩
abbrev cX4_nextToken : ByteArray := prog_6_method_20_code
def yX4_nextToken : MethodName := ⟨RX4, "nextToken", "()V"⟩
def RX5 : String := "TunnelBook$Runs"
def TX5 : u_T := fun k => match k with
  | 0 => ("TunnelBook$Runs", "walk", "LTunnelBook$Walk;", true)
  | 1 => ("TunnelBook$Runs", "told", "[LTunnelBook$Way;", true)
  | 2 => ("TunnelBook$Runs", "kept", "[Z", true)
  | _ => ("TunnelBook$Runs", "answers", "[I", true)
def tyX5 : Nat → FieldType := fun k => match k with
  | 0 => .object "TunnelBook$Walk"
  | 1 => .array (.object "TunnelBook$Way")
  | 2 => .array .boolean
  | _ => .array .int
theorem nmX5 : ∀ a, a < 4 → ∀ b, b < 4 → a ≠ b → (TX5 a).2.1 ≠ (TX5 b).2.1 := by decide +kernel
theorem tyX5_ok : ∀ k, k < 4 → parseFieldDescriptor (TX5 k).2.2.1 = some (tyX5 k) := by decide +kernel
abbrev cX5_init : ByteArray := prog_7_method_1_code
def yX5_init : MethodName := ⟨RX5, "<init>", "()V"⟩
abbrev cX5_hasPlace : ByteArray := prog_7_method_2_code
def yX5_hasPlace : MethodName := ⟨RX5, "hasPlace", "(I)Z"⟩
abbrev cX5_isTold : ByteArray := prog_7_method_3_code
def yX5_isTold : MethodName := ⟨RX5, "isTold", "(I)Z"⟩
abbrev cX5_toldWays : ByteArray := prog_7_method_4_code
def yX5_toldWays : MethodName := ⟨RX5, "toldWays", "()I"⟩
abbrev cX5_replace : ByteArray := prog_7_method_5_code
def yX5_replace : MethodName := ⟨RX5, "replace", "(ILTunnelBook$Way;)LTunnelBook$Way;"⟩
abbrev cX5_forgetAll : ByteArray := prog_7_method_6_code
def yX5_forgetAll : MethodName := ⟨RX5, "forgetAll", "()V"⟩
abbrev cX5_make : ByteArray := prog_7_method_7_code
def yX5_make : MethodName := ⟨RX5, "make", "(I)Z"⟩
abbrev cX5_keep : ByteArray := prog_7_method_8_code
def yX5_keep : MethodName := ⟨RX5, "keep", "(I)V"⟩
abbrev cX5_answer : ByteArray := prog_7_method_9_code
def yX5_answer : MethodName := ⟨RX5, "answer", "(II)I"⟩
def RX6 : String := "TunnelBook$Search"
def TX6 : u_T := fun k => match k with
  | 0 => ("TunnelBook$Search", "weights", "[I", true)
  | 1 => ("TunnelBook$Search", "rows", "[J", false)
  | 2 => ("TunnelBook$Search", "nextRows", "[J", false)
  | 3 => ("TunnelBook$Search", "hearing", "I", false)
  | 4 => ("TunnelBook$Search", "pulling", "I", false)
  | _ => ("TunnelBook$Search", "width", "I", false)
def tyX6 : Nat → FieldType := fun k => match k with
  | 0 => .array .int
  | 1 => .array .long
  | 2 => .array .long
  | 3 => .int
  | 4 => .int
  | _ => .int
theorem nmX6 : ∀ a, a < 6 → ∀ b, b < 6 → a ≠ b → (TX6 a).2.1 ≠ (TX6 b).2.1 := by decide +kernel
theorem tyX6_ok : ∀ k, k < 6 → parseFieldDescriptor (TX6 k).2.2.1 = some (tyX6 k) := by decide +kernel
abbrev cX6_init : ByteArray := prog_8_method_1_code
def yX6_init : MethodName := ⟨RX6, "<init>", "()V"⟩
abbrev cX6_weigh : ByteArray := prog_8_method_2_code
def yX6_weigh : MethodName := ⟨RX6, "weigh", "(III)V"⟩
abbrev cX6_hear : ByteArray := prog_8_method_3_code
def yX6_hear : MethodName := ⟨RX6, "hear", "(III)V"⟩
abbrev cX6_share : ByteArray := prog_8_method_4_code
def yX6_share : MethodName := ⟨RX6, "share", "(IIZ)J"⟩
abbrev cX6_roundabout : ByteArray := prog_8_method_5_code
def yX6_roundabout : MethodName := ⟨RX6, "roundabout", "(IIZ)I"⟩
abbrev cX6_startAt : ByteArray := prog_8_method_6_code
def yX6_startAt : MethodName := ⟨RX6, "startAt", "(IJJ)V"⟩
abbrev cX6_clearNext : ByteArray := prog_8_method_7_code
def yX6_clearNext : MethodName := ⟨RX6, "clearNext", "(J)V"⟩
abbrev cX6_swap : ByteArray := prog_8_method_8_code
def yX6_swap : MethodName := ⟨RX6, "swap", "()V"⟩
abbrev cX6_spread : ByteArray := prog_8_method_9_code
def yX6_spread : MethodName := ⟨RX6, "spread", "(II)V"⟩
abbrev cX6_prolong : ByteArray := prog_8_method_10_code
def yX6_prolong : MethodName := ⟨RX6, "prolong", "(IIZ)V"⟩
abbrev cX6_better : ByteArray := prog_8_method_11_code
def yX6_better : MethodName := ⟨RX6, "better", "(JJZ)J"⟩
abbrev cX6_pulled : ByteArray := prog_8_method_12_code
def yX6_pulled : MethodName := ⟨RX6, "pulled", "(II)I"⟩
abbrev cX6_misses : ByteArray := prog_8_method_13_code
def yX6_misses : MethodName := ⟨RX6, "misses", "(I)Z"⟩
abbrev cX6_commonDivisor : ByteArray := prog_8_method_14_code
def yX6_commonDivisor : MethodName := ⟨RX6, "commonDivisor", "(JJ)J"⟩
def RX7 : String := "TunnelBook$Survey"
def TX7 : u_T := fun k => match k with
  | 0 => ("TunnelBook$Survey", "axisOf", "[I", true)
  | 1 => ("TunnelBook$Survey", "from", "[I", true)
  | 2 => ("TunnelBook$Survey", "to", "[I", true)
  | 3 => ("TunnelBook$Survey", "low", "[I", true)
  | 4 => ("TunnelBook$Survey", "high", "[I", true)
  | 5 => ("TunnelBook$Survey", "told", "[I", true)
  | 6 => ("TunnelBook$Survey", "distance", "[J", true)
  | 7 => ("TunnelBook$Survey", "stations", "I", false)
  | _ => ("TunnelBook$Survey", "sights", "I", false)
def tyX7 : Nat → FieldType := fun k => match k with
  | 0 => .array .int
  | 1 => .array .int
  | 2 => .array .int
  | 3 => .array .int
  | 4 => .array .int
  | 5 => .array .int
  | 6 => .array .long
  | 7 => .int
  | _ => .int
theorem nmX7 : ∀ a, a < 9 → ∀ b, b < 9 → a ≠ b → (TX7 a).2.1 ≠ (TX7 b).2.1 := by decide +kernel
theorem tyX7_ok : ∀ k, k < 9 → parseFieldDescriptor (TX7 k).2.2.1 = some (tyX7 k) := by decide +kernel
abbrev cX7_init : ByteArray := prog_9_method_1_code
def yX7_init : MethodName := ⟨RX7, "<init>", "()V"⟩
abbrev cX7_addStation : ByteArray := prog_9_method_2_code
def yX7_addStation : MethodName := ⟨RX7, "addStation", "()I"⟩
abbrev cX7_has : ByteArray := prog_9_method_3_code
def yX7_has : MethodName := ⟨RX7, "has", "(I)Z"⟩
abbrev cX7_addSight : ByteArray := prog_9_method_4_code
def yX7_addSight : MethodName := ⟨RX7, "addSight", "(IIIIII)I"⟩
abbrev cX7_bound : ByteArray := prog_9_method_5_code
def yX7_bound : MethodName := ⟨RX7, "bound", "(IIIIZ)I"⟩
abbrev cX7_culprit : ByteArray := prog_9_method_6_code
def yX7_culprit : MethodName := ⟨RX7, "culprit", "(III)I"⟩
abbrev cX7_counts : ByteArray := prog_9_method_7_code
def yX7_counts : MethodName := ⟨RX7, "counts", "(III)Z"⟩
abbrev cX7_settle : ByteArray := prog_9_method_8_code
def yX7_settle : MethodName := ⟨RX7, "settle", "(IIII)Z"⟩
abbrev cX7_shortenAll : ByteArray := prog_9_method_9_code
def yX7_shortenAll : MethodName := ⟨RX7, "shortenAll", "(III)Z"⟩
abbrev cX7_shorten : ByteArray := prog_9_method_10_code
def yX7_shorten : MethodName := ⟨RX7, "shorten", "(III)Z"⟩
def RX8 : String := "TunnelBook$Tape"
def TX8 : u_T := fun k => match k with
  | 0 => ("TunnelBook$Tape", "bytes", "[I", true)
  | 1 => ("TunnelBook$Tape", "kind", "[I", true)
  | 2 => ("TunnelBook$Tape", "place", "[I", true)
  | 3 => ("TunnelBook$Tape", "size", "[I", true)
  | 4 => ("TunnelBook$Tape", "number", "[I", true)
  | 5 => ("TunnelBook$Tape", "length", "I", false)
  | _ => ("TunnelBook$Tape", "tokens", "I", false)
def tyX8 : Nat → FieldType := fun k => match k with
  | 0 => .array .int
  | 1 => .array .int
  | 2 => .array .int
  | 3 => .array .int
  | 4 => .array .int
  | 5 => .int
  | _ => .int
theorem nmX8 : ∀ a, a < 7 → ∀ b, b < 7 → a ≠ b → (TX8 a).2.1 ≠ (TX8 b).2.1 := by decide +kernel
theorem tyX8_ok : ∀ k, k < 7 → parseFieldDescriptor (TX8 k).2.2.1 = some (tyX8 k) := by decide +kernel
abbrev cX8_init : ByteArray := prog_10_method_1_code
def yX8_init : MethodName := ⟨RX8, "<init>", "()V"⟩
abbrev cX8_hasRoom : ByteArray := prog_10_method_2_code
def yX8_hasRoom : MethodName := ⟨RX8, "hasRoom", "(I)Z"⟩
abbrev cX8_append : ByteArray := prog_10_method_3_code
def yX8_append : MethodName := ⟨RX8, "append", "(I)V"⟩
abbrev cX8_cut : ByteArray := prog_10_method_4_code
def yX8_cut : MethodName := ⟨RX8, "cut", "()V"⟩
abbrev cX8_goesOn : ByteArray := prog_10_method_5_code
def yX8_goesOn : MethodName := ⟨RX8, "goesOn", "(II)Z"⟩
abbrev cX8_addToken : ByteArray := prog_10_method_6_code
def yX8_addToken : MethodName := ⟨RX8, "addToken", "(II)V"⟩
abbrev cX8_lengthen : ByteArray := prog_10_method_7_code
def yX8_lengthen : MethodName := ⟨RX8, "lengthen", "(I)V"⟩
abbrev cX8_byteAt : ByteArray := prog_10_method_8_code
def yX8_byteAt : MethodName := ⟨RX8, "byteAt", "(I)I"⟩
abbrev cX8_isWord : ByteArray := prog_10_method_9_code
def yX8_isWord : MethodName := ⟨RX8, "isWord", "(ILjava/lang/String;)Z"⟩
abbrev cX8_kindOf : ByteArray := prog_10_method_10_code
def yX8_kindOf : MethodName := ⟨RX8, "kindOf", "(I)I"⟩
def RX9 : String := "TunnelBook$Walk"
def TX9 : u_T := fun k => match k with
  | 0 => ("TunnelBook$Walk", "openPlace", "[I", true)
  | 1 => ("TunnelBook$Walk", "openTimes", "[I", true)
  | 2 => ("TunnelBook$Walk", "open", "I", false)
  | 3 => ("TunnelBook$Walk", "line", "I", false)
  | 4 => ("TunnelBook$Walk", "level", "I", false)
  | 5 => ("TunnelBook$Walk", "turn", "I", false)
  | 6 => ("TunnelBook$Walk", "shaft", "I", false)
  | 7 => ("TunnelBook$Walk", "poles", "I", false)
  | 8 => ("TunnelBook$Walk", "x", "J", false)
  | 9 => ("TunnelBook$Walk", "y", "J", false)
  | 10 => ("TunnelBook$Walk", "z", "J", false)
  | 11 => ("TunnelBook$Walk", "errorX", "J", false)
  | 12 => ("TunnelBook$Walk", "errorY", "J", false)
  | 13 => ("TunnelBook$Walk", "errorZ", "J", false)
  | 14 => ("TunnelBook$Walk", "askew", "J", false)
  | 15 => ("TunnelBook$Walk", "heading", "I", false)
  | 16 => ("TunnelBook$Walk", "steps", "I", false)
  | _ => ("TunnelBook$Walk", "done", "Z", false)
def tyX9 : Nat → FieldType := fun k => match k with
  | 0 => .array .int
  | 1 => .array .int
  | 2 => .int
  | 3 => .int
  | 4 => .int
  | 5 => .int
  | 6 => .int
  | 7 => .int
  | 8 => .long
  | 9 => .long
  | 10 => .long
  | 11 => .long
  | 12 => .long
  | 13 => .long
  | 14 => .long
  | 15 => .int
  | 16 => .int
  | _ => .boolean
theorem nmX9 : ∀ a, a < 18 → ∀ b, b < 18 → a ≠ b → (TX9 a).2.1 ≠ (TX9 b).2.1 := by decide +kernel
theorem tyX9_ok : ∀ k, k < 18 → parseFieldDescriptor (TX9 k).2.2.1 = some (tyX9 k) := by decide +kernel
abbrev cX9_init : ByteArray := prog_11_method_1_code
def yX9_init : MethodName := ⟨RX9, "<init>", "()V"⟩
abbrev cX9_take : ByteArray := prog_11_method_2_code
def yX9_take : MethodName := ⟨RX9, "take", "(IIIII)V"⟩
abbrev cX9_go : ByteArray := prog_11_method_3_code
def yX9_go : MethodName := ⟨RX9, "go", "(LTunnelBook$Way;I)V"⟩
abbrev cX9_begin : ByteArray := prog_11_method_4_code
def yX9_begin : MethodName := ⟨RX9, "begin", "(I)V"⟩
abbrev cX9_follow : ByteArray := prog_11_method_5_code
def yX9_follow : MethodName := ⟨RX9, "follow", "(III)I"⟩
abbrev cX9_push : ByteArray := prog_11_method_6_code
def yX9_push : MethodName := ⟨RX9, "push", "(II)V"⟩
abbrev cX9_turnBack : ByteArray := prog_11_method_7_code
def yX9_turnBack : MethodName := ⟨RX9, "turnBack", "(I)I"⟩
abbrev cX9_pop : ByteArray := prog_11_method_8_code
def yX9_pop : MethodName := ⟨RX9, "pop", "(I)I"⟩
abbrev cX9_step : ByteArray := prog_11_method_9_code
def yX9_step : MethodName := ⟨RX9, "step", "(II)V"⟩
abbrev cX9_layLine : ByteArray := prog_11_method_10_code
def yX9_layLine : MethodName := ⟨RX9, "layLine", "(I)V"⟩
abbrev cX9_staysNear : ByteArray := prog_11_method_11_code
def yX9_staysNear : MethodName := ⟨RX9, "staysNear", "()Z"⟩
def RX10 : String := "TunnelBook$Way"
def TX10 : u_T := fun k => match k with
  | 0 => ("TunnelBook$Way", "kind", "[I", true)
  | 1 => ("TunnelBook$Way", "value", "[I", true)
  | 2 => ("TunnelBook$Way", "size", "I", false)
  | _ => ("TunnelBook$Way", "steps", "I", false)
def tyX10 : Nat → FieldType := fun k => match k with
  | 0 => .array .int
  | 1 => .array .int
  | 2 => .int
  | _ => .int
theorem nmX10 : ∀ a, a < 4 → ∀ b, b < 4 → a ≠ b → (TX10 a).2.1 ≠ (TX10 b).2.1 := by decide +kernel
theorem tyX10_ok : ∀ k, k < 4 → parseFieldDescriptor (TX10 k).2.2.1 = some (tyX10 k) := by decide +kernel
abbrev cX10_init : ByteArray := prog_12_method_1_code
def yX10_init : MethodName := ⟨RX10, "<init>", "()V"⟩
abbrev cX10_add : ByteArray := prog_12_method_2_code
def yX10_add : MethodName := ⟨RX10, "add", "(II)V"⟩
def RX11 : String := "TunnelBook"
def TX11 : u_T := fun k => match k with
  | 0 => ("TunnelBook", "survey", "LTunnelBook$Survey;", true)
  | 1 => ("TunnelBook", "nearGallery", "LTunnelBook$Gallery;", true)
  | 2 => ("TunnelBook", "farGallery", "LTunnelBook$Gallery;", true)
  | 3 => ("TunnelBook", "measure", "LTunnelBook$Measure;", true)
  | 4 => ("TunnelBook", "tape", "LTunnelBook$Tape;", true)
  | 5 => ("TunnelBook", "reader", "LTunnelBook$Reader;", true)
  | 6 => ("TunnelBook", "runs", "LTunnelBook$Runs;", true)
  | 7 => ("TunnelBook", "meetings", "LTunnelBook$Meetings;", true)
  | 8 => ("TunnelBook", "search", "LTunnelBook$Search;", true)
  | 9 => ("TunnelBook", "channel", "LTunnelBook$Channel;", true)
  | _ => ("TunnelBook", "day", "I", false)
def tyX11 : Nat → FieldType := fun k => match k with
  | 0 => .object "TunnelBook$Survey"
  | 1 => .object "TunnelBook$Gallery"
  | 2 => .object "TunnelBook$Gallery"
  | 3 => .object "TunnelBook$Measure"
  | 4 => .object "TunnelBook$Tape"
  | 5 => .object "TunnelBook$Reader"
  | 6 => .object "TunnelBook$Runs"
  | 7 => .object "TunnelBook$Meetings"
  | 8 => .object "TunnelBook$Search"
  | 9 => .object "TunnelBook$Channel"
  | _ => .int
theorem nmX11 : ∀ a, a < 11 → ∀ b, b < 11 → a ≠ b → (TX11 a).2.1 ≠ (TX11 b).2.1 := by decide +kernel
theorem tyX11_ok : ∀ k, k < 11 → parseFieldDescriptor (TX11 k).2.2.1 = some (tyX11 k) := by decide +kernel
abbrev cX11_init : ByteArray := prog_1_method_1_code
def yX11_init : MethodName := ⟨RX11, "<init>", "()V"⟩
abbrev cX11_days : ByteArray := prog_1_method_2_code
def yX11_days : MethodName := ⟨RX11, "days", "(I)I"⟩
abbrev cX11_station : ByteArray := prog_1_method_3_code
def yX11_station : MethodName := ⟨RX11, "station", "()I"⟩
abbrev cX11_sight : ByteArray := prog_1_method_4_code
def yX11_sight : MethodName := ⟨RX11, "sight", "(IIIII)I"⟩
abbrev cX11_closed : ByteArray := prog_1_method_5_code
def yX11_closed : MethodName := ⟨RX11, "closed", "(II)I"⟩
abbrev cX11_span : ByteArray := prog_1_method_6_code
def yX11_span : MethodName := ⟨RX11, "span", "(IIIZ)I"⟩
abbrev cX11_gap : ByteArray := prog_1_method_7_code
def yX11_gap : MethodName := ⟨RX11, "gap", "(IIIIZ)I"⟩
abbrev cX11_blamed : ByteArray := prog_1_method_8_code
def yX11_blamed : MethodName := ⟨RX11, "blamed", "(III)I"⟩
abbrev cX11_reach : ByteArray := prog_1_method_9_code
def yX11_reach : MethodName := ⟨RX11, "reach", "(IIIIIII)I"⟩
abbrev cX11_mouth : ByteArray := prog_1_method_10_code
def yX11_mouth : MethodName := ⟨RX11, "mouth", "(II)Z"⟩
abbrev cX11_mark : ByteArray := prog_1_method_11_code
def yX11_mark : MethodName := ⟨RX11, "mark", "(IIII)I"⟩
abbrev cX11_when : ByteArray := prog_1_method_12_code
def yX11_when : MethodName := ⟨RX11, "when", "(IIZ)I"⟩
abbrev cX11_between : ByteArray := prog_1_method_13_code
def yX11_between : MethodName := ⟨RX11, "between", "(IIIZ)I"⟩
abbrev cX11_lamps : ByteArray := prog_1_method_14_code
def yX11_lamps : MethodName := ⟨RX11, "lamps", "(IIIII)I"⟩
abbrev cX11_count : ByteArray := prog_1_method_15_code
def yX11_count : MethodName := ⟨RX11, "count", "(III)I"⟩
abbrev cX11_unit : ByteArray := prog_1_method_16_code
def yX11_unit : MethodName := ⟨RX11, "unit", "(Z)I"⟩
abbrev cX11_feed : ByteArray := prog_1_method_17_code
def yX11_feed : MethodName := ⟨RX11, "feed", "(IIIII)I"⟩
abbrev cX11_end : ByteArray := prog_1_method_18_code
def yX11_end : MethodName := ⟨RX11, "end", "(I)I"⟩
abbrev cX11_way : ByteArray := prog_1_method_19_code
def yX11_way : MethodName := ⟨RX11, "way", "(I)I"⟩
abbrev cX11_fault : ByteArray := prog_1_method_20_code
def yX11_fault : MethodName := ⟨RX11, "fault", "(I)I"⟩
abbrev cX11_tools : ByteArray := prog_1_method_21_code
def yX11_tools : MethodName := ⟨RX11, "tools", "(IIIII)Z"⟩
abbrev cX11_run : ByteArray := prog_1_method_22_code
def yX11_run : MethodName := ⟨RX11, "run", "(III)I"⟩
abbrev cX11_meeting : ByteArray := prog_1_method_23_code
def yX11_meeting : MethodName := ⟨RX11, "meeting", "(IIIIIZ)I"⟩
abbrev cX11_there : ByteArray := prog_1_method_24_code
def yX11_there : MethodName := ⟨RX11, "there", "(III)Z"⟩
abbrev cX11_fits : ByteArray := prog_1_method_25_code
def yX11_fits : MethodName := ⟨RX11, "fits", "(IIII)I"⟩
abbrev cX11_ways : ByteArray := prog_1_method_26_code
def yX11_ways : MethodName := ⟨RX11, "ways", "(IIIII)I"⟩
abbrev cX11_seek : ByteArray := prog_1_method_27_code
def yX11_seek : MethodName := ⟨RX11, "seek", "(IIIIII)Z"⟩
abbrev cX11_chance : ByteArray := prog_1_method_28_code
def yX11_chance : MethodName := ⟨RX11, "chance", "(IIZ)J"⟩
abbrev cX11_detour : ByteArray := prog_1_method_29_code
def yX11_detour : MethodName := ⟨RX11, "detour", "(IIZ)I"⟩
abbrev cX11_table : ByteArray := prog_1_method_30_code
def yX11_table : MethodName := ⟨RX11, "table", "(II)Z"⟩
abbrev cX11_repair : ByteArray := prog_1_method_31_code
def yX11_repair : MethodName := ⟨RX11, "repair", "(III)I"⟩
abbrev cX11_lime : ByteArray := prog_1_method_32_code
def yX11_lime : MethodName := ⟨RX11, "lime", "(I)Z"⟩
abbrev cX11_flow : ByteArray := prog_1_method_33_code
def yX11_flow : MethodName := ⟨RX11, "flow", "(IIIZ)I"⟩
abbrev cX11_narrow : ByteArray := prog_1_method_34_code
def yX11_narrow : MethodName := ⟨RX11, "narrow", "(III)I"⟩
abbrev cX11_about : ByteArray := prog_1_method_35_code
def yX11_about : MethodName := ⟨RX11, "about", "(I)I"⟩
abbrev cX11_galleryOf : ByteArray := prog_1_method_36_code
def yX11_galleryOf : MethodName := ⟨RX11, "galleryOf", "(I)LTunnelBook$Gallery;"⟩
abbrev cX11_marks : ByteArray := prog_1_method_37_code
def yX11_marks : MethodName := ⟨RX11, "marks", "()I"⟩
abbrev cX11_repairs : ByteArray := prog_1_method_38_code
def yX11_repairs : MethodName := ⟨RX11, "repairs", "()I"⟩
abbrev cX11_canMeet : ByteArray := prog_1_method_39_code
def yX11_canMeet : MethodName := ⟨RX11, "canMeet", "(IIII)Z"⟩
abbrev cX11_within : ByteArray := prog_1_method_40_code
def yX11_within : MethodName := ⟨RX11, "within", "(III)Z"⟩
abbrev cX11_ordered : ByteArray := prog_1_method_41_code
def yX11_ordered : MethodName := ⟨RX11, "ordered", "(IIII)Z"⟩
abbrev cX11_isAxis : ByteArray := prog_1_method_42_code
def yX11_isAxis : MethodName := ⟨RX11, "isAxis", "(I)Z"⟩
abbrev cX11_isDay : ByteArray := prog_1_method_43_code
def yX11_isDay : MethodName := ⟨RX11, "isDay", "(I)Z"⟩
abbrev cX11_isHeading : ByteArray := prog_1_method_44_code
def yX11_isHeading : MethodName := ⟨RX11, "isHeading", "(I)Z"⟩
def RX12 : String := "TunnelBookModel"
def TX12 : u_T := fun k => match k with
  | 0 => ("TunnelBookModel", "clock", "I", false)
  | 1 => ("TunnelBookModel", "stations", "I", false)
  | 2 => ("TunnelBookModel", "sights", "I", false)
  | 3 => ("TunnelBookModel", "sightAxis", "[I", true)
  | 4 => ("TunnelBookModel", "sightFrom", "[I", true)
  | 5 => ("TunnelBookModel", "sightTo", "[I", true)
  | 6 => ("TunnelBookModel", "sightLow", "[I", true)
  | 7 => ("TunnelBookModel", "sightHigh", "[I", true)
  | 8 => ("TunnelBookModel", "sightTold", "[I", true)
  | 9 => ("TunnelBookModel", "pegs", "[I", true)
  | 10 => ("TunnelBookModel", "reachLow", "[I", true)
  | 11 => ("TunnelBookModel", "reachHigh", "[I", true)
  | 12 => ("TunnelBookModel", "rateLow", "[I", true)
  | 13 => ("TunnelBookModel", "rateHigh", "[I", true)
  | 14 => ("TunnelBookModel", "width", "[I", true)
  | 15 => ("TunnelBookModel", "pegStation", "[I", true)
  | 16 => ("TunnelBookModel", "marks", "I", false)
  | 17 => ("TunnelBookModel", "markGallery", "[I", true)
  | 18 => ("TunnelBookModel", "markPeg", "[I", true)
  | 19 => ("TunnelBookModel", "markFrom", "[I", true)
  | 20 => ("TunnelBookModel", "markTo", "[I", true)
  | 21 => ("TunnelBookModel", "counts", "I", false)
  | 22 => ("TunnelBookModel", "unitLow", "J", false)
  | 23 => ("TunnelBookModel", "unitHigh", "J", false)
  | 24 => ("TunnelBookModel", "tape", "[B", true)
  | 25 => ("TunnelBookModel", "taped", "I", false)
  | 26 => ("TunnelBookModel", "length", "I", false)
  | 27 => ("TunnelBookModel", "at", "I", false)
  | 28 => ("TunnelBookModel", "token", "I", false)
  | 29 => ("TunnelBookModel", "sort", "I", false)
  | 30 => ("TunnelBookModel", "told", "I", false)
  | 31 => ("TunnelBookModel", "wrong", "I", false)
  | 32 => ("TunnelBookModel", "wrongAt", "I", false)
  | 33 => ("TunnelBookModel", "fault", "I", false)
  | 34 => ("TunnelBookModel", "faultAt", "I", false)
  | 35 => ("TunnelBookModel", "newOrders", "I", false)
  | 36 => ("TunnelBookModel", "newOrder", "[I", true)
  | 37 => ("TunnelBookModel", "newValue", "[I", true)
  | 38 => ("TunnelBookModel", "defAt", "[I", true)
  | 39 => ("TunnelBookModel", "open", "I", false)
  | 40 => ("TunnelBookModel", "openIsDef", "[I", true)
  | 41 => ("TunnelBookModel", "openAt", "[I", true)
  | 42 => ("TunnelBookModel", "stands", "[Z", true)
  | 43 => ("TunnelBookModel", "defStands", "[Z", true)
  | 44 => ("TunnelBookModel", "ways", "[I", true)
  | 45 => ("TunnelBookModel", "order", "[I", true)
  | 46 => ("TunnelBookModel", "value", "[I", true)
  | 47 => ("TunnelBookModel", "wayLine", "I", false)
  | 48 => ("TunnelBookModel", "wayLevel", "I", false)
  | 49 => ("TunnelBookModel", "wayTurn", "I", false)
  | 50 => ("TunnelBookModel", "wayShaft", "I", false)
  | 51 => ("TunnelBookModel", "wayPoles", "I", false)
  | 52 => ("TunnelBookModel", "run", "[J", true)
  | 53 => ("TunnelBookModel", "returns", "I", false)
  | 54 => ("TunnelBookModel", "returnTo", "[I", true)
  | 55 => ("TunnelBookModel", "rounds", "[I", true)
  | 56 => ("TunnelBookModel", "thereLow", "[I", true)
  | 57 => ("TunnelBookModel", "thereHigh", "[I", true)
  | 58 => ("TunnelBookModel", "weight", "[I", true)
  | 59 => ("TunnelBookModel", "hear", "I", false)
  | 60 => ("TunnelBookModel", "pull", "I", false)
  | 61 => ("TunnelBookModel", "wideOff", "I", false)
  | 62 => ("TunnelBookModel", "table", "[I", true)
  | 63 => ("TunnelBookModel", "repairs", "I", false)
  | 64 => ("TunnelBookModel", "repairGallery", "[I", true)
  | 65 => ("TunnelBookModel", "repairPeg", "[I", true)
  | 66 => ("TunnelBookModel", "repairYear", "[I", true)
  | 67 => ("TunnelBookModel", "repairTold", "[I", true)
  | 68 => ("TunnelBookModel", "lime", "I", false)
  | 69 => ("TunnelBookModel", "apart", "[J", true)
  | 70 => ("TunnelBookModel", "size", "I", false)
  | 71 => ("TunnelBookModel", "letter", "I", false)
  | 72 => ("TunnelBookModel", "parts", "I", false)
  | 73 => ("TunnelBookModel", "firstEnd", "[J", true)
  | 74 => ("TunnelBookModel", "isDone", "Z", false)
  | 75 => ("TunnelBookModel", "now", "[J", true)
  | _ => ("TunnelBookModel", "then", "[J", true)
def tyX12 : Nat → FieldType := fun k => match k with
  | 0 => .int
  | 1 => .int
  | 2 => .int
  | 3 => .array .int
  | 4 => .array .int
  | 5 => .array .int
  | 6 => .array .int
  | 7 => .array .int
  | 8 => .array .int
  | 9 => .array .int
  | 10 => .array .int
  | 11 => .array .int
  | 12 => .array .int
  | 13 => .array .int
  | 14 => .array .int
  | 15 => .array .int
  | 16 => .int
  | 17 => .array .int
  | 18 => .array .int
  | 19 => .array .int
  | 20 => .array .int
  | 21 => .int
  | 22 => .long
  | 23 => .long
  | 24 => .array .byte
  | 25 => .int
  | 26 => .int
  | 27 => .int
  | 28 => .int
  | 29 => .int
  | 30 => .int
  | 31 => .int
  | 32 => .int
  | 33 => .int
  | 34 => .int
  | 35 => .int
  | 36 => .array .int
  | 37 => .array .int
  | 38 => .array .int
  | 39 => .int
  | 40 => .array .int
  | 41 => .array .int
  | 42 => .array .boolean
  | 43 => .array .boolean
  | 44 => .array .int
  | 45 => .array .int
  | 46 => .array .int
  | 47 => .int
  | 48 => .int
  | 49 => .int
  | 50 => .int
  | 51 => .int
  | 52 => .array .long
  | 53 => .int
  | 54 => .array .int
  | 55 => .array .int
  | 56 => .array .int
  | 57 => .array .int
  | 58 => .array .int
  | 59 => .int
  | 60 => .int
  | 61 => .int
  | 62 => .array .int
  | 63 => .int
  | 64 => .array .int
  | 65 => .array .int
  | 66 => .array .int
  | 67 => .array .int
  | 68 => .int
  | 69 => .array .long
  | 70 => .int
  | 71 => .int
  | 72 => .int
  | 73 => .array .long
  | 74 => .boolean
  | 75 => .array .long
  | _ => .array .long
theorem nmX12 : ∀ a, a < 77 → ∀ b, b < 77 → a ≠ b → (TX12 a).2.1 ≠ (TX12 b).2.1 := by decide +kernel
theorem tyX12_ok : ∀ k, k < 77 → parseFieldDescriptor (TX12 k).2.2.1 = some (tyX12 k) := by decide +kernel
abbrev cX12_init : ByteArray := prog_14_method_1_code
def yX12_init : MethodName := ⟨RX12, "<init>", "()V"⟩
abbrev cX12_in : ByteArray := prog_14_method_2_code
def yX12_in : MethodName := ⟨RX12, "in", "(JJJ)Z"⟩
abbrev cX12_isStation : ByteArray := prog_14_method_3_code
def yX12_isStation : MethodName := ⟨RX12, "isStation", "(I)Z"⟩
abbrev cX12_isAxis : ByteArray := prog_14_method_4_code
def yX12_isAxis : MethodName := ⟨RX12, "isAxis", "(I)Z"⟩
abbrev cX12_isKnown : ByteArray := prog_14_method_5_code
def yX12_isKnown : MethodName := ⟨RX12, "isKnown", "(I)Z"⟩
abbrev cX12_isPeg : ByteArray := prog_14_method_6_code
def yX12_isPeg : MethodName := ⟨RX12, "isPeg", "(II)Z"⟩
abbrev cX12_days : ByteArray := prog_14_method_7_code
def yX12_days : MethodName := ⟨RX12, "days", "(I)I"⟩
abbrev cX12_station : ByteArray := prog_14_method_8_code
def yX12_station : MethodName := ⟨RX12, "station", "()I"⟩
abbrev cX12_sight : ByteArray := prog_14_method_9_code
def yX12_sight : MethodName := ⟨RX12, "sight", "(IIIII)I"⟩
abbrev cX12_begins : ByteArray := prog_14_method_10_code
def yX12_begins : MethodName := ⟨RX12, "begins", "(I)V"⟩
abbrev cX12_bounds : ByteArray := prog_14_method_11_code
def yX12_bounds : MethodName := ⟨RX12, "bounds", "(IIJ)V"⟩
abbrev cX12_closes : ByteArray := prog_14_method_12_code
def yX12_closes : MethodName := ⟨RX12, "closes", "()Z"⟩
abbrev cX12_isClosed : ByteArray := prog_14_method_13_code
def yX12_isClosed : MethodName := ⟨RX12, "isClosed", "(III)Z"⟩
abbrev cX12_closed : ByteArray := prog_14_method_14_code
def yX12_closed : MethodName := ⟨RX12, "closed", "(II)I"⟩
abbrev cX12_gapOf : ByteArray := prog_14_method_15_code
def yX12_gapOf : MethodName := ⟨RX12, "gapOf", "(IIZ)I"⟩
abbrev cX12_gap : ByteArray := prog_14_method_16_code
def yX12_gap : MethodName := ⟨RX12, "gap", "(IIIIZ)I"⟩
abbrev cX12_span : ByteArray := prog_14_method_17_code
def yX12_span : MethodName := ⟨RX12, "span", "(IIIZ)I"⟩
abbrev cX12_blamed : ByteArray := prog_14_method_18_code
def yX12_blamed : MethodName := ⟨RX12, "blamed", "(III)I"⟩
abbrev cX12_reach : ByteArray := prog_14_method_19_code
def yX12_reach : MethodName := ⟨RX12, "reach", "(IIIIIII)I"⟩
abbrev cX12_mouth : ByteArray := prog_14_method_20_code
def yX12_mouth : MethodName := ⟨RX12, "mouth", "(II)Z"⟩
abbrev cX12_mark : ByteArray := prog_14_method_21_code
def yX12_mark : MethodName := ⟨RX12, "mark", "(IIII)I"⟩
abbrev cX12_isDug : ByteArray := prog_14_method_22_code
def yX12_isDug : MethodName := ⟨RX12, "isDug", "(I)Z"⟩
abbrev cX12_when : ByteArray := prog_14_method_23_code
def yX12_when : MethodName := ⟨RX12, "when", "(IIZ)I"⟩
abbrev cX12_between : ByteArray := prog_14_method_24_code
def yX12_between : MethodName := ⟨RX12, "between", "(IIIZ)I"⟩
abbrev cX12_lamps : ByteArray := prog_14_method_25_code
def yX12_lamps : MethodName := ⟨RX12, "lamps", "(IIIII)I"⟩
abbrev cX12_count : ByteArray := prog_14_method_26_code
def yX12_count : MethodName := ⟨RX12, "count", "(III)I"⟩
abbrev cX12_unit : ByteArray := prog_14_method_27_code
def yX12_unit : MethodName := ⟨RX12, "unit", "(Z)I"⟩
abbrev cX12_put : ByteArray := prog_14_method_28_code
def yX12_put : MethodName := ⟨RX12, "put", "(I)V"⟩
abbrev cX12_feed : ByteArray := prog_14_method_29_code
def yX12_feed : MethodName := ⟨RX12, "feed", "(IIIII)I"⟩
abbrev cX12_end : ByteArray := prog_14_method_30_code
def yX12_end : MethodName := ⟨RX12, "end", "(I)I"⟩
abbrev cX12_isLetter : ByteArray := prog_14_method_31_code
def yX12_isLetter : MethodName := ⟨RX12, "isLetter", "(I)Z"⟩
abbrev cX12_wordOf : ByteArray := prog_14_method_32_code
def yX12_wordOf : MethodName := ⟨RX12, "wordOf", "(J)I"⟩
abbrev cX12_next : ByteArray := prog_14_method_33_code
def yX12_next : MethodName := ⟨RX12, "next", "()V"⟩
abbrev cX12_isSign : ByteArray := prog_14_method_34_code
def yX12_isSign : MethodName := ⟨RX12, "isSign", "(I)Z"⟩
abbrev cX12_errs : ByteArray := prog_14_method_35_code
def yX12_errs : MethodName := ⟨RX12, "errs", "(I)V"⟩
abbrev cX12_emits : ByteArray := prog_14_method_36_code
def yX12_emits : MethodName := ⟨RX12, "emits", "(II)I"⟩
abbrev cX12_opens : ByteArray := prog_14_method_37_code
def yX12_opens : MethodName := ⟨RX12, "opens", "(ZI)V"⟩
abbrev cX12_def : ByteArray := prog_14_method_38_code
def yX12_def : MethodName := ⟨RX12, "def", "()V"⟩
abbrev cX12_closesBrace : ByteArray := prog_14_method_39_code
def yX12_closesBrace : MethodName := ⟨RX12, "closesBrace", "()V"⟩
abbrev cX12_stepIsOver : ByteArray := prog_14_method_40_code
def yX12_stepIsOver : MethodName := ⟨RX12, "stepIsOver", "()V"⟩
abbrev cX12_numbered : ByteArray := prog_14_method_41_code
def yX12_numbered : MethodName := ⟨RX12, "numbered", "(I)V"⟩
abbrev cX12_step : ByteArray := prog_14_method_42_code
def yX12_step : MethodName := ⟨RX12, "step", "()V"⟩
abbrev cX12_way : ByteArray := prog_14_method_43_code
def yX12_way : MethodName := ⟨RX12, "way", "(I)I"⟩
abbrev cX12_fault : ByteArray := prog_14_method_44_code
def yX12_fault : MethodName := ⟨RX12, "fault", "(I)I"⟩
abbrev cX12_tools : ByteArray := prog_14_method_45_code
def yX12_tools : MethodName := ⟨RX12, "tools", "(IIIII)Z"⟩
abbrev cX12_along : ByteArray := prog_14_method_46_code
def yX12_along : MethodName := ⟨RX12, "along", "(I)I"⟩
abbrev cX12_up : ByteArray := prog_14_method_47_code
def yX12_up : MethodName := ⟨RX12, "up", "(JJ)J"⟩
abbrev cX12_size : ByteArray := prog_14_method_48_code
def yX12_size : MethodName := ⟨RX12, "size", "(I)I"⟩
abbrev cX12_goesOn : ByteArray := prog_14_method_49_code
def yX12_goesOn : MethodName := ⟨RX12, "goesOn", "(I)V"⟩
abbrev cX12_does : ByteArray := prog_14_method_50_code
def yX12_does : MethodName := ⟨RX12, "does", "(II)V"⟩
abbrev cX12_isBeyond : ByteArray := prog_14_method_51_code
def yX12_isBeyond : MethodName := ⟨RX12, "isBeyond", "()Z"⟩
abbrev cX12_runs : ByteArray := prog_14_method_52_code
def yX12_runs : MethodName := ⟨RX12, "runs", "(II)Z"⟩
abbrev cX12_isWay : ByteArray := prog_14_method_53_code
def yX12_isWay : MethodName := ⟨RX12, "isWay", "(I)Z"⟩
abbrev cX12_run : ByteArray := prog_14_method_54_code
def yX12_run : MethodName := ⟨RX12, "run", "(III)I"⟩
abbrev cX12_isFirst : ByteArray := prog_14_method_55_code
def yX12_isFirst : MethodName := ⟨RX12, "isFirst", "(I)Z"⟩
abbrev cX12_runsBoth : ByteArray := prog_14_method_56_code
def yX12_runsBoth : MethodName := ⟨RX12, "runsBoth", "(II)V"⟩
abbrev cX12_meets : ByteArray := prog_14_method_57_code
def yX12_meets : MethodName := ⟨RX12, "meets", "(IIIZ)J"⟩
abbrev cX12_areAsked : ByteArray := prog_14_method_58_code
def yX12_areAsked : MethodName := ⟨RX12, "areAsked", "(IIII)Z"⟩
abbrev cX12_meeting : ByteArray := prog_14_method_59_code
def yX12_meeting : MethodName := ⟨RX12, "meeting", "(IIIIIZ)I"⟩
abbrev cX12_there : ByteArray := prog_14_method_60_code
def yX12_there : MethodName := ⟨RX12, "there", "(III)Z"⟩
abbrev cX12_fits : ByteArray := prog_14_method_61_code
def yX12_fits : MethodName := ⟨RX12, "fits", "(IIII)I"⟩
abbrev cX12_ways : ByteArray := prog_14_method_62_code
def yX12_ways : MethodName := ⟨RX12, "ways", "(IIIII)I"⟩
abbrev cX12_seek : ByteArray := prog_14_method_63_code
def yX12_seek : MethodName := ⟨RX12, "seek", "(IIIIII)Z"⟩
abbrev cX12_off : ByteArray := prog_14_method_64_code
def yX12_off : MethodName := ⟨RX12, "off", "(III)I"⟩
abbrev cX12_chance : ByteArray := prog_14_method_65_code
def yX12_chance : MethodName := ⟨RX12, "chance", "(IIZ)J"⟩
abbrev cX12_detour : ByteArray := prog_14_method_66_code
def yX12_detour : MethodName := ⟨RX12, "detour", "(IIZ)I"⟩
abbrev cX12_table : ByteArray := prog_14_method_67_code
def yX12_table : MethodName := ⟨RX12, "table", "(II)Z"⟩
abbrev cX12_repair : ByteArray := prog_14_method_68_code
def yX12_repair : MethodName := ⟨RX12, "repair", "(III)I"⟩
abbrev cX12_lime : ByteArray := prog_14_method_69_code
def yX12_lime : MethodName := ⟨RX12, "lime", "(I)Z"⟩
abbrev cX12_widthOf : ByteArray := prog_14_method_70_code
def yX12_widthOf : MethodName := ⟨RX12, "widthOf", "(IIII)I"⟩
abbrev cX12_down : ByteArray := prog_14_method_71_code
def yX12_down : MethodName := ⟨RX12, "down", "(JJ)J"⟩
abbrev cX12_lets : ByteArray := prog_14_method_72_code
def yX12_lets : MethodName := ⟨RX12, "lets", "(JI)I"⟩
abbrev cX12_isFlow : ByteArray := prog_14_method_73_code
def yX12_isFlow : MethodName := ⟨RX12, "isFlow", "(III)Z"⟩
abbrev cX12_letsBy : ByteArray := prog_14_method_74_code
def yX12_letsBy : MethodName := ⟨RX12, "letsBy", "(IIIIZ)I"⟩
abbrev cX12_narrowest : ByteArray := prog_14_method_75_code
def yX12_narrowest : MethodName := ⟨RX12, "narrowest", "(IIIZ)I"⟩
abbrev cX12_flow : ByteArray := prog_14_method_76_code
def yX12_flow : MethodName := ⟨RX12, "flow", "(IIIZ)I"⟩
abbrev cX12_narrow : ByteArray := prog_14_method_77_code
def yX12_narrow : MethodName := ⟨RX12, "narrow", "(III)I"⟩
abbrev cX12_about : ByteArray := prog_14_method_78_code
def yX12_about : MethodName := ⟨RX12, "about", "(I)I"⟩
def RJ9 : String := "java/lang/Math"
abbrev cJ9_floorDiv_f86c9 : ByteArray := prog_15_method_49_code
def yJ9_floorDiv_f86c9 : MethodName := ⟨RJ9, "floorDiv", "(JJ)J"⟩
abbrev cJ9_abs_0f7a4 : ByteArray := prog_15_method_59_code
def yJ9_abs_0f7a4 : MethodName := ⟨RJ9, "abs", "(I)I"⟩
abbrev cJ9_abs_067f4 : ByteArray := prog_15_method_61_code
def yJ9_abs_067f4 : MethodName := ⟨RJ9, "abs", "(J)J"⟩
abbrev cJ9_max_7cf53 : ByteArray := prog_15_method_65_code
def yJ9_max_7cf53 : MethodName := ⟨RJ9, "max", "(II)I"⟩
abbrev cJ9_max_f86c9 : ByteArray := prog_15_method_66_code
def yJ9_max_f86c9 : MethodName := ⟨RJ9, "max", "(JJ)J"⟩
abbrev cJ9_min_7cf53 : ByteArray := prog_15_method_69_code
def yJ9_min_7cf53 : MethodName := ⟨RJ9, "min", "(II)I"⟩
abbrev cJ9_min_f86c9 : ByteArray := prog_15_method_70_code
def yJ9_min_f86c9 : MethodName := ⟨RJ9, "min", "(JJ)J"⟩
def RJ0 : String := "java/lang/String"
abbrev cJ0_length_8abf5 : ByteArray := prog_16_method_54_code
def yJ0_length_8abf5 : MethodName := ⟨RJ0, "length", "()I"⟩
abbrev cJ0_charAt_5068e : ByteArray := prog_16_method_56_code
def yJ0_charAt_5068e : MethodName := ⟨RJ0, "charAt", "(I)C"⟩
abbrev cJ0_coder_7d493 : ByteArray := prog_16_method_152_code
def yJ0_coder_7d493 : MethodName := ⟨RJ0, "coder", "()B"⟩
abbrev cJ0_isLatin1_aae02 : ByteArray := prog_16_method_154_code
def yJ0_isLatin1_aae02 : MethodName := ⟨RJ0, "isLatin1", "()Z"⟩
abbrev cJ0_checkIndex_df160 : ByteArray := prog_16_method_155_code
def yJ0_checkIndex_df160 : MethodName := ⟨RJ0, "checkIndex", "(II)V"⟩
def RJ1 : String := "java/lang/StringLatin1"
abbrev cJ1_charAt_3b067 : ByteArray := prog_17_method_2_code
def yJ1_charAt_3b067 : MethodName := ⟨RJ1, "charAt", "([BI)C"⟩
def RJ2 : String := "java/lang/StringUTF16"
abbrev cJ2_getChar_3b067 : ByteArray := prog_18_method_5_code
def yJ2_getChar_3b067 : MethodName := ⟨RJ2, "getChar", "([BI)C"⟩
abbrev cJ2_length_9d52b : ByteArray := prog_18_method_6_code
def yJ2_length_9d52b : MethodName := ⟨RJ2, "length", "([B)I"⟩
abbrev cJ2_charAt_3b067 : ByteArray := prog_18_method_83_code
def yJ2_charAt_3b067 : MethodName := ⟨RJ2, "charAt", "([BI)C"⟩
abbrev cJ2_checkIndex_2214a : ByteArray := prog_18_method_91_code
def yJ2_checkIndex_2214a : MethodName := ⟨RJ2, "checkIndex", "(I[B)V"⟩
def RJ3 : String := "jdk/internal/util/Preconditions"
abbrev cJ3_checkIndex_8e157 : ByteArray := prog_19_method_11_code
def yJ3_checkIndex_8e157 : MethodName := ⟨RJ3, "checkIndex", "(IILjava/util/function/BiFunction;)I"⟩
def RL : String := "TunnelBookLaw"
abbrev cL_law : ByteArray := code
def yL_law : MethodName := ⟨RL, "law", "([I)Z"⟩
abbrev vwCl : List vw_C := [(RX0, TX0, 4), (RX1, TX1, 16), (RX2, TX2, 3), (RX3, TX3, 6), (RX4, TX4, 16), (RX5, TX5, 4), (RX6, TX6, 6), (RX7, TX7, 9), (RX8, TX8, 7), (RX9, TX9, 18), (RX10, TX10, 4), (RX11, TX11, 11), (RX12, TX12, 77)]
