/-! A machine without addresses: objects and arrays by number, ints, longs and references apart; what it does the real one does (px, px_K); rules for straight stretches of code. -/
abbrev px_I : Type := Nat → Nat → Int32
abbrev px_L : Type := Nat → Nat → Int64
abbrev px_R : Type := Nat → Nat → Option Nat
abbrev px_Ls : Type := List (Nat × Value)
abbrev px_Q : Type := Option Value → Nat → px_I → px_L → px_R → Prop
/-- a method: name, code, locals, what it answers; frames, words, cells, slots that it may take; what else is known at its start -/
abbrev px_M : Type := MethodName × ByteArray × Nat × Option FieldType × Nat × Nat × Nat × Nat × ((Nat → Nat) → Nat → State → Prop)
def px_room (M : px_M) : Room := { frames := M.2.2.2.2.1, cells := M.2.2.2.2.2.2.1, slots := M.2.2.2.2.2.2.2.1, locals := M.2.2.2.2.2.1 }
def px_ws (M : px_M) : List Cond := Cond.code M.1 M.2.1 M.2.2.1 M.2.2.2.1 :: px_T
def px_ad (base : Nat) (cst : Nat → Nat) (k : Nat) : Nat := if k < 32 then cst k else base + (k - 32)
def px_v (ad : Nat → Nat) : Value → Value
  | .ref k => .ref (ad k)
  | v => v
theorem px_v_cat (ad : Nat → Nat) (v : Value) : (px_v ad v).category = v.category := by cases v <;> rfl
def px_fv (ad : Nat → Nat) (c : Nat) (i : Int32) (l : Int64) (r : Option Nat) : Value := if c = 1 then .long l else if c = 2 then va_rf (r.map ad) else .int i
def px_fs (ad : Nat → Nat) (ci : Nat) (I : Nat → Int32) (L : Nat → Int64) (R : Nat → Option Nat) : List Value := (List.range (px_Nf ci)).map fun k => px_fv ad (px_ft ci k) (I k) (L k) (R k)
def px_e (ad : Nat → Nat) (cid : Nat → ClassId) (sh : Nat × Nat × Int32) (I : Nat → Int32) (L : Nat → Int64) (R : Nat → Option Nat) : va_E :=
  if sh.1 = 20 then .inl (cid 0, sh.2.1, .inl I) else if sh.1 = 21 then .inl (cid 1, sh.2.1, .inr (.inl L)) else if sh.1 = 22 then .inl (cid 2, sh.2.1, .inl I) else if sh.1 = 23 then .inl (cid 3, sh.2.1, .inl I)
  else if sh.1 = 24 then .inl (cid 4, sh.2.1, .inr (.inr (.inr (.inr fun i => (R i).map ad)))) else .inr (sh.1, px_fs ad sh.1 I L R)
/-- the real heap holds the numbers' contents -/
def px_W (base : Nat) (cst : Nat → Nat) (D : va_G) (cid : Nat → ClassId) (n : Nat) (I : px_I) (L : px_L) (R : px_R) (H : Heap) : Prop :=
  H.size + 32 = base + n ∧ 32 ≤ n ∧ ∀ k, 32 ≤ k → k < n → va_at D vwCl (px_ad base cst k, px_e (px_ad base cst) cid (px_sh k) (I k) (L k) (R k)) H
def px_tys (cid : Nat → ClassId) : List (ClassId × FieldType) := [(cid 0, .int), (cid 1, .long), (cid 2, .byte), (cid 3, .boolean), (cid 4, .object RX10)]
def px_A (base : Nat) : Nat → Prop := fun q => base ≤ q
def px_txt : List (Nat × String) := [(96, "line"), (106, "turn"), (108, "rise"), (111, "fall"), (113, "shaft"), (118, "poles"), (120, "do"), (125, "repeat"), (130, "def")]
def px_len : List Nat := [4, 4, 4, 4, 5, 5, 2, 6, 3]
def px_byt : List (List Int32) := [[108, 105, 110, 101], [116, 117, 114, 110], [114, 105, 115, 101], [102, 97, 108, 108], [115, 104, 97, 102, 116], [112, 111, 108, 101, 115], [100, 111], [114, 101, 112, 101, 97, 116], [100, 101, 102]]
def px_east : List Int32 := [1000, 924, 707, 383]
def px_nort : List Int32 := [0, 383, 707, 924]
/-- what stands outside: texts (0 .. 8, their bytes 9 .. 17), two tables (18, 19), two numbers of the JDK's -/
def px_C (base : Nat) (cst : Nat → Nat) (U : State) (H : Heap) : Prop :=
  vk_S 9 px_len px_byt cst (fun i => cst (9 + i)) (px_A base) U H ∧ (∀ i, i < 9 → vk_R RX4 (px_txt.getD i (0, "")).1 (px_txt.getD i (0, "")).2 (cst i) U) ∧
  va_Z RX9 "EAST" "[I" (.ref (cst 18)) (px_A base) U H ∧ va_T .int (cst 18) 4 (fun j => .int (px_east.getD j 0)) (px_A base) U H ∧
  va_Z RX9 "NORTH" "[I" (.ref (cst 19)) (px_A base) U H ∧ va_T .int (cst 19) 4 (fun j => .int (px_nort.getD j 0)) (px_A base) U H ∧
  va_Z "java/lang/String" "COMPACT_STRINGS" "Z" (.int 1) (px_A base) U H ∧ (va_Z "jdk/internal/util/Preconditions" "SIOOBE_FORMATTER" "Ljava/util/function/BiFunction;" .null (px_A base) U H ∨ va_Z "jdk/internal/util/Preconditions" "SIOOBE_FORMATTER" "Ljava/util/function/BiFunction;" (.ref (cst 22)) (px_A base) U H) ∧ va_AO RX10 U ∧ ∀ e ∈ px_nest, va_Nw (.methodLinkNest e.1 e.2.1 e.2.2.1 e.2.2.2) U
theorem px_C.go {base : Nat} {cst : Nat → Nat} {s U : State} {H : Heap} {locs : List Loc} (h : px_C base cst s s.heap) (hS : va_S (px_A base) s.heap H locs) (hW : s.WarmedH U.vm) (hb : base ≤ s.heap.size) : px_C base cst U H := by
  have hq : ∀ a : Nat, a < s.heap.size → ¬ px_A base a → H[a]? = s.heap[a]? := hS.2.1
  obtain ⟨h1, h2, h3, h4, h5, h6, h7, h8, h9, h10⟩ := h
  exact ⟨(h1.kept hq).moved hW.alike, fun i hi => (h2 i hi).warm hW, (h3.kept hq).moved hW.alike, (h4.kept hq).moved hW.alike, (h5.kept hq).moved hW.alike, (h6.kept hq).moved hW.alike, (h7.kept hq).moved hW.alike, h8.imp (fun h => (h.kept hq).moved hW.alike) (fun h => (h.kept hq).moved hW.alike), h9.moved hW.alike, fun e he => (h10 e he).warmM hW⟩
theorem px_C.same {base : Nat} {cst : Nat → Nat} {u U : State} {H : Heap} (h : px_C base cst u H) (hv : U.vm = u.vm) : px_C base cst U H := by
  have ha : u.vm.Alike U.vm := by rw [hv]; exact Vm.Alike.refl _
  obtain ⟨h1, h2, h3, h4, h5, h6, h7, h8, h9, h10⟩ := h
  exact ⟨h1.moved ha, fun i hi => (h2 i hi).same hv, h3.moved ha, h4.moved ha, h5.moved ha, h6.moved ha, h7.moved ha, h8.imp (fun h => h.moved ha) (fun h => h.moved ha), h9.moved ha, fun e he => (h10 e he).same rfl hv.symm⟩
/-- a return with that value may stand there -/
def px_isr (M : px_M) (pc : Nat) (r : Option Value) : Prop := match r with
  | none => M.2.2.2.1 = none ∧ decode M.2.1 pc = .ok (.return_, 1)
  | some (.int x) => decode M.2.1 pc = .ok (.ireturn, 1) ∧ ∃ ty, M.2.2.2.1 = some ty ∧ narrow ty (.int x) = .int x
  | some (.long _) => decode M.2.1 pc = .ok (.lreturn, 1) ∧ M.2.2.2.1 = some .long
  | some v => decode M.2.1 pc = .ok (.areturn, 1) ∧ (∃ t, M.2.2.2.1 = some t ∧ ((∃ nm, t = .object nm) ∨ ∃ t1, t = .array t1)) ∧ (v = .null ∨ ∃ a, v = .ref a)
section PX
variable (p : Program) (l : Launch) (e : Env) (s : State) (m : MethodId) (args : Array Value) (below : List Frame) (meth : Method) (c : Code) (M : px_M) (base : Nat) (cst : Nat → Nat) (D : va_G) (cid : Nat → ClassId) (Z : State → Prop) (Q : px_Q)
/-- in what a stretch of code stands -/
def px_X : Prop :=
  p.tables.exec = Jvm.exec ∧ c.code = M.2.1 ∧ c.maxLocals = M.2.2.1 ∧ s.vm.findClass M.1.cls = some m.cls ∧ (∀ w ∈ px_T, w.before args s = true) ∧ va_K D vwCl (px_tys cid) s ∧ base ≤ s.heap.size ∧ px_C base cst s s.heap ∧ (M.1.name = "<init>" → meth.name = "<init>") ∧ M.2.2.2.2.2.2.2.2 cst base s ∧
  ∀ (r : Option Value) (n : Nat) (I : px_I) (L : px_L) (R : px_R) (H : Heap) (locs : List Loc) (cu su pc : Nat) (ls : Array Slot), Q r n I L R → px_W base cst D cid n I L R H → va_S (px_A base) s.heap H locs → px_isr M pc r → cu ≤ (px_room M).cells → su ≤ (px_room M).slots →
    W p l e (px_room M) s m args below meth c H locs cu su Z (F0 m pc ls (r.toList.map (px_v (px_ad base cst))))
end PX
/-- from here the machine comes to a return with Q -/
def px (M : px_M) (cu su pc : Nat) (ls : px_Ls) (st : List Value) (n : Nat) (I : px_I) (L : px_L) (R : px_R) (Q : px_Q) : Prop :=
  ∀ (p : Program) (l : Launch) (e : Env) (s : State) (m : MethodId) (args : Array Value) (below : List Frame) (meth : Method) (c : Code) (base : Nat) (cst : Nat → Nat) (D : va_G) (cid : Nat → ClassId) (Z : State → Prop) (H : Heap) (locs : List Loc) (lr : Array Slot),
    px_X p l e s m args below meth c M base cst D cid Z Q → px_W base cst D cid n I L R H → va_S (px_A base) s.heap H locs → lv_has lr M.2.2.1 (ls.map fun q => (q.1, px_v (px_ad base cst) q.2)) →
    W p l e (px_room M) s m args below meth c H locs cu su Z (F0 m pc lr (st.map (px_v (px_ad base cst))))
def px_Qc (base : Nat) (cst : Nat → Nat) (D : va_G) (cid : Nat → ClassId) (Q : px_Q) : Array Value → State → Outcome → State → Prop := fun _ st oc t =>
  (∃ (r : Option Value) (n : Nat) (I : px_I) (L : px_L) (R : px_R), oc = .returned (r.map (px_v (px_ad base cst))) ∧ Q r n I L R ∧ px_W base cst D cid n I L R t.heap) ∧ va_F (px_A base) st t
def px_Pc (base : Nat) (cst : Nat → Nat) (D : va_G) (cid : Nat → ClassId) (as : List Value) (n : Nat) (I : px_I) (L : px_L) (R : px_R) : Array Value → State → Prop :=
  va_Pc (as.map (px_v (px_ad base cst))) (fun U => px_W base cst D cid n I L R U.heap ∧ va_K D vwCl (px_tys cid) U ∧ px_C base cst U U.heap)
/-- a method's contract: from these arguments and contents it returns with Q -/
def px_K (M : px_M) (as : List Value) (n : Nat) (I : px_I) (L : px_L) (R : px_R) (Q : px_Q) : Prop :=
  ∀ (l : Launch) (base : Nat) (cst : Nat → Nat) (D : va_G) (cid : Nat → ClassId), Met l M.1 (px_ws M) (px_room M) (px_Pc base cst D cid as n I L R) (px_Qc base cst D cid Q) (px_room M).cells (px_room M).slots (px_A base)
theorem px_W.le {base : Nat} {cst : Nat → Nat} {D : va_G} {cid : Nat → ClassId} {n : Nat} {I : px_I} {L : px_L} {R : px_R} {H : Heap} (h : px_W base cst D cid n I L R H) : base ≤ H.size := by
  have h1 := h.1; have h2 := h.2.1; omega
theorem px_args_map (ad : Nat → Nat) (as : List Value) : ∀ i : Nat, lv_args i (as.map (px_v ad)) = (lv_args i as).map fun q => (q.1, px_v ad q.2) := by
  induction as with
  | nil => intro i; rfl
  | cons v t ih => intro i; simp only [List.map_cons, lv_args, px_v_cat, ih]
theorem px_sl_len (ad : Nat → Nat) (as : List Value) : (lg_sl (as.map (px_v ad))).length = (lg_sl as).length := by
  induction as with
  | nil => rfl
  | cons v t ih =>
    simp only [List.map_cons, lg_sl, List.flatMap_cons, List.length_append, px_v_cat] at ih ⊢
    rw [ih]
    by_cases h : v.category = 2 <;> simp [h]
/-- a contract by a walk from the entry; a method of the JDK's too, whose name no native row has -/
theorem px_ofW {l : Launch} {y : MethodName} {ws ws' : List Cond} {rm : Room} {Pc : Array Value → State → Prop} {Qc : Array Value → State → Outcome → State → Prop} {mc ms : Nat} {free : Addr → Prop} {cc : ByteArray} {maxL : Nat} {ret : Option FieldType}
    (hy : plainFor y = true) (hw : ws = Cond.code y cc maxL ret :: ws')
    (body : ∀ p e s m args below meth c s₁, BodyLoose p l y (headSpec ws rm) cc maxL ret e s m args below meth c s₁ → c.maxLocals = maxL → Pc args s →
      W p l e (headSpec ws rm).room s m args below meth c s.heap [] 0 0 (MQ below Qc args s mc ms free) (entryFrame m args maxL)) : Met l y ws rm Pc Qc mc ms free := by
  refine MetFree.of_bodySF (code := cc) (maxLocals := maxL) (ret := ret) hy ?_ ?_
  · intro args s m h hn
    obtain ⟨meth, c, h1, h2, h3, h4, h5, h6, -, -⟩ := Cond.code_spec hn (atoms_spec (ws := ws) h _ (by rw [hw]; exact List.mem_cons_self))
    exact ⟨meth, c, h1, h2, h3, h4, h5, h6⟩
  · intro p e s m args below meth c s₁ B hml hP _
    have hh0 : s₁.heap = s.heap := by rw [B.state]; rfl
    obtain ⟨t, a1, o, b1, b2, b3⟩ := body p e s m args below meth c s₁ B hml hP s₁ hh0 (Stand.of_body B)
    exact ⟨t, o, a1, b1, b2, ⟨b3.1, b3.2⟩⟩
/-- a contract by a walk from the entry -/
theorem px_of {M : px_M} {as : List Value} {n : Nat} {I : px_I} {L : px_L} {R : px_R} {Q : px_Q} (hy : plainFor M.1 = true) (hE : ∀ (cst : Nat → Nat) (base : Nat) (s : State), M.2.2.2.2.2.2.2.2 cst base s) (hn : Nat.ble (lg_sl as).length M.2.2.1 = true)
    (k : px M 0 0 0 (lv_args 0 as) [] n I L R Q) : px_K M as n I L R Q := by
  intro l base cst D cid
  refine px_ofW (cc := M.2.1) (maxL := M.2.2.1) (ret := M.2.2.2.1) hy rfl ?_
  intro p e s m args below meth c s₁ B hml hv
  obtain ⟨rfl, hW, hK, hC⟩ := hv
  have hts0 := atoms_spec (ws := px_ws M) B.pre
  have hlocks := B.notSynchronized
  have hx := B.exec
  have hb := B.bytes
  have hr := B.returns
  have hln : (lg_sl (as.map (px_v (px_ad base cst)))).length ≤ M.2.2.1 := by rw [px_sl_len]; exact Nat.le_of_ble_eq_true hn
  have hl := lv_entry (as.map (px_v (px_ad base cst))) (n := M.2.2.1) hln
  rw [lg_entry_eq]
  generalize (lg_sl (as.map (px_v (px_ad base cst))) ++ List.replicate (M.2.2.1 - (lg_sl (as.map (px_v (px_ad base cst)))).length) Slot.unset).toArray = lr at hl ⊢
  rw [px_args_map] at hl
  refine k p l e s m _ below meth c base cst D cid _ s.heap [] lr ⟨hx, hb, hml, findClass_of_methodNamed B.named, fun w hw => hts0 w (List.mem_cons_of_mem _ hw), hK, hW.le, hC, fun h => ((name_of_methodNamed B.named B.method).1).trans h, hE _ _ _, ?_⟩ hW va_S.rf hl
  intro r n' I' L' R' H locs cu su pc ls hQ hW' hS hret hcu hsu
  refine W.widen hcu hsu ?_
  have hq : ∀ t : State, t.heap = H → px_Qc base cst D cid Q (as.map (px_v (px_ad base cst))).toArray s (.returned (r.map (px_v (px_ad base cst)))) t := fun t ht => ⟨⟨r, n', I', L', R', rfl, hQ, by rw [ht]; exact hW'⟩, hS.F ht⟩
  match r, hret, hq with
  | none, hret, hq => exact W.vret hx hb (hr.trans hret.1) (fun t ht _ => hq t ht) hS.2.2 hret.2
  | some (.int x), hret, hq =>
    obtain ⟨h1, ty, h2, h3⟩ := hret
    exact W.zret (ty := ty) hx hb (hr.trans h2) h3 (fun t ht _ => hq t ht) hS.2.2 h1
  | some (.long x), hret, hq => exact W.lret hx hb (hr.trans hret.2) (fun t ht _ => hq t ht) hS.2.2 hret.1
  | some (.float x), hret, hq => exact absurd hret.2.2 (by simp)
  | some (.double x), hret, hq => exact absurd hret.2.2 (by simp)
  | some (.retAddr x), hret, hq => exact absurd hret.2.2 (by simp)
  | some .null, hret, hq =>
    obtain ⟨h1, ⟨t, h2, h3⟩, -⟩ := hret
    exact W.aret (rt := t) hx hb (hr.trans h2) h3 (Or.inl rfl) (fun t ht _ => hq t ht) hS.2.2 h1
  | some (.ref a), hret, hq =>
    obtain ⟨h1, ⟨t, h2, h3⟩, -⟩ := hret
    exact W.aret (rt := t) hx hb (hr.trans h2) h3 (Or.inr ⟨_, rfl⟩) (fun t ht _ => hq t ht) hS.2.2 h1
