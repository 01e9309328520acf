/-! from the law's entry on -/
theorem vwCl_len : vwCl.length = 13 := by decide +kernel
theorem lw_know {b : Nat} {s : State} (ht0 : ∀ w ∈ lw_tbl, w.before #[Value.ref b] s = true) : ∃ (D : va_G) (cid : Nat → ClassId), va_K D vwCl (px_tys cid) s := by
  have hts : ∀ w ∈ px_T, w.before #[Value.ref b] s = true := fun w hw => ht0 w (List.mem_filter.mp hw).1
  obtain ⟨c0, i0, -⟩ := u_known (C := px_Rn 0) (T := px_Tf 0) (N := px_Nf 0) (n := px_Nf 0) hts (px_cl_in 0 (by decide)) (hts _ (px_in_ok 0 (by decide)).1)
  have h0 : ∀ ci : Nat, ∃ q : ClassId × (Nat → Nat), ci < 13 → u_Kn s (px_Rn ci) (px_Tf ci) (px_Nf ci) q.1 q.2 := fun ci => by
    by_cases h : ci < 13
    · obtain ⟨cC, iS, hk⟩ := u_known (C := px_Rn ci) (T := px_Tf ci) (N := px_Nf ci) (n := px_Nf ci) hts (px_cl_in ci h) (hts _ (px_in_ok ci h).1)
      exact ⟨(cC, iS), fun _ => hk⟩
    · exact ⟨(c0, i0), fun q => absurd q h⟩
  have ar : ∀ ty : FieldType, (∀ C, ty ≠ .object C) → (Cond.arrayClass ty).before #[Value.ref b] s = true → ∃ cA : ClassId, ArrOfT s cA ty ∧ s.vm.findClass ("[" ++ ty.toString) = some cA := fun ty _ h => by
    obtain ⟨cA, kA, comp, hfind, hk, hkind⟩ := Cond.arrayClass_spec h
    exact ⟨cA, fun n z => ⟨fun k h => (by cases h), kA, hk, comp, hkind⟩, hfind⟩
  obtain ⟨a0, a1, a2⟩ := ar .int (fun _ h => by cases h) (ht0 (Jvm.Cond.arrayClass .int) (by decide +kernel))
  obtain ⟨b0, b1, b2⟩ := ar .long (fun _ h => by cases h) (ht0 (Jvm.Cond.arrayClass .long) (by decide +kernel))
  obtain ⟨d0, d1, d2⟩ := ar .byte (fun _ h => by cases h) (ht0 (Jvm.Cond.arrayClass .byte) (by decide +kernel))
  obtain ⟨e0, e1, e2⟩ := ar .boolean (fun _ h => by cases h) (ht0 (Jvm.Cond.arrayClass .boolean) (by decide +kernel))
  obtain ⟨comp, f0, kf, f1, f2, f3, f4, f5⟩ := Cond.arrayOver_spec (ht0 (Jvm.Cond.arrayOver (Jvm.ClassFile.FieldType.object "TunnelBook$Way")) (by decide +kernel))
  refine ⟨(fun ci => (Classical.choose (h0 ci)).1, fun ci => (Classical.choose (h0 ci)).2), fun k => if k = 0 then a0 else if k = 1 then b0 else if k = 2 then d0 else if k = 3 then e0 else f0, fun c q hq => ?_, fun k q hk => ?_⟩
  · have hc : c < 13 := vwCl_len ▸ (List.getElem?_eq_some_iff.mp hq).1
    have e := Option.some.inj ((px_cl_at c hc).symm.trans hq)
    rw [← e]
    exact Classical.choose_spec (h0 c) hc
  · match k, hk with
    | 0, hk => cases hk; exact ⟨a1, a2⟩
    | 1, hk => cases hk; exact ⟨b1, b2⟩
    | 2, hk => cases hk; exact ⟨d1, d2⟩
    | 3, hk => cases hk; exact ⟨e1, e2⟩
    | 4, hk => cases hk; exact ⟨fun n z => ⟨fun k h => (by cases h), kf, f3, comp, f4⟩, ⟨kf, comp, f3, f4, f1, f5⟩⟩
    | k + 5, hk => simp [px_tys] at hk
theorem lw_start {p : Program} {l : Launch} {e : Env} {s : State} {m : MethodId} {below : List Frame} {meth : Method} {c : Code} {b N : Nat} {xs : Nat → Int32} {Z : State → Prop} (hL : N ≤ 4096) (hx : p.tables.exec = Jvm.exec) (hb : c.code = cL_law) (hml : c.maxLocals = 4) (hown : s.vm.findClass RL = some m.cls) (ht0 : ∀ w ∈ lw_tbl, w.before #[Value.ref b] s = true) (hX : va_X b N xs s s.heap) (hbl : b < s.heap.size) (hgv : (Jvm.Cond.and given_1 narrow_1).before #[Value.ref b] s = true)
    (kk : ∀ (pc : Nat) (H : Heap) (ls : Array Slot), decode cL_law pc = .ok (.ireturn, 1) → W p l e (px_room (M_law N xs)) s m #[Value.ref b] below meth c H [] 600000 7302250 Z (F0 m pc ls [.int 1])) : W p l e (px_room (M_law N xs)) s m #[Value.ref b] below meth c s.heap [] 0 0 Z (entryFrame m ([Value.ref b] : List Value).toArray 4) := by
  have hts : ∀ w ∈ px_T, w.before #[Value.ref b] s = true := fun w hw => ht0 w (List.mem_filter.mp hw).1
  obtain ⟨cst, hc, hC⟩ := lw_world hgv ht0
  obtain ⟨D, cid, hK⟩ := lw_know ht0
  have hl := lv_entry ([.ref b]) (n := 4) (Nat.le_of_ble_eq_true rfl)
  rw [lg_entry_eq]
  generalize (lg_sl ([.ref b]) ++ List.replicate (4 - (lg_sl ([.ref b])).length) Slot.unset).toArray = ls at hl ⊢
  have hl : lv_has ls 4 [(0, .ref b)] := hl
  have key := lw_px (N := N) (xs := xs) hL (Q := fun r n I L R => r = some (.int 1)) (fun _ _ _ _ => rfl)
  refine key p l e s m #[Value.ref b] below meth c s.heap.size cst D cid Z s.heap [] ls ⟨hx, hb, hml, hown, hts, hK, Nat.le_refl _, hC, fun h => absurd h (show ¬ ("law" : String) = "<init>" by decide), ⟨by rw [hc]; exact hX, by rw [hc]; exact hbl⟩, fun r n I L R H locs cu su pc lr hQ hW hS hr hcu hsu => ?_⟩ ⟨rfl, Nat.le_refl _, fun k h1 h2 => absurd h2 (by omega)⟩ va_S.rf ?_
  · subst hQ
    refine W.widen hcu hsu (va_forget (fun q hq => hS.2.2 q hq) ?_)
    exact kk pc H lr hr.1
  · have e : px_v (px_ad s.heap.size cst) (.ref 20) = .ref b := by rw [← hc]; exact congrArg Value.ref (px_adc (by decide))
    show lv_has ls 4 [(0, px_v (px_ad s.heap.size cst) (.ref 20))]
    rw [e]; exact hl
