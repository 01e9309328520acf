/-! a gallery: its pegs, marks, days, holes, repairs -/
def cPeg (g : Nat) (I : px_I) (st : Int32) : px_I := px_u (px_u (px_u (px_u I (g + 1) (I g 13).toNatClampNeg st) (g + 7) (I g 13).toNatClampNeg 0) (g + 8) (I g 13).toNatClampNeg 20000) g 13 (I g 13 + 1)
def cRch (g : Nat) (J : px_I) (P lo hi sl fa w : Int32) : px_I := px_u (px_u (px_u (px_u (px_u J (g + 2) P.toNatClampNeg lo) (g + 3) P.toNatClampNeg hi) (g + 4) P.toNatClampNeg ((lo + fa - 1) / fa)) (g + 5) P.toNatClampNeg (hi / sl)) (g + 6) P.toNatClampNeg w
def cReach (g : Nat) (I : px_I) (lo hi sl fa w st : Int32) : px_I := cRch g (cPeg g (if I g 13 = 0 then cPeg g I (-1) else I) st) (if I g 13 = 0 then 1 else I g 13) lo hi sl fa w
def cReachOk (g : Nat) (I : px_I) (lo hi sl fa w : Int32) : Prop := (1 ≤ lo ∧ lo ≤ hi ∧ hi ≤ 1000000) ∧ (1 ≤ sl ∧ sl ≤ fa ∧ fa ≤ 10000) ∧ (100 ≤ w ∧ w ≤ 5000) ∧ I g 13 < 20
def cMx (a b : Int32) : Int32 := if a < b then b else a
def cMn (a b : Int32) : Int32 := if b < a then b else a
def cMark (g : Nat) (I : px_I) (p f t : Int32) : px_I := px_u (px_u (px_u I (g + 7) p.toNatClampNeg (cMx (I (g + 7) p.toNatClampNeg) f)) (g + 8) p.toNatClampNeg (cMn (I (g + 8) p.toNatClampNeg) t)) g 14 (I g 14 + 1)
def cRep (g : Nat) (I : px_I) (p y d : Int32) : px_I := px_u (px_u (px_u (px_u I (g + 11) (I g 15).toNatClampNeg p) (g + 12) (I g 15).toNatClampNeg y) (g + 13) (I g 15).toNatClampNeg d) g 15 (I g 15 + 1)
def cEI (g : Nat) (I I2 : px_I) : Prop := ∀ b, b ≠ g + 9 → b ≠ g + 10 → I2 b = I b
theorem cEI.u9 {g : Nat} {I I1 : px_I} (h : cEI g I I1) {b : Nat} (hb : b = g + 9 ∨ b = g + 10) (k : Nat) (v : Int32) : cEI g I (px_u I1 b k v) := fun b2 h3 h4 => by rw [px_u_ne (by omega)]; exact h b2 h3 h4
def cHo (g : Nat) (I : px_I) (p h a z : Int32) : Prop := (1 ≤ p ∧ p < I g 13) ∧ 0 ≤ h ∧ cMx a (I (g + 2) p.toNatClampNeg / (h + 1) + 1) ≤ (if h = 0 then z else cMn z (I (g + 3) p.toNatClampNeg / h))

theorem q_X1_hasPeg_0 : px_bk 1 2 cX1_hasPeg 0 [(.iload_n 1, (0, 0, 0, 0, 0), 0, 0)] = some 1 ∧ px_t1 cX1_hasPeg 1 .lt 16 = true := by decide +kernel
theorem q_X1_hasPeg_16 : px_bk 1 2 cX1_hasPeg 16 [(.iconst 0, (0, 0, 0, 0, 0), 0, 0)] = some 17 ∧ px_tr cX1_hasPeg 17 .ireturn = true := by decide +kernel
theorem q_X1_hasPeg_4 : px_bk 1 2 cX1_hasPeg 4 [(.iload_n 1, (0, 0, 0, 0, 0), 0, 0), (.aload_n 0, (0, 0, 0, 0, 0), 0, 0), (.getfield 51, (1, 13, 0, 0, 0), 0, 0)] = some 9 ∧ px_t2 cX1_hasPeg 9 .ge 16 = true := by decide +kernel
theorem q_X1_hasPeg_12 : px_bk 1 2 cX1_hasPeg 12 [(.iconst 1, (0, 0, 0, 0, 0), 1, 0), (.goto 4, (0, 0, 0, 0, 0), 0, 0)] = some 17 ∧ px_tr cX1_hasPeg 17 .ireturn = true := by decide +kernel
set_option maxRecDepth 100000 in
theorem c_hasPegA {n : Nat} {I : px_I} {L : px_L} {R : px_R} (hg : px_G n R) (p : Int32) : px_KP M_X1_hasPeg [.ref 41, .int p] n I L R (fun r => (r = 1 ∧ (0 ≤ p ∧ p < I 41 13)) ∨ (r = 0 ∧ ¬ (0 ≤ p ∧ p < I 41 13))) := by
  refine px_of (plainFor_of_name np_RX1) (fun _ _ _ => trivial) rfl ?_
  refine px_lt rfl q_X1_hasPeg_0 hg rfl trivial (fun c1 => ?_) (fun c1 => ?_)
  · refine px_rzP rfl q_X1_hasPeg_16 rfl rfl rfl hg rfl trivial ⟨⟨rfl, rfl, rfl, rfl⟩, (by first | exact Or.inl rfl | exact Or.inr rfl | grind), ?_⟩
    grind
  · refine px_ige rfl q_X1_hasPeg_4 hg rfl trivial (fun c9 => ?_) (fun c9 => ?_)
    · refine px_rzP rfl q_X1_hasPeg_16 rfl rfl rfl hg rfl trivial ⟨⟨rfl, rfl, rfl, rfl⟩, (by first | exact Or.inl rfl | exact Or.inr rfl | grind), ?_⟩
      grind
    · refine px_rzP rfl q_X1_hasPeg_12 rfl rfl rfl hg rfl trivial ⟨⟨rfl, rfl, rfl, rfl⟩, (by first | exact Or.inl rfl | exact Or.inr rfl | grind), ?_⟩
      grind

theorem q_X1_hasReach_0 : px_bk 1 2 cX1_hasReach 0 [(.iload_n 1, (0, 0, 0, 0, 0), 0, 0), (.iconst 1, (0, 0, 0, 0, 0), 1, 0)] = some 2 ∧ px_t2 cX1_hasReach 2 .lt 17 = true := by decide +kernel
theorem q_X1_hasReach_17 : px_bk 1 2 cX1_hasReach 17 [(.iconst 0, (0, 0, 0, 0, 0), 0, 0)] = some 18 ∧ px_tr cX1_hasReach 18 .ireturn = true := by decide +kernel
theorem q_X1_hasReach_5 : px_bk 1 2 cX1_hasReach 5 [(.iload_n 1, (0, 0, 0, 0, 0), 0, 0), (.aload_n 0, (0, 0, 0, 0, 0), 0, 0), (.getfield 51, (1, 13, 0, 0, 0), 0, 0)] = some 10 ∧ px_t2 cX1_hasReach 10 .ge 17 = true := by decide +kernel
theorem q_X1_hasReach_13 : px_bk 1 2 cX1_hasReach 13 [(.iconst 1, (0, 0, 0, 0, 0), 1, 0), (.goto 4, (0, 0, 0, 0, 0), 0, 0)] = some 18 ∧ px_tr cX1_hasReach 18 .ireturn = true := by decide +kernel
set_option maxRecDepth 100000 in
theorem c_hasReachA {n : Nat} {I : px_I} {L : px_L} {R : px_R} (hg : px_G n R) (p : Int32) : px_KP M_X1_hasReach [.ref 41, .int p] n I L R (fun r => (r = 1 ∧ (1 ≤ p ∧ p < I 41 13)) ∨ (r = 0 ∧ ¬ (1 ≤ p ∧ p < I 41 13))) := by
  refine px_of (plainFor_of_name np_RX1) (fun _ _ _ => trivial) rfl ?_
  refine px_ilt rfl q_X1_hasReach_0 hg rfl trivial (fun c2 => ?_) (fun c2 => ?_)
  · refine px_rzP rfl q_X1_hasReach_17 rfl rfl rfl hg rfl trivial ⟨⟨rfl, rfl, rfl, rfl⟩, (by first | exact Or.inl rfl | exact Or.inr rfl | grind), ?_⟩
    grind
  · refine px_ige rfl q_X1_hasReach_5 hg rfl trivial (fun c10 => ?_) (fun c10 => ?_)
    · refine px_rzP rfl q_X1_hasReach_17 rfl rfl rfl hg rfl trivial ⟨⟨rfl, rfl, rfl, rfl⟩, (by first | exact Or.inl rfl | exact Or.inr rfl | grind), ?_⟩
      grind
    · refine px_rzP rfl q_X1_hasReach_13 rfl rfl rfl hg rfl trivial ⟨⟨rfl, rfl, rfl, rfl⟩, (by first | exact Or.inl rfl | exact Or.inr rfl | grind), ?_⟩
      grind

theorem q_X1_addPeg_0 : px_bk 1 2 cX1_addPeg 0 [(.aload_n 0, (0, 0, 0, 0, 0), 0, 0), (.getfield 11, (1, 0, 3, 42, 56), 0, 0), (.aload_n 0, (0, 0, 0, 0, 0), 0, 0), (.getfield 51, (1, 13, 0, 0, 0), 0, 0), (.iload_n 1, (0, 0, 0, 0, 0), 0, 0), (.iastore, (0, 0, 0, 0, 0), 0, 0), (.aload_n 0, (0, 0, 0, 0, 0), 0, 0), (.getfield 30, (1, 6, 3, 48, 62), 0, 0), (.aload_n 0, (0, 0, 0, 0, 0), 0, 0), (.getfield 51, (1, 13, 0, 0, 0), 0, 0), (.iconst 0, (0, 0, 0, 0, 0), 0, 0), (.iastore, (0, 0, 0, 0, 0), 0, 0), (.aload_n 0, (0, 0, 0, 0, 0), 0, 0), (.getfield 33, (1, 7, 3, 49, 63), 0, 0), (.aload_n 0, (0, 0, 0, 0, 0), 0, 0), (.getfield 51, (1, 13, 0, 0, 0), 0, 0), (.sipush 20000, (0, 0, 0, 0, 0), 20000, 0), (.iastore, (0, 0, 0, 0, 0), 0, 0), (.aload_n 0, (0, 0, 0, 0, 0), 0, 0), (.dup, (0, 0, 0, 0, 0), 0, 0), (.getfield 51, (1, 13, 0, 0, 0), 0, 0), (.iconst 1, (0, 0, 0, 0, 0), 1, 0), (.iadd, (0, 0, 0, 0, 0), 0, 0), (.putfield 51, (1, 13, 0, 0, 0), 0, 0)] = some 42 ∧ px_tr cX1_addPeg 42 .return_ = true := by decide +kernel
set_option maxRecDepth 100000 in
theorem c_addPegA {n : Nat} {I : px_I} {L : px_L} {R : px_R} (hg : px_G n R) (st : Int32) (hp : 0 ≤ I 41 13 ∧ I 41 13 < 20) : px_KV M_X1_addPeg [.ref 41, .int st] n I L R (fun I2 L2 => L2 = L ∧ I2 = cPeg 41 I st) := by
  refine px_of (plainFor_of_name np_RX1) (fun _ _ _ => trivial) rfl ?_
  refine px_rvW rfl q_X1_addPeg_0 rfl rfl rfl hg rfl ⟨⟨⟨trivial, (by first | decide | (refine ⟨?_, ?_⟩ <;> grind) | grind)⟩, (by first | decide | (refine ⟨?_, ?_⟩ <;> grind) | grind)⟩, (by first | decide | (refine ⟨?_, ?_⟩ <;> grind) | grind)⟩ ⟨⟨rfl, rfl⟩, ?_⟩
  exact ⟨rfl, rfl⟩

theorem q_X1_addReach_0 : px_bk 1 8 cX1_addReach 0 [(.iload_n 1, (0, 0, 0, 0, 0), 0, 0), (.iload_n 2, (0, 0, 0, 0, 0), 0, 0), (.iconst 1, (0, 0, 0, 0, 0), 1, 0), (.ldc 61, (0, 0, 0, 0, 0), 1000000, 0)] = some 5 ∧ px_tS cX1_addReach 5 62 = true := by decide +kernel
theorem q_X1_addReach_8 : px_bk 1 8 cX1_addReach 8 [] = some 8 ∧ px_t1 cX1_addReach 8 .eq 24 = true := by decide +kernel
theorem q_X1_addReach_24 : px_bk 1 8 cX1_addReach 24 [(.iconst (-1), (0, 0, 0, 0, 0), -1, 0)] = some 25 ∧ px_tr cX1_addReach 25 .ireturn = true := by decide +kernel
theorem q_X1_addReach_11 : px_bk 1 8 cX1_addReach 11 [(.iload_n 3, (0, 0, 0, 0, 0), 0, 0), (.iload 4, (0, 0, 0, 0, 0), 0, 0), (.iconst 1, (0, 0, 0, 0, 0), 1, 0), (.sipush 10000, (0, 0, 0, 0, 0), 10000, 0)] = some 18 ∧ px_tS cX1_addReach 18 62 = true := by decide +kernel
theorem q_X1_addReach_21 : px_bk 1 8 cX1_addReach 21 [] = some 21 ∧ px_t1 cX1_addReach 21 .ne 26 = true := by decide +kernel
theorem q_X1_addReach_26 : px_bk 1 8 cX1_addReach 26 [(.iload 5, (0, 0, 0, 0, 0), 0, 0), (.bipush 100, (0, 0, 0, 0, 0), 100, 0), (.sipush 5000, (0, 0, 0, 0, 0), 5000, 0)] = some 33 ∧ px_tS cX1_addReach 33 66 = true := by decide +kernel
theorem q_X1_addReach_36 : px_bk 1 8 cX1_addReach 36 [] = some 36 ∧ px_t1 cX1_addReach 36 .eq 48 = true := by decide +kernel
theorem q_X1_addReach_48 : px_bk 1 8 cX1_addReach 48 [(.iconst (-1), (0, 0, 0, 0, 0), -1, 0)] = some 49 ∧ px_tr cX1_addReach 49 .ireturn = true := by decide +kernel
theorem q_X1_addReach_39 : px_bk 1 8 cX1_addReach 39 [(.aload_n 0, (0, 0, 0, 0, 0), 0, 0), (.getfield 51, (1, 13, 0, 0, 0), 0, 0), (.bipush 20, (0, 0, 0, 0, 0), 20, 0)] = some 45 ∧ px_t2 cX1_addReach 45 .lt 50 = true := by decide +kernel
theorem q_X1_addReach_50 : px_bk 1 8 cX1_addReach 50 [(.aload_n 0, (0, 0, 0, 0, 0), 0, 0), (.getfield 51, (1, 13, 0, 0, 0), 0, 0)] = some 54 ∧ px_t1 cX1_addReach 54 .ne 62 = true := by decide +kernel
theorem q_X1_addReach_62 : px_bk 1 8 cX1_addReach 62 [(.aload_n 0, (0, 0, 0, 0, 0), 0, 0), (.getfield 51, (1, 13, 0, 0, 0), 0, 0), (.istore 7, (0, 0, 0, 0, 0), 0, 0), (.aload_n 0, (0, 0, 0, 0, 0), 0, 0), (.iload 6, (0, 0, 0, 0, 0), 0, 0)] = some 71 ∧ px_tv cX1_addReach 71 70 = true := by decide +kernel
theorem q_X1_addReach_74 : px_bk 1 8 cX1_addReach 74 [(.aload_n 0, (0, 0, 0, 0, 0), 0, 0), (.getfield 15, (1, 1, 3, 43, 57), 0, 0), (.iload 7, (0, 0, 0, 0, 0), 0, 0), (.iload_n 1, (0, 0, 0, 0, 0), 0, 0), (.iastore, (0, 0, 0, 0, 0), 0, 0), (.aload_n 0, (0, 0, 0, 0, 0), 0, 0), (.getfield 18, (1, 2, 3, 44, 58), 0, 0), (.iload 7, (0, 0, 0, 0, 0), 0, 0), (.iload_n 2, (0, 0, 0, 0, 0), 0, 0), (.iastore, (0, 0, 0, 0, 0), 0, 0), (.aload_n 0, (0, 0, 0, 0, 0), 0, 0), (.getfield 21, (1, 3, 3, 45, 59), 0, 0), (.iload 7, (0, 0, 0, 0, 0), 0, 0), (.iload_n 1, (0, 0, 0, 0, 0), 0, 0), (.iload 4, (0, 0, 0, 0, 0), 0, 0), (.iadd, (0, 0, 0, 0, 0), 0, 0), (.iconst 1, (0, 0, 0, 0, 0), 1, 0), (.isub, (0, 0, 0, 0, 0), 0, 0), (.iload 4, (0, 0, 0, 0, 0), 0, 0), (.idiv, (0, 0, 0, 0, 0), 0, 0), (.iastore, (0, 0, 0, 0, 0), 0, 0), (.aload_n 0, (0, 0, 0, 0, 0), 0, 0), (.getfield 24, (1, 4, 3, 46, 60), 0, 0), (.iload 7, (0, 0, 0, 0, 0), 0, 0), (.iload_n 2, (0, 0, 0, 0, 0), 0, 0), (.iload_n 3, (0, 0, 0, 0, 0), 0, 0), (.idiv, (0, 0, 0, 0, 0), 0, 0), (.iastore, (0, 0, 0, 0, 0), 0, 0), (.aload_n 0, (0, 0, 0, 0, 0), 0, 0), (.getfield 27, (1, 5, 3, 47, 61), 0, 0), (.iload 7, (0, 0, 0, 0, 0), 0, 0), (.iload 5, (0, 0, 0, 0, 0), 0, 0), (.iastore, (0, 0, 0, 0, 0), 0, 0), (.iload 7, (0, 0, 0, 0, 0), 0, 0)] = some 127 ∧ px_tr cX1_addReach 127 .ireturn = true := by decide +kernel
theorem q_X1_addReach_57 : px_bk 1 8 cX1_addReach 57 [(.aload_n 0, (0, 0, 0, 0, 0), 0, 0), (.iconst (-1), (0, 0, 0, 0, 0), -1, 0)] = some 59 ∧ px_tv cX1_addReach 59 70 = true := by decide +kernel
set_option maxRecDepth 100000 in
theorem c_addReachA {n : Nat} {I : px_I} {L : px_L} {R : px_R} (hg : px_G n R) (lo hi sl fa w st : Int32) (hp : 0 ≤ I 41 13 ∧ I 41 13 ≤ 20) : px_KS M_X1_addReach [.ref 41, .int lo, .int hi, .int sl, .int fa, .int w, .int st] n I L R (fun r I2 L2 => L2 = L ∧ ((cReachOk 41 I lo hi sl fa w ∧ r = (if I 41 13 = 0 then 1 else I 41 13) ∧ I2 = cReach 41 I lo hi sl fa w st) ∨ (¬ cReachOk 41 I lo hi sl fa w ∧ r = -1 ∧ I2 = I))) := by
  refine px_of (plainFor_of_name np_RX1) (fun _ _ _ => trivial) rfl ?_
  refine px_cSNP rfl q_X1_addReach_0 hg rfl trivial lk_1_62 nm_X11_ordered (c_ordered hg _ _ _ _) rfl rfl rfl ⟨rfl, rfl⟩ ?_
  intro x5 h5
  refine px_eq rfl q_X1_addReach_8 hg rfl trivial (fun c8 => ?_) (fun c8 => ?_)
  · replace h5 := px_bf h5 c8
    refine px_riS rfl q_X1_addReach_24 rfl rfl rfl hg rfl trivial ⟨⟨rfl, rfl⟩, ?_⟩
    exact ⟨rfl, Or.inr ⟨fun hc => by unfold cReachOk at hc; grind, rfl, rfl⟩⟩
  · replace h5 := px_bt h5 c8
    refine px_cSNP rfl q_X1_addReach_11 hg rfl trivial lk_1_62 nm_X11_ordered (c_ordered hg _ _ _ _) rfl rfl rfl ⟨rfl, rfl⟩ ?_
    intro x18 h18
    refine px_ne rfl q_X1_addReach_21 hg rfl trivial (fun c21 => ?_) (fun c21 => ?_)
    · replace h18 := px_bt h18 c21
      refine px_cSNP rfl q_X1_addReach_26 hg rfl trivial lk_1_66 nm_X11_within (c_within hg _ _ _) rfl rfl rfl ⟨rfl, rfl⟩ ?_
      intro x33 h33
      refine px_eq rfl q_X1_addReach_36 hg rfl trivial (fun c36 => ?_) (fun c36 => ?_)
      · replace h33 := px_bf h33 c36
        refine px_riS rfl q_X1_addReach_48 rfl rfl rfl hg rfl trivial ⟨⟨rfl, rfl⟩, ?_⟩
        exact ⟨rfl, Or.inr ⟨fun hc => by unfold cReachOk at hc; grind, rfl, rfl⟩⟩
      · replace h33 := px_bt h33 c36
        refine px_ilt rfl q_X1_addReach_39 hg rfl trivial (fun c45 => ?_) (fun c45 => ?_)
        · have hp2 : 0 ≤ I 41 13 ∧ I 41 13 < 20 := ⟨hp.1, by assumption⟩
          have hok : cReachOk 41 I lo hi sl fa w := ⟨by assumption, by assumption, by assumption, by assumption⟩
          have z1 : ¬ fa = 0 := by unfold cReachOk at hok; grind
          have z2 : ¬ sl = 0 := by unfold cReachOk at hok; grind
          refine px_ne rfl q_X1_addReach_50 hg rfl trivial (fun c54 => ?_) (fun c54 => ?_)
          · refine px_cVW (ci := 1) rfl q_X1_addReach_62 hg rfl trivial lk_1_70 nm_X1_addPeg (c_addPegA hg _ (by assumption)) rfl rfl (px_lit hg rfl) rfl rfl rfl ⟨rfl, rfl⟩ ?_
            intro I71 L71 h71
            obtain ⟨rfl, h71⟩ := h71
            refine px_riS rfl q_X1_addReach_74 rfl rfl rfl hg rfl ⟨⟨⟨⟨⟨⟨⟨trivial, (by with_reducible assumption)⟩, (by with_reducible assumption)⟩, (by with_reducible assumption)⟩, (by with_reducible assumption)⟩, (by with_reducible assumption)⟩, (by with_reducible assumption)⟩, (by with_reducible assumption)⟩ ⟨⟨rfl, rfl⟩, ?_⟩
            exact ⟨rfl, Or.inl ⟨hok, by rw [if_neg (by assumption)], by unfold cReach cRch; rw [if_neg (by assumption), if_neg (by assumption), ← h71]⟩⟩
          · refine px_cVW (ci := 1) rfl q_X1_addReach_57 hg rfl trivial lk_1_70 nm_X1_addPeg (c_addPegA hg _ (by assumption)) rfl rfl (px_lit hg rfl) rfl rfl rfl ⟨rfl, rfl⟩ ?_
            intro I59 L59 h59
            obtain ⟨rfl, h59⟩ := h59
            have p59 : I59 41 13 = 1 := by rw [h59]; simp [cPeg, px_ur]; grind
            have hp2 : 0 ≤ I59 41 13 ∧ I59 41 13 < 20 := by rw [p59]; decide
            refine px_cVW (ci := 1) rfl q_X1_addReach_62 hg rfl trivial lk_1_70 nm_X1_addPeg (c_addPegA hg _ (by assumption)) rfl rfl (px_lit hg rfl) rfl rfl rfl ⟨rfl, rfl⟩ ?_
            intro I71 L71 h71
            obtain ⟨rfl, h71⟩ := h71
            refine px_riS rfl q_X1_addReach_74 rfl rfl rfl hg rfl ⟨⟨⟨⟨⟨⟨⟨trivial, (by with_reducible assumption)⟩, (by with_reducible assumption)⟩, (by with_reducible assumption)⟩, (by with_reducible assumption)⟩, (by with_reducible assumption)⟩, (by with_reducible assumption)⟩, (by with_reducible assumption)⟩ ⟨⟨rfl, rfl⟩, ?_⟩
            rw [h59] at h71
            exact ⟨rfl, Or.inl ⟨hok, by rw [if_pos (by assumption)]; exact p59, by unfold cReach cRch; rw [if_pos (by assumption), if_pos (by assumption), ← h71, p59]⟩⟩
        · refine px_riS rfl q_X1_addReach_48 rfl rfl rfl hg rfl trivial ⟨⟨rfl, rfl⟩, ?_⟩
          exact ⟨rfl, Or.inr ⟨fun hc => by unfold cReachOk at hc; grind, rfl, rfl⟩⟩
    · replace h18 := px_bf h18 c21
      refine px_riS rfl q_X1_addReach_24 rfl rfl rfl hg rfl trivial ⟨⟨rfl, rfl⟩, ?_⟩
      exact ⟨rfl, Or.inr ⟨fun hc => by unfold cReachOk at hc; grind, rfl, rfl⟩⟩

theorem q_X1_openAt_0 : px_bk 1 2 cX1_openAt 0 [(.aload_n 0, (0, 0, 0, 0, 0), 0, 0), (.getfield 51, (1, 13, 0, 0, 0), 0, 0)] = some 4 ∧ px_t1 cX1_openAt 4 .ne 9 = true := by decide +kernel
theorem q_X1_openAt_9 : px_bk 1 2 cX1_openAt 9 [(.aload_n 0, (0, 0, 0, 0, 0), 0, 0), (.getfield 11, (1, 0, 3, 42, 56), 0, 0), (.iconst 0, (0, 0, 0, 0, 0), 0, 0), (.iload_n 1, (0, 0, 0, 0, 0), 0, 0), (.iastore, (0, 0, 0, 0, 0), 0, 0), (.iconst 1, (0, 0, 0, 0, 0), 1, 0)] = some 17 ∧ px_tr cX1_openAt 17 .ireturn = true := by decide +kernel
theorem q_X1_openAt_7 : px_bk 1 2 cX1_openAt 7 [(.iconst 0, (0, 0, 0, 0, 0), 0, 0)] = some 8 ∧ px_tr cX1_openAt 8 .ireturn = true := by decide +kernel
set_option maxRecDepth 100000 in
theorem c_openAtA {n : Nat} {I : px_I} {L : px_L} {R : px_R} (hg : px_G n R) (st : Int32) : px_KS M_X1_openAt [.ref 41, .int st] n I L R (fun r I2 L2 => L2 = L ∧ ((I 41 13 = 0 ∧ r = 0 ∧ I2 = I) ∨ (I 41 13 ≠ 0 ∧ r = 1 ∧ I2 = px_u I 42 0 st))) := by
  refine px_of (plainFor_of_name np_RX1) (fun _ _ _ => trivial) rfl ?_
  refine px_ne rfl q_X1_openAt_0 hg rfl trivial (fun c4 => ?_) (fun c4 => ?_)
  · refine px_rzS rfl q_X1_openAt_9 rfl rfl rfl hg rfl ⟨trivial, (by first | decide | (refine ⟨?_, ?_⟩ <;> grind) | grind)⟩ ⟨⟨rfl, rfl⟩, (by first | exact Or.inl rfl | exact Or.inr rfl | grind), ?_⟩
    first | exact ⟨rfl, Or.inl ⟨by assumption, rfl, rfl⟩⟩ | exact ⟨rfl, Or.inr ⟨by assumption, rfl, rfl⟩⟩
  · refine px_rzS rfl q_X1_openAt_7 rfl rfl rfl hg rfl trivial ⟨⟨rfl, rfl⟩, (by first | exact Or.inl rfl | exact Or.inr rfl | grind), ?_⟩
    first | exact ⟨rfl, Or.inl ⟨by assumption, rfl, rfl⟩⟩ | exact ⟨rfl, Or.inr ⟨by assumption, rfl, rfl⟩⟩

theorem q_X1_addMark_0 : px_bk 1 4 cX1_addMark 0 [(.aload_n 0, (0, 0, 0, 0, 0), 0, 0), (.iload_n 1, (0, 0, 0, 0, 0), 0, 0)] = some 2 ∧ px_tv cX1_addMark 2 74 = true := by decide +kernel
theorem q_X1_addMark_5 : px_bk 1 4 cX1_addMark 5 [] = some 5 ∧ px_t1 cX1_addMark 5 .eq 20 = true := by decide +kernel
theorem q_X1_addMark_20 : px_bk 1 4 cX1_addMark 20 [(.iconst 0, (0, 0, 0, 0, 0), 0, 0)] = some 21 ∧ px_tr cX1_addMark 21 .ireturn = true := by decide +kernel
theorem q_X1_addMark_8 : px_bk 1 4 cX1_addMark 8 [(.iload_n 2, (0, 0, 0, 0, 0), 0, 0), (.iload_n 3, (0, 0, 0, 0, 0), 0, 0), (.iconst 0, (0, 0, 0, 0, 0), 0, 0), (.sipush 20000, (0, 0, 0, 0, 0), 20000, 0)] = some 14 ∧ px_tS cX1_addMark 14 62 = true := by decide +kernel
theorem q_X1_addMark_17 : px_bk 1 4 cX1_addMark 17 [] = some 17 ∧ px_t1 cX1_addMark 17 .ne 22 = true := by decide +kernel
theorem q_X1_addMark_22 : px_bk 1 4 cX1_addMark 22 [(.aload_n 0, (0, 0, 0, 0, 0), 0, 0), (.getfield 30, (1, 6, 3, 48, 62), 0, 0), (.iload_n 1, (0, 0, 0, 0, 0), 0, 0), (.aload_n 0, (0, 0, 0, 0, 0), 0, 0), (.getfield 30, (1, 6, 3, 48, 62), 0, 0), (.iload_n 1, (0, 0, 0, 0, 0), 0, 0), (.iaload, (0, 0, 0, 0, 0), 0, 0), (.iload_n 2, (0, 0, 0, 0, 0), 0, 0)] = some 34 ∧ px_tS cX1_addMark 34 78 = true := by decide +kernel
theorem q_X1_addMark_37 : px_bk 1 4 cX1_addMark 37 [(.iastore, (0, 0, 0, 0, 0), 0, 0), (.aload_n 0, (0, 0, 0, 0, 0), 0, 0), (.getfield 33, (1, 7, 3, 49, 63), 0, 0), (.iload_n 1, (0, 0, 0, 0, 0), 0, 0), (.aload_n 0, (0, 0, 0, 0, 0), 0, 0), (.getfield 33, (1, 7, 3, 49, 63), 0, 0), (.iload_n 1, (0, 0, 0, 0, 0), 0, 0), (.iaload, (0, 0, 0, 0, 0), 0, 0), (.iload_n 3, (0, 0, 0, 0, 0), 0, 0)] = some 50 ∧ px_tS cX1_addMark 50 84 = true := by decide +kernel
theorem q_X1_addMark_53 : px_bk 1 4 cX1_addMark 53 [(.iastore, (0, 0, 0, 0, 0), 0, 0), (.aload_n 0, (0, 0, 0, 0, 0), 0, 0), (.dup, (0, 0, 0, 0, 0), 0, 0), (.getfield 55, (1, 14, 0, 0, 0), 0, 0), (.iconst 1, (0, 0, 0, 0, 0), 1, 0), (.iadd, (0, 0, 0, 0, 0), 0, 0), (.putfield 55, (1, 14, 0, 0, 0), 0, 0), (.iconst 1, (0, 0, 0, 0, 0), 1, 0)] = some 65 ∧ px_tr cX1_addMark 65 .ireturn = true := by decide +kernel
set_option maxRecDepth 100000 in
theorem c_addMarkA {n : Nat} {I : px_I} {L : px_L} {R : px_R} (hg : px_G n R) (p f t : Int32) (hp : I 41 13 ≤ 20) : px_KS M_X1_addMark [.ref 41, .int p, .int f, .int t] n I L R (fun r I2 L2 => L2 = L ∧ ((((0 ≤ p ∧ p < I 41 13) ∧ (0 ≤ f ∧ f ≤ t ∧ t ≤ 20000)) ∧ r = 1 ∧ I2 = cMark 41 I p f t) ∨ (¬ ((0 ≤ p ∧ p < I 41 13) ∧ (0 ≤ f ∧ f ≤ t ∧ t ≤ 20000)) ∧ r = 0 ∧ I2 = I))) := by
  refine px_of (plainFor_of_name np_RX1) (fun _ _ _ => trivial) rfl ?_
  refine px_cVP (ci := 1) rfl q_X1_addMark_0 hg rfl trivial lk_1_74 nm_X1_hasPeg (c_hasPegA hg _) rfl rfl (px_lit hg rfl) rfl rfl rfl ⟨rfl, rfl⟩ ?_
  intro x2 h2
  refine px_eq rfl q_X1_addMark_5 hg rfl trivial (fun c5 => ?_) (fun c5 => ?_)
  · replace h2 := px_bf h2 c5
    refine px_rzS rfl q_X1_addMark_20 rfl rfl rfl hg rfl trivial ⟨⟨rfl, rfl⟩, (by first | exact Or.inl rfl | exact Or.inr rfl | grind), ?_⟩
    exact ⟨rfl, Or.inr ⟨fun hc => by grind, rfl, rfl⟩⟩
  · replace h2 := px_bt h2 c5
    refine px_cSNP rfl q_X1_addMark_8 hg rfl trivial lk_1_62 nm_X11_ordered (c_ordered hg _ _ _ _) rfl rfl rfl ⟨rfl, rfl⟩ ?_
    intro x14 h14
    refine px_ne rfl q_X1_addMark_17 hg rfl trivial (fun c17 => ?_) (fun c17 => ?_)
    · replace h14 := px_bt h14 c17
      have hpp : 0 ≤ p ∧ p < 20 := by grind
      refine px_cSP rfl q_X1_addMark_22 hg rfl ⟨trivial, (by with_reducible assumption)⟩ lk_1_78 nm_J9_max_7cf53 (j_max hg _ _) rfl rfl rfl ⟨rfl, rfl⟩ ?_
      intro x34 h34
      refine px_cSP rfl q_X1_addMark_37 hg rfl ⟨⟨trivial, (by with_reducible assumption)⟩, (by with_reducible assumption)⟩ lk_1_84 nm_J9_min_7cf53 (j_min hg _ _) rfl rfl rfl ⟨rfl, rfl⟩ ?_
      intro x50 h50
      refine px_rzS rfl q_X1_addMark_53 rfl rfl rfl hg rfl ⟨trivial, (by with_reducible assumption)⟩ ⟨⟨rfl, rfl⟩, (by first | exact Or.inl rfl | exact Or.inr rfl | grind), ?_⟩
      exact ⟨rfl, Or.inl ⟨⟨by assumption, by assumption⟩, rfl, by rw [h34, h50]; simp [cMark, cMx, cMn, px_ur]⟩⟩
    · replace h14 := px_bf h14 c17
      refine px_rzS rfl q_X1_addMark_20 rfl rfl rfl hg rfl trivial ⟨⟨rfl, rfl⟩, (by first | exact Or.inl rfl | exact Or.inr rfl | grind), ?_⟩
      exact ⟨rfl, Or.inr ⟨fun hc => by grind, rfl, rfl⟩⟩

theorem q_X1_dig_145 : px_bk 1 2 cX1_dig 145 [(.iload_n 1, (0, 0, 0, 0, 0), 0, 0)] = some 146 ∧ px_t1 cX1_dig 146 .le 219 = true := by decide +kernel
theorem q_X1_dig_219 : px_bk 1 2 cX1_dig 219 [(.iconst 1, (0, 0, 0, 0, 0), 1, 0)] = some 220 ∧ px_tr cX1_dig 220 .ireturn = true := by decide +kernel
theorem q_X1_dig_149 : px_bk 1 2 cX1_dig 149 [(.aload_n 0, (0, 0, 0, 0, 0), 0, 0), (.getfield 36, (1, 8, 3, 50, 64), 0, 0), (.iload_n 1, (0, 0, 0, 0, 0), 0, 0), (.iconst 1, (0, 0, 0, 0, 0), 1, 0), (.isub, (0, 0, 0, 0, 0), 0, 0), (.aload_n 0, (0, 0, 0, 0, 0), 0, 0), (.getfield 36, (1, 8, 3, 50, 64), 0, 0), (.iload_n 1, (0, 0, 0, 0, 0), 0, 0), (.iconst 1, (0, 0, 0, 0, 0), 1, 0), (.isub, (0, 0, 0, 0, 0), 0, 0), (.iaload, (0, 0, 0, 0, 0), 0, 0), (.aload_n 0, (0, 0, 0, 0, 0), 0, 0), (.getfield 36, (1, 8, 3, 50, 64), 0, 0), (.iload_n 1, (0, 0, 0, 0, 0), 0, 0), (.iaload, (0, 0, 0, 0, 0), 0, 0), (.aload_n 0, (0, 0, 0, 0, 0), 0, 0), (.getfield 24, (1, 4, 3, 46, 60), 0, 0), (.iload_n 1, (0, 0, 0, 0, 0), 0, 0), (.iaload, (0, 0, 0, 0, 0), 0, 0), (.isub, (0, 0, 0, 0, 0), 0, 0)] = some 177 ∧ px_tS cX1_dig 177 78 = true := by decide +kernel
theorem q_X1_dig_180 : px_bk 1 2 cX1_dig 180 [(.iastore, (0, 0, 0, 0, 0), 0, 0), (.aload_n 0, (0, 0, 0, 0, 0), 0, 0), (.getfield 39, (1, 9, 3, 51, 65), 0, 0), (.iload_n 1, (0, 0, 0, 0, 0), 0, 0), (.iconst 1, (0, 0, 0, 0, 0), 1, 0), (.isub, (0, 0, 0, 0, 0), 0, 0), (.aload_n 0, (0, 0, 0, 0, 0), 0, 0), (.getfield 39, (1, 9, 3, 51, 65), 0, 0), (.iload_n 1, (0, 0, 0, 0, 0), 0, 0), (.iconst 1, (0, 0, 0, 0, 0), 1, 0), (.isub, (0, 0, 0, 0, 0), 0, 0), (.iaload, (0, 0, 0, 0, 0), 0, 0), (.aload_n 0, (0, 0, 0, 0, 0), 0, 0), (.getfield 39, (1, 9, 3, 51, 65), 0, 0), (.iload_n 1, (0, 0, 0, 0, 0), 0, 0), (.iaload, (0, 0, 0, 0, 0), 0, 0), (.aload_n 0, (0, 0, 0, 0, 0), 0, 0), (.getfield 21, (1, 3, 3, 45, 59), 0, 0), (.iload_n 1, (0, 0, 0, 0, 0), 0, 0), (.iaload, (0, 0, 0, 0, 0), 0, 0), (.isub, (0, 0, 0, 0, 0), 0, 0)] = some 209 ∧ px_tS cX1_dig 209 84 = true := by decide +kernel
theorem q_X1_dig_212 : px_bk 1 2 cX1_dig 212 [(.iastore, (0, 0, 0, 0, 0), 0, 0), (.iinc 1 (-1), (0, 0, 0, 0, 0), -1, 0), (.goto (-71), (0, 0, 0, 0, 0), 0, 0)] = some 145 := by decide +kernel
set_option maxRecDepth 100000 in
theorem l_dig145A {n : Nat} {R : px_R} (hg : px_G n R) {Q : px_Q} {I : px_I} {L : px_L} (hp : I 41 13 ≤ 20) (hq : ∀ r I2, (r = 0 ∨ r = 1) → cEI 41 I I2 → Q (some (.int r)) n I2 L R) : ∀ i : Int32, -1 ≤ i → i < 20 → ∀ I1, cEI 41 I I1 → px M_X1_dig 0 0 145 [(0, .ref 41), (1, .int i)] [] n I1 L R Q := by
  refine px_dn (-1) (fun i ih hk => ?_)
  intro h0 I1 h1
  have e13 : I1 41 13 = I 41 13 := by rw [h1 41 (by decide) (by decide)]
  refine px_le rfl q_X1_dig_145 hg rfl trivial (fun c146 => ?_) (fun c146 => ?_)
  · refine px_rz rfl q_X1_dig_219 rfl rfl rfl hg rfl trivial (by first | exact Or.inl rfl | exact Or.inr rfl | grind) ?_
    exact hq _ _ (Or.inr rfl) h1
  · have hi0 : 0 ≤ i ∧ i < 20 := by grind
    have hi1 : 0 ≤ i - 1 ∧ i - 1 < 20 := by grind
    refine px_cSP rfl q_X1_dig_149 hg rfl ⟨⟨⟨trivial, (by with_reducible assumption)⟩, (by with_reducible assumption)⟩, (by with_reducible assumption)⟩ lk_1_78 nm_J9_max_7cf53 (j_max hg _ _) rfl rfl rfl ⟨rfl, rfl⟩ ?_
    intro x177 h177
    refine px_cSP rfl q_X1_dig_180 hg rfl ⟨⟨⟨⟨trivial, (by with_reducible assumption)⟩, (by with_reducible assumption)⟩, (by with_reducible assumption)⟩, (by with_reducible assumption)⟩ lk_1_84 nm_J9_min_7cf53 (j_min hg _ _) rfl rfl rfl ⟨rfl, rfl⟩ ?_
    intro x209 h209
    refine px_b rfl q_X1_dig_212 hg rfl ⟨trivial, (by with_reducible assumption)⟩ ?_
    exact px_go (ih (i + -1) (by grind) (by grind) (by grind) _ (by repeat (first | exact h1 | refine cEI.u9 ?_ (Or.inl rfl) _ _ | refine cEI.u9 ?_ (Or.inr rfl) _ _))) ⟨rfl, rfl, trivial⟩

theorem q_X1_dig_2 : px_bk 1 2 cX1_dig 2 [(.iload_n 1, (0, 0, 0, 0, 0), 0, 0), (.aload_n 0, (0, 0, 0, 0, 0), 0, 0), (.getfield 51, (1, 13, 0, 0, 0), 0, 0)] = some 7 ∧ px_t2 cX1_dig 7 .ge 138 = true := by decide +kernel
theorem q_X1_dig_138 : px_bk 1 2 cX1_dig 138 [(.aload_n 0, (0, 0, 0, 0, 0), 0, 0), (.getfield 51, (1, 13, 0, 0, 0), 0, 0), (.iconst 1, (0, 0, 0, 0, 0), 1, 0), (.isub, (0, 0, 0, 0, 0), 0, 0), (.istore_n 1, (0, 0, 0, 0, 0), 0, 0)] = some 145 := by decide +kernel
theorem q_X1_dig_10 : px_bk 1 2 cX1_dig 10 [(.aload_n 0, (0, 0, 0, 0, 0), 0, 0), (.getfield 36, (1, 8, 3, 50, 64), 0, 0), (.iload_n 1, (0, 0, 0, 0, 0), 0, 0), (.aload_n 0, (0, 0, 0, 0, 0), 0, 0), (.getfield 30, (1, 6, 3, 48, 62), 0, 0), (.iload_n 1, (0, 0, 0, 0, 0), 0, 0), (.iaload, (0, 0, 0, 0, 0), 0, 0), (.iastore, (0, 0, 0, 0, 0), 0, 0), (.aload_n 0, (0, 0, 0, 0, 0), 0, 0), (.getfield 39, (1, 9, 3, 51, 65), 0, 0), (.iload_n 1, (0, 0, 0, 0, 0), 0, 0), (.aload_n 0, (0, 0, 0, 0, 0), 0, 0), (.getfield 33, (1, 7, 3, 49, 63), 0, 0), (.iload_n 1, (0, 0, 0, 0, 0), 0, 0), (.iaload, (0, 0, 0, 0, 0), 0, 0), (.iastore, (0, 0, 0, 0, 0), 0, 0), (.iload_n 1, (0, 0, 0, 0, 0), 0, 0)] = some 35 ∧ px_t1 cX1_dig 35 .le 115 = true := by decide +kernel
theorem q_X1_dig_115 : px_bk 1 2 cX1_dig 115 [(.aload_n 0, (0, 0, 0, 0, 0), 0, 0), (.getfield 36, (1, 8, 3, 50, 64), 0, 0), (.iload_n 1, (0, 0, 0, 0, 0), 0, 0), (.iaload, (0, 0, 0, 0, 0), 0, 0), (.aload_n 0, (0, 0, 0, 0, 0), 0, 0), (.getfield 39, (1, 9, 3, 51, 65), 0, 0), (.iload_n 1, (0, 0, 0, 0, 0), 0, 0), (.iaload, (0, 0, 0, 0, 0), 0, 0)] = some 127 ∧ px_t2 cX1_dig 127 .le 132 = true := by decide +kernel
theorem q_X1_dig_132 : px_bk 1 2 cX1_dig 132 [(.iinc 1 1, (0, 0, 0, 0, 0), 1, 0), (.goto (-133), (0, 0, 0, 0, 0), 0, 0)] = some 2 := by decide +kernel
theorem q_X1_dig_130 : px_bk 1 2 cX1_dig 130 [(.iconst 0, (0, 0, 0, 0, 0), 0, 0)] = some 131 ∧ px_tr cX1_dig 131 .ireturn = true := by decide +kernel
theorem q_X1_dig_38 : px_bk 1 2 cX1_dig 38 [(.aload_n 0, (0, 0, 0, 0, 0), 0, 0), (.getfield 21, (1, 3, 3, 45, 59), 0, 0), (.iload_n 1, (0, 0, 0, 0, 0), 0, 0), (.iaload, (0, 0, 0, 0, 0), 0, 0), (.aload_n 0, (0, 0, 0, 0, 0), 0, 0), (.getfield 24, (1, 4, 3, 46, 60), 0, 0), (.iload_n 1, (0, 0, 0, 0, 0), 0, 0), (.iaload, (0, 0, 0, 0, 0), 0, 0)] = some 50 ∧ px_t2 cX1_dig 50 .le 55 = true := by decide +kernel
theorem q_X1_dig_55 : px_bk 1 2 cX1_dig 55 [(.aload_n 0, (0, 0, 0, 0, 0), 0, 0), (.getfield 36, (1, 8, 3, 50, 64), 0, 0), (.iload_n 1, (0, 0, 0, 0, 0), 0, 0), (.aload_n 0, (0, 0, 0, 0, 0), 0, 0), (.getfield 36, (1, 8, 3, 50, 64), 0, 0), (.iload_n 1, (0, 0, 0, 0, 0), 0, 0), (.iaload, (0, 0, 0, 0, 0), 0, 0), (.aload_n 0, (0, 0, 0, 0, 0), 0, 0), (.getfield 36, (1, 8, 3, 50, 64), 0, 0), (.iload_n 1, (0, 0, 0, 0, 0), 0, 0), (.iconst 1, (0, 0, 0, 0, 0), 1, 0), (.isub, (0, 0, 0, 0, 0), 0, 0), (.iaload, (0, 0, 0, 0, 0), 0, 0), (.aload_n 0, (0, 0, 0, 0, 0), 0, 0), (.getfield 21, (1, 3, 3, 45, 59), 0, 0), (.iload_n 1, (0, 0, 0, 0, 0), 0, 0), (.iaload, (0, 0, 0, 0, 0), 0, 0), (.iadd, (0, 0, 0, 0, 0), 0, 0)] = some 81 ∧ px_tS cX1_dig 81 78 = true := by decide +kernel
theorem q_X1_dig_84 : px_bk 1 2 cX1_dig 84 [(.iastore, (0, 0, 0, 0, 0), 0, 0), (.aload_n 0, (0, 0, 0, 0, 0), 0, 0), (.getfield 39, (1, 9, 3, 51, 65), 0, 0), (.iload_n 1, (0, 0, 0, 0, 0), 0, 0), (.aload_n 0, (0, 0, 0, 0, 0), 0, 0), (.getfield 39, (1, 9, 3, 51, 65), 0, 0), (.iload_n 1, (0, 0, 0, 0, 0), 0, 0), (.iaload, (0, 0, 0, 0, 0), 0, 0), (.aload_n 0, (0, 0, 0, 0, 0), 0, 0), (.getfield 39, (1, 9, 3, 51, 65), 0, 0), (.iload_n 1, (0, 0, 0, 0, 0), 0, 0), (.iconst 1, (0, 0, 0, 0, 0), 1, 0), (.isub, (0, 0, 0, 0, 0), 0, 0), (.iaload, (0, 0, 0, 0, 0), 0, 0), (.aload_n 0, (0, 0, 0, 0, 0), 0, 0), (.getfield 24, (1, 4, 3, 46, 60), 0, 0), (.iload_n 1, (0, 0, 0, 0, 0), 0, 0), (.iaload, (0, 0, 0, 0, 0), 0, 0), (.iadd, (0, 0, 0, 0, 0), 0, 0)] = some 111 ∧ px_tS cX1_dig 111 84 = true := by decide +kernel
theorem q_X1_dig_114 : px_bk 1 2 cX1_dig 114 [(.iastore, (0, 0, 0, 0, 0), 0, 0), (.aload_n 0, (0, 0, 0, 0, 0), 0, 0), (.getfield 36, (1, 8, 3, 50, 64), 0, 0), (.iload_n 1, (0, 0, 0, 0, 0), 0, 0), (.iaload, (0, 0, 0, 0, 0), 0, 0), (.aload_n 0, (0, 0, 0, 0, 0), 0, 0), (.getfield 39, (1, 9, 3, 51, 65), 0, 0), (.iload_n 1, (0, 0, 0, 0, 0), 0, 0), (.iaload, (0, 0, 0, 0, 0), 0, 0)] = some 127 ∧ px_t2 cX1_dig 127 .le 132 = true := by decide +kernel
theorem q_X1_dig_53 : px_bk 1 2 cX1_dig 53 [(.iconst 0, (0, 0, 0, 0, 0), 0, 0)] = some 54 ∧ px_tr cX1_dig 54 .ireturn = true := by decide +kernel
set_option maxRecDepth 100000 in
theorem l_dig2A {n : Nat} {R : px_R} (hg : px_G n R) {Q : px_Q} {I : px_I} {L : px_L} (hp : I 41 13 ≤ 20) (hq : ∀ r I2, (r = 0 ∨ r = 1) → cEI 41 I I2 → Q (some (.int r)) n I2 L R) (hp0 : 0 ≤ I 41 13) : ∀ i : Int32, i ≤ 20 → 0 ≤ i → ∀ I1, cEI 41 I I1 → px M_X1_dig 0 0 2 [(0, .ref 41), (1, .int i)] [] n I1 L R Q := by
  refine px_up 20 (fun i ih hk => ?_)
  intro h0 I1 h1
  have e13 : I1 41 13 = I 41 13 := by rw [h1 41 (by decide) (by decide)]
  refine px_ige rfl q_X1_dig_2 hg rfl trivial (fun c7 => ?_) (fun c7 => ?_)
  · refine px_b rfl q_X1_dig_138 hg rfl trivial ?_
    exact px_go (l_dig145A hg hp hq _ (by grind) (by grind) I1 h1) ⟨rfl, rfl, trivial⟩
  · have hi0 : 0 ≤ i ∧ i < 20 := by grind
    have hi1 : 0 < i → 0 ≤ i - 1 ∧ i - 1 < 20 := fun z => by grind
    refine px_le rfl q_X1_dig_10 hg rfl ⟨⟨⟨⟨trivial, (by with_reducible assumption)⟩, (by with_reducible assumption)⟩, (by with_reducible assumption)⟩, (by with_reducible assumption)⟩ (fun c35 => ?_) (fun c35 => ?_)
    · refine px_ile rfl q_X1_dig_115 hg rfl ⟨⟨trivial, (by with_reducible assumption)⟩, (by with_reducible assumption)⟩ (fun c127 => ?_) (fun c127 => ?_)
      · refine px_b rfl q_X1_dig_132 hg rfl trivial ?_
        exact px_go (ih (i + 1) (by grind) (by grind) (by grind) _ (by repeat (first | exact h1 | refine cEI.u9 ?_ (Or.inl rfl) _ _ | refine cEI.u9 ?_ (Or.inr rfl) _ _))) ⟨rfl, rfl, trivial⟩
      · refine px_rz rfl q_X1_dig_130 rfl rfl rfl hg rfl trivial (by first | exact Or.inl rfl | exact Or.inr rfl | grind) ?_
        exact hq _ _ (Or.inl rfl) (by repeat (first | exact h1 | refine cEI.u9 ?_ (Or.inl rfl) _ _ | refine cEI.u9 ?_ (Or.inr rfl) _ _))
    · replace hi1 := hi1 (Int32.not_le.mp (by assumption))
      refine px_ile rfl q_X1_dig_38 hg rfl ⟨⟨trivial, (by with_reducible assumption)⟩, (by with_reducible assumption)⟩ (fun c50 => ?_) (fun c50 => ?_)
      · refine px_cSP rfl q_X1_dig_55 hg rfl ⟨⟨⟨trivial, (by with_reducible assumption)⟩, (by with_reducible assumption)⟩, (by with_reducible assumption)⟩ lk_1_78 nm_J9_max_7cf53 (j_max hg _ _) rfl rfl rfl ⟨rfl, rfl⟩ ?_
        intro x81 h81
        refine px_cSP rfl q_X1_dig_84 hg rfl ⟨⟨⟨⟨trivial, (by with_reducible assumption)⟩, (by with_reducible assumption)⟩, (by with_reducible assumption)⟩, (by with_reducible assumption)⟩ lk_1_84 nm_J9_min_7cf53 (j_min hg _ _) rfl rfl rfl ⟨rfl, rfl⟩ ?_
        intro x111 h111
        refine px_ile rfl q_X1_dig_114 hg rfl ⟨⟨⟨trivial, (by with_reducible assumption)⟩, (by with_reducible assumption)⟩, (by with_reducible assumption)⟩ (fun c127 => ?_) (fun c127 => ?_)
        · refine px_b rfl q_X1_dig_132 hg rfl trivial ?_
          exact px_go (ih (i + 1) (by grind) (by grind) (by grind) _ (by repeat (first | exact h1 | refine cEI.u9 ?_ (Or.inl rfl) _ _ | refine cEI.u9 ?_ (Or.inr rfl) _ _))) ⟨rfl, rfl, trivial⟩
        · refine px_rz rfl q_X1_dig_130 rfl rfl rfl hg rfl trivial (by first | exact Or.inl rfl | exact Or.inr rfl | grind) ?_
          exact hq _ _ (Or.inl rfl) (by repeat (first | exact h1 | refine cEI.u9 ?_ (Or.inl rfl) _ _ | refine cEI.u9 ?_ (Or.inr rfl) _ _))
      · refine px_rz rfl q_X1_dig_53 rfl rfl rfl hg rfl trivial (by first | exact Or.inl rfl | exact Or.inr rfl | grind) ?_
        exact hq _ _ (Or.inl rfl) (by repeat (first | exact h1 | refine cEI.u9 ?_ (Or.inl rfl) _ _ | refine cEI.u9 ?_ (Or.inr rfl) _ _))

theorem q_X1_dig_0 : px_bk 1 2 cX1_dig 0 [(.iconst 0, (0, 0, 0, 0, 0), 0, 0), (.istore_n 1, (0, 0, 0, 0, 0), 0, 0)] = some 2 := by decide +kernel
set_option maxRecDepth 100000 in
theorem c_digA {n : Nat} {I : px_I} {L : px_L} {R : px_R} (hg : px_G n R) (hp : 0 ≤ I 41 13 ∧ I 41 13 ≤ 20) : px_KS M_X1_dig [.ref 41] n I L R (fun r I2 L2 => (r = 0 ∨ r = 1) ∧ L2 = L ∧ cEI 41 I I2) := by
  refine px_of (plainFor_of_name np_RX1) (fun _ _ _ => trivial) rfl ?_
  refine px_b rfl q_X1_dig_0 hg rfl trivial ?_
  exact px_go (l_dig2A hg hp.2 (fun r I2 hr h => ⟨rfl, rfl, r, rfl, hr, rfl, h⟩) hp.1 0 (by decide) (by decide) I (fun _ _ _ => rfl)) ⟨rfl, rfl, trivial⟩

theorem q_X1_dayOf_0 : px_bk 1 3 cX1_dayOf 0 [(.aload_n 0, (0, 0, 0, 0, 0), 0, 0), (.iload_n 1, (0, 0, 0, 0, 0), 0, 0)] = some 2 ∧ px_tv cX1_dayOf 2 74 = true := by decide +kernel
theorem q_X1_dayOf_5 : px_bk 1 3 cX1_dayOf 5 [] = some 5 ∧ px_t1 cX1_dayOf 5 .eq 15 = true := by decide +kernel
theorem q_X1_dayOf_15 : px_bk 1 3 cX1_dayOf 15 [(.iconst (-1), (0, 0, 0, 0, 0), -1, 0)] = some 16 ∧ px_tr cX1_dayOf 16 .ireturn = true := by decide +kernel
theorem q_X1_dayOf_8 : px_bk 1 3 cX1_dayOf 8 [(.aload_n 0, (0, 0, 0, 0, 0), 0, 0)] = some 9 ∧ px_tv cX1_dayOf 9 87 = true := by decide +kernel
theorem q_X1_dayOf_12 : px_bk 1 3 cX1_dayOf 12 [] = some 12 ∧ px_t1 cX1_dayOf 12 .ne 17 = true := by decide +kernel
theorem q_X1_dayOf_17 : px_bk 1 3 cX1_dayOf 17 [(.iload_n 2, (0, 0, 0, 0, 0), 0, 0)] = some 18 ∧ px_t1 cX1_dayOf 18 .eq 30 = true := by decide +kernel
theorem q_X1_dayOf_30 : px_bk 1 3 cX1_dayOf 30 [(.aload_n 0, (0, 0, 0, 0, 0), 0, 0), (.getfield 36, (1, 8, 3, 50, 64), 0, 0), (.iload_n 1, (0, 0, 0, 0, 0), 0, 0), (.iaload, (0, 0, 0, 0, 0), 0, 0)] = some 36 ∧ px_tr cX1_dayOf 36 .ireturn = true := by decide +kernel
theorem q_X1_dayOf_21 : px_bk 1 3 cX1_dayOf 21 [(.aload_n 0, (0, 0, 0, 0, 0), 0, 0), (.getfield 39, (1, 9, 3, 51, 65), 0, 0), (.iload_n 1, (0, 0, 0, 0, 0), 0, 0), (.iaload, (0, 0, 0, 0, 0), 0, 0), (.goto 9, (0, 0, 0, 0, 0), 0, 0)] = some 36 ∧ px_tr cX1_dayOf 36 .ireturn = true := by decide +kernel
set_option maxRecDepth 100000 in
theorem c_dayOfA {n : Nat} {I : px_I} {L : px_L} {R : px_R} (hg : px_G n R) (p h : Int32) (hp : 0 ≤ I 41 13 ∧ I 41 13 ≤ 20) : px_KS M_X1_dayOf [.ref 41, .int p, .int h] n I L R (fun r I2 L2 => L2 = L ∧ cEI 41 I I2) := by
  refine px_of (plainFor_of_name np_RX1) (fun _ _ _ => trivial) rfl ?_
  refine px_cVP (ci := 1) rfl q_X1_dayOf_0 hg rfl trivial lk_1_74 nm_X1_hasPeg (c_hasPegA hg _) rfl rfl (px_lit hg rfl) rfl rfl rfl ⟨rfl, rfl⟩ ?_
  intro x2 h2
  refine px_eq rfl q_X1_dayOf_5 hg rfl trivial (fun c5 => ?_) (fun c5 => ?_)
  · replace h2 := px_bf h2 c5
    refine px_riS rfl q_X1_dayOf_15 rfl rfl rfl hg rfl trivial ⟨⟨rfl, rfl⟩, ?_⟩
    first | exact ⟨rfl, h9⟩ | exact ⟨rfl, fun _ _ _ => rfl⟩
  · replace h2 := px_bt h2 c5
    have hpp : 0 ≤ p ∧ p < 20 := by grind
    refine px_cVS (ci := 1) rfl q_X1_dayOf_8 hg rfl trivial lk_1_87 nm_X1_dig (c_digA hg (by assumption)) rfl rfl (px_lit hg rfl) rfl rfl rfl ⟨rfl, rfl⟩ ?_
    intro x9 I9 L9 h9
    obtain ⟨hr9, rfl, h9⟩ := h9
    refine px_ne rfl q_X1_dayOf_12 hg rfl trivial (fun c12 => ?_) (fun c12 => ?_)
    · refine px_eq rfl q_X1_dayOf_17 hg rfl trivial (fun c18 => ?_) (fun c18 => ?_)
      · refine px_riS rfl q_X1_dayOf_30 rfl rfl rfl hg rfl ⟨trivial, (by first | decide | (refine ⟨?_, ?_⟩ <;> grind) | grind)⟩ ⟨⟨rfl, rfl⟩, ?_⟩
        first | exact ⟨rfl, h9⟩ | exact ⟨rfl, fun _ _ _ => rfl⟩
      · refine px_riS rfl q_X1_dayOf_21 rfl rfl rfl hg rfl ⟨trivial, (by first | decide | (refine ⟨?_, ?_⟩ <;> grind) | grind)⟩ ⟨⟨rfl, rfl⟩, ?_⟩
        first | exact ⟨rfl, h9⟩ | exact ⟨rfl, fun _ _ _ => rfl⟩
    · refine px_riS rfl q_X1_dayOf_15 rfl rfl rfl hg rfl trivial ⟨⟨rfl, rfl⟩, ?_⟩
      first | exact ⟨rfl, h9⟩ | exact ⟨rfl, fun _ _ _ => rfl⟩

theorem q_X1_daysFrom_41 : px_bk 1 7 cX1_daysFrom 41 [(.iload 6, (0, 0, 0, 0, 0), 0, 0), (.iload_n 2, (0, 0, 0, 0, 0), 0, 0)] = some 44 ∧ px_t2 cX1_daysFrom 44 .gt 77 = true := by decide +kernel
theorem q_X1_daysFrom_77 : px_bk 1 7 cX1_daysFrom 77 [(.iload_n 3, (0, 0, 0, 0, 0), 0, 0)] = some 78 ∧ px_t1 cX1_daysFrom 78 .eq 100 = true := by decide +kernel
theorem q_X1_daysFrom_100 : px_bk 1 7 cX1_daysFrom 100 [(.iload 4, (0, 0, 0, 0, 0), 0, 0), (.aload_n 0, (0, 0, 0, 0, 0), 0, 0), (.getfield 36, (1, 8, 3, 50, 64), 0, 0), (.iload_n 2, (0, 0, 0, 0, 0), 0, 0), (.iaload, (0, 0, 0, 0, 0), 0, 0), (.aload_n 0, (0, 0, 0, 0, 0), 0, 0), (.getfield 39, (1, 9, 3, 51, 65), 0, 0), (.iload_n 1, (0, 0, 0, 0, 0), 0, 0), (.iaload, (0, 0, 0, 0, 0), 0, 0), (.isub, (0, 0, 0, 0, 0), 0, 0)] = some 115 ∧ px_tS cX1_daysFrom 115 78 = true := by decide +kernel
theorem q_X1_daysFrom_118 : px_bk 1 7 cX1_daysFrom 118 [] = some 118 ∧ px_tr cX1_daysFrom 118 .ireturn = true := by decide +kernel
theorem q_X1_daysFrom_81 : px_bk 1 7 cX1_daysFrom 81 [(.iload 5, (0, 0, 0, 0, 0), 0, 0), (.aload_n 0, (0, 0, 0, 0, 0), 0, 0), (.getfield 39, (1, 9, 3, 51, 65), 0, 0), (.iload_n 2, (0, 0, 0, 0, 0), 0, 0), (.iaload, (0, 0, 0, 0, 0), 0, 0), (.aload_n 0, (0, 0, 0, 0, 0), 0, 0), (.getfield 36, (1, 8, 3, 50, 64), 0, 0), (.iload_n 1, (0, 0, 0, 0, 0), 0, 0), (.iaload, (0, 0, 0, 0, 0), 0, 0), (.isub, (0, 0, 0, 0, 0), 0, 0)] = some 96 ∧ px_tS cX1_daysFrom 96 84 = true := by decide +kernel
theorem q_X1_daysFrom_99 : px_bk 1 7 cX1_daysFrom 99 [] = some 99 ∧ px_tr cX1_daysFrom 99 .ireturn = true := by decide +kernel
theorem q_X1_daysFrom_47 : px_bk 1 7 cX1_daysFrom 47 [(.iload 4, (0, 0, 0, 0, 0), 0, 0), (.aload_n 0, (0, 0, 0, 0, 0), 0, 0), (.getfield 21, (1, 3, 3, 45, 59), 0, 0), (.iload 6, (0, 0, 0, 0, 0), 0, 0), (.iaload, (0, 0, 0, 0, 0), 0, 0), (.iadd, (0, 0, 0, 0, 0), 0, 0), (.istore 4, (0, 0, 0, 0, 0), 0, 0), (.iload 5, (0, 0, 0, 0, 0), 0, 0), (.aload_n 0, (0, 0, 0, 0, 0), 0, 0), (.getfield 24, (1, 4, 3, 46, 60), 0, 0), (.iload 6, (0, 0, 0, 0, 0), 0, 0), (.iaload, (0, 0, 0, 0, 0), 0, 0), (.iadd, (0, 0, 0, 0, 0), 0, 0), (.istore 5, (0, 0, 0, 0, 0), 0, 0), (.iinc 6 1, (0, 0, 0, 0, 0), 1, 0), (.goto (-33), (0, 0, 0, 0, 0), 0, 0)] = some 41 := by decide +kernel
set_option maxRecDepth 100000 in
theorem l_daysFromA {n : Nat} {R : px_R} (hg : px_G n R) {Q : px_Q} (a b h : Int32) (ha : 0 ≤ a ∧ a < 20) (hb : 0 ≤ b ∧ b < 20) {I : px_I} {L : px_L} (hq : ∀ r, Q (some (.int r)) n I L R) : ∀ i : Int32, i ≤ 20 → 0 ≤ i → ∀ x y : Int32, px M_X1_daysFrom 0 0 41 [(0, .ref 41), (1, .int a), (2, .int b), (3, .int h), (4, .int x), (5, .int y), (6, .int i)] [] n I L R Q := by
  refine px_up 20 (fun i ih hk => ?_)
  intro h0 x y
  refine px_igt rfl q_X1_daysFrom_41 hg rfl trivial (fun c44 => ?_) (fun c44 => ?_)
  · refine px_eq rfl q_X1_daysFrom_77 hg rfl trivial (fun c78 => ?_) (fun c78 => ?_)
    · refine px_cSP rfl q_X1_daysFrom_100 hg rfl ⟨⟨trivial, (by with_reducible assumption)⟩, (by with_reducible assumption)⟩ lk_1_78 nm_J9_max_7cf53 (j_max hg _ _) rfl rfl rfl ⟨rfl, rfl⟩ ?_
      intro x115 h115
      refine px_ri rfl q_X1_daysFrom_118 rfl rfl rfl hg rfl trivial ?_
      exact hq _
    · refine px_cSP rfl q_X1_daysFrom_81 hg rfl ⟨⟨trivial, (by with_reducible assumption)⟩, (by with_reducible assumption)⟩ lk_1_84 nm_J9_min_7cf53 (j_min hg _ _) rfl rfl rfl ⟨rfl, rfl⟩ ?_
      intro x96 h96
      refine px_ri rfl q_X1_daysFrom_99 rfl rfl rfl hg rfl trivial ?_
      exact hq _
  · have hi0 : 0 ≤ i ∧ i < 20 := by grind
    refine px_b rfl q_X1_daysFrom_47 hg rfl ⟨⟨trivial, (by with_reducible assumption)⟩, (by with_reducible assumption)⟩ ?_
    exact px_go (ih (i + 1) (by grind) (by grind) (by grind) _ _) ⟨rfl, rfl, rfl, rfl, rfl, rfl, rfl, trivial⟩

theorem q_X1_daysFrom_0 : px_bk 1 7 cX1_daysFrom 0 [(.aload_n 0, (0, 0, 0, 0, 0), 0, 0), (.iload_n 1, (0, 0, 0, 0, 0), 0, 0)] = some 2 ∧ px_tv cX1_daysFrom 2 74 = true := by decide +kernel
theorem q_X1_daysFrom_5 : px_bk 1 7 cX1_daysFrom 5 [] = some 5 ∧ px_t1 cX1_daysFrom 5 .eq 28 = true := by decide +kernel
theorem q_X1_daysFrom_28 : px_bk 1 7 cX1_daysFrom 28 [(.iconst (-1), (0, 0, 0, 0, 0), -1, 0)] = some 29 ∧ px_tr cX1_daysFrom 29 .ireturn = true := by decide +kernel
theorem q_X1_daysFrom_8 : px_bk 1 7 cX1_daysFrom 8 [(.aload_n 0, (0, 0, 0, 0, 0), 0, 0), (.iload_n 2, (0, 0, 0, 0, 0), 0, 0)] = some 10 ∧ px_tv cX1_daysFrom 10 74 = true := by decide +kernel
theorem q_X1_daysFrom_13 : px_bk 1 7 cX1_daysFrom 13 [] = some 13 ∧ px_t1 cX1_daysFrom 13 .eq 28 = true := by decide +kernel
theorem q_X1_daysFrom_16 : px_bk 1 7 cX1_daysFrom 16 [(.iload_n 1, (0, 0, 0, 0, 0), 0, 0), (.iload_n 2, (0, 0, 0, 0, 0), 0, 0)] = some 18 ∧ px_t2 cX1_daysFrom 18 .ge 28 = true := by decide +kernel
theorem q_X1_daysFrom_21 : px_bk 1 7 cX1_daysFrom 21 [(.aload_n 0, (0, 0, 0, 0, 0), 0, 0)] = some 22 ∧ px_tv cX1_daysFrom 22 87 = true := by decide +kernel
theorem q_X1_daysFrom_25 : px_bk 1 7 cX1_daysFrom 25 [] = some 25 ∧ px_t1 cX1_daysFrom 25 .ne 30 = true := by decide +kernel
theorem q_X1_daysFrom_30 : px_bk 1 7 cX1_daysFrom 30 [(.iconst 0, (0, 0, 0, 0, 0), 0, 0), (.istore 4, (0, 0, 0, 0, 0), 0, 0), (.iconst 0, (0, 0, 0, 0, 0), 0, 0), (.istore 5, (0, 0, 0, 0, 0), 0, 0), (.iload_n 1, (0, 0, 0, 0, 0), 0, 0), (.iconst 1, (0, 0, 0, 0, 0), 1, 0), (.iadd, (0, 0, 0, 0, 0), 0, 0), (.istore 6, (0, 0, 0, 0, 0), 0, 0)] = some 41 := by decide +kernel
set_option maxRecDepth 100000 in
theorem c_daysFromA {n : Nat} {I : px_I} {L : px_L} {R : px_R} (hg : px_G n R) (a b h : Int32) (hp : 0 ≤ I 41 13 ∧ I 41 13 ≤ 20) : px_KS M_X1_daysFrom [.ref 41, .int a, .int b, .int h] n I L R (fun r I2 L2 => L2 = L ∧ cEI 41 I I2) := by
  refine px_of (plainFor_of_name np_RX1) (fun _ _ _ => trivial) rfl ?_
  refine px_cVP (ci := 1) rfl q_X1_daysFrom_0 hg rfl trivial lk_1_74 nm_X1_hasPeg (c_hasPegA hg _) rfl rfl (px_lit hg rfl) rfl rfl rfl ⟨rfl, rfl⟩ ?_
  intro x2 h2
  refine px_eq rfl q_X1_daysFrom_5 hg rfl trivial (fun c5 => ?_) (fun c5 => ?_)
  · replace h2 := px_bf h2 c5
    refine px_riS rfl q_X1_daysFrom_28 rfl rfl rfl hg rfl trivial ⟨⟨rfl, rfl⟩, ?_⟩
    first | exact ⟨rfl, h22⟩ | exact ⟨rfl, fun _ _ _ => rfl⟩
  · replace h2 := px_bt h2 c5
    refine px_cVP (ci := 1) rfl q_X1_daysFrom_8 hg rfl trivial lk_1_74 nm_X1_hasPeg (c_hasPegA hg _) rfl rfl (px_lit hg rfl) rfl rfl rfl ⟨rfl, rfl⟩ ?_
    intro x10 h10
    refine px_eq rfl q_X1_daysFrom_13 hg rfl trivial (fun c13 => ?_) (fun c13 => ?_)
    · replace h10 := px_bf h10 c13
      refine px_riS rfl q_X1_daysFrom_28 rfl rfl rfl hg rfl trivial ⟨⟨rfl, rfl⟩, ?_⟩
      first | exact ⟨rfl, h22⟩ | exact ⟨rfl, fun _ _ _ => rfl⟩
    · replace h10 := px_bt h10 c13
      refine px_ige rfl q_X1_daysFrom_16 hg rfl trivial (fun c18 => ?_) (fun c18 => ?_)
      · refine px_riS rfl q_X1_daysFrom_28 rfl rfl rfl hg rfl trivial ⟨⟨rfl, rfl⟩, ?_⟩
        first | exact ⟨rfl, h22⟩ | exact ⟨rfl, fun _ _ _ => rfl⟩
      · refine px_cVS (ci := 1) rfl q_X1_daysFrom_21 hg rfl trivial lk_1_87 nm_X1_dig (c_digA hg (by assumption)) rfl rfl (px_lit hg rfl) rfl rfl rfl ⟨rfl, rfl⟩ ?_
        intro x22 I22 L22 h22
        obtain ⟨hr22, rfl, h22⟩ := h22
        refine px_ne rfl q_X1_daysFrom_25 hg rfl trivial (fun c25 => ?_) (fun c25 => ?_)
        · refine px_b rfl q_X1_daysFrom_30 hg rfl trivial ?_
          exact px_go (l_daysFromA hg a b h (by grind) (by grind) (fun r => ⟨rfl, rfl, r, rfl, rfl, h22⟩) (a + 1) (by grind) (by grind) 0 0) ⟨rfl, rfl, rfl, rfl, rfl, rfl, rfl, trivial⟩
        · refine px_riS rfl q_X1_daysFrom_28 rfl rfl rfl hg rfl trivial ⟨⟨rfl, rfl⟩, ?_⟩
          first | exact ⟨rfl, h22⟩ | exact ⟨rfl, fun _ _ _ => rfl⟩

theorem q_X1_holesAgree_0 : px_bk 1 7 cX1_holesAgree 0 [(.aload_n 0, (0, 0, 0, 0, 0), 0, 0), (.iload_n 1, (0, 0, 0, 0, 0), 0, 0)] = some 2 ∧ px_tv cX1_holesAgree 2 91 = true := by decide +kernel
theorem q_X1_holesAgree_5 : px_bk 1 7 cX1_holesAgree 5 [] = some 5 ∧ px_t1 cX1_holesAgree 5 .eq 12 = true := by decide +kernel
theorem q_X1_holesAgree_12 : px_bk 1 7 cX1_holesAgree 12 [(.iconst 0, (0, 0, 0, 0, 0), 0, 0)] = some 13 ∧ px_tr cX1_holesAgree 13 .ireturn = true := by decide +kernel
theorem q_X1_holesAgree_8 : px_bk 1 7 cX1_holesAgree 8 [(.iload_n 2, (0, 0, 0, 0, 0), 0, 0)] = some 9 ∧ px_t1 cX1_holesAgree 9 .ge 14 = true := by decide +kernel
theorem q_X1_holesAgree_14 : px_bk 1 7 cX1_holesAgree 14 [(.iload_n 3, (0, 0, 0, 0, 0), 0, 0), (.aload_n 0, (0, 0, 0, 0, 0), 0, 0), (.getfield 15, (1, 1, 3, 43, 57), 0, 0), (.iload_n 1, (0, 0, 0, 0, 0), 0, 0), (.iaload, (0, 0, 0, 0, 0), 0, 0), (.iload_n 2, (0, 0, 0, 0, 0), 0, 0), (.iconst 1, (0, 0, 0, 0, 0), 1, 0), (.iadd, (0, 0, 0, 0, 0), 0, 0), (.idiv, (0, 0, 0, 0, 0), 0, 0), (.iconst 1, (0, 0, 0, 0, 0), 1, 0), (.iadd, (0, 0, 0, 0, 0), 0, 0)] = some 27 ∧ px_tS cX1_holesAgree 27 78 = true := by decide +kernel
theorem q_X1_holesAgree_30 : px_bk 1 7 cX1_holesAgree 30 [(.istore 5, (0, 0, 0, 0, 0), 0, 0), (.iload_n 2, (0, 0, 0, 0, 0), 0, 0)] = some 33 ∧ px_t1 cX1_holesAgree 33 .ne 41 = true := by decide +kernel
theorem q_X1_holesAgree_41 : px_bk 1 7 cX1_holesAgree 41 [(.iload 4, (0, 0, 0, 0, 0), 0, 0), (.aload_n 0, (0, 0, 0, 0, 0), 0, 0), (.getfield 18, (1, 2, 3, 44, 58), 0, 0), (.iload_n 1, (0, 0, 0, 0, 0), 0, 0), (.iaload, (0, 0, 0, 0, 0), 0, 0), (.iload_n 2, (0, 0, 0, 0, 0), 0, 0), (.idiv, (0, 0, 0, 0, 0), 0, 0)] = some 51 ∧ px_tS cX1_holesAgree 51 84 = true := by decide +kernel
theorem q_X1_holesAgree_54 : px_bk 1 7 cX1_holesAgree 54 [(.istore 6, (0, 0, 0, 0, 0), 0, 0), (.iload 5, (0, 0, 0, 0, 0), 0, 0), (.iload 6, (0, 0, 0, 0, 0), 0, 0)] = some 60 ∧ px_t2 cX1_holesAgree 60 .gt 67 = true := by decide +kernel
theorem q_X1_holesAgree_67 : px_bk 1 7 cX1_holesAgree 67 [(.iconst 0, (0, 0, 0, 0, 0), 0, 0)] = some 68 ∧ px_tr cX1_holesAgree 68 .ireturn = true := by decide +kernel
theorem q_X1_holesAgree_63 : px_bk 1 7 cX1_holesAgree 63 [(.iconst 1, (0, 0, 0, 0, 0), 1, 0), (.goto 4, (0, 0, 0, 0, 0), 0, 0)] = some 68 ∧ px_tr cX1_holesAgree 68 .ireturn = true := by decide +kernel
theorem q_X1_holesAgree_36 : px_bk 1 7 cX1_holesAgree 36 [(.iload 4, (0, 0, 0, 0, 0), 0, 0), (.goto 16, (0, 0, 0, 0, 0), 0, 0), (.istore 6, (0, 0, 0, 0, 0), 0, 0), (.iload 5, (0, 0, 0, 0, 0), 0, 0), (.iload 6, (0, 0, 0, 0, 0), 0, 0)] = some 60 ∧ px_t2 cX1_holesAgree 60 .gt 67 = true := by decide +kernel
set_option maxRecDepth 100000 in
theorem c_holesAgreeA {n : Nat} {I : px_I} {L : px_L} {R : px_R} (hg : px_G n R) (p h a z : Int32) (hp : I 41 13 ≤ 20) (hh : h ≤ 9999) : px_KP M_X1_holesAgree [.ref 41, .int p, .int h, .int a, .int z] n I L R (fun r => (r = 1 ∧ (cHo 41 I p h a z)) ∨ (r = 0 ∧ ¬ (cHo 41 I p h a z))) := by
  refine px_of (plainFor_of_name np_RX1) (fun _ _ _ => trivial) rfl ?_
  refine px_cVP (ci := 1) rfl q_X1_holesAgree_0 hg rfl trivial lk_1_91 nm_X1_hasReach (c_hasReachA hg _) rfl rfl (px_lit hg rfl) rfl rfl rfl ⟨rfl, rfl⟩ ?_
  intro x2 h2
  refine px_eq rfl q_X1_holesAgree_5 hg rfl trivial (fun c5 => ?_) (fun c5 => ?_)
  · replace h2 := px_bf h2 c5
    refine px_rzP rfl q_X1_holesAgree_12 rfl rfl rfl hg rfl trivial ⟨⟨rfl, rfl, rfl, rfl⟩, (by first | exact Or.inl rfl | exact Or.inr rfl | grind), ?_⟩
    unfold cHo cMx cMn
    grind
  · replace h2 := px_bt h2 c5
    refine px_ge rfl q_X1_holesAgree_8 hg rfl trivial (fun c9 => ?_) (fun c9 => ?_)
    · refine px_cSP rfl q_X1_holesAgree_14 hg rfl ⟨⟨trivial, (by first | (refine ⟨?_, ?_⟩ <;> grind) | grind)⟩, (by first | (refine ⟨?_, ?_⟩ <;> grind) | grind)⟩ lk_1_78 nm_J9_max_7cf53 (j_max hg _ _) rfl rfl rfl ⟨rfl, rfl⟩ ?_
      intro x27 h27
      refine px_ne rfl q_X1_holesAgree_30 hg rfl trivial (fun c33 => ?_) (fun c33 => ?_)
      · refine px_cSP rfl q_X1_holesAgree_41 hg rfl ⟨⟨trivial, (by first | (refine ⟨?_, ?_⟩ <;> grind) | grind)⟩, (by first | (refine ⟨?_, ?_⟩ <;> grind) | grind)⟩ lk_1_84 nm_J9_min_7cf53 (j_min hg _ _) rfl rfl rfl ⟨rfl, rfl⟩ ?_
        intro x51 h51
        refine px_igt rfl q_X1_holesAgree_54 hg rfl trivial (fun c60 => ?_) (fun c60 => ?_)
        · refine px_rzP rfl q_X1_holesAgree_67 rfl rfl rfl hg rfl trivial ⟨⟨rfl, rfl, rfl, rfl⟩, (by first | exact Or.inl rfl | exact Or.inr rfl | grind), ?_⟩
          unfold cHo cMx cMn
          grind
        · refine px_rzP rfl q_X1_holesAgree_63 rfl rfl rfl hg rfl trivial ⟨⟨rfl, rfl, rfl, rfl⟩, (by first | exact Or.inl rfl | exact Or.inr rfl | grind), ?_⟩
          unfold cHo cMx cMn
          grind
      · refine px_igt rfl q_X1_holesAgree_36 hg rfl trivial (fun c60 => ?_) (fun c60 => ?_)
        · refine px_rzP rfl q_X1_holesAgree_67 rfl rfl rfl hg rfl trivial ⟨⟨rfl, rfl, rfl, rfl⟩, (by first | exact Or.inl rfl | exact Or.inr rfl | grind), ?_⟩
          unfold cHo cMx cMn
          grind
        · refine px_rzP rfl q_X1_holesAgree_63 rfl rfl rfl hg rfl trivial ⟨⟨rfl, rfl, rfl, rfl⟩, (by first | exact Or.inl rfl | exact Or.inr rfl | grind), ?_⟩
          unfold cHo cMx cMn
          grind
    · refine px_rzP rfl q_X1_holesAgree_12 rfl rfl rfl hg rfl trivial ⟨⟨rfl, rfl, rfl, rfl⟩, (by first | exact Or.inl rfl | exact Or.inr rfl | grind), ?_⟩
      unfold cHo cMx cMn
      grind

theorem q_X1_addRepair_0 : px_bk 1 4 cX1_addRepair 0 [(.aload_n 0, (0, 0, 0, 0, 0), 0, 0), (.iload_n 1, (0, 0, 0, 0, 0), 0, 0)] = some 2 ∧ px_tv cX1_addRepair 2 91 = true := by decide +kernel
theorem q_X1_addRepair_5 : px_bk 1 4 cX1_addRepair 5 [] = some 5 ∧ px_t1 cX1_addRepair 5 .eq 28 = true := by decide +kernel
theorem q_X1_addRepair_28 : px_bk 1 4 cX1_addRepair 28 [(.iconst 0, (0, 0, 0, 0, 0), 0, 0)] = some 29 ∧ px_tr cX1_addRepair 29 .ireturn = true := by decide +kernel
theorem q_X1_addRepair_8 : px_bk 1 4 cX1_addRepair 8 [(.iload_n 2, (0, 0, 0, 0, 0), 0, 0), (.iconst 0, (0, 0, 0, 0, 0), 0, 0), (.sipush 5000, (0, 0, 0, 0, 0), 5000, 0)] = some 13 ∧ px_tS cX1_addRepair 13 66 = true := by decide +kernel
theorem q_X1_addRepair_16 : px_bk 1 4 cX1_addRepair 16 [] = some 16 ∧ px_t1 cX1_addRepair 16 .eq 28 = true := by decide +kernel
theorem q_X1_addRepair_19 : px_bk 1 4 cX1_addRepair 19 [(.aload_n 0, (0, 0, 0, 0, 0), 0, 0), (.getfield 58, (1, 15, 0, 0, 0), 0, 0), (.bipush 30, (0, 0, 0, 0, 0), 30, 0)] = some 25 ∧ px_t2 cX1_addRepair 25 .lt 30 = true := by decide +kernel
theorem q_X1_addRepair_30 : px_bk 1 4 cX1_addRepair 30 [(.aload_n 0, (0, 0, 0, 0, 0), 0, 0), (.getfield 42, (1, 10, 3, 52, 66), 0, 0), (.aload_n 0, (0, 0, 0, 0, 0), 0, 0), (.getfield 58, (1, 15, 0, 0, 0), 0, 0), (.iload_n 1, (0, 0, 0, 0, 0), 0, 0), (.iastore, (0, 0, 0, 0, 0), 0, 0), (.aload_n 0, (0, 0, 0, 0, 0), 0, 0), (.getfield 45, (1, 11, 3, 53, 67), 0, 0), (.aload_n 0, (0, 0, 0, 0, 0), 0, 0), (.getfield 58, (1, 15, 0, 0, 0), 0, 0), (.iload_n 2, (0, 0, 0, 0, 0), 0, 0), (.iastore, (0, 0, 0, 0, 0), 0, 0), (.aload_n 0, (0, 0, 0, 0, 0), 0, 0), (.getfield 48, (1, 12, 3, 54, 68), 0, 0), (.aload_n 0, (0, 0, 0, 0, 0), 0, 0), (.getfield 58, (1, 15, 0, 0, 0), 0, 0), (.iload_n 3, (0, 0, 0, 0, 0), 0, 0), (.iastore, (0, 0, 0, 0, 0), 0, 0), (.aload_n 0, (0, 0, 0, 0, 0), 0, 0), (.dup, (0, 0, 0, 0, 0), 0, 0), (.getfield 58, (1, 15, 0, 0, 0), 0, 0), (.iconst 1, (0, 0, 0, 0, 0), 1, 0), (.iadd, (0, 0, 0, 0, 0), 0, 0), (.putfield 58, (1, 15, 0, 0, 0), 0, 0), (.iconst 1, (0, 0, 0, 0, 0), 1, 0)] = some 71 ∧ px_tr cX1_addRepair 71 .ireturn = true := by decide +kernel
set_option maxRecDepth 100000 in
theorem c_addRepairA {n : Nat} {I : px_I} {L : px_L} {R : px_R} (hg : px_G n R) (p y d : Int32) (hr : 0 ≤ I 41 15) : px_KS M_X1_addRepair [.ref 41, .int p, .int y, .int d] n I L R (fun r I2 L2 => L2 = L ∧ ((((1 ≤ p ∧ p < I 41 13) ∧ (0 ≤ y ∧ y ≤ 5000) ∧ I 41 15 < 30) ∧ r = 1 ∧ I2 = cRep 41 I p y d) ∨ (¬ ((1 ≤ p ∧ p < I 41 13) ∧ (0 ≤ y ∧ y ≤ 5000) ∧ I 41 15 < 30) ∧ r = 0 ∧ I2 = I))) := by
  refine px_of (plainFor_of_name np_RX1) (fun _ _ _ => trivial) rfl ?_
  refine px_cVP (ci := 1) rfl q_X1_addRepair_0 hg rfl trivial lk_1_91 nm_X1_hasReach (c_hasReachA hg _) rfl rfl (px_lit hg rfl) rfl rfl rfl ⟨rfl, rfl⟩ ?_
  intro x2 h2
  refine px_eq rfl q_X1_addRepair_5 hg rfl trivial (fun c5 => ?_) (fun c5 => ?_)
  · replace h2 := px_bf h2 c5
    refine px_rzS rfl q_X1_addRepair_28 rfl rfl rfl hg rfl trivial ⟨⟨rfl, rfl⟩, (by first | exact Or.inl rfl | exact Or.inr rfl | grind), ?_⟩
    first | exact ⟨rfl, Or.inl ⟨⟨by assumption, by assumption, by assumption⟩, rfl, rfl⟩⟩ | exact ⟨rfl, Or.inr ⟨fun hc => by grind, rfl, rfl⟩⟩
  · replace h2 := px_bt h2 c5
    refine px_cSNP rfl q_X1_addRepair_8 hg rfl trivial lk_1_66 nm_X11_within (c_within hg _ _ _) rfl rfl rfl ⟨rfl, rfl⟩ ?_
    intro x13 h13
    refine px_eq rfl q_X1_addRepair_16 hg rfl trivial (fun c16 => ?_) (fun c16 => ?_)
    · replace h13 := px_bf h13 c16
      refine px_rzS rfl q_X1_addRepair_28 rfl rfl rfl hg rfl trivial ⟨⟨rfl, rfl⟩, (by first | exact Or.inl rfl | exact Or.inr rfl | grind), ?_⟩
      first | exact ⟨rfl, Or.inl ⟨⟨by assumption, by assumption, by assumption⟩, rfl, rfl⟩⟩ | exact ⟨rfl, Or.inr ⟨fun hc => by grind, rfl, rfl⟩⟩
    · replace h13 := px_bt h13 c16
      refine px_ilt rfl q_X1_addRepair_19 hg rfl trivial (fun c25 => ?_) (fun c25 => ?_)
      · refine px_rzS rfl q_X1_addRepair_30 rfl rfl rfl hg rfl ⟨⟨⟨trivial, (by first | decide | (refine ⟨?_, ?_⟩ <;> grind) | grind)⟩, (by first | decide | (refine ⟨?_, ?_⟩ <;> grind) | grind)⟩, (by first | decide | (refine ⟨?_, ?_⟩ <;> grind) | grind)⟩ ⟨⟨rfl, rfl⟩, (by first | exact Or.inl rfl | exact Or.inr rfl | grind), ?_⟩
        first | exact ⟨rfl, Or.inl ⟨⟨by assumption, by assumption, by assumption⟩, rfl, rfl⟩⟩ | exact ⟨rfl, Or.inr ⟨fun hc => by grind, rfl, rfl⟩⟩
      · refine px_rzS rfl q_X1_addRepair_28 rfl rfl rfl hg rfl trivial ⟨⟨rfl, rfl⟩, (by first | exact Or.inl rfl | exact Or.inr rfl | grind), ?_⟩
        first | exact ⟨rfl, Or.inl ⟨⟨by assumption, by assumption, by assumption⟩, rfl, rfl⟩⟩ | exact ⟨rfl, Or.inr ⟨fun hc => by grind, rfl, rfl⟩⟩

theorem q_X1_limeYears_6 : px_bk 1 6 cX1_limeYears 6 [(.iload 5, (0, 0, 0, 0, 0), 0, 0), (.aload_n 0, (0, 0, 0, 0, 0), 0, 0), (.getfield 58, (1, 15, 0, 0, 0), 0, 0)] = some 12 ∧ px_t2 cX1_limeYears 12 .ge 68 = true := by decide +kernel
theorem q_X1_limeYears_68 : px_bk 1 6 cX1_limeYears 68 [(.iload_n 2, (0, 0, 0, 0, 0), 0, 0), (.iload 4, (0, 0, 0, 0, 0), 0, 0), (.isub, (0, 0, 0, 0, 0), 0, 0)] = some 72 ∧ px_tr cX1_limeYears 72 .ireturn = true := by decide +kernel
theorem q_X1_limeYears_15 : px_bk 1 6 cX1_limeYears 15 [(.aload_n 0, (0, 0, 0, 0, 0), 0, 0), (.getfield 42, (1, 10, 3, 52, 66), 0, 0), (.iload 5, (0, 0, 0, 0, 0), 0, 0), (.iaload, (0, 0, 0, 0, 0), 0, 0), (.iload_n 1, (0, 0, 0, 0, 0), 0, 0)] = some 23 ∧ px_t2 cX1_limeYears 23 .ne 62 = true := by decide +kernel
theorem q_X1_limeYears_62 : px_bk 1 6 cX1_limeYears 62 [(.iinc 5 1, (0, 0, 0, 0, 0), 1, 0), (.goto (-59), (0, 0, 0, 0, 0), 0, 0)] = some 6 := by decide +kernel
theorem q_X1_limeYears_26 : px_bk 1 6 cX1_limeYears 26 [(.aload_n 0, (0, 0, 0, 0, 0), 0, 0), (.getfield 48, (1, 12, 3, 54, 68), 0, 0), (.iload 5, (0, 0, 0, 0, 0), 0, 0), (.iaload, (0, 0, 0, 0, 0), 0, 0), (.iload_n 3, (0, 0, 0, 0, 0), 0, 0)] = some 34 ∧ px_t2 cX1_limeYears 34 .gt 62 = true := by decide +kernel
theorem q_X1_limeYears_37 : px_bk 1 6 cX1_limeYears 37 [(.aload_n 0, (0, 0, 0, 0, 0), 0, 0), (.getfield 45, (1, 11, 3, 53, 67), 0, 0), (.iload 5, (0, 0, 0, 0, 0), 0, 0), (.iaload, (0, 0, 0, 0, 0), 0, 0), (.iload_n 2, (0, 0, 0, 0, 0), 0, 0)] = some 45 ∧ px_t2 cX1_limeYears 45 .gt 62 = true := by decide +kernel
theorem q_X1_limeYears_48 : px_bk 1 6 cX1_limeYears 48 [(.iload 4, (0, 0, 0, 0, 0), 0, 0), (.aload_n 0, (0, 0, 0, 0, 0), 0, 0), (.getfield 45, (1, 11, 3, 53, 67), 0, 0), (.iload 5, (0, 0, 0, 0, 0), 0, 0), (.iaload, (0, 0, 0, 0, 0), 0, 0)] = some 57 ∧ px_tS cX1_limeYears 57 78 = true := by decide +kernel
theorem q_X1_limeYears_60 : px_bk 1 6 cX1_limeYears 60 [(.istore 4, (0, 0, 0, 0, 0), 0, 0), (.iinc 5 1, (0, 0, 0, 0, 0), 1, 0), (.goto (-59), (0, 0, 0, 0, 0), 0, 0)] = some 6 := by decide +kernel
set_option maxRecDepth 100000 in
theorem l_limeYearsA {n : Nat} {R : px_R} (hg : px_G n R) {Q : px_Q} (p y k : Int32) {I : px_I} {L : px_L} (hr : I 41 15 ≤ 30) (hq : ∀ r, Q (some (.int r)) n I L R) : ∀ i : Int32, i ≤ 30 → 0 ≤ i → ∀ f : Int32, px M_X1_limeYears 0 0 6 [(0, .ref 41), (1, .int p), (2, .int y), (3, .int k), (4, .int f), (5, .int i)] [] n I L R Q := by
  refine px_up 30 (fun i ih hk => ?_)
  intro h0 f
  refine px_ige rfl q_X1_limeYears_6 hg rfl trivial (fun c12 => ?_) (fun c12 => ?_)
  · refine px_ri rfl q_X1_limeYears_68 rfl rfl rfl hg rfl trivial ?_
    exact hq _
  · refine px_ine rfl q_X1_limeYears_15 hg rfl ⟨trivial, (by first | with_reducible assumption | (refine ⟨?_, ?_⟩ <;> grind))⟩ (fun c23 => ?_) (fun c23 => ?_)
    · refine px_b rfl q_X1_limeYears_62 hg rfl trivial ?_
      exact px_go (ih (i + 1) (by grind) (by grind) (by grind) _) ⟨rfl, rfl, rfl, rfl, rfl, rfl, trivial⟩
    · refine px_igt rfl q_X1_limeYears_26 hg rfl ⟨trivial, (by first | with_reducible assumption | (refine ⟨?_, ?_⟩ <;> grind))⟩ (fun c34 => ?_) (fun c34 => ?_)
      · refine px_b rfl q_X1_limeYears_62 hg rfl trivial ?_
        exact px_go (ih (i + 1) (by grind) (by grind) (by grind) _) ⟨rfl, rfl, rfl, rfl, rfl, rfl, trivial⟩
      · refine px_igt rfl q_X1_limeYears_37 hg rfl ⟨trivial, (by first | with_reducible assumption | (refine ⟨?_, ?_⟩ <;> grind))⟩ (fun c45 => ?_) (fun c45 => ?_)
        · refine px_b rfl q_X1_limeYears_62 hg rfl trivial ?_
          exact px_go (ih (i + 1) (by grind) (by grind) (by grind) _) ⟨rfl, rfl, rfl, rfl, rfl, rfl, trivial⟩
        · refine px_cSP rfl q_X1_limeYears_48 hg rfl ⟨trivial, (by first | with_reducible assumption | (refine ⟨?_, ?_⟩ <;> grind))⟩ lk_1_78 nm_J9_max_7cf53 (j_max hg _ _) rfl rfl rfl ⟨rfl, rfl⟩ ?_
          intro x57 h57
          refine px_b rfl q_X1_limeYears_60 hg rfl trivial ?_
          exact px_go (ih (i + 1) (by grind) (by grind) (by grind) _) ⟨rfl, rfl, rfl, rfl, rfl, rfl, trivial⟩

theorem q_X1_limeYears_0 : px_bk 1 6 cX1_limeYears 0 [(.iconst 0, (0, 0, 0, 0, 0), 0, 0), (.istore 4, (0, 0, 0, 0, 0), 0, 0), (.iconst 0, (0, 0, 0, 0, 0), 0, 0), (.istore 5, (0, 0, 0, 0, 0), 0, 0)] = some 6 := by decide +kernel
set_option maxRecDepth 100000 in
theorem c_limeYearsA {n : Nat} {I : px_I} {L : px_L} {R : px_R} (hg : px_G n R) (p y k : Int32) (hr : I 41 15 ≤ 30) : px_KP M_X1_limeYears [.ref 41, .int p, .int y, .int k] n I L R (fun r => True) := by
  refine px_of (plainFor_of_name np_RX1) (fun _ _ _ => trivial) rfl ?_
  refine px_b rfl q_X1_limeYears_0 hg rfl trivial ?_
  exact px_go (l_limeYearsA hg p y k hr (fun r => ⟨rfl, rfl, r, rfl, rfl, rfl, trivial⟩) 0 (by decide) (by decide) 0) ⟨rfl, rfl, rfl, rfl, rfl, rfl, trivial⟩
