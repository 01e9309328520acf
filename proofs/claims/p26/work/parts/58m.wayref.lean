set_option maxRecDepth 100000 in
theorem ls_close195 {n : Nat} {R : px_R} (hg : px_G n R) {Q : px_Q} (a b c : Int32) {I J : px_I} {L : px_L} (h : mPI I 0) (hlt : I 103 28 < I 103 27) (hP : mPF I J) (hX : ∃ X, mSI J X (J 103 35)) (j31 : J 103 31 = 0) (j35 : J 103 35 = I 103 35 + 1) (j39 : J 103 39 = I 103 39 - 1) (j27 : J 103 27 = I 103 27) (j26 : J 103 26 = I 103 26) (hq : ∀ I2, mPo I I2 → mNx J I2 → Q none n I2 L R) : px M_X12_closesBrace 0 0 195 [(0, .ref 103), (1, .int a), (2, .int b), (3, .int c)] [] n J L R Q := by
  have hat := h.at
  obtain ⟨hN, hop⟩ := h.N (by decide)
  obtain ⟨hk1, -, -, hk4, -⟩ := id h
  refine px_cVW (ci := 12) rfl q_X12_closesBrace_195 hg rfl trivial lk_12_340 nm_X12_next (ks_next hg (by rw [j27, j26]; exact hat)) rfl rfl (px_lit hg rfl) rfl rfl rfl ⟨rfl, rfl⟩ ?_
  intro I196 L196 h196
  refine px_rv rfl q_X12_closesBrace_199 rfl rfl rfl hg rfl trivial ?_
  obtain ⟨rfl, y196⟩ := h196
  obtain ⟨g1, g2, g3, -⟩ := id y196
  have g9 := g3.b
  exact hq _ ⟨hP.trans g1.P, Or.inr ⟨mPI.nx g1 g3 j31 (by grind) (by grind) hX, by grind⟩⟩ y196

set_option maxRecDepth 100000 in
theorem ls_close144 {n : Nat} {R : px_R} (hg : px_G n R) {Q : px_Q} (a b c : Int32) {I J : px_I} {L : px_L} (h : mPI I 0) (hlt : I 103 28 < I 103 27) (hP : mPF I J) (hX : ∃ X, mSI J X (J 103 35)) (j31 : J 103 31 = 0) (j35 : J 103 35 = I 103 35 + 1) (j39 : J 103 39 = I 103 39 - 1) (jo : 0 ≤ J 103 39 ∧ J 103 39 < 10) (j27 : J 103 27 = I 103 27) (j26 : J 103 26 = I 103 26) (hq : ∀ I2, mPo I I2 → (∃ s, ((s = 0 ∨ s = 1) ∧ (s = 0 ↔ J 127 (J 103 39).toNatClampNeg = 0 ∧ a = 0)) ∧ mNx (px_u (px_u J 127 (J 103 39).toNatClampNeg s) 103 72 (J 103 72 + (if J 103 39 = 0 then 1 else 0))) I2) → Q none n I2 L R) : px M_X12_closesBrace 0 0 144 [(0, .ref 103), (1, .int a), (2, .int b), (3, .int c)] [] n J L R Q := by
  skip
  refine px_ne rfl q_X12_closesBrace_144 hg rfl ⟨trivial, (by first | with_reducible assumption)⟩ (fun c161 => ?_) (fun c161 => ?_)
  · refine px_ne rfl q_X12_closesBrace_168 hg rfl ⟨trivial, (by first | with_reducible assumption)⟩ (fun c183 => ?_) (fun c183 => ?_)
    · refine px_b rfl q_X12_closesBrace_190 hg rfl trivial ?_
      exact px_go (ls_close195 hg a b c h hlt ((hP.a 127 _ _).u 72 _) (mSI.fl (mSI.st hX _ _) 72 _) (by simp [px_ur]; exact j31) (by simp [px_ur]; exact j35) (by simp [px_ur]; exact j39) (by simp [px_ur]; exact j27) (by simp [px_ur]; exact j26) (fun I2 hp hn => hq I2 hp ⟨(1 &&& 1), (⟨by decide, fun z => absurd z (by decide), fun z => absurd z.1 c161⟩), (by
        first
          | (rw [if_pos (by assumption)]; exact hn)
          | (rw [if_neg (by assumption)]; exact hn))⟩)) ⟨rfl, rfl, rfl, rfl, trivial⟩
    · refine px_b rfl q_X12_closesBrace_186 hg rfl trivial ?_
      exact px_go (ls_close195 hg a b c h hlt ((hP.a 127 _ _).u 72 _) (mSI.fl (mSI.st hX _ _) 72 _) (by simp [px_ur]; exact j31) (by simp [px_ur]; exact j35) (by simp [px_ur]; exact j39) (by simp [px_ur]; exact j27) (by simp [px_ur]; exact j26) (fun I2 hp hn => hq I2 hp ⟨(1 &&& 1), (⟨by decide, fun z => absurd z (by decide), fun z => absurd z.1 c161⟩), (by
        first
          | (rw [if_pos (by assumption)]; exact hn)
          | (rw [if_neg (by assumption)]; exact hn))⟩)) ⟨rfl, rfl, rfl, rfl, trivial⟩
  · refine px_eq rfl q_X12_closesBrace_164 hg rfl trivial (fun c165 => ?_) (fun c165 => ?_)
    · refine px_ne rfl q_X12_closesBrace_172 hg rfl ⟨trivial, (by first | with_reducible assumption)⟩ (fun c183 => ?_) (fun c183 => ?_)
      · refine px_b rfl q_X12_closesBrace_190 hg rfl trivial ?_
        exact px_go (ls_close195 hg a b c h hlt ((hP.a 127 _ _).u 72 _) (mSI.fl (mSI.st hX _ _) 72 _) (by simp [px_ur]; exact j31) (by simp [px_ur]; exact j35) (by simp [px_ur]; exact j39) (by simp [px_ur]; exact j27) (by simp [px_ur]; exact j26) (fun I2 hp hn => hq I2 hp ⟨(0 &&& 1), (⟨by decide, fun _ => ⟨c161, c165⟩, fun _ => by decide⟩), (by
          first
            | (rw [if_pos (by assumption)]; exact hn)
            | (rw [if_neg (by assumption)]; exact hn))⟩)) ⟨rfl, rfl, rfl, rfl, trivial⟩
      · refine px_b rfl q_X12_closesBrace_186 hg rfl trivial ?_
        exact px_go (ls_close195 hg a b c h hlt ((hP.a 127 _ _).u 72 _) (mSI.fl (mSI.st hX _ _) 72 _) (by simp [px_ur]; exact j31) (by simp [px_ur]; exact j35) (by simp [px_ur]; exact j39) (by simp [px_ur]; exact j27) (by simp [px_ur]; exact j26) (fun I2 hp hn => hq I2 hp ⟨(0 &&& 1), (⟨by decide, fun _ => ⟨c161, c165⟩, fun _ => by decide⟩), (by
          first
            | (rw [if_pos (by assumption)]; exact hn)
            | (rw [if_neg (by assumption)]; exact hn))⟩)) ⟨rfl, rfl, rfl, rfl, trivial⟩
    · refine px_ne rfl q_X12_closesBrace_168 hg rfl ⟨trivial, (by first | with_reducible assumption)⟩ (fun c183 => ?_) (fun c183 => ?_)
      · refine px_b rfl q_X12_closesBrace_190 hg rfl trivial ?_
        exact px_go (ls_close195 hg a b c h hlt ((hP.a 127 _ _).u 72 _) (mSI.fl (mSI.st hX _ _) 72 _) (by simp [px_ur]; exact j31) (by simp [px_ur]; exact j35) (by simp [px_ur]; exact j39) (by simp [px_ur]; exact j27) (by simp [px_ur]; exact j26) (fun I2 hp hn => hq I2 hp ⟨(1 &&& 1), (⟨by decide, fun z => absurd z (by decide), fun z => absurd z.2 c165⟩), (by
          first
            | (rw [if_pos (by assumption)]; exact hn)
            | (rw [if_neg (by assumption)]; exact hn))⟩)) ⟨rfl, rfl, rfl, rfl, trivial⟩
      · refine px_b rfl q_X12_closesBrace_186 hg rfl trivial ?_
        exact px_go (ls_close195 hg a b c h hlt ((hP.a 127 _ _).u 72 _) (mSI.fl (mSI.st hX _ _) 72 _) (by simp [px_ur]; exact j31) (by simp [px_ur]; exact j35) (by simp [px_ur]; exact j39) (by simp [px_ur]; exact j27) (by simp [px_ur]; exact j26) (fun I2 hp hn => hq I2 hp ⟨(1 &&& 1), (⟨by decide, fun z => absurd z (by decide), fun z => absurd z.2 c165⟩), (by
          first
            | (rw [if_pos (by assumption)]; exact hn)
            | (rw [if_neg (by assumption)]; exact hn))⟩)) ⟨rfl, rfl, rfl, rfl, trivial⟩

set_option maxRecDepth 100000 in
theorem ks_closesBrace {n : Nat} {I : px_I} {L : px_L} {R : px_R} (hg : px_G n R) (h : mPI I 0) (hlt : I 103 28 < I 103 27) (h0 : 0 < I 103 39) : px_KV M_X12_closesBrace [.ref 103] n I L R (fun I2 L2 => L2 = L ∧ mPo I I2 ∧ yCl I I2) := by
  refine px_of (plainFor_of_name np_RX12) (fun _ _ _ => trivial) rfl ?_
  have hat := h.at
  have hN2 := h.N (by decide)
  have h1 := h.2.1
  have ho1 : 0 ≤ I 103 39 ∧ I 103 39 < 10 := by have := hN2.2; grind
  have ho2 : 0 ≤ I 103 39 - 1 ∧ I 103 39 - 1 < 9 := by have := hN2.2; grind
  have ho3 : I 103 39 - 1 < I 103 39 := by have := hN2.2; grind
  have hN : 0 ≤ I 103 35 ∧ I 103 35 < 210 := by have := hN2.1; grind
  obtain ⟨hk1, -, -, hk4, X, hX⟩ := id h
  have hw := (hX.2.2.2.1 (I 103 39 - 1) ho2.1 ho3)
  have hdf := hw.2.2
  have hw := hw.1
  have hw2 : 0 ≤ I 126 (I 103 39 - 1).toNatClampNeg ∧ I 126 (I 103 39 - 1).toNatClampNeg < 220 := ⟨hw.1, Int32.lt_trans hw.2 (Int32.lt_trans hN.2 (by decide))⟩
  have hq9 : ∀ I2, mPo I I2 → yCl I I2 → n = n ∧ R = R ∧ (none : Option Value) = none ∧ L = L ∧ mPo I I2 ∧ yCl I I2 := fun I2 hp hc => ⟨rfl, rfl, rfl, rfl, hp, hc⟩
  refine px_ine rfl q_X12_closesBrace_0 hg rfl ⟨⟨⟨trivial, (by first | with_reducible assumption | (rw [e71]; with_reducible assumption))⟩, (by first | with_reducible assumption | (rw [e71]; with_reducible assumption))⟩, (by first | with_reducible assumption | (rw [e71]; with_reducible assumption))⟩ (fun c40 => ?_) (fun c40 => ?_)
  · refine px_cVS (ci := 12) rfl q_X12_closesBrace_95 hg rfl trivial lk_12_346 nm_X12_emits (k_emits hg _ _ (by simp [px_ur]; grind)) rfl rfl (px_lit hg rfl) rfl rfl rfl ⟨rfl, rfl⟩ ?_
    intro x101 I101 L101 h101
    obtain ⟨rfl, rfl, h101⟩ := h101
    have e39 := mE_f h101 (j := 39) (by decide)
    have e35 := mE_35 h101
    have e31 := mE_f h101 (j := 31) (by decide)
    have e28 := mE_f h101 (j := 28) (by decide)
    have e27 := mE_f h101 (j := 27) (by decide)
    have e26 := mE_f h101 (j := 26) (by decide)
    have eP := mE_P h101
    refine px_eq rfl q_X12_closesBrace_104 hg rfl trivial (fun c111 => ?_) (fun c111 => ?_)
    · refine px_eq rfl q_X12_closesBrace_119 hg rfl ⟨trivial, (by first | with_reducible assumption | (rw [e71]; with_reducible assumption))⟩ (fun c128 => ?_) (fun c128 => ?_)
      · refine px_b rfl q_X12_closesBrace_140 hg rfl ⟨trivial, (by first | with_reducible assumption | (rw [e71]; with_reducible assumption))⟩ ?_
        exact px_go (ls_close144 hg _ _ _ h hlt (((mPF.rfl'.u 39 _).trans eP).trans ((mPF.rfl'.a 122 _ _).a 123 _ _)) (hX.clR hN.2 h0 rfl h101 (fun q q1 q2 => by rw [px_u_ne (by decide), px_uJ q1 hw.1 q2]) (fun q q1 q2 => by rw [px_uJ q1 hw.1 q2, px_u_ne (by decide)]) (by funext j; simp [px_ur]) (by funext j; simp [px_ur]) (by funext j; simp [px_ur]) (by simp [px_ur]) (by simp [px_ur]) (by simp [px_ur]) (Or.inr ⟨by simp [px_ur], by simp [px_ur]⟩)) (by simp only [px_ur, e31]; simpa using h1) (by simp [px_ur, e35]) (by simp [px_ur, e39]) (by simp [px_ur, e39]; grind) (by simp [px_ur, e27]) (by simp [px_ur, e26]) (fun I2 hp hn => hq9 I2 hp (yCl.of2 h101 (by assumption) rfl (if_pos c111).symm (if_pos c111).symm hn))) ⟨rfl, rfl, rfl, rfl, trivial⟩
      · exact absurd c111 c128
    · refine px_eq rfl q_X12_closesBrace_114 hg rfl ⟨trivial, (by first | with_reducible assumption | (rw [e71]; with_reducible assumption))⟩ (fun c128 => ?_) (fun c128 => ?_)
      · exact absurd c128 c111
      · refine px_b rfl q_X12_closesBrace_131 hg rfl ⟨⟨trivial, (by first | with_reducible assumption | (rw [e71]; with_reducible assumption))⟩, (by first | with_reducible assumption | (rw [e71]; with_reducible assumption))⟩ ?_
        exact px_go (ls_close144 hg _ _ _ h hlt (((mPF.rfl'.u 39 _).trans eP).trans ((mPF.rfl'.a 122 _ _).a 123 _ _)) (hX.clR hN.2 h0 rfl h101 (fun q q1 q2 => by rw [px_u_ne (by decide), px_uJ q1 hw.1 q2]) (fun q q1 q2 => by rw [px_uJ q1 hw.1 q2, px_u_ne (by decide)]) (by funext j; simp [px_ur]) (by funext j; simp [px_ur]) (by funext j; simp [px_ur]) (by simp [px_ur]) (by simp [px_ur]) (by simp [px_ur]) (Or.inl (by simp [px_ur]))) (by simp only [px_ur, e31]; simpa using h1) (by simp [px_ur, e35]) (by simp [px_ur, e39]) (by simp [px_ur, e39]; grind) (by simp [px_ur, e27]) (by simp [px_ur, e26]) (fun I2 hp hn => hq9 I2 hp (yCl.of2 h101 (by assumption) rfl (if_neg c111).symm (if_neg c111).symm hn))) ⟨rfl, rfl, rfl, rfl, trivial⟩
  · refine px_cVS (ci := 12) rfl q_X12_closesBrace_43 hg rfl trivial lk_12_346 nm_X12_emits (k_emits hg _ _ (by simp [px_ur]; grind)) rfl rfl (px_lit hg rfl) rfl rfl rfl ⟨rfl, rfl⟩ ?_
    intro x47 I47 L47 h47
    obtain ⟨rfl, rfl, h47⟩ := h47
    have e39 := mE_f h47 (j := 39) (by decide)
    have e35 := mE_35 h47
    have e31 := mE_f h47 (j := 31) (by decide)
    have e28 := mE_f h47 (j := 28) (by decide)
    have e27 := mE_f h47 (j := 27) (by decide)
    have e26 := mE_f h47 (j := 26) (by decide)
    have eP := mE_P h47
    have e71 := mE_f h47 (j := 71) (by decide)
    rw [px_u_at_ne (by decide)] at e71
    obtain ⟨d1, d2, d3, d4⟩ := hdf (by assumption)
    have d5 : 0 ≤ I 103 71 ∧ I 103 71 < 8 := by grind
    refine px_b rfl q_X12_closesBrace_50 hg rfl ⟨⟨⟨trivial, (by first | with_reducible assumption | (rw [e71]; with_reducible assumption))⟩, (by first | with_reducible assumption | (rw [e71]; with_reducible assumption))⟩, (by first | with_reducible assumption | (rw [e71]; with_reducible assumption))⟩ ?_
    exact px_go (ls_close195 hg _ _ _ h hlt (((mPF.rfl'.u 39 _).trans eP).trans ((((mPF.rfl'.a 123 _ _).a 124 _ _).a 128 _ _).u 72 _)) (hX.clD hN.2 h0 rfl (by assumption) h47 (by funext j; simp [px_ur]) (fun q q1 q2 => by simp only [px_u_ne (show (123 : Nat) ≠ 103 by decide), px_u_ne (show (123 : Nat) ≠ 128 by decide), px_u_ne (show (123 : Nat) ≠ 124 by decide)]; rw [px_uJ q1 hw.1 q2]) (by simp [px_ur]) (fun q q1 q2 => by simp only [px_u_ne (show (124 : Nat) ≠ 103 by decide), px_u_ne (show (124 : Nat) ≠ 128 by decide), px_u_ne (show (124 : Nat) ≠ 123 by decide), e71]; rw [px_uJ q1 d5.1 q2, px_u_ne (by decide)]) (by simp only [px_u_ne (show (124 : Nat) ≠ 103 by decide), px_u_ne (show (124 : Nat) ≠ 128 by decide), e71]; rw [px_u_at]) (by funext j; simp [px_ur]) (by funext j; simp [px_ur]) (by simp [px_ur]) (by simp [px_ur]) (by simp [px_ur])) (by simp only [px_ur, e31]; simpa using h1) (by simp [px_ur, e35]) (by simp [px_ur, e39]) (by simp [px_ur, e27]) (by simp [px_ur, e26]) (fun I2 hp hn => hq9 I2 hp (yCl.of1 h47 (by assumption) (by grind) hn))) ⟨rfl, rfl, rfl, rfl, trivial⟩

set_option maxRecDepth 100000 in
theorem ls_way212 {n : Nat} {R : px_R} (hg : px_G n R) {Q : px_Q} (w : Int32) (hw : 0 ≤ w ∧ w ≤ 5) {I K : px_I} {L : px_L} (hp : mPI I 0) (h0 : I 103 39 = 0) (hK : K = mE I 22 0) (e : Int32) (hq : ∀ r I2, mEnd I I2 w → yE2 I I2 w r → Q (some (.int r)) n I2 L R) : ∀ k : Int32, k ≤ I 103 35 + 1 → 0 ≤ k → ∀ J, mCp K J w k → px M_X12_way 0 0 212 [(0, .ref 103), (1, .int w), (2, .int e), (3, .int k)] [] n J L R Q := by
  have hN := (hp.N (by decide)).1
  refine px_up _ (fun k ih hk => ?_)
  intro hk0 J hJ
  have j35 : J 103 35 = I 103 35 + 1 := by rw [hJ.2.2 103 (by decide) (by decide)]; exact mE_35 hK
  have hk2 : k < 220 → 0 ≤ 220 * w + k ∧ 220 * w + k < 1320 := fun hz => by grind
  refine px_ige rfl q_X12_way_212 hg rfl trivial (fun c217 => ?_) (fun c217 => ?_)
  · refine px_ri rfl q_X12_way_262 rfl rfl rfl hg rfl ⟨trivial, (by grind)⟩ ?_
    have hk5 : k = I 103 35 + 1 := by grind
    subst hk5
    refine hq _ _ ⟨?_, ?_, fun hW => hJ.done hp h0 hw hK hW, Or.inr (fun k => ?_)⟩ ⟨?_, J, by rw [← hK]; exact hJ, rfl⟩
    · intro b j b1 b2
      rw [px_u_ne (by omega), hJ.2.2 b (by omega) (by omega)]
      exact (mE_P hK).W b j b1 b2
    · rw [px_u_ne (by decide), hJ.2.2 103 (by decide) (by decide)]
      exact mE_f hK (by decide)
    · have z : J 129 = I 129 := (hJ.2.2 129 (by decide) (by decide)).trans (mE_b hK (by decide) (by decide) (by decide))
      simp only [px_ur, z]
    · first | (rw [hJ.2.2 103 (by decide) (by decide)]; exact mE_f hK (by decide)) | (rw [px_u_ne (by decide), hJ.2.2 103 (by decide) (by decide)]; exact mE_f hK (by decide))
  · have hk3 : 0 ≤ k ∧ k < 220 := ⟨hk0, by grind⟩
    have hk4 := hk2 hk3.2
    refine px_b rfl q_X12_way_220 hg rfl ⟨⟨⟨⟨trivial, (by with_reducible assumption)⟩, (by with_reducible assumption)⟩, (by with_reducible assumption)⟩, (by with_reducible assumption)⟩ ?_
    exact px_go (ih (k + 1) (by grind) (by grind) (by grind) _ (hJ.up hw ⟨hk0, by grind⟩)) ⟨rfl, rfl, rfl, rfl, trivial⟩

set_option maxRecDepth 100000 in
theorem ls_way177 {n : Nat} {R : px_R} (hg : px_G n R) {Q : px_Q} (w c : Int32) (hw : 0 ≤ w ∧ w ≤ 5) {I : px_I} {L : px_L} (hp : ¬ 0 < I 103 31 → mPI I 0 ∧ I 103 39 = 0) (hq : ∀ r I2, mEnd I I2 w → yE1 I I2 w r → Q (some (.int r)) n I2 L R) : px M_X12_way 0 0 177 [(0, .ref 103), (1, .int w), (2, .int c)] [] n I L R Q := by
  skip
  refine px_le rfl q_X12_way_177 hg rfl trivial (fun c197 => ?_) (fun c197 => ?_)
  · have hnw : ¬ 0 < I 103 31 := by simpa [px_ur] using c197
    obtain ⟨hp1, hp2⟩ := hp hnw
    have hX9 : ∀ X, mSI I X (I 103 35) → mSI (px_u (px_u I 103 33 (I 103 31)) 103 34 (I 103 32)) X (I 103 35) := fun X hX => (hX.fld 33 _).fld 34 _
    have hp3 : mPI (px_u (px_u I 103 33 (I 103 31)) 103 34 (I 103 32)) 0 := by
      obtain ⟨a1, a2, a3, a4, X, a5⟩ := hp1
      refine ⟨by unfold mTk at *; simpa [px_ur] using a1, by simpa [px_ur] using a2, by simpa [px_ur] using a3, by simpa [px_ur] using a4, X, ?_⟩
      rw [px_u_at_ne (by decide), px_u_at_ne (by decide)]
      exact hX9 X a5
    have hp4 : (px_u (px_u I 103 33 (I 103 31)) 103 34 (I 103 32)) 103 39 = 0 := by simpa [px_ur] using hp2
    have hN := (hp3.N (by decide)).1
    refine px_cVS (ci := 12) rfl q_X12_way_202 hg rfl trivial lk_12_346 nm_X12_emits (k_emits hg _ _ (by grind)) rfl rfl (px_lit hg rfl) rfl rfl rfl ⟨rfl, rfl⟩ ?_
    intro x206 I206 L206 h206
    obtain ⟨rfl, rfl, h206⟩ := h206
    refine px_b rfl q_X12_way_209 hg rfl trivial ?_
    have hE : ∀ r I2, mEnd (px_u (px_u I 103 33 (I 103 31)) 103 34 (I 103 32)) I2 w → yE2 (px_u (px_u I 103 33 (I 103 31)) 103 34 (I 103 32)) I2 w r → Q (some (.int r)) n I2 L206 R := fun r I2 hE hY => by
      obtain ⟨a1, a2, a3, a4⟩ := hE
      have e129 : (px_u (px_u I 103 33 (I 103 31)) 103 34 (I 103 32)) 129 = I 129 := by rw [px_u_ne (by decide), px_u_ne (by decide)]
      refine hq r I2 ⟨((mWF.rfl'.u 33 _).u 34 _).trans a1, by simpa [px_ur] using a2, fun hW => a3 (hW.same (fun b k hb => ?_)), a4.imp (fun z k => by rw [z k, e129]) (fun z k => by rw [z k]; simp [px_ur])⟩ (Or.inr ⟨hnw, hY⟩)
      rcases hb with rfl | rfl | rfl <;> (rw [px_u_ne (by decide), px_u_ne (by decide)])
    exact px_go (ls_way212 hg w hw hp3 hp4 h206 _ hE 0 (by grind) (by decide) I206 ⟨fun q q1 q2 => by grind, fun q _ => ⟨rfl, rfl⟩, fun b _ _ => rfl⟩) ⟨rfl, rfl, rfl, rfl, trivial⟩
  · refine px_ri rfl q_X12_way_200 rfl rfl rfl hg rfl trivial ?_
    refine hq _ _ ⟨(mWF.rfl'.u 33 _).u 34 _, by simp [px_ur], fun hW => hW.same (fun b k hb => ?_), Or.inl (fun k => by rw [px_u_ne (by decide), px_u_ne (by decide)])⟩ (Or.inl ⟨by simpa [px_ur] using c197, rfl, rfl⟩)
    rcases hb with rfl | rfl | rfl <;> (rw [px_u_ne (by decide), px_u_ne (by decide)])

set_option maxRecDepth 100000 in
theorem ls_way126 {n : Nat} {R : px_R} (hg : px_G n R) {Q : px_Q} (w c : Int32) {I : px_I} {L : px_L} (hp : mPI I 0) (hs : I 103 29 ≠ 0 ∨ 0 < I 103 39) (hn : ¬ (0 < I 103 39 ∧ ySg I 125)) (kk : ∀ I2, mPo I I2 → yIt I I2 → px M_X12_way 0 0 82 [(0, .ref 103), (1, .int w), (2, .int c)] [] n I2 L R Q) : px M_X12_way 0 0 126 [(0, .ref 103), (1, .int w), (2, .int c)] [] n I L R Q := by
  have hlt := hp.1.2.1
  have h0 := hp.2.1
  have hop := (hp.N (by decide)).2
  refine px_ine rfl q_X12_way_126 hg rfl trivial (fun c131 => ?_) (fun c131 => ?_)
  · refine px_cVW (ci := 12) rfl q_X12_way_148 hg rfl trivial lk_12_334 nm_X12_errs (k_errs hg _) rfl rfl (px_lit hg rfl) rfl rfl rfl ⟨rfl, rfl⟩ ?_
    intro I150 L150 h150
    obtain ⟨rfl, h150⟩ := h150
    have e9 := mErr h150 h0 (by decide)
    have y9 := yErr h150 h0
    have hk9 : mPo I I150 := ⟨e9.1, Or.inl e9.2⟩
    refine px_b rfl q_X12_way_153 hg rfl trivial ?_
    exact px_go (kk _ hk9 (Or.inr ⟨hn, Or.inl ⟨by grind, y9⟩⟩)) ⟨rfl, rfl, rfl, trivial⟩
  · refine px_ne rfl q_X12_way_134 hg rfl trivial (fun c138 => ?_) (fun c138 => ?_)
    · refine px_ne rfl q_X12_way_156 hg rfl trivial (fun c160 => ?_) (fun c160 => ?_)
      · refine px_cVW (ci := 12) rfl q_X12_way_170 hg rfl trivial lk_12_372 nm_X12_step (ks_step hg hp (by assumption) (by assumption)) rfl rfl (px_lit hg rfl) rfl rfl rfl ⟨rfl, rfl⟩ ?_
        intro I171 L171 h171
        obtain ⟨rfl, hk9, y171⟩ := h171
        refine px_b rfl q_X12_way_174 hg rfl trivial ?_
        exact px_go (kk _ hk9 (Or.inr ⟨hn, Or.inr (Or.inr ⟨by grind, by grind, y171⟩)⟩)) ⟨rfl, rfl, rfl, trivial⟩
      · exact absurd c160 c138
    · refine px_le rfl q_X12_way_141 hg rfl trivial (fun c145 => ?_) (fun c145 => ?_)
      · refine px_ne rfl q_X12_way_156 hg rfl trivial (fun c160 => ?_) (fun c160 => ?_)
        · exact absurd c138 c160
        · refine px_cVW (ci := 12) rfl q_X12_way_163 hg rfl trivial lk_12_369 nm_X12_def (ks_def hg hp (hlt (by grind)) (by grind)) rfl rfl (px_lit hg rfl) rfl rfl rfl ⟨rfl, rfl⟩ ?_
          intro I164 L164 h164
          obtain ⟨rfl, hk9, y164⟩ := h164
          refine px_b rfl q_X12_way_167 hg rfl trivial ?_
          exact px_go (kk _ hk9 (Or.inr ⟨hn, Or.inr (Or.inl ⟨by grind, by grind, by grind, y164⟩)⟩)) ⟨rfl, rfl, rfl, trivial⟩
      · refine px_cVW (ci := 12) rfl q_X12_way_148 hg rfl trivial lk_12_334 nm_X12_errs (k_errs hg _) rfl rfl (px_lit hg rfl) rfl rfl rfl ⟨rfl, rfl⟩ ?_
        intro I150 L150 h150
        obtain ⟨rfl, h150⟩ := h150
        have e9 := mErr h150 h0 (by decide)
        have y9 := yErr h150 h0
        have hk9 : mPo I I150 := ⟨e9.1, Or.inl e9.2⟩
        refine px_b rfl q_X12_way_153 hg rfl trivial ?_
        exact px_go (kk _ hk9 (Or.inr ⟨hn, Or.inl ⟨by grind, y9⟩⟩)) ⟨rfl, rfl, rfl, trivial⟩

set_option maxRecDepth 100000 in
theorem ls_way82 {n : Nat} {R : px_R} (hg : px_G n R) {Q : px_Q} (w c : Int32) (hw : 0 ≤ w ∧ w ≤ 5) {I0 : px_I} {L : px_L} : ∀ t : Int32, t ≤ 401 → ∀ I, mPF I0 I → (I 103 31 = 0 → I 103 28 = t ∧ t ≤ 400) → (1 ≤ I 103 31 ∨ mPI I 0) → (∀ r I1 I2, mPF I0 I1 → mEnd I1 I2 w → yLp I I1 → yE1 I1 I2 w r → Q (some (.int r)) n I2 L R) → px M_X12_way 0 0 82 [(0, .ref 103), (1, .int w), (2, .int c)] [] n I L R Q := by
  refine px_up 401 (fun t ih ht => ?_)
  intro I hF htk hp hq
  have kk : mPI I 0 → yGo I → ∀ I2, mPo I I2 → yIt I I2 → px M_X12_way 0 0 82 [(0, .ref 103), (1, .int w), (2, .int c)] [] n I2 L R Q := fun hp0 hgo I2 h2 hit => by
    have hq2 : ∀ r I1 I3, mPF I0 I1 → mEnd I1 I3 w → yLp I2 I1 → yE1 I1 I3 w r → Q (some (.int r)) n I3 L R := fun r I1 I3 a b c d => hq r I1 I3 a b (yLp.step hgo hit c) d
    obtain ⟨p1, p2⟩ := h2
    have q := htk hp0.2.1
    rcases p2 with p2 | ⟨p2, p3⟩
    · by_cases hz : t < 401
      · exact ih 401 hz (by decide) I2 (hF.trans p1) (fun hx => by rw [hx] at p2; exact absurd p2 (by decide)) (Or.inl p2) hq2
      · grind
    · have p4 := p2.1.1
      exact ih (I2 103 28) (by grind) (by grind) I2 (hF.trans p1) (fun _ => ⟨rfl, by grind⟩) (Or.inr p2) hq2
  refine px_ne rfl q_X12_way_82 hg rfl trivial (fun c86 => ?_) (fun c86 => ?_)
  · exact px_go (ls_way177 hg w c hw (fun hz => by rcases hp with z | z; exact absurd (Int32.lt_of_lt_of_le (by decide : (0 : Int32) < 1) z) hz; exact absurd z.2.1 c86) (fun r I2 he hy => hq r I I2 hF he (yLp.nil (fun z => c86 z.1)) hy)) ⟨rfl, rfl, rfl, trivial⟩
  · replace hp : mPI I 0 := hp.resolve_left (by rw [c86]; decide)
    refine px_ne rfl q_X12_way_89 hg rfl trivial (fun c93 => ?_) (fun c93 => ?_)
    · have hs9 : I 103 29 ≠ 0 ∨ 0 < I 103 39 := by grind
      have hgo : yGo I := ⟨c86, hs9⟩
      refine px_le rfl q_X12_way_103 hg rfl trivial (fun c107 => ?_) (fun c107 => ?_)
      · exact px_go (ls_way126 hg w c hp hs9 (by unfold ySg; grind) (kk hp hgo)) ⟨rfl, rfl, rfl, trivial⟩
      · refine px_cVP (ci := 12) rfl q_X12_way_110 hg rfl trivial lk_12_331 nm_X12_isSign (k_isSign hg _) rfl rfl (px_lit hg rfl) rfl rfl rfl ⟨rfl, rfl⟩ ?_
        intro x113 h113
        refine px_eq rfl q_X12_way_116 hg rfl trivial (fun c116 => ?_) (fun c116 => ?_)
        · replace h113 := px_bf h113 c116
          exact px_go (ls_way126 hg w c hp hs9 (by unfold ySg; grind) (kk hp hgo)) ⟨rfl, rfl, rfl, trivial⟩
        · replace h113 := px_bt h113 c116
          refine px_cVW (ci := 12) rfl q_X12_way_119 hg rfl trivial lk_12_366 nm_X12_closesBrace (ks_closesBrace hg hp (hp.1.2.1 (by have := h113; grind)) (by grind)) rfl rfl (px_lit hg rfl) rfl rfl rfl ⟨rfl, rfl⟩ ?_
          intro I120 L120 h120
          obtain ⟨rfl, hk9, y120⟩ := h120
          refine px_b rfl q_X12_way_123 hg rfl trivial ?_
          exact px_go (kk hp hgo _ hk9 (Or.inl ⟨⟨by grind, h113⟩, y120⟩)) ⟨rfl, rfl, rfl, trivial⟩
    · refine px_le rfl q_X12_way_96 hg rfl trivial (fun c100 => ?_) (fun c100 => ?_)
      · exact px_go (ls_way177 hg w c hw (fun hz => ⟨hp, by have := (hp.N (by decide)).2; grind⟩) (fun r I2 he hy => hq r I I2 hF he (yLp.nil (fun z => by have := z.2; grind)) hy)) ⟨rfl, rfl, rfl, trivial⟩
      · have hs9 : I 103 29 ≠ 0 ∨ 0 < I 103 39 := by grind
        have hgo : yGo I := ⟨c86, hs9⟩
        refine px_le rfl q_X12_way_103 hg rfl trivial (fun c107 => ?_) (fun c107 => ?_)
        · exact px_go (ls_way126 hg w c hp hs9 (by unfold ySg; grind) (kk hp hgo)) ⟨rfl, rfl, rfl, trivial⟩
        · refine px_cVP (ci := 12) rfl q_X12_way_110 hg rfl trivial lk_12_331 nm_X12_isSign (k_isSign hg _) rfl rfl (px_lit hg rfl) rfl rfl rfl ⟨rfl, rfl⟩ ?_
          intro x113 h113
          refine px_eq rfl q_X12_way_116 hg rfl trivial (fun c116 => ?_) (fun c116 => ?_)
          · replace h113 := px_bf h113 c116
            exact px_go (ls_way126 hg w c hp hs9 (by unfold ySg; grind) (kk hp hgo)) ⟨rfl, rfl, rfl, trivial⟩
          · replace h113 := px_bt h113 c116
            refine px_cVW (ci := 12) rfl q_X12_way_119 hg rfl trivial lk_12_366 nm_X12_closesBrace (ks_closesBrace hg hp (hp.1.2.1 (by have := h113; grind)) (by grind)) rfl rfl (px_lit hg rfl) rfl rfl rfl ⟨rfl, rfl⟩ ?_
            intro I120 L120 h120
            obtain ⟨rfl, hk9, y120⟩ := h120
            refine px_b rfl q_X12_way_123 hg rfl trivial ?_
            exact px_go (kk hp hgo _ hk9 (Or.inl ⟨⟨by grind, h113⟩, y120⟩)) ⟨rfl, rfl, rfl, trivial⟩

set_option maxRecDepth 100000 in
theorem ls_way59 {n : Nat} {R : px_R} (hg : px_G n R) {Q : px_Q} (w : Int32) (hw : 0 ≤ w ∧ w ≤ 5) {I0 : px_I} {L : px_L} (z39 : I0 103 39 = 0) (z31 : I0 103 31 = 0) (z35 : I0 103 35 = 0) (z27 : I0 103 27 = 0) (z26 : 0 ≤ I0 103 26 ∧ I0 103 26 ≤ 400) (hq : ∀ r I1 I2, mPF I0 I1 → mEnd I1 I2 w → (∃ Ia Ib, yIn I0 Ia ∧ mNx Ia Ib ∧ yLp Ib I1) → yE1 I1 I2 w r → Q (some (.int r)) n I2 L R) : ∀ k : Int32, k ≤ 8 → 0 ≤ k → ∀ I, (∀ l : Int32, 0 ≤ l → l < k → I 124 l.toNatClampNeg = -1) → mPF I0 I → (I 103 = I0 103) → px M_X12_way 0 0 59 [(0, .ref 103), (1, .int w), (2, .int k)] [] n I L R Q := by
  refine px_up 8 (fun k ih hk => ?_)
  intro h0 I hd hF h103
  have y39 : I 103 39 = 0 := by rw [h103]; exact z39
  have y31 : I 103 31 = 0 := by rw [h103]; exact z31
  have y35 : I 103 35 = 0 := by rw [h103]; exact z35
  have y27 : I 103 27 = 0 := by rw [h103]; exact z27
  have y26 : 0 ≤ I 103 26 ∧ I 103 26 ≤ 400 := by rw [h103]; exact z26
  refine px_ige rfl q_X12_way_59 hg rfl trivial (fun c62 => ?_) (fun c62 => ?_)
  · refine px_cVW (ci := 12) rfl q_X12_way_78 hg rfl trivial lk_12_340 nm_X12_next (ks_next hg (by rw [y27]; exact ⟨by decide, y26⟩)) rfl rfl (px_lit hg rfl) rfl rfl rfl ⟨rfl, rfl⟩ ?_
    intro I79 L79 h79
    obtain ⟨rfl, y79⟩ := h79
    obtain ⟨g1, g2, g3, -⟩ := id y79
    have hp9 : mPI I79 0 := mPI.nx g1 g3 y31 (by rw [y35]; decide) (by rw [y35, y39]; have := g3.1.1; grind) ⟨_, by rw [y35]; exact mSI.zero y39 (fun l l1 l2 => hd l l1 (by grind))⟩
    have ht9 : I79 103 28 ≤ 400 := by have := g3.1; grind
    have hk8 : k = 8 := by grind
    exact px_go (ls_way82 hg w k hw (I79 103 28) (by grind) I79 (hF.trans g1.P) (fun _ => ⟨rfl, ht9⟩) (Or.inr hp9) (fun r I1 I2 a b c d => hq r I1 I2 a b ⟨I, I79, ⟨h103, fun l l1 l2 => hd l l1 (by rw [hk8]; exact l2), hF⟩, y79, c⟩ d)) ⟨rfl, rfl, rfl, trivial⟩
  · refine px_b rfl q_X12_way_65 hg rfl ⟨trivial, (by first | decide | (refine ⟨?_, ?_⟩ <;> grind) | grind)⟩ ?_
    refine px_go (ih (k + 1) (by grind) (by grind) (by grind) _ (fun l l1 l2 => ?_) (hF.a 124 _ _) (by rw [px_u_ne (by decide)]; exact h103)) ⟨rfl, rfl, rfl, trivial⟩
    by_cases hlk : l = k
    · subst hlk; rw [px_u_at]
    · rw [px_uJ l1 h0 hlk]; exact hd l l1 (by grind)

set_option maxRecDepth 100000 in
theorem ks_way {n : Nat} {I : px_I} {L : px_L} {R : px_R} (hg : px_G n R) (w : Int32) (ht : 0 ≤ I 103 25 ∧ I 103 25 ≤ 400) (hW : mWays I) : px_KS M_X12_way [.ref 103, .int w] n I L R (fun r I2 L2 => L2 = L ∧ ((¬ (0 ≤ w ∧ w ≤ 5) ∧ r = -1 ∧ I2 = I) ∨ ((0 ≤ w ∧ w ≤ 5) ∧ mWayPost I I2 w ∧ yWay I I2 w r))) := by
  refine px_of (plainFor_of_name np_RX12) (fun _ _ _ => trivial) rfl ?_
  refine px_cSP rfl q_X12_way_0 hg rfl trivial lk_12_167 nm_X12_in (k_inI hg _ (0) (5) (by decide) (by decide)) rfl rfl rfl ⟨rfl, rfl⟩ ?_
  intro x6 h6
  refine px_ne rfl q_X12_way_9 hg rfl trivial (fun c9 => ?_) (fun c9 => ?_)
  · replace h6 := px_bt h6 c9
    refine px_b rfl q_X12_way_14 hg rfl trivial ?_
    have hI9 : ∀ b k, b = 129 ∨ b = 130 ∨ b = 131 → (px_u (px_u (px_u (px_u (px_u (px_u (px_u (px_u I 103 26 (I 103 25)) 103 25 0) 103 27 0) 103 31 0) 103 32 (-1)) 103 35 0) 103 39 0) 103 72 0) b k = I b k := fun b k hb => by rcases hb with rfl | rfl | rfl <;> (simp [px_ur])
    refine px_go (ls_way59 hg w h6 (by simp [px_ur]) (by simp [px_ur]) (by simp [px_ur]) (by simp [px_ur]) (by simp [px_ur]; exact ht) (fun r I1 I2 h1 h2 h3 h4 => ?_) 0 (by decide) (by decide) _ (fun l l1 l2 => by grind) mPF.rfl' rfl) ⟨rfl, rfl, rfl, trivial⟩
    obtain ⟨a1, a2, a3, a4⟩ := h2
    obtain ⟨Ia, Ib, i1, i2, i3⟩ := h3
    refine ⟨rfl, rfl, r, rfl, rfl, Or.inr ⟨h6, ⟨?_, ?_, ?_, ?_⟩, Ia, Ib, I1, i1, i2, i3, h1, h4⟩⟩
    · exact ((((((((mWF.rfl'.u 26 _).u 25 _).u 27 _).u 31 _).u 32 _).u 35 _).u 39 _).u 72 _).trans (h1.W.trans a1)
    · rw [a2, h1 103 25 (by decide) (by decide)]; simp [px_ur]
    · exact a3 (hW.same (fun b k hb => by
        rw [h1 b k (by rcases hb with rfl | rfl | rfl <;> decide) (by rcases hb with rfl | rfl | rfl <;> (exact fun q => absurd q.1 (by decide)))]
        exact hI9 b k hb))
    · have e : ∀ k, I1 129 k = I 129 k := fun k => by
        rw [h1 129 k (by decide) (fun q => absurd q.1 (by decide))]
        exact hI9 129 k (Or.inl rfl)
      refine a4.imp (fun z k => by rw [z k, e]) (fun z k => by rw [z k]; simp only [px_ur, e])
  · replace h6 := px_bf h6 c9
    refine px_riS rfl q_X12_way_12 rfl rfl rfl hg rfl trivial ⟨⟨rfl, rfl⟩, ?_⟩
    exact ⟨rfl, Or.inl ⟨h6, rfl, rfl⟩⟩
