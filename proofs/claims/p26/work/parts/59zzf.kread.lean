/-! a part of a text, in the class -/
def kP (w : Nat) (I : px_I) (N : Nat) (G : zG) (p : Nat) : Prop := kSI w I N G ∧ 2 * ((I w 2).toInt + (I 76 7).toInt) ≤ (p : Int)
theorem kP.nx {w : Nat} {I : px_I} {N : Nat} {G : zG} {p : Nat} (hw : w = 77 ∨ 147 ≤ w) (h : kP w I N G p) : kP w (xNx I) N G p := ⟨h.1.nx hw, by rw [xNx_r (show w ≠ 76 by omega), xNx_o (b := 76) (j := 7) (by omega)]; exact h.2⟩
theorem kP.i {w : Nat} {I : px_I} {N : Nat} {G : zG} {p : Nat} (h : kP w I N G p) : (0 ≤ (I w 2).toInt ∧ (I w 2).toInt ≤ 200) ∧ (0 ≤ (I 76 7).toInt ∧ (I 76 7).toInt ≤ 8) := by
  have a := h.1.2.1
  have b := h.1.1
  have a1 := Int32.le_iff_toInt_le.mp a.1
  have a2 := Int32.le_iff_toInt_le.mp a.2
  have b1 := Int32.le_iff_toInt_le.mp b.1
  have b2 := Int32.le_iff_toInt_le.mp b.2
  exact ⟨⟨a1, a2⟩, b1, b2⟩
theorem kP.lt {w : Nat} {I : px_I} {N : Nat} {G : zG} {p : Nat} (h : kP w I N G p) (hp : p < 400) : I w 2 < 200 := by
  have r := h.i
  have e := h.2
  rw [Int32.lt_iff_toInt_lt, show (200 : Int32).toInt = 200 by decide]
  omega
theorem i_up {x : Int32} (h : 0 ≤ x.toInt ∧ x.toInt ≤ 1000) : (x + 1).toInt = x.toInt + 1 := by rw [Int32.toInt_add, show (1 : Int32).toInt = 1 by decide]; exact Int.bmod_eq_of_le (by omega) (by omega)
theorem i_dn {x : Int32} (h : 0 ≤ x.toInt ∧ x.toInt ≤ 1000) : (x - 1).toInt = x.toInt - 1 := by rw [Int32.toInt_sub, show (1 : Int32).toInt = 1 by decide]; exact Int.bmod_eq_of_le (by omega) (by omega)
theorem t_pos {B : Nat → Int32} {n p : Nat} (hp : p ≤ n) (hk : ¬ tK B n p = 0) : p + 1 ≤ tE B n p ∧ tE B n p ≤ n := by
  have t := t_le (B := B) hp
  have := t.2.2.2.1 hk
  omega
theorem kP.step {w : Nat} {I J : px_I} {N : Nat} {G H : zG} {p p2 : Nat} (h : kP w I N G p) (hJ : kSI w J N H ∧ J w 2 = I w 2 + 1 ∧ J 76 = I 76) (hp : p + 2 ≤ p2) : kP w J N H p2 := by
  have r := h.i
  have e := h.2
  refine ⟨hJ.1, ?_⟩
  rw [hJ.2.1, hJ.2.2, i_up (by omega)]
  omega
theorem xRS.N {B : Nat → Int32} {n q w p : Nat} {I : px_I} {d o m w9 o9 a b : Int32} {T : Nat → Bool} {N : Nat} {G : zG} (hw : w = 77 ∨ 147 ≤ w) (h9 : w9 = o9 + 1) (ho : 0 ≤ o9 ∧ o9 ≤ 3) (ha : a = yLo w9) (hb : b = yHi w9) (hp : p + 2 ≤ q) (hq : q ≤ n) (h : xT B n I q) (hs : xP I d o (m + 1) T) (hk : kP w I N G p) (hz : (zNm B n w9 q d o m T).1 = -1) : kP w (xRS w I o9 a b) N (gAd G.1 d [(w9, tV B n q)], G.2) (zNm B n w9 q d o m T).2.2.1 ∧ (zNm B n w9 q d o m T).2.2.1 ≤ n := by
  unfold zNm at hz ⊢
  by_cases t1 : tK B n q = 3
  · rw [if_pos t1] at hz ⊢
    by_cases t2 : yLo w9 ≤ tV B n q ∧ tV B n q ≤ yHi w9
    · rw [if_pos t2, if_neg (show ¬ w9 = 8 by grind)] at hz ⊢
      unfold zSO at hz ⊢
      by_cases t3 : tK B n (tE B n q) = 4 ∧ tV B n (tE B n q) = 59
      · rw [if_pos t3]
        have e1 : xTN I a b = xNx I ∧ xNx I 76 12 = tV B n q := by
          rcases xTN.A (w := w9) h hs.1 ha hb with ⟨-, -, u3, u4⟩ | ⟨-, u2, -⟩ | ⟨u1, -⟩
          · exact ⟨u3, u4⟩
          · exact absurd t2 u2
          · exact absurd t1 u1
        have hT := ((xNx.C h).2.2.2 (by rw [(tCK B n q).2.1.mpr t1]; decide)).1
        have e2 : xTk (xNx I) 3 = xNx (xNx I) := xTk.ok hT hs.nx.1 ((tCK B n _).2.2.1.mpr t3)
        have k2 := (hk.nx hw).nx hw
        have p1 := t_pos (B := B) hq (by rw [t1]; decide)
        have p2 := t_pos (B := B) p1.2 (by rw [t3.1]; decide)
        have n4 := h.2.2.2.1
        have y := k2.1.add1 (J := xRS w I o9 a b) (o := o9) (x := tV B n q) hw (k2.lt (by omega)) ⟨ho.1, Int32.le_trans ho.2 (by decide)⟩ (by unfold xRS; rw [e1.1, e2, e1.2])
        rw [hs.nx.nx.2.1, ← h9] at y
        exact ⟨k2.step y (by show p + 2 ≤ tE B n (tE B n q); omega), p2.2⟩
      · rw [if_neg t3] at hz; exact absurd hz (zbad_ne (by decide))
    · rw [if_neg t2] at hz; exact absurd hz (zbad_ne (by decide))
  · rw [if_neg t1] at hz; exact absurd hz (zbad_ne (by decide))
theorem xRB.N {B : Nat → Int32} {n q w p : Nat} {I : px_I} {d o m w9 o9 : Int32} {T : Nat → Bool} {N : Nat} {G : zG} (hw : w = 77 ∨ 147 ≤ w) (h9 : w9 = o9 + 1) (ho : 4 ≤ o9 ∧ o9 ≤ 5) (hp : p + 2 ≤ q) (hq : q ≤ n) (h : xT B n I q) (hs : xP I d o (m + 1) T) (hk : kP w I N G p) (hz : (zSO B n q d o m T).1 = -1) : kP w (xRB w I o9) N (gAd G.1 d [(w9, 0)], G.2) (zSO B n q d o m T).2.2.1 ∧ (zSO B n q d o m T).2.2.1 ≤ n := by
  unfold zSO at hz ⊢
  by_cases t3 : tK B n q = 4 ∧ tV B n q = 59
  · rw [if_pos t3]
    have e2 : xTk I 3 = xNx I := xTk.ok h hs.1 ((tCK B n _).2.2.1.mpr t3)
    have k2 := hk.nx hw
    have p1 := t_pos (B := B) hq (by rw [t3.1]; decide)
    have n4 := h.2.2.2.1
    have y := k2.1.add1 (J := xRB w I o9) (o := o9) (x := 0) hw (k2.lt (by omega)) ⟨Int32.le_trans (by decide) ho.1, ho.2⟩ (by unfold xRB; rw [e2])
    rw [hs.nx.2.1, ← h9] at y
    exact ⟨k2.step y (by show p + 2 ≤ tE B n q; omega), p1.2⟩
  · rw [if_neg t3] at hz; exact absurd hz (zbad_ne (by decide))
theorem xRD.N {B : Nat → Int32} {n q w p : Nat} {I : px_I} {d o m : Int32} {T : Nat → Bool} {N : Nat} {G : zG} (hw : w = 77 ∨ 147 ≤ w) (hp : p + 2 ≤ q) (hq : q ≤ n) (h : xT B n I q) (hs : xP I d o (m + 1) T) (hk : kP w I N G p) (hz : (zDo B n q d o m T).1 = -1) : kP w (xRD w I) N (gAd G.1 d (G.2.1 (tV B n q)), G.2) (zDo B n q d o m T).2.2.1 ∧ (zDo B n q d o m T).2.2.1 ≤ n := by
  unfold zDo at hz ⊢
  by_cases t1 : tK B n q = 2
  · rw [if_pos t1] at hz ⊢
    by_cases t2 : T (tV B n q).toNatClampNeg = true
    · rw [if_pos t2] at hz ⊢
      unfold zSO at hz ⊢
      by_cases t3 : tK B n (tE B n q) = 4 ∧ tV B n (tE B n q) = 59
      · rw [if_pos t3]
        have e1 : xTLr (xTk I 1) 1 = tV B n q ∧ xTLi (xTk I 1) 1 = xNx I := by
          rcases xTL.A (x := 1) (Or.inr rfl) h hs with ⟨-, -, u3, u4⟩ | ⟨-, u2, -⟩ | ⟨u1, -⟩
          · exact ⟨u3, u4⟩
          · exact absurd ⟨fun _ => rfl, fun _ => t2⟩ u2
          · exact absurd t1 u1
        have hT := ((xNx.C h).2.2.2 (by rw [(tCK B n q).2.2.2.2.2.2 t1]; decide)).1
        have e2 : xTk (xNx I) 3 = xNx (xNx I) := xTk.ok hT hs.nx.1 ((tCK B n _).2.2.1.mpr t3)
        have k2 := (hk.nx hw).nx hw
        have p1 := t_pos (B := B) hq (by rw [t1]; decide)
        have p2 := t_pos (B := B) p1.2 (by rw [t3.1]; decide)
        have n4 := h.2.2.2.1
        have l1 := yLet t1
        have hX : xRD w I = xRD2 w (xNx (xNx I)) (tV B n q) := by unfold xRD; rw [e1.1, e1.2, e2]
        have e84 : xNx (xNx I) 84 = I 84 := by rw [xNx_r (by decide), xNx_r (by decide)]
        by_cases c : 0 < xNx (xNx I) 84 (tV B n q).toNatClampNeg
        · have y := k2.1.addC (J := xRD w I) (l := tV B n q) hw (k2.lt (by omega)) l1 c (by rw [hX]; unfold xRD2; exact if_pos ⟨by grind, c⟩)
          rw [hs.nx.nx.2.1] at y
          exact ⟨k2.step y (by show p + 2 ≤ tE B n (tE B n q); omega), p2.2⟩
        · have hX2 : xRD w I = xNx (xNx I) := by rw [hX]; unfold xRD2; exact if_neg (fun z => c z.2)
          have told : ¬ xNx (xNx I) 84 (tV B n q).toNatClampNeg = -1 := by
            rw [e84]
            exact (hs.2.2.2.2.2.2.2.1 _ (yLetN t1)).mp t2
          have hl := (k2.1.2.2.2.2.2.2.2 (tV B n q) l1.1 l1.2 told).1
          have e : G.2.1 (tV B n q) = [] := by
            refine cL_0.mp ?_
            rw [← hl]
            have b := cL_b (G.2.1 (tV B n q))
            rw [← hl] at b
            dsimp only at b ⊢
            grind
          rw [hX2, e, gAd_nil]
          exact ⟨⟨k2.1, Int.le_trans k2.2 (by show (p : Int) ≤ (tE B n (tE B n q) : Nat); omega)⟩, p2.2⟩
      · rw [if_neg t3] at hz; exact absurd hz (zbad_ne (by decide))
    · rw [if_neg t2] at hz; exact absurd hz (zbad_ne (by decide))
  · rw [if_neg t1] at hz; exact absurd hz (zbad_ne (by decide))
theorem kP.opn {w : Nat} {I K : px_I} {N : Nat} {G H : zG} {p p2 : Nat} (h : kP w I N G p) (hK : kSI w K N H ∧ K w 2 ≤ I w 2 + 1 ∧ K 76 7 = I 76 7 + 1) (hp : p + 4 ≤ p2) : kP w K N H p2 := by
  have r := h.i
  have e := h.2
  have le := Int32.le_iff_toInt_le.mp hK.2.1
  rw [i_up (by omega)] at le
  refine ⟨hK.1, ?_⟩
  rw [hK.2.2, i_up (by omega)]
  omega
theorem xRR.N {B : Nat → Int32} {n q w p : Nat} {I : px_I} {d o m : Int32} {T : Nat → Bool} {N : Nat} {G : zG} (hw : w = 77 ∨ 147 ≤ w) (hp : p + 4 ≤ q) (hq : q ≤ n) (h : xT B n I q) (hs : xP I d o (m + 1) T) (hk : kP w I N G p) (hz : (zNm B n 8 q d o m T).1 = -1) : kP w (xRR w I) N (gN G.1 (d + 1), G.2.1, gT G.2.2 (d + 1) (tV B n q)) (zNm B n 8 q d o m T).2.2.1 ∧ (zNm B n 8 q d o m T).2.2.1 ≤ n := by
  unfold zNm at hz ⊢
  by_cases t1 : tK B n q = 3
  · rw [if_pos t1] at hz ⊢
    by_cases t2 : yLo 8 ≤ tV B n q ∧ tV B n q ≤ yHi 8
    · rw [if_pos t2, if_pos rfl] at hz ⊢
      unfold zOp at hz ⊢
      by_cases t3 : tK B n (tE B n q) = 4 ∧ tV B n (tE B n q) = 123
      · rw [if_pos t3] at hz ⊢
        by_cases t4 : d = 8
        · rw [if_pos t4] at hz; exact absurd hz (zbad_ne (by decide))
        · rw [if_neg t4]
          have e1 : xTN I 1 99 = xNx I ∧ xNx I 76 12 = tV B n q := by
            rcases xTN.A (w := 8) (a := 1) (b := 99) h hs.1 (by decide) (by decide) with ⟨-, -, u3, u4⟩ | ⟨-, u2, -⟩ | ⟨u1, -⟩
            · exact ⟨u3, u4⟩
            · exact absurd t2 u2
            · exact absurd t1 u1
          have hT := ((xNx.C h).2.2.2 (by rw [(tCK B n q).2.1.mpr t1]; decide)).1
          have e2 : xTO (xNx I) = xNx (xNx I) := by
            rcases xTO.A hT hs.nx with ⟨-, -, u3⟩ | ⟨-, u2, -⟩ | ⟨u1, -⟩
            · exact u3
            · exact absurd u2 t4
            · exact absurd t3 u1
          have k2 := (hk.nx hw).nx hw
          have p1 := t_pos (B := B) hq (by rw [t1]; decide)
          have p2 := t_pos (B := B) p1.2 (by rw [t3.1]; decide)
          have n4 := h.2.2.2.1
          have e7 := hs.nx.nx.2.1
          have t5 : 1 ≤ tV B n q ∧ tV B n q ≤ 99 := t2
          have hX : xRR w I = if 1 < tV B n q then cAdd (xOB w (xNx (xNx I)) (tV B n q)) w 6 (tV B n q) else xOB w (xNx (xNx I)) (tV B n q) := by
            unfold xRR
            rw [e1.1, e1.2, e2]
            unfold xRR2
            exact if_pos hs.nx.nx.1
          have y := k2.1.opn (J := xOB w (xNx (xNx I)) (tV B n q)) (K := xRR w I) (t := tV B n q) (l := xNx (xNx I) 76 8) hw (by rw [e7]; have := hs.2.2.2.2.1; grind) (k2.lt (by omega)) (by rw [zu_id rfl]) (Or.inl ⟨rfl, t5, by
            by_cases c : 1 < tV B n q
            · rw [if_pos c] at hX; exact Or.inl ⟨c, hX⟩
            · rw [if_neg c] at hX; exact Or.inr ⟨by grind, hX⟩⟩)
          have y2 := k2.opn y (p2 := tE B n (tE B n q)) (by omega)
          rw [e7] at y2
          exact ⟨y2, p2.2⟩
      · rw [if_neg t3] at hz; exact absurd hz (zbad_ne (by decide))
    · rw [if_neg t2] at hz; exact absurd hz (zbad_ne (by decide))
  · rw [if_neg t1] at hz; exact absurd hz (zbad_ne (by decide))
theorem xDf.N {B : Nat → Int32} {n q w p : Nat} {I : px_I} {d o m : Int32} {T : Nat → Bool} {N : Nat} {G : zG} (hw : w = 77 ∨ 147 ≤ w) (hd : d = 0) (hp : p + 3 ≤ q) (hq : q ≤ n) (h : xT B n I q) (hs : xP I d o (m + 1) T) (hk : kP w I N G p) (hz : (zDf B n q d m T).1 = -1) : kP w (xDf w I) N (gN G.1 (d + 1), G.2.1, gT G.2.2 (d + 1) 1) (zDf B n q d m T).2.2.1 ∧ (zDf B n q d m T).2.2.1 ≤ n := by
  unfold zDf at hz ⊢
  by_cases t1 : tK B n q = 2
  · rw [if_pos t1] at hz ⊢
    by_cases t2 : T (tV B n q).toNatClampNeg = true
    · rw [if_pos t2] at hz; exact absurd hz (zbad_ne (by decide))
    · rw [if_neg t2] at hz ⊢
      unfold zOp at hz ⊢
      by_cases t3 : tK B n (tE B n q) = 4 ∧ tV B n (tE B n q) = 123
      · rw [if_pos t3] at hz ⊢
        by_cases t4 : d = 8
        · rw [if_pos t4] at hz; exact absurd hz (zbad_ne (by decide))
        · rw [if_neg t4]
          have e1 : xTLr (xTk I 1) 0 = tV B n q ∧ xTLi (xTk I 1) 0 = xNx I := by
            rcases xTL.A (x := 0) (Or.inl rfl) h hs with ⟨-, -, u3, u4⟩ | ⟨-, u2, -⟩ | ⟨u1, -⟩
            · exact ⟨u3, u4⟩
            · exact absurd ⟨fun z => absurd z t2, fun z => absurd z (by decide)⟩ u2
            · exact absurd t1 u1
          have hT := ((xNx.C h).2.2.2 (by rw [(tCK B n q).2.2.2.2.2.2 t1]; decide)).1
          have e2 : xTO (xNx I) = xNx (xNx I) := by
            rcases xTO.A hT hs.nx with ⟨-, -, u3⟩ | ⟨-, u2, -⟩ | ⟨u1, -⟩
            · exact u3
            · exact absurd u2 t4
            · exact absurd t3 u1
          have k2 := (hk.nx hw).nx hw
          have p1 := t_pos (B := B) hq (by rw [t1]; decide)
          have p2 := t_pos (B := B) p1.2 (by rw [t3.1]; decide)
          have n4 := h.2.2.2.1
          have l1 := yLet t1
          have e7 := hs.nx.nx.2.1
          have e84 : xNx (xNx I) 84 = I 84 := by rw [xNx_r (by decide), xNx_r (by decide)]
          have hX : xDf w I = cAdd (xOB w (px_u (xNx (xNx I)) 76 8 (tV B n q)) 1) w 10 0 := by
            unfold xDf
            rw [e1.1, e1.2, e2]
            unfold xDf2
            exact if_pos hs.nx.nx.1
          have y := k2.1.opn (J := xOB w (px_u (xNx (xNx I)) 76 8 (tV B n q)) 1) (K := xDf w I) (t := 1) (l := tV B n q) hw (by rw [e7, hd]; decide) (k2.lt (by omega)) rfl (Or.inr ⟨by rw [e7]; exact hd, rfl, l1, by
            rw [e84]
            exact Classical.not_not.mp (fun z => t2 ((hs.2.2.2.2.2.2.2.1 _ (yLetN t1)).mpr z)), hX⟩)
          have y2 := k2.opn y (p2 := tE B n (tE B n q)) (by omega)
          rw [e7] at y2
          exact ⟨y2, p2.2⟩
      · rw [if_neg t3] at hz; exact absurd hz (zbad_ne (by decide))
  · rw [if_neg t1] at hz; exact absurd hz (zbad_ne (by decide))
theorem px_uo {f g : px_I} {b k : Nat} {x : Int32} (h : f b = g b) (j : Nat) : px_u f b k x b j = px_u g b k x b j := by
  rw [px_ur, px_ur, if_pos rfl, if_pos rfl, h]
/-- a } -/
theorem xCB.N {w : Nat} {I : px_I} {d o : Int32} {N p : Nat} {G : zG} (hw : w = 77 ∨ 147 ≤ w) (hd : 0 < d) (h7 : I 76 7 = d) (h8 : I 76 8 = o) (hp : p < 400) (hk : kP w I N G p) : ∃ N2, kP w (xCB w I) N2 (zgC d o G) p := by
  have r := hk.i
  have hz := hk.lt hp
  have e := hk.2
  obtain ⟨hS, -⟩ := hk
  have hop := hS.1
  have hsz := hS.2.1
  rw [h7] at hop r e
  have d1 : 1 ≤ d := by grind
  have hX : xCB w I = xCB2 w (xCB1 w (px_u I 76 7 (d - 1)) d) d := by
    unfold xCB
    rw [h7, if_pos ⟨d1, hop.2⟩]
  rw [hX]
  have dd := i_dn (x := d) (by omega)
  have b0 : ∀ b, b ≠ 76 → px_u I 76 7 (d - 1) b = I b := fun b hb => px_u_ne hb
  have f7 : px_u I 76 7 (d - 1) 76 7 = d - 1 := px_u_at
  have f8 : px_u I 76 7 (d - 1) 76 8 = o := by rw [px_u_at_ne (by decide)]; exact h8
  unfold kSI at hS
  rw [h7, h8] at hS
  have d0 : 0 ≤ d - 1 := by grind
  have s0 : I 82 d.toNatClampNeg = cL (G.1 d) := (hS.2.2.2.2.2.2.1 d hop.1 (Int32.le_refl _)).1
  have sb := cL_b (G.1 d)
  rw [← s0] at sb
  unfold xCB1
  rw [b0 82 (by decide), b0 80 (by decide)]
  unfold zgC
  by_cases c : d = 1 ∧ ¬ o = -1
  · rw [if_pos c]
    obtain ⟨c1, c2⟩ := c
    subst c1
    have l0 : 0 ≤ o ∧ o ≤ 7 := by have := hS.2.2.1.1; grind
    by_cases z : I 82 (1 : Int32).toNatClampNeg = 0
    · rw [if_pos z]
      have y := kSt.clM (yS2 := fun j => px_u I 83 o.toNatClampNeg (I 80 (1 : Int32).toNatClampNeg + 1) 83 j.toNatClampNeg) (yT2 := fun j => px_u I 84 o.toNatClampNeg 0 84 j.toNatClampNeg) hS c2 z (fun l l1 l2 l3 => ⟨px_uJ l1 l0.1 l3, px_uJ l1 l0.1 l3⟩) px_u_at
      have hK : xCB2 w (px_u (px_u I 76 7 (1 - 1)) w 2 (I 80 (1 : Int32).toNatClampNeg)) 1 = px_u (px_u (px_u (px_u (px_u I 76 7 (1 - 1)) w 2 (I 80 (1 : Int32).toNatClampNeg)) 83 o.toNatClampNeg (I 80 (1 : Int32).toNatClampNeg + 1)) 84 o.toNatClampNeg 0) 76 8 (-1) := by
        have g : ∀ b j, b ≠ w → px_u (px_u I 76 7 (1 - 1)) w 2 (I 80 (1 : Int32).toNatClampNeg) b j = px_u I 76 7 (1 - 1) b j := fun b j hb => by rw [px_u_ne hb]
        unfold xCB2
        rw [g 76 7 (by omega), f7, g 76 8 (by omega), f8, if_pos ⟨by decide, c2⟩]
        unfold xCD xCD1
        rw [g 82 _ (by omega), b0 82 (by decide), if_neg (by rw [z]; exact fun q => absurd q.1 (by decide)), g 82 _ (by omega), b0 82 (by decide), g 80 _ (by omega), b0 80 (by decide), z]
        unfold xCD2
        rw [g 76 8 (by omega), f8, if_pos l0]
      rw [hK]
      refine ⟨N + 1, ?_, ?_⟩
      · unfold kSI
        have q : ∀ b, b ≠ 76 → b ≠ w → b ≠ 83 → b ≠ 84 → px_u (px_u (px_u (px_u (px_u I 76 7 (1 - 1)) w 2 (I 80 (1 : Int32).toNatClampNeg)) 83 o.toNatClampNeg (I 80 (1 : Int32).toNatClampNeg + 1)) 84 o.toNatClampNeg 0) 76 8 (-1) b = I b := fun b q1 q2 q3 q4 => by rw [px_u_ne q1, px_u_ne q4, px_u_ne q3, px_u_ne q2, px_u_ne q1]
        have q83 : ∀ j, px_u (px_u (px_u (px_u (px_u I 76 7 (1 - 1)) w 2 (I 80 (1 : Int32).toNatClampNeg)) 83 o.toNatClampNeg (I 80 (1 : Int32).toNatClampNeg + 1)) 84 o.toNatClampNeg 0) 76 8 (-1) 83 j = px_u I 83 o.toNatClampNeg (I 80 (1 : Int32).toNatClampNeg + 1) 83 j := fun j => by
          rw [px_u_ne (by decide), px_u_ne (by decide)]
          exact px_uo (by rw [px_u_ne (show 83 ≠ w by omega), px_u_ne (by decide)]) j
        have q84 : ∀ j, px_u (px_u (px_u (px_u (px_u I 76 7 (1 - 1)) w 2 (I 80 (1 : Int32).toNatClampNeg)) 83 o.toNatClampNeg (I 80 (1 : Int32).toNatClampNeg + 1)) 84 o.toNatClampNeg 0) 76 8 (-1) 84 j = px_u I 84 o.toNatClampNeg 0 84 j := fun j => by
          rw [px_u_ne (by decide)]
          exact px_uo (by rw [px_u_ne (show (84 : Nat) ≠ 83 by decide), px_u_ne (show 84 ≠ w by omega), px_u_ne (by decide)]) j
        have q7 : px_u (px_u (px_u (px_u (px_u I 76 7 (1 - 1)) w 2 (I 80 (1 : Int32).toNatClampNeg)) 83 o.toNatClampNeg (I 80 (1 : Int32).toNatClampNeg + 1)) 84 o.toNatClampNeg 0) 76 8 (-1) 76 7 = 0 := by
          rw [px_u_at_ne (by decide), px_u_ne (by decide), px_u_ne (by decide), px_u_ne (show 76 ≠ w by omega), px_u_at]; decide
        have qw : px_u (px_u (px_u (px_u (px_u I 76 7 (1 - 1)) w 2 (I 80 (1 : Int32).toNatClampNeg)) 83 o.toNatClampNeg (I 80 (1 : Int32).toNatClampNeg + 1)) 84 o.toNatClampNeg 0) 76 8 (-1) w 2 = I 80 (1 : Int32).toNatClampNeg := by
          rw [px_u_ne (show w ≠ 76 by omega), px_u_ne (show w ≠ 84 by omega), px_u_ne (show w ≠ 83 by omega), px_u_at]
        rw [q (w + 1) (by omega) (by omega) (by omega) (by omega), q (w + 2) (by omega) (by omega) (by omega) (by omega), q 80 (by decide) (by omega) (by decide) (by decide), q 81 (by decide) (by omega) (by decide) (by decide), q 82 (by decide) (by omega) (by decide) (by decide), q7, qw, px_u_at, show px_u (px_u (px_u (px_u (px_u I 76 7 (1 - 1)) w 2 (I 80 (1 : Int32).toNatClampNeg)) 83 o.toNatClampNeg (I 80 (1 : Int32).toNatClampNeg + 1)) 84 o.toNatClampNeg 0) 76 8 (-1) 83 = px_u I 83 o.toNatClampNeg (I 80 (1 : Int32).toNatClampNeg + 1) 83 from funext q83, show px_u (px_u (px_u (px_u (px_u I 76 7 (1 - 1)) w 2 (I 80 (1 : Int32).toNatClampNeg)) 83 o.toNatClampNeg (I 80 (1 : Int32).toNatClampNeg + 1)) 84 o.toNatClampNeg 0) 76 8 (-1) 84 = px_u I 84 o.toNatClampNeg 0 84 from funext q84]
        exact y
      · rw [px_u_ne (show w ≠ 76 by omega), px_u_ne (show w ≠ 84 by omega), px_u_ne (show w ≠ 83 by omega), px_u_at, px_u_at_ne (by decide), px_u_ne (by decide), px_u_ne (by decide), px_u_ne (show 76 ≠ w by omega), px_u_at]
        have s1 := hS.s1 c2
        have le := Int32.lt_iff_toInt_lt.mp s1.2.2.2.1
        rw [kE_op] at le
        have z1 : ((1 : Int32) - 1).toInt = 0 := by decide
        have z2 : (1 : Int32).toInt = 1 := by decide
        rw [z1]
        rw [z2] at e
        omega
    · rw [if_neg z]
      have zp : 0 < I 82 (1 : Int32).toNatClampNeg := by grind
      have s1 := hS.s1 c2
      have hb1 : 0 ≤ I 80 (1 : Int32).toNatClampNeg ∧ I 80 (1 : Int32).toNatClampNeg < I w 2 := ⟨s1.2.1, by have := s1.2.2.2.1; rw [kE_op] at this; exact this⟩
      obtain ⟨a1, a2, a3, a4, a5⟩ := cAdd_is (I := px_u I 76 7 (1 - 1)) (w := w) (o := 9) (v := 0) rfl (by rw [b0 w (by omega)]; exact hsz.1) (by rw [b0 w (by omega)]; exact hz)
      rw [b0 w (by omega)] at a2 a3 a4 a5
      rw [b0 (w + 1) (by omega), b0 (w + 2) (by omega)] at a5
      have K1 : xCD1 w (px_u I 76 7 (1 - 1)) 1 = px_u (cAdd (px_u I 76 7 (1 - 1)) w 9 0) (w + 2) (I 80 (1 : Int32).toNatClampNeg).toNatClampNeg (I w 2 + 1) := by
        unfold xCD1
        rw [b0 82 (by decide), b0 80 (by decide), if_pos ⟨zp, hb1.1, by grind⟩, a2]
      have K2 : xCB2 w (px_u I 76 7 (1 - 1)) 1 = px_u (px_u (px_u (px_u (cAdd (px_u I 76 7 (1 - 1)) w 9 0) (w + 2) (I 80 (1 : Int32).toNatClampNeg).toNatClampNeg (I w 2 + 1)) 83 o.toNatClampNeg (I 80 (1 : Int32).toNatClampNeg + 1)) 84 o.toNatClampNeg (I 82 (1 : Int32).toNatClampNeg)) 76 8 (-1) := by
        unfold xCB2
        rw [f7, f8, if_pos ⟨by decide, c2⟩]
        unfold xCD
        rw [K1, b0 80 (by decide), px_u_ne (show 82 ≠ w + 2 by omega), a1 82 (by omega) (by omega) (by omega), b0 82 (by decide)]
        unfold xCD2
        rw [px_u_ne (show 76 ≠ w + 2 by omega), a1 76 (by omega) (by omega) (by omega), f8, if_pos l0]
      rw [K2]
      generalize hJ : px_u (px_u (px_u (px_u (cAdd (px_u I 76 7 (1 - 1)) w 9 0) (w + 2) (I 80 (1 : Int32).toNatClampNeg).toNatClampNeg (I w 2 + 1)) 83 o.toNatClampNeg (I 80 (1 : Int32).toNatClampNeg + 1)) 84 o.toNatClampNeg (I 82 (1 : Int32).toNatClampNeg)) 76 8 (-1) = J
      have j1 : J (w + 1) = cAdd (px_u I 76 7 (1 - 1)) w 9 0 (w + 1) := by rw [← hJ, px_u_ne (by omega), px_u_ne (by omega), px_u_ne (by omega), px_u_ne (by omega)]
      have j2 : ∀ j : Int32, J (w + 2) j.toNatClampNeg = px_u (cAdd (px_u I 76 7 (1 - 1)) w 9 0) (w + 2) (I 80 (1 : Int32).toNatClampNeg).toNatClampNeg (I w 2 + 1) (w + 2) j.toNatClampNeg := fun j => by rw [← hJ, px_u_ne (by omega), px_u_ne (by omega), px_u_ne (by omega)]
      have j80 : ∀ b, 80 ≤ b → b ≤ 82 → J b = I b := fun b q1 q2 => by rw [← hJ, px_u_ne (by omega), px_u_ne (by omega), px_u_ne (by omega), px_u_ne (by omega), a1 b (by omega) (by omega) (by omega), b0 b (by omega)]
      have j83 : ∀ j : Int32, J 83 j.toNatClampNeg = px_u I 83 o.toNatClampNeg (I 80 (1 : Int32).toNatClampNeg + 1) 83 j.toNatClampNeg := fun j => by
        rw [← hJ, px_u_ne (by omega), px_u_ne (by omega)]
        exact px_uo (by rw [px_u_ne (show 83 ≠ w + 2 by omega), a1 83 (by omega) (by omega) (by omega), b0 83 (by omega)]) _
      have j84 : ∀ j : Int32, J 84 j.toNatClampNeg = px_u I 84 o.toNatClampNeg (I 82 (1 : Int32).toNatClampNeg) 84 j.toNatClampNeg := fun j => by
        rw [← hJ, px_u_ne (by omega)]
        exact px_uo (by rw [px_u_ne (show (84 : Nat) ≠ 83 by decide), px_u_ne (show 84 ≠ w + 2 by omega), a1 84 (by omega) (by omega) (by omega), b0 84 (by omega)]) _
      have j7 : J 76 7 = 0 := by
        rw [← hJ, px_u_at_ne (by decide), px_u_ne (by omega), px_u_ne (by omega), px_u_ne (by omega), a1 76 (by omega) (by omega) (by omega), f7]; decide
      have j8 : J 76 8 = -1 := by rw [← hJ, px_u_at]
      have jw : J w 2 = I w 2 + 1 := by rw [← hJ, px_u_ne (by omega), px_u_ne (by omega), px_u_ne (by omega), px_u_ne (by omega)]; exact a2
      have y := kSt.clD (k2 := fun j => J (w + 1) j.toNatClampNeg) (v2 := fun j => J (w + 2) j.toNatClampNeg) (yS2 := fun j => J 83 j.toNatClampNeg) (yT2 := fun j => J 84 j.toNatClampNeg) hS c2 hz zp (fun j q1 q2 => by
        have a6 := a5 j q1 (by grind)
        refine ⟨?_, fun q3 => ?_⟩
        · show J (w + 1) _ = _
          rw [j1]; exact a6.1
        · show J (w + 2) _ = _
          rw [j2, px_uJ q1 hb1.1 q3]; exact a6.2) (by show J (w + 1) _ = 9; rw [j1]; exact a3) (by show J (w + 2) _ = _; rw [j2, px_u_at]) (fun l l1 l2 l3 => by
        refine ⟨?_, ?_⟩
        · show J 83 _ = I 83 _
          rw [j83, px_uJ l1 l0.1 l3]
        · show J 84 _ = I 84 _
          rw [j84, px_uJ l1 l0.1 l3]) ⟨by show J 84 _ = I 82 _; rw [j84, px_u_at], by show J 83 _ = _; rw [j83, px_u_at]⟩
      refine ⟨N + 1, ?_, ?_⟩
      · unfold kSI
        rw [j80 80 (by decide) (by decide), j80 81 (by decide) (by decide), j80 82 (by decide) (by decide), j7, j8, jw]
        exact y
      · rw [jw, j7, i_up (by omega), show (0 : Int32).toInt = 0 by decide]
        rw [show (1 : Int32).toInt = 1 by decide] at e
        omega
  · rw [if_neg c]
    have nb := hS.blk d1 c
    by_cases z : I 82 d.toNatClampNeg = 0
    · rw [if_pos z]
      have y := hS.clN d1 c z
      have g : ∀ b j, b ≠ w → px_u (px_u I 76 7 (d - 1)) w 2 (I 80 d.toNatClampNeg) b j = px_u I 76 7 (d - 1) b j := fun b j hb => by rw [px_u_ne hb]
      have hK : xCB2 w (px_u (px_u I 76 7 (d - 1)) w 2 (I 80 d.toNatClampNeg)) d = px_u (px_u I 76 7 (d - 1)) w 2 (I 80 d.toNatClampNeg) := by
        unfold xCB2
        rw [g 76 7 (by omega), f7, g 76 8 (by omega), f8, if_neg (fun q => c ⟨by have := q.1; grind, q.2⟩), g 82 _ (by omega), b0 82 (by decide), if_neg (by rw [z]; decide)]
      rw [hK]
      refine ⟨N, ?_, ?_⟩
      · unfold kSI
        have q : ∀ b, b ≠ 76 → b ≠ w → px_u (px_u I 76 7 (d - 1)) w 2 (I 80 d.toNatClampNeg) b = I b := fun b q1 q2 => by rw [px_u_ne q2, px_u_ne q1]
        rw [q (w + 1) (by omega) (by omega), q (w + 2) (by omega) (by omega), q 80 (by decide) (by omega), q 81 (by decide) (by omega), q 82 (by decide) (by omega), q 83 (by decide) (by omega), q 84 (by decide) (by omega), g 76 7 (by omega), f7, g 76 8 (by omega), f8, px_u_at]
        exact y
      · rw [px_u_at, g 76 7 (by omega), f7, dd]
        have le := Int32.le_iff_toInt_le.mp nb.2.1.2
        omega
    · rw [if_neg z]
      have zp : 0 < I 82 d.toNatClampNeg := by grind
      have hK : xCB2 w (px_u I 76 7 (d - 1)) d = xAS (xCB3 w (px_u I 76 7 (d - 1)) d) (xCB3 w (px_u I 76 7 (d - 1)) d 81 d.toNatClampNeg * xCB3 w (px_u I 76 7 (d - 1)) d 82 d.toNatClampNeg) := by
        unfold xCB2
        rw [f7, f8, if_neg (fun q => c ⟨by have := q.1; grind, q.2⟩), b0 82 (by decide), if_pos zp]
      rw [hK]
      have hr : 0 ≤ d - 1 ∧ d - 1 ≤ 8 := ⟨d0, by grind⟩
      by_cases t1 : 1 < I 81 d.toNatClampNeg
      · have e3 : xCB3 w (px_u I 76 7 (d - 1)) d = cAdd (px_u I 76 7 (d - 1)) w 7 0 := by
          unfold xCB3
          rw [b0 81 (by decide), if_pos t1]
        obtain ⟨a1, a2, a3, a4, a5⟩ := cAdd_is (I := px_u I 76 7 (d - 1)) (w := w) (o := 7) (v := 0) rfl (by rw [b0 w (by omega)]; exact hsz.1) (by rw [b0 w (by omega)]; exact hz)
        rw [b0 w (by omega)] at a2 a3 a4 a5
        rw [b0 (w + 1) (by omega), b0 (w + 2) (by omega)] at a5
        have m76 := a1 76 (by omega) (by omega) (by omega)
        have mb : ∀ b, 80 ≤ b → b ≤ 84 → cAdd (px_u I 76 7 (d - 1)) w 7 0 b = I b := fun b q1 q2 => by rw [a1 b (by omega) (by omega) (by omega), b0 b (by omega)]
        rw [e3, mb 81 (by decide) (by decide), mb 82 (by decide) (by decide), xAS_is (by rw [m76, f7]; exact hr), m76, f7, mb 82 (by decide) (by decide)]
        generalize hJ : px_u (cAdd (px_u I 76 7 (d - 1)) w 7 0) 82 (d - 1).toNatClampNeg (cMn (I 82 (d - 1).toNatClampNeg + I 81 d.toNatClampNeg * I 82 d.toNatClampNeg) 5001) = J
        have jb : ∀ b, b ≠ 82 → J b = cAdd (px_u I 76 7 (d - 1)) w 7 0 b := fun b hb => by rw [← hJ, px_u_ne hb]
        have j82 : ∀ j : Int32, J 82 j.toNatClampNeg = px_u I 82 (d - 1).toNatClampNeg (cMn (I 82 (d - 1).toNatClampNeg + I 81 d.toNatClampNeg * I 82 d.toNatClampNeg) 5001) 82 j.toNatClampNeg := fun j => by rw [← hJ]; exact px_uo (mb 82 (by decide) (by decide)) _
        have y := kSt.clR (k2 := fun j => J (w + 1) j.toNatClampNeg) (v2 := fun j => J (w + 2) j.toNatClampNeg) (sS2 := fun j => J 82 j.toNatClampNeg) hS hz d1 c (by rw [← nb.1.1]; exact t1) zp (fun j q1 q2 => by
          show J (w + 1) _ = _ ∧ J (w + 2) _ = _
          rw [jb (w + 1) (by omega), jb (w + 2) (by omega)]
          exact a5 j q1 (by grind)) (by show J (w + 1) _ = 7; rw [jb (w + 1) (by omega)]; exact a3) (fun q q1 q2 => by show J 82 _ = I 82 _; rw [j82, px_uJ q1 d0 (by grind)]) (by show J 82 _ = _; rw [j82, px_u_at])
        refine ⟨N, ?_, ?_⟩
        · unfold kSI
          rw [jb 80 (by decide), jb 81 (by decide), jb 83 (by decide), jb 84 (by decide), mb 80 (by decide) (by decide), mb 81 (by decide) (by decide), mb 83 (by decide) (by decide), mb 84 (by decide) (by decide), jb 76 (by decide), m76, f7, f8, jb w (by omega), a2]
          exact y
        · rw [jb w (by omega), a2, jb 76 (by decide), m76, f7, i_up (by omega), dd]
          omega
      · have e3 : xCB3 w (px_u I 76 7 (d - 1)) d = px_u I 76 7 (d - 1) := by
          unfold xCB3
          rw [b0 81 (by decide), if_neg t1]
        rw [e3, b0 81 (by decide), b0 82 (by decide), xAS_is (by rw [f7]; exact hr), f7, b0 82 (by decide)]
        generalize hJ : px_u (px_u I 76 7 (d - 1)) 82 (d - 1).toNatClampNeg (cMn (I 82 (d - 1).toNatClampNeg + I 81 d.toNatClampNeg * I 82 d.toNatClampNeg) 5001) = J
        have jb : ∀ b, b ≠ 82 → b ≠ 76 → J b = I b := fun b hb h6 => by rw [← hJ, px_u_ne hb, px_u_ne h6]
        have j7 : J 76 7 = d - 1 := by rw [← hJ, px_u_ne (by decide)]; exact f7
        have j8 : J 76 8 = o := by rw [← hJ, px_u_ne (by decide)]; exact f8
        have j82 : ∀ j : Int32, J 82 j.toNatClampNeg = px_u I 82 (d - 1).toNatClampNeg (cMn (I 82 (d - 1).toNatClampNeg + I 81 d.toNatClampNeg * I 82 d.toNatClampNeg) 5001) 82 j.toNatClampNeg := fun j => by rw [← hJ]; exact px_uo (b0 82 (by decide)) _
        have y := kSt.clO (sS2 := fun j => J 82 j.toNatClampNeg) hS d1 c (by rw [← nb.1.1]; exact t1) (fun q q1 q2 => by show J 82 _ = I 82 _; rw [j82, px_uJ q1 d0 (by grind)]) (by show J 82 _ = _; rw [j82, px_u_at])
        refine ⟨N, ?_, ?_⟩
        · unfold kSI
          rw [jb (w + 1) (by omega) (by omega), jb (w + 2) (by omega) (by omega), jb 80 (by decide) (by decide), jb 81 (by decide) (by decide), jb 83 (by decide) (by decide), jb 84 (by decide) (by decide), j7, j8, jb w (by omega) (by omega)]
          exact y
        · rw [jb w (by omega) (by omega), j7, dd]
          omega
