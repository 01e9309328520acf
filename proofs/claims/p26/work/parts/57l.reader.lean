/-! what each method of the class's reader leaves -/
def xNx (I : px_I) : px_I := if I 76 9 + 1 < I 70 6 then px_u (px_u (px_u (px_u I 76 9 (I 76 9 + 1)) 76 10 (I 72 (I 76 9 + 1).toNatClampNeg)) 76 11 (I 73 (I 76 9 + 1).toNatClampNeg)) 76 12 (I 75 (I 76 9 + 1).toNatClampNeg) else I
def xFl (I : px_I) (f : Int32) : px_I := if I 76 14 = 0 then px_u (px_u I 76 14 f) 76 15 (I 76 11) else I
def xTk (I : px_I) (k : Int32) : px_I := if I 76 14 = 0 then (if xNx I 76 10 = k then xNx I else xFl (xNx I) 1) else I
def xTN (I : px_I) (a b : Int32) : px_I := if xTk I 2 76 14 = 0 ∧ ¬ (a ≤ xTk I 2 76 12 ∧ xTk I 2 76 12 ≤ b) then xFl (xTk I 2) 2 else xTk I 2
def xTO (I : px_I) : px_I := if xTk I 4 76 14 = 0 ∧ 8 ≤ xTk I 4 76 7 then xFl (xTk I 4) 3 else xTk I 4
def xBy (I : px_I) (x : Int32) : Int32 := if 0 ≤ x ∧ x < 400 then I 71 x.toNatClampNeg else 0
def xLh (I : px_I) : Int32 := if (0 ≤ I 76 9 ∧ I 76 9 ≤ I 70 6 - 1) ∧ I 74 (I 76 9).toNatClampNeg = 1 then xBy I (I 76 11) - 97 else -1
def xLl (J : px_I) : Int32 := if J 76 14 = 0 then xLh J else -1
def xTLr (J : px_I) (x : Int32) : Int32 := if ¬ (0 ≤ xLl J ∧ xLl J ≤ 7) then -1 else if (if J 84 (xLl J).toNatClampNeg = -1 then (0 : Int32) else 1) = x then xLl J else -1
def xTLi (J : px_I) (x : Int32) : px_I := if ¬ (0 ≤ xLl J ∧ xLl J ≤ 7) then xFl J 1 else if (if J 84 (xLl J).toNatClampNeg = -1 then (0 : Int32) else 1) = x then J else xFl J 4
def xAS (I : px_I) (m : Int32) : px_I := if 0 ≤ I 76 7 ∧ I 76 7 ≤ 8 then px_u I 82 (I 76 7).toNatClampNeg (cMn (I 82 (I 76 7).toNatClampNeg + m) 5001) else I
def xRS (w : Nat) (I : px_I) (o a b : Int32) : px_I := xAS (cAdd (xTk (xTN I a b) 3) w o (xTN I a b 76 12)) 1
def xRB (w : Nat) (I : px_I) (o : Int32) : px_I := xAS (cAdd (xTk I 3) w o 0) 1
def xRD2 (w : Nat) (J : px_I) (l : Int32) : px_I := if ¬ l = -1 ∧ 0 < J 84 l.toNatClampNeg then xAS (cAdd J w 8 (J 83 l.toNatClampNeg)) (cAdd J w 8 (J 83 l.toNatClampNeg) 84 l.toNatClampNeg) else J
def xRD (w : Nat) (I : px_I) : px_I := xRD2 w (xTk (xTLi (xTk I 1) 1) 3) (xTLr (xTk I 1) 1)
def xOB (w : Nat) (I : px_I) (t : Int32) : px_I := if I 76 7 < 8 then px_u (px_u (px_u (px_u I 76 7 (I 76 7 + 1)) 80 (I 76 7 + 1).toNatClampNeg (I w 2)) 81 (I 76 7 + 1).toNatClampNeg t) 82 (I 76 7 + 1).toNatClampNeg 0 else I
def xRR2 (w : Nat) (J : px_I) (t : Int32) : px_I := if J 76 14 = 0 then (if 1 < t then cAdd (xOB w J t) w 6 t else xOB w J t) else J
def xRR (w : Nat) (I : px_I) : px_I := xRR2 w (xTO (xTN I 1 99)) (xTN I 1 99 76 12)
def xDf2 (w : Nat) (J : px_I) (l : Int32) : px_I := if J 76 14 = 0 then cAdd (xOB w (px_u J 76 8 l) 1) w 10 0 else J
def xDf (w : Nat) (I : px_I) : px_I := xDf2 w (xTO (xTLi (xTk I 1) 0)) (xTLr (xTk I 1) 0)
def xCD1 (w : Nat) (I : px_I) (b : Int32) : px_I := if 0 < I 82 b.toNatClampNeg ∧ 0 ≤ I 80 b.toNatClampNeg ∧ I 80 b.toNatClampNeg ≤ 199 then px_u (cAdd I w 9 0) (w + 2) (I 80 b.toNatClampNeg).toNatClampNeg (cAdd I w 9 0 w 2) else I
def xCD2 (J : px_I) (s st : Int32) : px_I := if 0 ≤ J 76 8 ∧ J 76 8 ≤ 7 then px_u (px_u J 83 (J 76 8).toNatClampNeg (s + 1)) 84 (J 76 8).toNatClampNeg st else J
def xCD (w : Nat) (I : px_I) (b : Int32) : px_I := px_u (xCD2 (xCD1 w I b) (I 80 b.toNatClampNeg) (xCD1 w I b 82 b.toNatClampNeg)) 76 8 (-1)
def xCB1 (w : Nat) (I : px_I) (b : Int32) : px_I := if I 82 b.toNatClampNeg = 0 then px_u I w 2 (I 80 b.toNatClampNeg) else I
def xCB3 (w : Nat) (J : px_I) (b : Int32) : px_I := if 1 < J 81 b.toNatClampNeg then cAdd J w 7 0 else J
def xCB2 (w : Nat) (J : px_I) (b : Int32) : px_I := if J 76 7 = 0 ∧ ¬ J 76 8 = -1 then xCD w J b else if 0 < J 82 b.toNatClampNeg then xAS (xCB3 w J b) (xCB3 w J b 81 b.toNatClampNeg * xCB3 w J b 82 b.toNatClampNeg) else J
def xCB (w : Nat) (I : px_I) : px_I := if 1 ≤ I 76 7 ∧ I 76 7 ≤ 8 then xCB2 w (xCB1 w (px_u I 76 7 (I 76 7 - 1)) (I 76 7)) (I 76 7) else xFl I 1
def xPp (I : px_I) : px_I := if I 76 7 = 0 then px_u I 76 13 (I 76 13 + 1) else I
def xWd (I : px_I) (t : Int32) (i : Nat) : Bool := decide ((0 ≤ t ∧ t ≤ I 70 6 - 1) ∧ I 72 t.toNatClampNeg = 1 ∧ I 74 t.toNatClampNeg = Int32.ofNat (px_len.getD i 0) ∧ ∀ j, j < px_len.getD i 0 → xBy I (I 73 t.toNatClampNeg + Int32.ofNat j) = (px_byt.getD i []).getD j 0)
def xRP2 (w : Nat) (J : px_I) : px_I := if xWd J (J 76 9) 0 = true then xRS w J 0 1 9999 else if xWd J (J 76 9) 1 = true then xRS w J 1 1 15 else if xWd J (J 76 9) 2 = true then xRS w J 2 0 100000 else if xWd J (J 76 9) 3 = true then xRS w J 3 0 100000 else if xWd J (J 76 9) 4 = true then xRB w J 4 else if xWd J (J 76 9) 5 = true then xRB w J 5 else if xWd J (J 76 9) 6 = true then xRD w J else if xWd J (J 76 9) 7 = true then xRR w J else if xWd J (J 76 9) 8 = true ∧ J 76 7 = 0 then xDf w J else xFl J 1
def xRP (w : Nat) (I : px_I) : px_I := xRP2 w (xPp I)
def xLp (w : Nat) : Nat → px_I → px_I
  | 0, I => I
  | f + 1, I => if I 76 14 = 0 then (if xNx I 76 10 = 0 then xNx I else if xNx I 76 10 = 5 then xLp w f (xCB w (xNx I)) else xLp w f (xRP w (xNx I))) else I
def xEn1 (J : px_I) : px_I := if J 76 14 = 0 ∧ 0 < J 76 7 then xFl J 1 else J
def xEn (w : Nat) (J : px_I) : px_I := px_u (xEn1 J) w 3 (xEn1 J 82 0)
/-- before the first part is read -/
def xBf (w : Nat) (I : px_I) : px_I := px_u (px_u (px_u (px_u (px_u (px_u (px_u (px_u I w 2 0) 76 7 0) 76 8 (-1)) 76 9 (-1)) 76 13 0) 76 14 0) 76 15 (-1)) 82 0 0
def xBg (w : Nat) (I I2 : px_I) : Prop := (∀ b j, b ≠ 84 → I2 b j = xBf w I b j) ∧ ∀ l : Nat, l < 8 → I2 84 l = -1
/-- what reading leaves -/
def xRead (w : Nat) (I I2 : px_I) : Prop := ∃ Ia Ib, cTF I Ia ∧ cTA (byC I) (nC I) Ia ∧ (0 ≤ Ia 70 6 ∧ Ia 70 6 ≤ 401) ∧ xBg w Ia Ib ∧ I2 = xEn w (xLp w (Ib 70 6).toNatClampNeg Ib)
theorem xfu {N i : Int32} (h0 : 0 ≤ i) (h : i < N) (hN : N ≤ 401) : (N - i).toNatClampNeg = (N - (i + 1)).toNatClampNeg + 1 := by
  have := (px_tnS (i := N - (i + 1)) (by grind) (by grind)).1
  rw [← this, show N - (i + 1) + 1 = N - i by grind]
theorem xw0 {x : Int32} {b : Bool} (h : (x = 0 ∨ x = 1) ∧ (x = 1 ↔ b = true)) (c : x = 0) : ¬ b = true := fun q => by
  have := h.2.mpr q
  rw [c] at this
  exact absurd this (by decide)
theorem xw1 {x : Int32} {b : Bool} (h : (x = 0 ∨ x = 1) ∧ (x = 1 ↔ b = true)) (c : ¬ x = 0) : b = true := h.2.mp (h.1.resolve_left c)

set_option maxRecDepth 100000 in
theorem xs_nextToken {n : Nat} {I : px_I} {L : px_L} {R : px_R} {w : Nat} (hg : px_G n (cRW R w)) (hw : cWay n w) (hd : cRd w I) : px_KV M_X4_nextToken [.ref 76] n I L (cRW R w) (fun I2 L2 => L2 = L ∧ I2 = xNx I ∧ cRr w I I2) := by
  refine px_of (plainFor_of_name np_RX4) (fun _ _ _ => trivial) rfl ?_
  have hr := cRr.rfl' hd
  obtain ⟨d0, d1, d2, d3, d4, d5, d6, d7, d8, d9⟩ := cRd.op hd
  refine px_ige rfl q_X4_nextToken_0 hg rfl trivial (fun c13 => ?_) (fun c13 => ?_)
  · refine px_rvW rfl q_X4_nextToken_74 rfl rfl rfl hg rfl trivial ⟨⟨rfl, rfl⟩, ?_⟩
    exact ⟨rfl, (by
        unfold xNx
        first | exact (if_pos (by first | assumption | grind)).symm | exact (if_neg (by first | assumption | grind)).symm), (by repeat (first | exact hr | refine cRr.up ?_ (by unfold cOk; (try simp only [px_app, px_ur]); grind)))⟩
  · have hk : 0 ≤ I 76 9 + 1 ∧ I 76 9 + 1 < 401 := by grind
    have hn := d2 (I 76 9 + 1).toNatClampNeg
    refine px_rvW rfl q_X4_nextToken_16 rfl rfl rfl hg rfl ⟨⟨⟨trivial, (by first | (simp only [px_ur]; refine ⟨?_, ?_⟩ <;> grind) | (refine ⟨?_, ?_⟩ <;> grind))⟩, (by first | (simp only [px_ur]; refine ⟨?_, ?_⟩ <;> grind) | (refine ⟨?_, ?_⟩ <;> grind))⟩, (by first | (simp only [px_ur]; refine ⟨?_, ?_⟩ <;> grind) | (refine ⟨?_, ?_⟩ <;> grind))⟩ ⟨⟨rfl, rfl⟩, ?_⟩
    exact ⟨rfl, (by
        unfold xNx
        first | exact (if_pos (by first | assumption | grind)).symm | exact (if_neg (by first | assumption | grind)).symm), (by repeat (first | exact hr | refine cRr.up ?_ (by unfold cOk; (try simp only [px_app, px_ur]); grind)))⟩

set_option maxRecDepth 100000 in
theorem xs_fail {n : Nat} {I : px_I} {L : px_L} {R : px_R} {w : Nat} (hg : px_G n (cRW R w)) (hw : cWay n w) (x : Int32) (hd : cRd w I) : px_KV M_X4_fail [.ref 76, .int x] n I L (cRW R w) (fun I2 L2 => L2 = L ∧ I2 = xFl I x ∧ cRr w I I2) := by
  refine px_of (plainFor_of_name np_RX4) (fun _ _ _ => trivial) rfl ?_
  have hr := cRr.rfl' hd
  obtain ⟨d0, d1, d2, d3, d4, d5, d6, d7, d8, d9⟩ := cRd.op hd
  refine px_ne rfl q_X4_fail_0 hg rfl trivial (fun c4 => ?_) (fun c4 => ?_)
  · refine px_rvW rfl q_X4_fail_20 rfl rfl rfl hg rfl trivial ⟨⟨rfl, rfl⟩, ?_⟩
    exact ⟨rfl, (by
        unfold xFl
        first | exact (if_pos (by first | assumption | grind)).symm | exact (if_neg (by first | assumption | grind)).symm), (by repeat (first | exact hr | refine cRr.up ?_ (by unfold cOk; (try simp only [px_app, px_ur]); grind)))⟩
  · refine px_rvW rfl q_X4_fail_7 rfl rfl rfl hg rfl trivial ⟨⟨rfl, rfl⟩, ?_⟩
    exact ⟨rfl, (by
        unfold xFl
        first | exact (if_pos (by first | assumption | grind)).symm | exact (if_neg (by first | assumption | grind)).symm), (by repeat (first | exact hr | refine cRr.up ?_ (by unfold cOk; (try simp only [px_app, px_ur]); grind)))⟩

set_option maxRecDepth 100000 in
theorem xs_take {n : Nat} {I : px_I} {L : px_L} {R : px_R} {w : Nat} (hg : px_G n (cRW R w)) (hw : cWay n w) (x : Int32) (hd : cRd w I) : px_KV M_X4_take [.ref 76, .int x] n I L (cRW R w) (fun I2 L2 => L2 = L ∧ I2 = xTk I x ∧ cRr w I I2) := by
  refine px_of (plainFor_of_name np_RX4) (fun _ _ _ => trivial) rfl ?_
  have hr := cRr.rfl' hd
  obtain ⟨d0, d1, d2, d3, d4, d5, d6, d7, d8, d9⟩ := cRd.op hd
  refine px_ne rfl q_X4_take_0 hg rfl trivial (fun c4 => ?_) (fun c4 => ?_)
  · refine px_rvW rfl q_X4_take_24 rfl rfl rfl hg rfl trivial ⟨⟨rfl, rfl⟩, ?_⟩
    exact ⟨rfl, (by
        unfold xTk
        grind), (by repeat (first | exact hr | refine cRr.up ?_ (by unfold cOk; (try simp only [px_app, px_ur]); grind)))⟩
  · refine px_cVW (ci := 4) rfl q_X4_take_7 hg rfl trivial lk_4_77 nm_X4_nextToken (xs_nextToken hg hw  (show cRd w _ from (by repeat (first | exact hr | refine cRr.up ?_ (by unfold cOk; (try simp only [px_app, px_ur]); grind)) : cRr w I _).1)) rfl rfl (px_lit hg rfl) rfl rfl rfl ⟨rfl, rfl⟩ ?_
    intro I8 L8 h8
    obtain ⟨rfl, g8, h8⟩ := h8
    replace hr : cRr w I I8 := cRr.trans (by repeat (first | exact hr | refine cRr.up ?_ (by unfold cOk; (try simp only [px_app, px_ur]); grind))) h8
    clear d0 d1 d2 d3 d4 d5 d6 d7 d8 d9
    obtain ⟨d0, d1, d2, d3, d4, d5, d6, d7, d8, d9⟩ := cRd.op hr.1
    refine px_ieq rfl q_X4_take_11 hg rfl trivial (fun c16 => ?_) (fun c16 => ?_)
    · refine px_rvW rfl q_X4_take_24 rfl rfl rfl hg rfl trivial ⟨⟨rfl, rfl⟩, ?_⟩
      exact ⟨rfl, (by
          subst g8
          unfold xTk
          grind), (by repeat (first | exact hr | refine cRr.up ?_ (by unfold cOk; (try simp only [px_app, px_ur]); grind)))⟩
    · refine px_cVW (ci := 4) rfl q_X4_take_19 hg rfl trivial lk_4_86 nm_X4_fail (xs_fail hg hw _ (show cRd w _ from (by repeat (first | exact hr | refine cRr.up ?_ (by unfold cOk; (try simp only [px_app, px_ur]); grind)) : cRr w I _).1)) rfl rfl (px_lit hg rfl) rfl rfl rfl ⟨rfl, rfl⟩ ?_
      intro I21 L21 h21
      obtain ⟨rfl, g21, h21⟩ := h21
      replace hr : cRr w I I21 := cRr.trans (by repeat (first | exact hr | refine cRr.up ?_ (by unfold cOk; (try simp only [px_app, px_ur]); grind))) h21
      clear d0 d1 d2 d3 d4 d5 d6 d7 d8 d9
      obtain ⟨d0, d1, d2, d3, d4, d5, d6, d7, d8, d9⟩ := cRd.op hr.1
      refine px_rvW rfl q_X4_take_24 rfl rfl rfl hg rfl trivial ⟨⟨rfl, rfl⟩, ?_⟩
      exact ⟨rfl, (by
          subst g21
          subst g8
          unfold xTk
          grind), (by repeat (first | exact hr | refine cRr.up ?_ (by unfold cOk; (try simp only [px_app, px_ur]); grind)))⟩

set_option maxRecDepth 100000 in
theorem xs_takeNumber {n : Nat} {I : px_I} {L : px_L} {R : px_R} {w : Nat} (hg : px_G n (cRW R w)) (hw : cWay n w) (a b : Int32) (hd : cRd w I) : px_KV M_X4_takeNumber [.ref 76, .int a, .int b] n I L (cRW R w) (fun I2 L2 => L2 = L ∧ I2 = xTN I a b ∧ cRr w I I2) := by
  refine px_of (plainFor_of_name np_RX4) (fun _ _ _ => trivial) rfl ?_
  have hr := cRr.rfl' hd
  obtain ⟨d0, d1, d2, d3, d4, d5, d6, d7, d8, d9⟩ := cRd.op hd
  refine px_cVW (ci := 4) rfl q_X4_takeNumber_0 hg rfl trivial lk_4_139 nm_X4_take (xs_take hg hw _ (show cRd w _ from (by repeat (first | exact hr | refine cRr.up ?_ (by unfold cOk; (try simp only [px_app, px_ur]); grind)) : cRr w I _).1)) rfl rfl (px_lit hg rfl) rfl rfl rfl ⟨rfl, rfl⟩ ?_
  intro I2 L2 h2
  obtain ⟨rfl, g2, h2⟩ := h2
  replace hr : cRr w I I2 := cRr.trans (by repeat (first | exact hr | refine cRr.up ?_ (by unfold cOk; (try simp only [px_app, px_ur]); grind))) h2
  clear d0 d1 d2 d3 d4 d5 d6 d7 d8 d9
  obtain ⟨d0, d1, d2, d3, d4, d5, d6, d7, d8, d9⟩ := cRd.op hr.1
  refine px_ne rfl q_X4_takeNumber_5 hg rfl trivial (fun c9 => ?_) (fun c9 => ?_)
  · refine px_rvW rfl q_X4_takeNumber_29 rfl rfl rfl hg rfl trivial ⟨⟨rfl, rfl⟩, ?_⟩
    exact ⟨rfl, (by
        subst g2
        unfold xTN
        grind), (by repeat (first | exact hr | refine cRr.up ?_ (by unfold cOk; (try simp only [px_app, px_ur]); grind)))⟩
  · refine px_cSNP rfl q_X4_takeNumber_12 hg rfl trivial lk_4_158 nm_X11_within (c_within hg _ _ _) rfl rfl rfl ⟨rfl, rfl⟩ ?_
    intro x18 h18
    refine px_ne rfl q_X4_takeNumber_21 hg rfl trivial (fun c21 => ?_) (fun c21 => ?_)
    · replace h18 := px_bt h18 c21
      refine px_rvW rfl q_X4_takeNumber_29 rfl rfl rfl hg rfl trivial ⟨⟨rfl, rfl⟩, ?_⟩
      exact ⟨rfl, (by
          subst g2
          unfold xTN
          grind), (by repeat (first | exact hr | refine cRr.up ?_ (by unfold cOk; (try simp only [px_app, px_ur]); grind)))⟩
    · replace h18 := px_bf h18 c21
      refine px_cVW (ci := 4) rfl q_X4_takeNumber_24 hg rfl trivial lk_4_86 nm_X4_fail (xs_fail hg hw _ (show cRd w _ from (by repeat (first | exact hr | refine cRr.up ?_ (by unfold cOk; (try simp only [px_app, px_ur]); grind)) : cRr w I _).1)) rfl rfl (px_lit hg rfl) rfl rfl rfl ⟨rfl, rfl⟩ ?_
      intro I26 L26 h26
      obtain ⟨rfl, g26, h26⟩ := h26
      replace hr : cRr w I I26 := cRr.trans (by repeat (first | exact hr | refine cRr.up ?_ (by unfold cOk; (try simp only [px_app, px_ur]); grind))) h26
      clear d0 d1 d2 d3 d4 d5 d6 d7 d8 d9
      obtain ⟨d0, d1, d2, d3, d4, d5, d6, d7, d8, d9⟩ := cRd.op hr.1
      refine px_rvW rfl q_X4_takeNumber_29 rfl rfl rfl hg rfl trivial ⟨⟨rfl, rfl⟩, ?_⟩
      exact ⟨rfl, (by
          subst g26
          subst g2
          unfold xTN
          grind), (by repeat (first | exact hr | refine cRr.up ?_ (by unfold cOk; (try simp only [px_app, px_ur]); grind)))⟩

set_option maxRecDepth 100000 in
theorem xs_takeOpening {n : Nat} {I : px_I} {L : px_L} {R : px_R} {w : Nat} (hg : px_G n (cRW R w)) (hw : cWay n w) (hd : cRd w I) : px_KV M_X4_takeOpening [.ref 76] n I L (cRW R w) (fun I2 L2 => L2 = L ∧ I2 = xTO I ∧ cRr w I I2) := by
  refine px_of (plainFor_of_name np_RX4) (fun _ _ _ => trivial) rfl ?_
  have hr := cRr.rfl' hd
  obtain ⟨d0, d1, d2, d3, d4, d5, d6, d7, d8, d9⟩ := cRd.op hd
  refine px_cVW (ci := 4) rfl q_X4_takeOpening_0 hg rfl trivial lk_4_139 nm_X4_take (xs_take hg hw _ (show cRd w _ from (by repeat (first | exact hr | refine cRr.up ?_ (by unfold cOk; (try simp only [px_app, px_ur]); grind)) : cRr w I _).1)) rfl rfl (px_lit hg rfl) rfl rfl rfl ⟨rfl, rfl⟩ ?_
  intro I2 L2 h2
  obtain ⟨rfl, g2, h2⟩ := h2
  replace hr : cRr w I I2 := cRr.trans (by repeat (first | exact hr | refine cRr.up ?_ (by unfold cOk; (try simp only [px_app, px_ur]); grind))) h2
  clear d0 d1 d2 d3 d4 d5 d6 d7 d8 d9
  obtain ⟨d0, d1, d2, d3, d4, d5, d6, d7, d8, d9⟩ := cRd.op hr.1
  refine px_ne rfl q_X4_takeOpening_5 hg rfl trivial (fun c9 => ?_) (fun c9 => ?_)
  · refine px_rvW rfl q_X4_takeOpening_26 rfl rfl rfl hg rfl trivial ⟨⟨rfl, rfl⟩, ?_⟩
    exact ⟨rfl, (by
        subst g2
        unfold xTO
        grind), (by repeat (first | exact hr | refine cRr.up ?_ (by unfold cOk; (try simp only [px_app, px_ur]); grind)))⟩
  · refine px_ilt rfl q_X4_takeOpening_12 hg rfl trivial (fun c18 => ?_) (fun c18 => ?_)
    · refine px_rvW rfl q_X4_takeOpening_26 rfl rfl rfl hg rfl trivial ⟨⟨rfl, rfl⟩, ?_⟩
      exact ⟨rfl, (by
          subst g2
          unfold xTO
          grind), (by repeat (first | exact hr | refine cRr.up ?_ (by unfold cOk; (try simp only [px_app, px_ur]); grind)))⟩
    · refine px_cVW (ci := 4) rfl q_X4_takeOpening_21 hg rfl trivial lk_4_86 nm_X4_fail (xs_fail hg hw _ (show cRd w _ from (by repeat (first | exact hr | refine cRr.up ?_ (by unfold cOk; (try simp only [px_app, px_ur]); grind)) : cRr w I _).1)) rfl rfl (px_lit hg rfl) rfl rfl rfl ⟨rfl, rfl⟩ ?_
      intro I23 L23 h23
      obtain ⟨rfl, g23, h23⟩ := h23
      replace hr : cRr w I I23 := cRr.trans (by repeat (first | exact hr | refine cRr.up ?_ (by unfold cOk; (try simp only [px_app, px_ur]); grind))) h23
      clear d0 d1 d2 d3 d4 d5 d6 d7 d8 d9
      obtain ⟨d0, d1, d2, d3, d4, d5, d6, d7, d8, d9⟩ := cRd.op hr.1
      refine px_rvW rfl q_X4_takeOpening_26 rfl rfl rfl hg rfl trivial ⟨⟨rfl, rfl⟩, ?_⟩
      exact ⟨rfl, (by
          subst g23
          subst g2
          unfold xTO
          grind), (by repeat (first | exact hr | refine cRr.up ?_ (by unfold cOk; (try simp only [px_app, px_ur]); grind)))⟩

set_option maxRecDepth 100000 in
theorem xs_letterHere {n : Nat} {I : px_I} {L : px_L} {R : px_R} {w : Nat} (hg : px_G n (cRW R w)) (hw : cWay n w) (ht : 0 ≤ I 70 6 ∧ I 70 6 ≤ 401) : px_KP M_X4_letterHere [.ref 76] n I L (cRW R w) (fun r => r = xLh I) := by
  refine px_of (plainFor_of_name np_RX4) (fun _ _ _ => trivial) rfl ?_
  refine px_cSNP rfl q_X4_letterHere_0 hg rfl trivial lk_4_158 nm_X11_within (c_within hg _ _ _) rfl rfl rfl ⟨rfl, rfl⟩ ?_
  intro x14 h14
  refine px_eq rfl q_X4_letterHere_17 hg rfl trivial (fun c17 => ?_) (fun c17 => ?_)
  · replace h14 := px_bf h14 c17
    refine px_riP rfl q_X4_letterHere_36 rfl rfl rfl hg rfl trivial ⟨⟨rfl, rfl, rfl, rfl⟩, ?_⟩
    unfold xLh xBy
    grind
  · replace h14 := px_bt h14 c17
    refine px_ieq rfl q_X4_letterHere_20 hg rfl ⟨trivial, (by refine ⟨?_, ?_⟩ <;> grind)⟩ (fun c33 => ?_) (fun c33 => ?_)
    · refine px_cVP (ci := 8) rfl q_X4_letterHere_38 hg rfl trivial lk_4_180 nm_X8_byteAt (c_byteAt hg _) rfl rfl (px_lit hg rfl) rfl rfl rfl ⟨rfl, rfl⟩ ?_
      intro x46 h46
      refine px_riP rfl q_X4_letterHere_49 rfl rfl rfl hg rfl trivial ⟨⟨rfl, rfl, rfl, rfl⟩, ?_⟩
      unfold xLh xBy
      grind
    · refine px_riP rfl q_X4_letterHere_36 rfl rfl rfl hg rfl trivial ⟨⟨rfl, rfl, rfl, rfl⟩, ?_⟩
      unfold xLh xBy
      grind

set_option maxRecDepth 100000 in
theorem xs_takeLetter {n : Nat} {I : px_I} {L : px_L} {R : px_R} {w : Nat} (hg : px_G n (cRW R w)) (hw : cWay n w) (x : Int32) (hd : cRd w I) : px_KS M_X4_takeLetter [.ref 76, .int x] n I L (cRW R w) (fun r I2 L2 => (r = -1 ∨ (0 ≤ r ∧ r ≤ 7)) ∧ L2 = L ∧ r = xTLr (xTk I 1) x ∧ I2 = xTLi (xTk I 1) x ∧ cRr w I I2) := by
  refine px_of (plainFor_of_name np_RX4) (fun _ _ _ => trivial) rfl ?_
  have hr := cRr.rfl' hd
  obtain ⟨d0, d1, d2, d3, d4, d5, d6, d7, d8, d9⟩ := cRd.op hd
  refine px_cVW (ci := 4) rfl q_X4_takeLetter_0 hg rfl trivial lk_4_139 nm_X4_take (xs_take hg hw _ (show cRd w _ from (by repeat (first | exact hr | refine cRr.up ?_ (by unfold cOk; (try simp only [px_app, px_ur]); grind)) : cRr w I _).1)) rfl rfl (px_lit hg rfl) rfl rfl rfl ⟨rfl, rfl⟩ ?_
  intro I2 L2 h2
  obtain ⟨rfl, g2, h2⟩ := h2
  replace hr : cRr w I I2 := cRr.trans (by repeat (first | exact hr | refine cRr.up ?_ (by unfold cOk; (try simp only [px_app, px_ur]); grind))) h2
  clear d0 d1 d2 d3 d4 d5 d6 d7 d8 d9
  obtain ⟨d0, d1, d2, d3, d4, d5, d6, d7, d8, d9⟩ := cRd.op hr.1
  refine px_ne rfl q_X4_takeLetter_5 hg rfl trivial (fun c9 => ?_) (fun c9 => ?_)
  · refine px_cSNP rfl q_X4_takeLetter_19 hg rfl trivial lk_4_158 nm_X11_within (c_within hg _ _ _) rfl rfl rfl ⟨rfl, rfl⟩ ?_
    intro x25 h25
    refine px_ne rfl q_X4_takeLetter_28 hg rfl trivial (fun c28 => ?_) (fun c28 => ?_)
    · replace h25 := px_bt h25 c28
      refine px_ieq rfl q_X4_takeLetter_38 hg rfl ⟨trivial, (by first | exact hw.1 | exact hw.2.1 | exact hw.2.2 | with_reducible assumption | decide | (refine ⟨?_, ?_⟩ <;> grind) | (simp only [px_ur]; refine ⟨?_, ?_⟩ <;> grind))⟩ (fun c45 => ?_) (fun c45 => ?_)
      · refine px_ieq rfl q_X4_takeLetter_52 hg rfl trivial (fun c56 => ?_) (fun c56 => ?_)
        · refine px_riS rfl q_X4_takeLetter_66 rfl rfl rfl hg rfl trivial ⟨⟨rfl, rfl⟩, ?_⟩
          first | exact ⟨Or.inl rfl, rfl, (by
              subst g2
              unfold xTLr xLl
              grind), (by
              subst g2
              unfold xTLi xLl
              grind), (by repeat (first | exact hr | refine cRr.up ?_ (by unfold cOk; (try simp only [px_app, px_ur]); grind)))⟩ | exact ⟨Or.inr (by assumption), rfl, (by
              subst g2
              unfold xTLr xLl
              grind), (by
              subst g2
              unfold xTLi xLl
              grind), (by repeat (first | exact hr | refine cRr.up ?_ (by unfold cOk; (try simp only [px_app, px_ur]); grind)))⟩
        · refine px_cVW (ci := 4) rfl q_X4_takeLetter_59 hg rfl trivial lk_4_86 nm_X4_fail (xs_fail hg hw _ (show cRd w _ from (by repeat (first | exact hr | refine cRr.up ?_ (by unfold cOk; (try simp only [px_app, px_ur]); grind)) : cRr w I _).1)) rfl rfl (px_lit hg rfl) rfl rfl rfl ⟨rfl, rfl⟩ ?_
          intro I61 L61 h61
          obtain ⟨rfl, g61, h61⟩ := h61
          replace hr : cRr w I I61 := cRr.trans (by repeat (first | exact hr | refine cRr.up ?_ (by unfold cOk; (try simp only [px_app, px_ur]); grind))) h61
          clear d0 d1 d2 d3 d4 d5 d6 d7 d8 d9
          obtain ⟨d0, d1, d2, d3, d4, d5, d6, d7, d8, d9⟩ := cRd.op hr.1
          refine px_riS rfl q_X4_takeLetter_64 rfl rfl rfl hg rfl trivial ⟨⟨rfl, rfl⟩, ?_⟩
          first | exact ⟨Or.inl rfl, rfl, (by
              subst g61
              subst g2
              unfold xTLr xLl
              grind), (by
              subst g61
              subst g2
              unfold xTLi xLl
              grind), (by repeat (first | exact hr | refine cRr.up ?_ (by unfold cOk; (try simp only [px_app, px_ur]); grind)))⟩ | exact ⟨Or.inr (by assumption), rfl, (by
              subst g61
              subst g2
              unfold xTLr xLl
              grind), (by
              subst g61
              subst g2
              unfold xTLi xLl
              grind), (by repeat (first | exact hr | refine cRr.up ?_ (by unfold cOk; (try simp only [px_app, px_ur]); grind)))⟩
      · refine px_ieq rfl q_X4_takeLetter_48 hg rfl trivial (fun c56 => ?_) (fun c56 => ?_)
        · refine px_riS rfl q_X4_takeLetter_66 rfl rfl rfl hg rfl trivial ⟨⟨rfl, rfl⟩, ?_⟩
          first | exact ⟨Or.inl rfl, rfl, (by
              subst g2
              unfold xTLr xLl
              grind), (by
              subst g2
              unfold xTLi xLl
              grind), (by repeat (first | exact hr | refine cRr.up ?_ (by unfold cOk; (try simp only [px_app, px_ur]); grind)))⟩ | exact ⟨Or.inr (by assumption), rfl, (by
              subst g2
              unfold xTLr xLl
              grind), (by
              subst g2
              unfold xTLi xLl
              grind), (by repeat (first | exact hr | refine cRr.up ?_ (by unfold cOk; (try simp only [px_app, px_ur]); grind)))⟩
        · refine px_cVW (ci := 4) rfl q_X4_takeLetter_59 hg rfl trivial lk_4_86 nm_X4_fail (xs_fail hg hw _ (show cRd w _ from (by repeat (first | exact hr | refine cRr.up ?_ (by unfold cOk; (try simp only [px_app, px_ur]); grind)) : cRr w I _).1)) rfl rfl (px_lit hg rfl) rfl rfl rfl ⟨rfl, rfl⟩ ?_
          intro I61 L61 h61
          obtain ⟨rfl, g61, h61⟩ := h61
          replace hr : cRr w I I61 := cRr.trans (by repeat (first | exact hr | refine cRr.up ?_ (by unfold cOk; (try simp only [px_app, px_ur]); grind))) h61
          clear d0 d1 d2 d3 d4 d5 d6 d7 d8 d9
          obtain ⟨d0, d1, d2, d3, d4, d5, d6, d7, d8, d9⟩ := cRd.op hr.1
          refine px_riS rfl q_X4_takeLetter_64 rfl rfl rfl hg rfl trivial ⟨⟨rfl, rfl⟩, ?_⟩
          first | exact ⟨Or.inl rfl, rfl, (by
              subst g61
              subst g2
              unfold xTLr xLl
              grind), (by
              subst g61
              subst g2
              unfold xTLi xLl
              grind), (by repeat (first | exact hr | refine cRr.up ?_ (by unfold cOk; (try simp only [px_app, px_ur]); grind)))⟩ | exact ⟨Or.inr (by assumption), rfl, (by
              subst g61
              subst g2
              unfold xTLr xLl
              grind), (by
              subst g61
              subst g2
              unfold xTLi xLl
              grind), (by repeat (first | exact hr | refine cRr.up ?_ (by unfold cOk; (try simp only [px_app, px_ur]); grind)))⟩
    · replace h25 := px_bf h25 c28
      refine px_cVW (ci := 4) rfl q_X4_takeLetter_31 hg rfl trivial lk_4_86 nm_X4_fail (xs_fail hg hw _ (show cRd w _ from (by repeat (first | exact hr | refine cRr.up ?_ (by unfold cOk; (try simp only [px_app, px_ur]); grind)) : cRr w I _).1)) rfl rfl (px_lit hg rfl) rfl rfl rfl ⟨rfl, rfl⟩ ?_
      intro I33 L33 h33
      obtain ⟨rfl, g33, h33⟩ := h33
      replace hr : cRr w I I33 := cRr.trans (by repeat (first | exact hr | refine cRr.up ?_ (by unfold cOk; (try simp only [px_app, px_ur]); grind))) h33
      clear d0 d1 d2 d3 d4 d5 d6 d7 d8 d9
      obtain ⟨d0, d1, d2, d3, d4, d5, d6, d7, d8, d9⟩ := cRd.op hr.1
      refine px_riS rfl q_X4_takeLetter_36 rfl rfl rfl hg rfl trivial ⟨⟨rfl, rfl⟩, ?_⟩
      first | exact ⟨Or.inl rfl, rfl, (by
          subst g33
          subst g2
          unfold xTLr xLl
          grind), (by
          subst g33
          subst g2
          unfold xTLi xLl
          grind), (by repeat (first | exact hr | refine cRr.up ?_ (by unfold cOk; (try simp only [px_app, px_ur]); grind)))⟩ | exact ⟨Or.inr (by assumption), rfl, (by
          subst g33
          subst g2
          unfold xTLr xLl
          grind), (by
          subst g33
          subst g2
          unfold xTLi xLl
          grind), (by repeat (first | exact hr | refine cRr.up ?_ (by unfold cOk; (try simp only [px_app, px_ur]); grind)))⟩
  · refine px_cVP (ci := 4) rfl q_X4_takeLetter_12 hg rfl trivial lk_4_174 nm_X4_letterHere (xs_letterHere hg hw d1) rfl rfl (px_lit hg rfl) rfl rfl rfl ⟨rfl, rfl⟩ ?_
    intro x13 h13
    refine px_cSNP rfl q_X4_takeLetter_16 hg rfl trivial lk_4_158 nm_X11_within (c_within hg _ _ _) rfl rfl rfl ⟨rfl, rfl⟩ ?_
    intro x25 h25
    refine px_ne rfl q_X4_takeLetter_28 hg rfl trivial (fun c28 => ?_) (fun c28 => ?_)
    · replace h25 := px_bt h25 c28
      refine px_ieq rfl q_X4_takeLetter_38 hg rfl ⟨trivial, (by first | exact hw.1 | exact hw.2.1 | exact hw.2.2 | with_reducible assumption | decide | (refine ⟨?_, ?_⟩ <;> grind) | (simp only [px_ur]; refine ⟨?_, ?_⟩ <;> grind))⟩ (fun c45 => ?_) (fun c45 => ?_)
      · refine px_ieq rfl q_X4_takeLetter_52 hg rfl trivial (fun c56 => ?_) (fun c56 => ?_)
        · refine px_riS rfl q_X4_takeLetter_66 rfl rfl rfl hg rfl trivial ⟨⟨rfl, rfl⟩, ?_⟩
          first | exact ⟨Or.inl rfl, rfl, (by
              subst g2
              unfold xTLr xLl
              grind), (by
              subst g2
              unfold xTLi xLl
              grind), (by repeat (first | exact hr | refine cRr.up ?_ (by unfold cOk; (try simp only [px_app, px_ur]); grind)))⟩ | exact ⟨Or.inr (by assumption), rfl, (by
              subst g2
              unfold xTLr xLl
              grind), (by
              subst g2
              unfold xTLi xLl
              grind), (by repeat (first | exact hr | refine cRr.up ?_ (by unfold cOk; (try simp only [px_app, px_ur]); grind)))⟩
        · refine px_cVW (ci := 4) rfl q_X4_takeLetter_59 hg rfl trivial lk_4_86 nm_X4_fail (xs_fail hg hw _ (show cRd w _ from (by repeat (first | exact hr | refine cRr.up ?_ (by unfold cOk; (try simp only [px_app, px_ur]); grind)) : cRr w I _).1)) rfl rfl (px_lit hg rfl) rfl rfl rfl ⟨rfl, rfl⟩ ?_
          intro I61 L61 h61
          obtain ⟨rfl, g61, h61⟩ := h61
          replace hr : cRr w I I61 := cRr.trans (by repeat (first | exact hr | refine cRr.up ?_ (by unfold cOk; (try simp only [px_app, px_ur]); grind))) h61
          clear d0 d1 d2 d3 d4 d5 d6 d7 d8 d9
          obtain ⟨d0, d1, d2, d3, d4, d5, d6, d7, d8, d9⟩ := cRd.op hr.1
          refine px_riS rfl q_X4_takeLetter_64 rfl rfl rfl hg rfl trivial ⟨⟨rfl, rfl⟩, ?_⟩
          first | exact ⟨Or.inl rfl, rfl, (by
              subst g61
              subst g2
              unfold xTLr xLl
              grind), (by
              subst g61
              subst g2
              unfold xTLi xLl
              grind), (by repeat (first | exact hr | refine cRr.up ?_ (by unfold cOk; (try simp only [px_app, px_ur]); grind)))⟩ | exact ⟨Or.inr (by assumption), rfl, (by
              subst g61
              subst g2
              unfold xTLr xLl
              grind), (by
              subst g61
              subst g2
              unfold xTLi xLl
              grind), (by repeat (first | exact hr | refine cRr.up ?_ (by unfold cOk; (try simp only [px_app, px_ur]); grind)))⟩
      · refine px_ieq rfl q_X4_takeLetter_48 hg rfl trivial (fun c56 => ?_) (fun c56 => ?_)
        · refine px_riS rfl q_X4_takeLetter_66 rfl rfl rfl hg rfl trivial ⟨⟨rfl, rfl⟩, ?_⟩
          first | exact ⟨Or.inl rfl, rfl, (by
              subst g2
              unfold xTLr xLl
              grind), (by
              subst g2
              unfold xTLi xLl
              grind), (by repeat (first | exact hr | refine cRr.up ?_ (by unfold cOk; (try simp only [px_app, px_ur]); grind)))⟩ | exact ⟨Or.inr (by assumption), rfl, (by
              subst g2
              unfold xTLr xLl
              grind), (by
              subst g2
              unfold xTLi xLl
              grind), (by repeat (first | exact hr | refine cRr.up ?_ (by unfold cOk; (try simp only [px_app, px_ur]); grind)))⟩
        · refine px_cVW (ci := 4) rfl q_X4_takeLetter_59 hg rfl trivial lk_4_86 nm_X4_fail (xs_fail hg hw _ (show cRd w _ from (by repeat (first | exact hr | refine cRr.up ?_ (by unfold cOk; (try simp only [px_app, px_ur]); grind)) : cRr w I _).1)) rfl rfl (px_lit hg rfl) rfl rfl rfl ⟨rfl, rfl⟩ ?_
          intro I61 L61 h61
          obtain ⟨rfl, g61, h61⟩ := h61
          replace hr : cRr w I I61 := cRr.trans (by repeat (first | exact hr | refine cRr.up ?_ (by unfold cOk; (try simp only [px_app, px_ur]); grind))) h61
          clear d0 d1 d2 d3 d4 d5 d6 d7 d8 d9
          obtain ⟨d0, d1, d2, d3, d4, d5, d6, d7, d8, d9⟩ := cRd.op hr.1
          refine px_riS rfl q_X4_takeLetter_64 rfl rfl rfl hg rfl trivial ⟨⟨rfl, rfl⟩, ?_⟩
          first | exact ⟨Or.inl rfl, rfl, (by
              subst g61
              subst g2
              unfold xTLr xLl
              grind), (by
              subst g61
              subst g2
              unfold xTLi xLl
              grind), (by repeat (first | exact hr | refine cRr.up ?_ (by unfold cOk; (try simp only [px_app, px_ur]); grind)))⟩ | exact ⟨Or.inr (by assumption), rfl, (by
              subst g61
              subst g2
              unfold xTLr xLl
              grind), (by
              subst g61
              subst g2
              unfold xTLi xLl
              grind), (by repeat (first | exact hr | refine cRr.up ?_ (by unfold cOk; (try simp only [px_app, px_ur]); grind)))⟩
    · replace h25 := px_bf h25 c28
      refine px_cVW (ci := 4) rfl q_X4_takeLetter_31 hg rfl trivial lk_4_86 nm_X4_fail (xs_fail hg hw _ (show cRd w _ from (by repeat (first | exact hr | refine cRr.up ?_ (by unfold cOk; (try simp only [px_app, px_ur]); grind)) : cRr w I _).1)) rfl rfl (px_lit hg rfl) rfl rfl rfl ⟨rfl, rfl⟩ ?_
      intro I33 L33 h33
      obtain ⟨rfl, g33, h33⟩ := h33
      replace hr : cRr w I I33 := cRr.trans (by repeat (first | exact hr | refine cRr.up ?_ (by unfold cOk; (try simp only [px_app, px_ur]); grind))) h33
      clear d0 d1 d2 d3 d4 d5 d6 d7 d8 d9
      obtain ⟨d0, d1, d2, d3, d4, d5, d6, d7, d8, d9⟩ := cRd.op hr.1
      refine px_riS rfl q_X4_takeLetter_36 rfl rfl rfl hg rfl trivial ⟨⟨rfl, rfl⟩, ?_⟩
      first | exact ⟨Or.inl rfl, rfl, (by
          subst g33
          subst g2
          unfold xTLr xLl
          grind), (by
          subst g33
          subst g2
          unfold xTLi xLl
          grind), (by repeat (first | exact hr | refine cRr.up ?_ (by unfold cOk; (try simp only [px_app, px_ur]); grind)))⟩ | exact ⟨Or.inr (by assumption), rfl, (by
          subst g33
          subst g2
          unfold xTLr xLl
          grind), (by
          subst g33
          subst g2
          unfold xTLi xLl
          grind), (by repeat (first | exact hr | refine cRr.up ?_ (by unfold cOk; (try simp only [px_app, px_ur]); grind)))⟩

set_option maxRecDepth 100000 in
theorem xs_addSteps {n : Nat} {I : px_I} {L : px_L} {R : px_R} {w : Nat} (hg : px_G n (cRW R w)) (hw : cWay n w) (x : Int32) (hd : cRd w I) : px_KV M_X4_addSteps [.ref 76, .int x] n I L (cRW R w) (fun I2 L2 => L2 = L ∧ I2 = xAS I x ∧ cRr w I I2) := by
  refine px_of (plainFor_of_name np_RX4) (fun _ _ _ => trivial) rfl ?_
  have hr := cRr.rfl' hd
  obtain ⟨d0, d1, d2, d3, d4, d5, d6, d7, d8, d9⟩ := cRd.op hd
  refine px_cSNP rfl q_X4_addSteps_0 hg rfl trivial lk_4_158 nm_X11_within (c_within hg _ _ _) rfl rfl rfl ⟨rfl, rfl⟩ ?_
  intro x7 h7
  refine px_eq rfl q_X4_addSteps_10 hg rfl trivial (fun c10 => ?_) (fun c10 => ?_)
  · replace h7 := px_bf h7 c10
    refine px_rvW rfl q_X4_addSteps_39 rfl rfl rfl hg rfl trivial ⟨⟨rfl, rfl⟩, ?_⟩
    exact ⟨rfl, (by
        unfold xAS
        first | (subst h35; exact (if_pos (by assumption)).symm) | exact (if_neg (by assumption)).symm), (by repeat (first | exact hr | refine cRr.up ?_ (by unfold cOk; (try simp only [px_app, px_ur]); grind)))⟩
  · replace h7 := px_bt h7 c10
    refine px_cSP rfl q_X4_addSteps_13 hg rfl ⟨trivial, (by first | exact hw.1 | exact hw.2.1 | exact hw.2.2 | with_reducible assumption | decide | (refine ⟨?_, ?_⟩ <;> grind) | (simp only [px_ur]; refine ⟨?_, ?_⟩ <;> grind))⟩ lk_4_168 nm_J9_min_7cf53 (j_min hg _ _) rfl rfl rfl ⟨rfl, rfl⟩ ?_
    intro x35 h35
    refine px_rvW rfl q_X4_addSteps_38 rfl rfl rfl hg rfl ⟨trivial, (by first | exact hw.1 | exact hw.2.1 | exact hw.2.2 | with_reducible assumption | decide | (refine ⟨?_, ?_⟩ <;> grind) | (simp only [px_ur]; refine ⟨?_, ?_⟩ <;> grind))⟩ ⟨⟨rfl, rfl⟩, ?_⟩
    exact ⟨rfl, (by
        unfold xAS
        first | (subst h35; exact (if_pos (by assumption)).symm) | exact (if_neg (by assumption)).symm), (by repeat (first | exact hr | refine cRr.up ?_ (by unfold cOk; (try simp only [px_app, px_ur]); grind)))⟩

set_option maxRecDepth 100000 in
theorem xs_readStep {n : Nat} {I : px_I} {L : px_L} {R : px_R} {w : Nat} (hg : px_G n (cRW R w)) (hw : cWay n w) (o a b : Int32) (hd : cRd w I) : px_KV M_X4_readStep [.ref 76, .int o, .int a, .int b] n I L (cRW R w) (fun I2 L2 => L2 = L ∧ I2 = xRS w I o a b ∧ cRr w I I2) := by
  refine px_of (plainFor_of_name np_RX4) (fun _ _ _ => trivial) rfl ?_
  have hr := cRr.rfl' hd
  obtain ⟨d0, d1, d2, d3, d4, d5, d6, d7, d8, d9⟩ := cRd.op hd
  refine px_cVW (ci := 4) rfl q_X4_readStep_0 hg rfl trivial lk_4_135 nm_X4_takeNumber (xs_takeNumber hg hw _ _ (show cRd w _ from (by repeat (first | exact hr | refine cRr.up ?_ (by unfold cOk; (try simp only [px_app, px_ur]); grind)) : cRr w I _).1)) rfl rfl (px_lit hg rfl) rfl rfl rfl ⟨rfl, rfl⟩ ?_
  intro I3 L3 h3
  obtain ⟨rfl, g3, h3⟩ := h3
  replace hr : cRr w I I3 := cRr.trans (by repeat (first | exact hr | refine cRr.up ?_ (by unfold cOk; (try simp only [px_app, px_ur]); grind))) h3
  clear d0 d1 d2 d3 d4 d5 d6 d7 d8 d9
  obtain ⟨d0, d1, d2, d3, d4, d5, d6, d7, d8, d9⟩ := cRd.op hr.1
  have hn := d5
  refine px_cVW (ci := 4) rfl q_X4_readStep_6 hg rfl trivial lk_4_139 nm_X4_take (xs_take hg hw _ (show cRd w _ from (by repeat (first | exact hr | refine cRr.up ?_ (by unfold cOk; (try simp only [px_app, px_ur]); grind)) : cRr w I _).1)) rfl rfl (px_lit hg rfl) rfl rfl rfl ⟨rfl, rfl⟩ ?_
  intro I14 L14 h14
  obtain ⟨rfl, g14, h14⟩ := h14
  replace hr : cRr w I I14 := cRr.trans (by repeat (first | exact hr | refine cRr.up ?_ (by unfold cOk; (try simp only [px_app, px_ur]); grind))) h14
  clear d0 d1 d2 d3 d4 d5 d6 d7 d8 d9
  obtain ⟨d0, d1, d2, d3, d4, d5, d6, d7, d8, d9⟩ := cRd.op hr.1
  refine px_cVW (ci := 10) rfl q_X4_readStep_17 hg rfl trivial lk_4_142 nm_X10_add (c_add hg hw _ _ d8.1) rfl rfl hw.1 rfl rfl rfl ⟨rfl, rfl⟩ ?_
  intro I24 L24 h24
  obtain ⟨rfl, g24⟩ := h24
  replace hr : cRr w I I24 := cRr.add hr g24 (by first | assumption | grind)
  clear d0 d1 d2 d3 d4 d5 d6 d7 d8 d9
  obtain ⟨d0, d1, d2, d3, d4, d5, d6, d7, d8, d9⟩ := cRd.op hr.1
  refine px_cVW (ci := 4) rfl q_X4_readStep_27 hg rfl trivial lk_4_145 nm_X4_addSteps (xs_addSteps hg hw _ (show cRd w _ from (by repeat (first | exact hr | refine cRr.up ?_ (by unfold cOk; (try simp only [px_app, px_ur]); grind)) : cRr w I _).1)) rfl rfl (px_lit hg rfl) rfl rfl rfl ⟨rfl, rfl⟩ ?_
  intro I29 L29 h29
  obtain ⟨rfl, g29, h29⟩ := h29
  replace hr : cRr w I I29 := cRr.trans (by repeat (first | exact hr | refine cRr.up ?_ (by unfold cOk; (try simp only [px_app, px_ur]); grind))) h29
  clear d0 d1 d2 d3 d4 d5 d6 d7 d8 d9
  obtain ⟨d0, d1, d2, d3, d4, d5, d6, d7, d8, d9⟩ := cRd.op hr.1
  refine px_rvW rfl q_X4_readStep_32 rfl rfl rfl hg rfl trivial ⟨⟨rfl, rfl⟩, ?_⟩
  exact ⟨rfl, (by
      subst g29
      subst g24
      subst g14
      subst g3
      rfl), (by repeat (first | exact hr | refine cRr.up ?_ (by unfold cOk; (try simp only [px_app, px_ur]); grind)))⟩

set_option maxRecDepth 100000 in
theorem xs_readBareStep {n : Nat} {I : px_I} {L : px_L} {R : px_R} {w : Nat} (hg : px_G n (cRW R w)) (hw : cWay n w) (o : Int32) (hd : cRd w I) : px_KV M_X4_readBareStep [.ref 76, .int o] n I L (cRW R w) (fun I2 L2 => L2 = L ∧ I2 = xRB w I o ∧ cRr w I I2) := by
  refine px_of (plainFor_of_name np_RX4) (fun _ _ _ => trivial) rfl ?_
  have hr := cRr.rfl' hd
  obtain ⟨d0, d1, d2, d3, d4, d5, d6, d7, d8, d9⟩ := cRd.op hd
  refine px_cVW (ci := 4) rfl q_X4_readBareStep_0 hg rfl trivial lk_4_139 nm_X4_take (xs_take hg hw _ (show cRd w _ from (by repeat (first | exact hr | refine cRr.up ?_ (by unfold cOk; (try simp only [px_app, px_ur]); grind)) : cRr w I _).1)) rfl rfl (px_lit hg rfl) rfl rfl rfl ⟨rfl, rfl⟩ ?_
  intro I2 L2 h2
  obtain ⟨rfl, g2, h2⟩ := h2
  replace hr : cRr w I I2 := cRr.trans (by repeat (first | exact hr | refine cRr.up ?_ (by unfold cOk; (try simp only [px_app, px_ur]); grind))) h2
  clear d0 d1 d2 d3 d4 d5 d6 d7 d8 d9
  obtain ⟨d0, d1, d2, d3, d4, d5, d6, d7, d8, d9⟩ := cRd.op hr.1
  refine px_cVW (ci := 10) rfl q_X4_readBareStep_5 hg rfl trivial lk_4_142 nm_X10_add (c_add hg hw _ _ d8.1) rfl rfl hw.1 rfl rfl rfl ⟨rfl, rfl⟩ ?_
  intro I11 L11 h11
  obtain ⟨rfl, g11⟩ := h11
  replace hr : cRr w I I11 := cRr.add hr g11 (by decide)
  clear d0 d1 d2 d3 d4 d5 d6 d7 d8 d9
  obtain ⟨d0, d1, d2, d3, d4, d5, d6, d7, d8, d9⟩ := cRd.op hr.1
  refine px_cVW (ci := 4) rfl q_X4_readBareStep_14 hg rfl trivial lk_4_145 nm_X4_addSteps (xs_addSteps hg hw _ (show cRd w _ from (by repeat (first | exact hr | refine cRr.up ?_ (by unfold cOk; (try simp only [px_app, px_ur]); grind)) : cRr w I _).1)) rfl rfl (px_lit hg rfl) rfl rfl rfl ⟨rfl, rfl⟩ ?_
  intro I16 L16 h16
  obtain ⟨rfl, g16, h16⟩ := h16
  replace hr : cRr w I I16 := cRr.trans (by repeat (first | exact hr | refine cRr.up ?_ (by unfold cOk; (try simp only [px_app, px_ur]); grind))) h16
  clear d0 d1 d2 d3 d4 d5 d6 d7 d8 d9
  obtain ⟨d0, d1, d2, d3, d4, d5, d6, d7, d8, d9⟩ := cRd.op hr.1
  refine px_rvW rfl q_X4_readBareStep_19 rfl rfl rfl hg rfl trivial ⟨⟨rfl, rfl⟩, ?_⟩
  exact ⟨rfl, (by
      subst g16
      subst g11
      subst g2
      rfl), (by repeat (first | exact hr | refine cRr.up ?_ (by unfold cOk; (try simp only [px_app, px_ur]); grind)))⟩

set_option maxRecDepth 100000 in
theorem xs_readDo {n : Nat} {I : px_I} {L : px_L} {R : px_R} {w : Nat} (hg : px_G n (cRW R w)) (hw : cWay n w) (hd : cRd w I) : px_KV M_X4_readDo [.ref 76] n I L (cRW R w) (fun I2 L2 => L2 = L ∧ I2 = xRD w I ∧ cRr w I I2) := by
  refine px_of (plainFor_of_name np_RX4) (fun _ _ _ => trivial) rfl ?_
  have hr := cRr.rfl' hd
  obtain ⟨d0, d1, d2, d3, d4, d5, d6, d7, d8, d9⟩ := cRd.op hd
  refine px_cVS (ci := 4) rfl q_X4_readDo_0 hg rfl trivial lk_4_148 nm_X4_takeLetter (xs_takeLetter hg hw _ (show cRd w _ from (by repeat (first | exact hr | refine cRr.up ?_ (by unfold cOk; (try simp only [px_app, px_ur]); grind)) : cRr w I _).1)) rfl rfl (px_lit hg rfl) rfl rfl rfl ⟨rfl, rfl⟩ ?_
  intro x2 I2 L2 h2
  obtain ⟨e2, rfl, v2, g2, h2⟩ := h2
  replace hr : cRr w I I2 := cRr.trans (by repeat (first | exact hr | refine cRr.up ?_ (by unfold cOk; (try simp only [px_app, px_ur]); grind))) h2
  clear d0 d1 d2 d3 d4 d5 d6 d7 d8 d9
  obtain ⟨d0, d1, d2, d3, d4, d5, d6, d7, d8, d9⟩ := cRd.op hr.1
  refine px_cVW (ci := 4) rfl q_X4_readDo_5 hg rfl trivial lk_4_139 nm_X4_take (xs_take hg hw _ (show cRd w _ from (by repeat (first | exact hr | refine cRr.up ?_ (by unfold cOk; (try simp only [px_app, px_ur]); grind)) : cRr w I _).1)) rfl rfl (px_lit hg rfl) rfl rfl rfl ⟨rfl, rfl⟩ ?_
  intro I8 L8 h8
  obtain ⟨rfl, g8, h8⟩ := h8
  replace hr : cRr w I I8 := cRr.trans (by repeat (first | exact hr | refine cRr.up ?_ (by unfold cOk; (try simp only [px_app, px_ur]); grind))) h8
  clear d0 d1 d2 d3 d4 d5 d6 d7 d8 d9
  obtain ⟨d0, d1, d2, d3, d4, d5, d6, d7, d8, d9⟩ := cRd.op hr.1
  refine px_ieq rfl q_X4_readDo_11 hg rfl trivial (fun c13 => ?_) (fun c13 => ?_)
  · refine px_rvW rfl q_X4_readDo_50 rfl rfl rfl hg rfl trivial ⟨⟨rfl, rfl⟩, ?_⟩
    exact ⟨rfl, (by
        subst g8
        subst g2
        subst v2
        unfold xRD xRD2
        grind), (by repeat (first | exact hr | refine cRr.up ?_ (by unfold cOk; (try simp only [px_app, px_ur]); grind)))⟩
  · have hx : 0 ≤ x2 ∧ x2 < 8 := by grind
    refine px_le rfl q_X4_readDo_16 hg rfl ⟨trivial, (by first | exact hw.1 | exact hw.2.1 | exact hw.2.2 | with_reducible assumption | decide | (refine ⟨?_, ?_⟩ <;> grind) | (simp only [px_ur]; refine ⟨?_, ?_⟩ <;> grind))⟩ (fun c22 => ?_) (fun c22 => ?_)
    · refine px_rvW rfl q_X4_readDo_50 rfl rfl rfl hg rfl trivial ⟨⟨rfl, rfl⟩, ?_⟩
      exact ⟨rfl, (by
          subst g8
          subst g2
          subst v2
          unfold xRD xRD2
          grind), (by repeat (first | exact hr | refine cRr.up ?_ (by unfold cOk; (try simp only [px_app, px_ur]); grind)))⟩
    · refine px_cVW (ci := 10) rfl q_X4_readDo_25 hg rfl ⟨trivial, (by first | exact hw.1 | exact hw.2.1 | exact hw.2.2 | with_reducible assumption | decide | (refine ⟨?_, ?_⟩ <;> grind) | (simp only [px_ur]; refine ⟨?_, ?_⟩ <;> grind))⟩ lk_4_142 nm_X10_add (c_add hg hw _ _ d8.1) rfl rfl hw.1 rfl rfl rfl ⟨rfl, rfl⟩ ?_
      intro I37 L37 h37
      obtain ⟨rfl, g37⟩ := h37
      replace hr : cRr w I I37 := cRr.add hr g37 (by have := d7 x2.toNatClampNeg; grind)
      clear d0 d1 d2 d3 d4 d5 d6 d7 d8 d9
      obtain ⟨d0, d1, d2, d3, d4, d5, d6, d7, d8, d9⟩ := cRd.op hr.1
      refine px_cVW (ci := 4) rfl q_X4_readDo_40 hg rfl ⟨trivial, (by first | exact hw.1 | exact hw.2.1 | exact hw.2.2 | with_reducible assumption | decide | (refine ⟨?_, ?_⟩ <;> grind) | (simp only [px_ur]; refine ⟨?_, ?_⟩ <;> grind))⟩ lk_4_145 nm_X4_addSteps (xs_addSteps hg hw _ (show cRd w _ from (by repeat (first | exact hr | refine cRr.up ?_ (by unfold cOk; (try simp only [px_app, px_ur]); grind)) : cRr w I _).1)) rfl rfl (px_lit hg rfl) rfl rfl rfl ⟨rfl, rfl⟩ ?_
      intro I47 L47 h47
      obtain ⟨rfl, g47, h47⟩ := h47
      replace hr : cRr w I I47 := cRr.trans (by repeat (first | exact hr | refine cRr.up ?_ (by unfold cOk; (try simp only [px_app, px_ur]); grind))) h47
      clear d0 d1 d2 d3 d4 d5 d6 d7 d8 d9
      obtain ⟨d0, d1, d2, d3, d4, d5, d6, d7, d8, d9⟩ := cRd.op hr.1
      refine px_rvW rfl q_X4_readDo_50 rfl rfl rfl hg rfl trivial ⟨⟨rfl, rfl⟩, ?_⟩
      exact ⟨rfl, (by
          subst g47
          subst g37
          subst g8
          subst g2
          subst v2
          unfold xRD xRD2
          grind), (by repeat (first | exact hr | refine cRr.up ?_ (by unfold cOk; (try simp only [px_app, px_ur]); grind)))⟩

set_option maxRecDepth 100000 in
theorem xs_openBlock {n : Nat} {I : px_I} {L : px_L} {R : px_R} {w : Nat} (hg : px_G n (cRW R w)) (hw : cWay n w) (x : Int32) (hd : cRd w I) : px_KV M_X4_openBlock [.ref 76, .int x] n I L (cRW R w) (fun I2 L2 => L2 = L ∧ I2 = xOB w I x ∧ cRr w I I2) := by
  refine px_of (plainFor_of_name np_RX4) (fun _ _ _ => trivial) rfl ?_
  have hr := cRr.rfl' hd
  obtain ⟨d0, d1, d2, d3, d4, d5, d6, d7, d8, d9⟩ := cRd.op hd
  refine px_ige rfl q_X4_openBlock_0 hg rfl trivial (fun c6 => ?_) (fun c6 => ?_)
  · refine px_rvW rfl q_X4_openBlock_55 rfl rfl rfl hg rfl trivial ⟨⟨rfl, rfl⟩, ?_⟩
    exact ⟨rfl, (by
        have w76 : ¬ w = 76 := by omega
        unfold xOB
        first | exact (if_neg (by first | assumption | grind)).symm | (rw [if_pos (by grind)]; simp [px_app, px_ur, w76])), (by repeat (first | exact hr | refine cRr.up ?_ (by unfold cOk; (try simp only [px_app, px_ur]); grind)))⟩
  · refine px_rvW rfl q_X4_openBlock_9 rfl rfl rfl hg rfl ⟨⟨⟨⟨trivial, (by first | exact hw.1 | exact hw.2.1 | exact hw.2.2 | with_reducible assumption | decide | (refine ⟨?_, ?_⟩ <;> grind) | (simp only [px_ur]; refine ⟨?_, ?_⟩ <;> grind))⟩, (by first | exact hw.1 | exact hw.2.1 | exact hw.2.2 | with_reducible assumption | decide | (refine ⟨?_, ?_⟩ <;> grind) | (simp only [px_ur]; refine ⟨?_, ?_⟩ <;> grind))⟩, (by first | exact hw.1 | exact hw.2.1 | exact hw.2.2 | with_reducible assumption | decide | (refine ⟨?_, ?_⟩ <;> grind) | (simp only [px_ur]; refine ⟨?_, ?_⟩ <;> grind))⟩, (by first | exact hw.1 | exact hw.2.1 | exact hw.2.2 | with_reducible assumption | decide | (refine ⟨?_, ?_⟩ <;> grind) | (simp only [px_ur]; refine ⟨?_, ?_⟩ <;> grind))⟩ ⟨⟨rfl, rfl⟩, ?_⟩
    exact ⟨rfl, (by
        have w76 : ¬ w = 76 := by omega
        unfold xOB
        first | exact (if_neg (by first | assumption | grind)).symm | (rw [if_pos (by grind)]; simp [px_app, px_ur, w76])), (by repeat (first | exact hr | refine cRr.up ?_ (by unfold cOk; (try simp only [px_app, px_ur]); grind)))⟩

set_option maxRecDepth 100000 in
theorem xs_readRepeat {n : Nat} {I : px_I} {L : px_L} {R : px_R} {w : Nat} (hg : px_G n (cRW R w)) (hw : cWay n w) (hd : cRd w I) : px_KV M_X4_readRepeat [.ref 76] n I L (cRW R w) (fun I2 L2 => L2 = L ∧ I2 = xRR w I ∧ cRr w I I2) := by
  refine px_of (plainFor_of_name np_RX4) (fun _ _ _ => trivial) rfl ?_
  have hr := cRr.rfl' hd
  obtain ⟨d0, d1, d2, d3, d4, d5, d6, d7, d8, d9⟩ := cRd.op hd
  refine px_cVW (ci := 4) rfl q_X4_readRepeat_0 hg rfl trivial lk_4_135 nm_X4_takeNumber (xs_takeNumber hg hw _ _ (show cRd w _ from (by repeat (first | exact hr | refine cRr.up ?_ (by unfold cOk; (try simp only [px_app, px_ur]); grind)) : cRr w I _).1)) rfl rfl (px_lit hg rfl) rfl rfl rfl ⟨rfl, rfl⟩ ?_
  intro I4 L4 h4
  obtain ⟨rfl, g4, h4⟩ := h4
  replace hr : cRr w I I4 := cRr.trans (by repeat (first | exact hr | refine cRr.up ?_ (by unfold cOk; (try simp only [px_app, px_ur]); grind))) h4
  clear d0 d1 d2 d3 d4 d5 d6 d7 d8 d9
  obtain ⟨d0, d1, d2, d3, d4, d5, d6, d7, d8, d9⟩ := cRd.op hr.1
  have hn := d5
  refine px_cVW (ci := 4) rfl q_X4_readRepeat_7 hg rfl trivial lk_4_152 nm_X4_takeOpening (xs_takeOpening hg hw  (show cRd w _ from (by repeat (first | exact hr | refine cRr.up ?_ (by unfold cOk; (try simp only [px_app, px_ur]); grind)) : cRr w I _).1)) rfl rfl (px_lit hg rfl) rfl rfl rfl ⟨rfl, rfl⟩ ?_
  intro I13 L13 h13
  obtain ⟨rfl, g13, h13⟩ := h13
  replace hr : cRr w I I13 := cRr.trans (by repeat (first | exact hr | refine cRr.up ?_ (by unfold cOk; (try simp only [px_app, px_ur]); grind))) h13
  clear d0 d1 d2 d3 d4 d5 d6 d7 d8 d9
  obtain ⟨d0, d1, d2, d3, d4, d5, d6, d7, d8, d9⟩ := cRd.op hr.1
  refine px_ne rfl q_X4_readRepeat_16 hg rfl trivial (fun c20 => ?_) (fun c20 => ?_)
  · refine px_rvW rfl q_X4_readRepeat_43 rfl rfl rfl hg rfl trivial ⟨⟨rfl, rfl⟩, ?_⟩
    exact ⟨rfl, (by
        subst g13
        subst g4
        unfold xRR xRR2
        grind), (by repeat (first | exact hr | refine cRr.up ?_ (by unfold cOk; (try simp only [px_app, px_ur]); grind)))⟩
  · refine px_cVW (ci := 4) rfl q_X4_readRepeat_23 hg rfl trivial lk_4_155 nm_X4_openBlock (xs_openBlock hg hw _ (show cRd w _ from (by repeat (first | exact hr | refine cRr.up ?_ (by unfold cOk; (try simp only [px_app, px_ur]); grind)) : cRr w I _).1)) rfl rfl (px_lit hg rfl) rfl rfl rfl ⟨rfl, rfl⟩ ?_
    intro I25 L25 h25
    obtain ⟨rfl, g25, h25⟩ := h25
    replace hr : cRr w I I25 := cRr.trans (by repeat (first | exact hr | refine cRr.up ?_ (by unfold cOk; (try simp only [px_app, px_ur]); grind))) h25
    clear d0 d1 d2 d3 d4 d5 d6 d7 d8 d9
    obtain ⟨d0, d1, d2, d3, d4, d5, d6, d7, d8, d9⟩ := cRd.op hr.1
    refine px_ile rfl q_X4_readRepeat_28 hg rfl trivial (fun c30 => ?_) (fun c30 => ?_)
    · refine px_rvW rfl q_X4_readRepeat_43 rfl rfl rfl hg rfl trivial ⟨⟨rfl, rfl⟩, ?_⟩
      exact ⟨rfl, (by
          subst g25
          subst g13
          subst g4
          unfold xRR xRR2
          grind), (by repeat (first | exact hr | refine cRr.up ?_ (by unfold cOk; (try simp only [px_app, px_ur]); grind)))⟩
    · refine px_cVW (ci := 10) rfl q_X4_readRepeat_33 hg rfl trivial lk_4_142 nm_X10_add (c_add hg hw _ _ d8.1) rfl rfl hw.1 rfl rfl rfl ⟨rfl, rfl⟩ ?_
      intro I40 L40 h40
      obtain ⟨rfl, g40⟩ := h40
      replace hr : cRr w I I40 := cRr.add hr g40 (by first | assumption | grind)
      clear d0 d1 d2 d3 d4 d5 d6 d7 d8 d9
      obtain ⟨d0, d1, d2, d3, d4, d5, d6, d7, d8, d9⟩ := cRd.op hr.1
      refine px_rvW rfl q_X4_readRepeat_43 rfl rfl rfl hg rfl trivial ⟨⟨rfl, rfl⟩, ?_⟩
      exact ⟨rfl, (by
          subst g40
          subst g25
          subst g13
          subst g4
          unfold xRR xRR2
          grind), (by repeat (first | exact hr | refine cRr.up ?_ (by unfold cOk; (try simp only [px_app, px_ur]); grind)))⟩

set_option maxRecDepth 100000 in
theorem xs_readDef {n : Nat} {I : px_I} {L : px_L} {R : px_R} {w : Nat} (hg : px_G n (cRW R w)) (hw : cWay n w) (hd : cRd w I) : px_KV M_X4_readDef [.ref 76] n I L (cRW R w) (fun I2 L2 => L2 = L ∧ I2 = xDf w I ∧ cRr w I I2) := by
  refine px_of (plainFor_of_name np_RX4) (fun _ _ _ => trivial) rfl ?_
  have hr := cRr.rfl' hd
  obtain ⟨d0, d1, d2, d3, d4, d5, d6, d7, d8, d9⟩ := cRd.op hd
  refine px_cVS (ci := 4) rfl q_X4_readDef_0 hg rfl trivial lk_4_148 nm_X4_takeLetter (xs_takeLetter hg hw _ (show cRd w _ from (by repeat (first | exact hr | refine cRr.up ?_ (by unfold cOk; (try simp only [px_app, px_ur]); grind)) : cRr w I _).1)) rfl rfl (px_lit hg rfl) rfl rfl rfl ⟨rfl, rfl⟩ ?_
  intro x2 I2 L2 h2
  obtain ⟨e2, rfl, v2, g2, h2⟩ := h2
  replace hr : cRr w I I2 := cRr.trans (by repeat (first | exact hr | refine cRr.up ?_ (by unfold cOk; (try simp only [px_app, px_ur]); grind))) h2
  clear d0 d1 d2 d3 d4 d5 d6 d7 d8 d9
  obtain ⟨d0, d1, d2, d3, d4, d5, d6, d7, d8, d9⟩ := cRd.op hr.1
  refine px_cVW (ci := 4) rfl q_X4_readDef_5 hg rfl trivial lk_4_152 nm_X4_takeOpening (xs_takeOpening hg hw  (show cRd w _ from (by repeat (first | exact hr | refine cRr.up ?_ (by unfold cOk; (try simp only [px_app, px_ur]); grind)) : cRr w I _).1)) rfl rfl (px_lit hg rfl) rfl rfl rfl ⟨rfl, rfl⟩ ?_
  intro I7 L7 h7
  obtain ⟨rfl, g7, h7⟩ := h7
  replace hr : cRr w I I7 := cRr.trans (by repeat (first | exact hr | refine cRr.up ?_ (by unfold cOk; (try simp only [px_app, px_ur]); grind))) h7
  clear d0 d1 d2 d3 d4 d5 d6 d7 d8 d9
  obtain ⟨d0, d1, d2, d3, d4, d5, d6, d7, d8, d9⟩ := cRd.op hr.1
  refine px_ne rfl q_X4_readDef_10 hg rfl trivial (fun c14 => ?_) (fun c14 => ?_)
  · refine px_rvW rfl q_X4_readDef_37 rfl rfl rfl hg rfl trivial ⟨⟨rfl, rfl⟩, ?_⟩
    exact ⟨rfl, (by
        subst g7
        subst g2
        subst v2
        unfold xDf xDf2
        grind), (by repeat (first | exact hr | refine cRr.up ?_ (by unfold cOk; (try simp only [px_app, px_ur]); grind)))⟩
  · refine px_cVW (ci := 4) rfl q_X4_readDef_17 hg rfl trivial lk_4_155 nm_X4_openBlock (xs_openBlock hg hw _ (show cRd w _ from (by repeat (first | exact hr | refine cRr.up ?_ (by unfold cOk; (try simp only [px_app, px_ur]); grind)) : cRr w I _).1)) rfl rfl (px_lit hg rfl) rfl rfl rfl ⟨rfl, rfl⟩ ?_
    intro I24 L24 h24
    obtain ⟨rfl, g24, h24⟩ := h24
    replace hr : cRr w I I24 := cRr.trans (by repeat (first | exact hr | refine cRr.up ?_ (by unfold cOk; (try simp only [px_app, px_ur]); grind))) h24
    clear d0 d1 d2 d3 d4 d5 d6 d7 d8 d9
    obtain ⟨d0, d1, d2, d3, d4, d5, d6, d7, d8, d9⟩ := cRd.op hr.1
    refine px_cVW (ci := 10) rfl q_X4_readDef_27 hg rfl trivial lk_4_142 nm_X10_add (c_add hg hw _ _ d8.1) rfl rfl hw.1 rfl rfl rfl ⟨rfl, rfl⟩ ?_
    intro I34 L34 h34
    obtain ⟨rfl, g34⟩ := h34
    replace hr : cRr w I I34 := cRr.add hr g34 (by decide)
    clear d0 d1 d2 d3 d4 d5 d6 d7 d8 d9
    obtain ⟨d0, d1, d2, d3, d4, d5, d6, d7, d8, d9⟩ := cRd.op hr.1
    refine px_rvW rfl q_X4_readDef_37 rfl rfl rfl hg rfl trivial ⟨⟨rfl, rfl⟩, ?_⟩
    exact ⟨rfl, (by
        subst g34
        subst g24
        subst g7
        subst g2
        subst v2
        unfold xDf xDf2
        grind), (by repeat (first | exact hr | refine cRr.up ?_ (by unfold cOk; (try simp only [px_app, px_ur]); grind)))⟩

set_option maxRecDepth 100000 in
theorem xs_closeDef {n : Nat} {I : px_I} {L : px_L} {R : px_R} {w : Nat} (hg : px_G n (cRW R w)) (hw : cWay n w) (b : Int32) (hb : 0 ≤ b ∧ b ≤ 8) (hd : cRd w I) : px_KV M_X4_closeDef [.ref 76, .int b] n I L (cRW R w) (fun I2 L2 => L2 = L ∧ I2 = xCD w I b ∧ cRr w I I2) := by
  refine px_of (plainFor_of_name np_RX4) (fun _ _ _ => trivial) rfl ?_
  have hr := cRr.rfl' hd
  obtain ⟨d0, d1, d2, d3, d4, d5, d6, d7, d8, d9⟩ := cRd.op hd
  have hb2 : 0 ≤ b ∧ b < 9 := by grind
  have hs := d6 b.toNatClampNeg
  refine px_le rfl q_X4_closeDef_0 hg rfl ⟨⟨trivial, (by first | exact hw.1 | exact hw.2.1 | exact hw.2.2 | with_reducible assumption | decide | (refine ⟨?_, ?_⟩ <;> grind) | (simp only [px_ur]; refine ⟨?_, ?_⟩ <;> grind))⟩, (by first | exact hw.1 | exact hw.2.1 | exact hw.2.2 | with_reducible assumption | decide | (refine ⟨?_, ?_⟩ <;> grind) | (simp only [px_ur]; refine ⟨?_, ?_⟩ <;> grind))⟩ (fun c13 => ?_) (fun c13 => ?_)
  · refine px_cSNP rfl q_X4_closeDef_53 hg rfl trivial lk_4_158 nm_X11_within (c_within hg _ _ _) rfl rfl rfl ⟨rfl, rfl⟩ ?_
    intro x60 h60
    refine px_eq rfl q_X4_closeDef_63 hg rfl trivial (fun c63 => ?_) (fun c63 => ?_)
    · replace h60 := px_bf h60 c63
      refine px_rvW rfl q_X4_closeDef_93 rfl rfl rfl hg rfl trivial ⟨⟨rfl, rfl⟩, ?_⟩
      exact ⟨rfl, (by
          have e1 : xCD1 w I b = I := if_neg (fun q => absurd q.1 (Int32.not_lt.mpr c13))
          unfold xCD
          rw [e1]
          first | exact (congrArg (fun z => px_u z 76 8 (-1)) (if_pos h60)).symm | exact (congrArg (fun z => px_u z 76 8 (-1)) (if_neg h60)).symm), (by repeat (first | exact hr | refine cRr.up ?_ (by unfold cOk; (try simp only [px_app, px_ur]); grind)))⟩
    · replace h60 := px_bt h60 c63
      refine px_rvW rfl q_X4_closeDef_66 rfl rfl rfl hg rfl ⟨⟨⟨trivial, (by first | exact hw.1 | exact hw.2.1 | exact hw.2.2 | with_reducible assumption | decide | (refine ⟨?_, ?_⟩ <;> grind) | (simp only [px_ur]; refine ⟨?_, ?_⟩ <;> grind))⟩, (by first | exact hw.1 | exact hw.2.1 | exact hw.2.2 | with_reducible assumption | decide | (refine ⟨?_, ?_⟩ <;> grind) | (simp only [px_ur]; refine ⟨?_, ?_⟩ <;> grind))⟩, (by first | exact hw.1 | exact hw.2.1 | exact hw.2.2 | with_reducible assumption | decide | (refine ⟨?_, ?_⟩ <;> grind) | (simp only [px_ur]; refine ⟨?_, ?_⟩ <;> grind))⟩ ⟨⟨rfl, rfl⟩, ?_⟩
      exact ⟨rfl, (by
          have e1 : xCD1 w I b = I := if_neg (fun q => absurd q.1 (Int32.not_lt.mpr c13))
          unfold xCD
          rw [e1]
          first | exact (congrArg (fun z => px_u z 76 8 (-1)) (if_pos h60)).symm | exact (congrArg (fun z => px_u z 76 8 (-1)) (if_neg h60)).symm), (by repeat (first | exact hr | refine cRr.up ?_ (by unfold cOk; (try simp only [px_app, px_ur]); grind)))⟩
  · refine px_cSNP rfl q_X4_closeDef_16 hg rfl trivial lk_4_158 nm_X11_within (c_within hg _ _ _) rfl rfl rfl ⟨rfl, rfl⟩ ?_
    intro x21 h21
    refine px_eq rfl q_X4_closeDef_24 hg rfl trivial (fun c24 => ?_) (fun c24 => ?_)
    · replace h21 := px_bf h21 c24
      refine px_cSNP rfl q_X4_closeDef_53 hg rfl trivial lk_4_158 nm_X11_within (c_within hg _ _ _) rfl rfl rfl ⟨rfl, rfl⟩ ?_
      intro x60 h60
      refine px_eq rfl q_X4_closeDef_63 hg rfl trivial (fun c63 => ?_) (fun c63 => ?_)
      · replace h60 := px_bf h60 c63
        refine px_rvW rfl q_X4_closeDef_93 rfl rfl rfl hg rfl trivial ⟨⟨rfl, rfl⟩, ?_⟩
        exact ⟨rfl, (by
            have e1 : xCD1 w I b = I := if_neg (fun q => absurd q.2 h21)
            unfold xCD
            rw [e1]
            first | exact (congrArg (fun z => px_u z 76 8 (-1)) (if_pos h60)).symm | exact (congrArg (fun z => px_u z 76 8 (-1)) (if_neg h60)).symm), (by repeat (first | exact hr | refine cRr.up ?_ (by unfold cOk; (try simp only [px_app, px_ur]); grind)))⟩
      · replace h60 := px_bt h60 c63
        refine px_rvW rfl q_X4_closeDef_66 rfl rfl rfl hg rfl ⟨⟨⟨trivial, (by first | exact hw.1 | exact hw.2.1 | exact hw.2.2 | with_reducible assumption | decide | (refine ⟨?_, ?_⟩ <;> grind) | (simp only [px_ur]; refine ⟨?_, ?_⟩ <;> grind))⟩, (by first | exact hw.1 | exact hw.2.1 | exact hw.2.2 | with_reducible assumption | decide | (refine ⟨?_, ?_⟩ <;> grind) | (simp only [px_ur]; refine ⟨?_, ?_⟩ <;> grind))⟩, (by first | exact hw.1 | exact hw.2.1 | exact hw.2.2 | with_reducible assumption | decide | (refine ⟨?_, ?_⟩ <;> grind) | (simp only [px_ur]; refine ⟨?_, ?_⟩ <;> grind))⟩ ⟨⟨rfl, rfl⟩, ?_⟩
        exact ⟨rfl, (by
            have e1 : xCD1 w I b = I := if_neg (fun q => absurd q.2 h21)
            unfold xCD
            rw [e1]
            first | exact (congrArg (fun z => px_u z 76 8 (-1)) (if_pos h60)).symm | exact (congrArg (fun z => px_u z 76 8 (-1)) (if_neg h60)).symm), (by repeat (first | exact hr | refine cRr.up ?_ (by unfold cOk; (try simp only [px_app, px_ur]); grind)))⟩
    · replace h21 := px_bt h21 c24
      refine px_cVW (ci := 10) rfl q_X4_closeDef_27 hg rfl trivial lk_4_142 nm_X10_add (c_add hg hw _ _ d8.1) rfl rfl hw.1 rfl rfl rfl ⟨rfl, rfl⟩ ?_
      intro I34 L34 h34
      obtain ⟨rfl, g34⟩ := h34
      replace hr : cRr w I I34 := cRr.add hr g34 (by decide)
      clear d0 d1 d2 d3 d4 d5 d6 d7 d8 d9
      obtain ⟨d0, d1, d2, d3, d4, d5, d6, d7, d8, d9⟩ := cRd.op hr.1
      refine px_cSNP rfl q_X4_closeDef_37 hg rfl ⟨⟨⟨⟨trivial, (by first | exact hw.1 | exact hw.2.1 | exact hw.2.2 | with_reducible assumption | decide | (refine ⟨?_, ?_⟩ <;> grind) | (simp only [px_ur]; refine ⟨?_, ?_⟩ <;> grind))⟩, (by first | exact hw.1 | exact hw.2.1 | exact hw.2.2 | with_reducible assumption | decide | (refine ⟨?_, ?_⟩ <;> grind) | (simp only [px_ur]; refine ⟨?_, ?_⟩ <;> grind))⟩, (by first | exact hw.1 | exact hw.2.1 | exact hw.2.2 | with_reducible assumption | decide | (refine ⟨?_, ?_⟩ <;> grind) | (simp only [px_ur]; refine ⟨?_, ?_⟩ <;> grind))⟩, (by first | exact hw.1 | exact hw.2.1 | exact hw.2.2 | with_reducible assumption | decide | (refine ⟨?_, ?_⟩ <;> grind) | (simp only [px_ur]; refine ⟨?_, ?_⟩ <;> grind))⟩ lk_4_158 nm_X11_within (c_within hg _ _ _) rfl rfl rfl ⟨rfl, rfl⟩ ?_
      intro x60 h60
      refine px_eq rfl q_X4_closeDef_63 hg rfl trivial (fun c63 => ?_) (fun c63 => ?_)
      · replace h60 := px_bf h60 c63
        refine px_rvW rfl q_X4_closeDef_93 rfl rfl rfl hg rfl trivial ⟨⟨rfl, rfl⟩, ?_⟩
        exact ⟨rfl, (by
            subst g34
            have e1 : xCD1 w I b = px_u (cAdd I w 9 0) (w + 2) (I 80 b.toNatClampNeg).toNatClampNeg (px_app (cAdd I w 9 0) [] w 2) := if_pos ⟨Int32.not_le.mp c13, h21⟩
            unfold xCD
            rw [e1]
            first | exact (congrArg (fun z => px_u z 76 8 (-1)) (if_pos h60)).symm | exact (congrArg (fun z => px_u z 76 8 (-1)) (if_neg h60)).symm), (by repeat (first | exact hr | refine cRr.up ?_ (by unfold cOk; (try simp only [px_app, px_ur]); grind)))⟩
      · replace h60 := px_bt h60 c63
        refine px_rvW rfl q_X4_closeDef_66 rfl rfl rfl hg rfl ⟨⟨⟨trivial, (by first | exact hw.1 | exact hw.2.1 | exact hw.2.2 | with_reducible assumption | decide | (refine ⟨?_, ?_⟩ <;> grind) | (simp only [px_ur]; refine ⟨?_, ?_⟩ <;> grind))⟩, (by first | exact hw.1 | exact hw.2.1 | exact hw.2.2 | with_reducible assumption | decide | (refine ⟨?_, ?_⟩ <;> grind) | (simp only [px_ur]; refine ⟨?_, ?_⟩ <;> grind))⟩, (by first | exact hw.1 | exact hw.2.1 | exact hw.2.2 | with_reducible assumption | decide | (refine ⟨?_, ?_⟩ <;> grind) | (simp only [px_ur]; refine ⟨?_, ?_⟩ <;> grind))⟩ ⟨⟨rfl, rfl⟩, ?_⟩
        exact ⟨rfl, (by
            subst g34
            have e1 : xCD1 w I b = px_u (cAdd I w 9 0) (w + 2) (I 80 b.toNatClampNeg).toNatClampNeg (px_app (cAdd I w 9 0) [] w 2) := if_pos ⟨Int32.not_le.mp c13, h21⟩
            unfold xCD
            rw [e1]
            first | exact (congrArg (fun z => px_u z 76 8 (-1)) (if_pos h60)).symm | exact (congrArg (fun z => px_u z 76 8 (-1)) (if_neg h60)).symm), (by repeat (first | exact hr | refine cRr.up ?_ (by unfold cOk; (try simp only [px_app, px_ur]); grind)))⟩

set_option maxRecDepth 100000 in
theorem xs_closeBlock {n : Nat} {I : px_I} {L : px_L} {R : px_R} {w : Nat} (hg : px_G n (cRW R w)) (hw : cWay n w) (hd : cRd w I) : px_KV M_X4_closeBlock [.ref 76] n I L (cRW R w) (fun I2 L2 => L2 = L ∧ I2 = xCB w I ∧ cRr w I I2) := by
  refine px_of (plainFor_of_name np_RX4) (fun _ _ _ => trivial) rfl ?_
  have hr := cRr.rfl' hd
  obtain ⟨d0, d1, d2, d3, d4, d5, d6, d7, d8, d9⟩ := cRd.op hd
  refine px_cSNP rfl q_X4_closeBlock_0 hg rfl trivial lk_4_158 nm_X11_within (c_within hg _ _ _) rfl rfl rfl ⟨rfl, rfl⟩ ?_
  intro x7 h7
  refine px_ne rfl q_X4_closeBlock_10 hg rfl trivial (fun c10 => ?_) (fun c10 => ?_)
  · replace h7 := px_bt h7 c10
    have hb2 : 0 ≤ I 76 7 ∧ I 76 7 < 9 := by grind
    have hs := d6 (I 76 7).toNatClampNeg
    refine px_ne rfl q_X4_closeBlock_19 hg rfl ⟨trivial, (by first | exact hw.1 | exact hw.2.1 | exact hw.2.2 | with_reducible assumption | decide | (refine ⟨?_, ?_⟩ <;> grind) | (simp only [px_ur]; refine ⟨?_, ?_⟩ <;> grind))⟩ (fun c40 => ?_) (fun c40 => ?_)
    · refine px_ne rfl q_X4_closeBlock_56 hg rfl trivial (fun c60 => ?_) (fun c60 => ?_)
      · refine px_le rfl q_X4_closeBlock_79 hg rfl ⟨trivial, (by first | exact hw.1 | exact hw.2.1 | exact hw.2.2 | with_reducible assumption | decide | (refine ⟨?_, ?_⟩ <;> grind) | (simp only [px_ur]; refine ⟨?_, ?_⟩ <;> grind))⟩ (fun c85 => ?_) (fun c85 => ?_)
        · refine px_rvW rfl q_X4_closeBlock_125 rfl rfl rfl hg rfl trivial ⟨⟨rfl, rfl⟩, ?_⟩
          exact ⟨rfl, (by
              have eK : xCB1 w (px_u I 76 7 (I 76 7 - 1)) (I 76 7) = (px_u I 76 7 (I 76 7 - 1)) := if_neg c40
              unfold xCB
              rw [if_pos h7, eK]
              unfold xCB2
              refine Eq.symm ?_
              refine (if_neg (fun q => absurd q.1 c60)).trans ?_
              exact if_neg (Int32.not_lt.mpr c85)), (by repeat (first | exact hr | refine cRr.up ?_ (by unfold cOk; (try simp only [px_app, px_ur]); grind)))⟩
        · refine px_ile rfl q_X4_closeBlock_88 hg rfl ⟨trivial, (by first | exact hw.1 | exact hw.2.1 | exact hw.2.2 | with_reducible assumption | decide | (refine ⟨?_, ?_⟩ <;> grind) | (simp only [px_ur]; refine ⟨?_, ?_⟩ <;> grind))⟩ (fun c95 => ?_) (fun c95 => ?_)
          · refine px_cVW (ci := 4) rfl q_X4_closeBlock_108 hg rfl ⟨⟨trivial, (by first | exact hw.1 | exact hw.2.1 | exact hw.2.2 | with_reducible assumption | decide | (refine ⟨?_, ?_⟩ <;> grind) | (simp only [px_ur]; refine ⟨?_, ?_⟩ <;> grind))⟩, (by first | exact hw.1 | exact hw.2.1 | exact hw.2.2 | with_reducible assumption | decide | (refine ⟨?_, ?_⟩ <;> grind) | (simp only [px_ur]; refine ⟨?_, ?_⟩ <;> grind))⟩ lk_4_145 nm_X4_addSteps (xs_addSteps hg hw _ (show cRd w _ from (by repeat (first | exact hr | refine cRr.up ?_ (by unfold cOk; (try simp only [px_app, px_ur]); grind)) : cRr w I _).1)) rfl rfl (px_lit hg rfl) rfl rfl rfl ⟨rfl, rfl⟩ ?_
            intro I122 L122 h122
            obtain ⟨rfl, g122, h122⟩ := h122
            replace hr : cRr w I I122 := cRr.trans (by repeat (first | exact hr | refine cRr.up ?_ (by unfold cOk; (try simp only [px_app, px_ur]); grind))) h122
            clear d0 d1 d2 d3 d4 d5 d6 d7 d8 d9
            obtain ⟨d0, d1, d2, d3, d4, d5, d6, d7, d8, d9⟩ := cRd.op hr.1
            refine px_rvW rfl q_X4_closeBlock_125 rfl rfl rfl hg rfl trivial ⟨⟨rfl, rfl⟩, ?_⟩
            exact ⟨rfl, (by
                subst g122
                have eK : xCB1 w (px_u I 76 7 (I 76 7 - 1)) (I 76 7) = (px_u I 76 7 (I 76 7 - 1)) := if_neg c40
                unfold xCB
                rw [if_pos h7, eK]
                unfold xCB2
                refine Eq.symm ?_
                refine (if_neg (fun q => absurd q.1 c60)).trans ?_
                refine (if_pos (Int32.not_le.mp c85)).trans ?_
                have e3 : xCB3 w (px_u I 76 7 (I 76 7 - 1)) (I 76 7) = (px_u I 76 7 (I 76 7 - 1)) := if_neg (Int32.not_lt.mpr c95)
                rw [e3]), (by repeat (first | exact hr | refine cRr.up ?_ (by unfold cOk; (try simp only [px_app, px_ur]); grind)))⟩
          · refine px_cVW (ci := 10) rfl q_X4_closeBlock_98 hg rfl trivial lk_4_142 nm_X10_add (c_add hg hw _ _ (by first | exact d8.1 | (simp only [px_ur]; grind))) rfl rfl hw.1 rfl rfl rfl ⟨rfl, rfl⟩ ?_
            intro I105 L105 h105
            obtain ⟨rfl, g105⟩ := h105
            replace hr : cRr w I I105 := cRr.add (by repeat (first | exact hr | refine cRr.up ?_ (by unfold cOk; (try simp only [px_app, px_ur]); grind))) g105 (by decide)
            clear d0 d1 d2 d3 d4 d5 d6 d7 d8 d9
            obtain ⟨d0, d1, d2, d3, d4, d5, d6, d7, d8, d9⟩ := cRd.op hr.1
            refine px_cVW (ci := 4) rfl q_X4_closeBlock_108 hg rfl ⟨⟨trivial, (by first | exact hw.1 | exact hw.2.1 | exact hw.2.2 | with_reducible assumption | decide | (refine ⟨?_, ?_⟩ <;> grind) | (simp only [px_ur]; refine ⟨?_, ?_⟩ <;> grind))⟩, (by first | exact hw.1 | exact hw.2.1 | exact hw.2.2 | with_reducible assumption | decide | (refine ⟨?_, ?_⟩ <;> grind) | (simp only [px_ur]; refine ⟨?_, ?_⟩ <;> grind))⟩ lk_4_145 nm_X4_addSteps (xs_addSteps hg hw _ (show cRd w _ from (by repeat (first | exact hr | refine cRr.up ?_ (by unfold cOk; (try simp only [px_app, px_ur]); grind)) : cRr w I _).1)) rfl rfl (px_lit hg rfl) rfl rfl rfl ⟨rfl, rfl⟩ ?_
            intro I122 L122 h122
            obtain ⟨rfl, g122, h122⟩ := h122
            replace hr : cRr w I I122 := cRr.trans (by repeat (first | exact hr | refine cRr.up ?_ (by unfold cOk; (try simp only [px_app, px_ur]); grind))) h122
            clear d0 d1 d2 d3 d4 d5 d6 d7 d8 d9
            obtain ⟨d0, d1, d2, d3, d4, d5, d6, d7, d8, d9⟩ := cRd.op hr.1
            refine px_rvW rfl q_X4_closeBlock_125 rfl rfl rfl hg rfl trivial ⟨⟨rfl, rfl⟩, ?_⟩
            exact ⟨rfl, (by
                subst g122
                subst g105
                have eK : xCB1 w (px_u I 76 7 (I 76 7 - 1)) (I 76 7) = (px_u I 76 7 (I 76 7 - 1)) := if_neg c40
                unfold xCB
                rw [if_pos h7, eK]
                unfold xCB2
                refine Eq.symm ?_
                refine (if_neg (fun q => absurd q.1 c60)).trans ?_
                refine (if_pos (Int32.not_le.mp c85)).trans ?_
                have e3 : xCB3 w (px_u I 76 7 (I 76 7 - 1)) (I 76 7) = cAdd (px_u I 76 7 (I 76 7 - 1)) w 7 0 := if_pos (Int32.not_le.mp c95)
                rw [e3]), (by repeat (first | exact hr | refine cRr.up ?_ (by unfold cOk; (try simp only [px_app, px_ur]); grind)))⟩
      · refine px_ieq rfl q_X4_closeBlock_63 hg rfl trivial (fun c68 => ?_) (fun c68 => ?_)
        · refine px_le rfl q_X4_closeBlock_79 hg rfl ⟨trivial, (by first | exact hw.1 | exact hw.2.1 | exact hw.2.2 | with_reducible assumption | decide | (refine ⟨?_, ?_⟩ <;> grind) | (simp only [px_ur]; refine ⟨?_, ?_⟩ <;> grind))⟩ (fun c85 => ?_) (fun c85 => ?_)
          · refine px_rvW rfl q_X4_closeBlock_125 rfl rfl rfl hg rfl trivial ⟨⟨rfl, rfl⟩, ?_⟩
            exact ⟨rfl, (by
                have eK : xCB1 w (px_u I 76 7 (I 76 7 - 1)) (I 76 7) = (px_u I 76 7 (I 76 7 - 1)) := if_neg c40
                unfold xCB
                rw [if_pos h7, eK]
                unfold xCB2
                refine Eq.symm ?_
                refine (if_neg (fun q => q.2 c68)).trans ?_
                exact if_neg (Int32.not_lt.mpr c85)), (by repeat (first | exact hr | refine cRr.up ?_ (by unfold cOk; (try simp only [px_app, px_ur]); grind)))⟩
          · refine px_ile rfl q_X4_closeBlock_88 hg rfl ⟨trivial, (by first | exact hw.1 | exact hw.2.1 | exact hw.2.2 | with_reducible assumption | decide | (refine ⟨?_, ?_⟩ <;> grind) | (simp only [px_ur]; refine ⟨?_, ?_⟩ <;> grind))⟩ (fun c95 => ?_) (fun c95 => ?_)
            · refine px_cVW (ci := 4) rfl q_X4_closeBlock_108 hg rfl ⟨⟨trivial, (by first | exact hw.1 | exact hw.2.1 | exact hw.2.2 | with_reducible assumption | decide | (refine ⟨?_, ?_⟩ <;> grind) | (simp only [px_ur]; refine ⟨?_, ?_⟩ <;> grind))⟩, (by first | exact hw.1 | exact hw.2.1 | exact hw.2.2 | with_reducible assumption | decide | (refine ⟨?_, ?_⟩ <;> grind) | (simp only [px_ur]; refine ⟨?_, ?_⟩ <;> grind))⟩ lk_4_145 nm_X4_addSteps (xs_addSteps hg hw _ (show cRd w _ from (by repeat (first | exact hr | refine cRr.up ?_ (by unfold cOk; (try simp only [px_app, px_ur]); grind)) : cRr w I _).1)) rfl rfl (px_lit hg rfl) rfl rfl rfl ⟨rfl, rfl⟩ ?_
              intro I122 L122 h122
              obtain ⟨rfl, g122, h122⟩ := h122
              replace hr : cRr w I I122 := cRr.trans (by repeat (first | exact hr | refine cRr.up ?_ (by unfold cOk; (try simp only [px_app, px_ur]); grind))) h122
              clear d0 d1 d2 d3 d4 d5 d6 d7 d8 d9
              obtain ⟨d0, d1, d2, d3, d4, d5, d6, d7, d8, d9⟩ := cRd.op hr.1
              refine px_rvW rfl q_X4_closeBlock_125 rfl rfl rfl hg rfl trivial ⟨⟨rfl, rfl⟩, ?_⟩
              exact ⟨rfl, (by
                  subst g122
                  have eK : xCB1 w (px_u I 76 7 (I 76 7 - 1)) (I 76 7) = (px_u I 76 7 (I 76 7 - 1)) := if_neg c40
                  unfold xCB
                  rw [if_pos h7, eK]
                  unfold xCB2
                  refine Eq.symm ?_
                  refine (if_neg (fun q => q.2 c68)).trans ?_
                  refine (if_pos (Int32.not_le.mp c85)).trans ?_
                  have e3 : xCB3 w (px_u I 76 7 (I 76 7 - 1)) (I 76 7) = (px_u I 76 7 (I 76 7 - 1)) := if_neg (Int32.not_lt.mpr c95)
                  rw [e3]), (by repeat (first | exact hr | refine cRr.up ?_ (by unfold cOk; (try simp only [px_app, px_ur]); grind)))⟩
            · refine px_cVW (ci := 10) rfl q_X4_closeBlock_98 hg rfl trivial lk_4_142 nm_X10_add (c_add hg hw _ _ (by first | exact d8.1 | (simp only [px_ur]; grind))) rfl rfl hw.1 rfl rfl rfl ⟨rfl, rfl⟩ ?_
              intro I105 L105 h105
              obtain ⟨rfl, g105⟩ := h105
              replace hr : cRr w I I105 := cRr.add (by repeat (first | exact hr | refine cRr.up ?_ (by unfold cOk; (try simp only [px_app, px_ur]); grind))) g105 (by decide)
              clear d0 d1 d2 d3 d4 d5 d6 d7 d8 d9
              obtain ⟨d0, d1, d2, d3, d4, d5, d6, d7, d8, d9⟩ := cRd.op hr.1
              refine px_cVW (ci := 4) rfl q_X4_closeBlock_108 hg rfl ⟨⟨trivial, (by first | exact hw.1 | exact hw.2.1 | exact hw.2.2 | with_reducible assumption | decide | (refine ⟨?_, ?_⟩ <;> grind) | (simp only [px_ur]; refine ⟨?_, ?_⟩ <;> grind))⟩, (by first | exact hw.1 | exact hw.2.1 | exact hw.2.2 | with_reducible assumption | decide | (refine ⟨?_, ?_⟩ <;> grind) | (simp only [px_ur]; refine ⟨?_, ?_⟩ <;> grind))⟩ lk_4_145 nm_X4_addSteps (xs_addSteps hg hw _ (show cRd w _ from (by repeat (first | exact hr | refine cRr.up ?_ (by unfold cOk; (try simp only [px_app, px_ur]); grind)) : cRr w I _).1)) rfl rfl (px_lit hg rfl) rfl rfl rfl ⟨rfl, rfl⟩ ?_
              intro I122 L122 h122
              obtain ⟨rfl, g122, h122⟩ := h122
              replace hr : cRr w I I122 := cRr.trans (by repeat (first | exact hr | refine cRr.up ?_ (by unfold cOk; (try simp only [px_app, px_ur]); grind))) h122
              clear d0 d1 d2 d3 d4 d5 d6 d7 d8 d9
              obtain ⟨d0, d1, d2, d3, d4, d5, d6, d7, d8, d9⟩ := cRd.op hr.1
              refine px_rvW rfl q_X4_closeBlock_125 rfl rfl rfl hg rfl trivial ⟨⟨rfl, rfl⟩, ?_⟩
              exact ⟨rfl, (by
                  subst g122
                  subst g105
                  have eK : xCB1 w (px_u I 76 7 (I 76 7 - 1)) (I 76 7) = (px_u I 76 7 (I 76 7 - 1)) := if_neg c40
                  unfold xCB
                  rw [if_pos h7, eK]
                  unfold xCB2
                  refine Eq.symm ?_
                  refine (if_neg (fun q => q.2 c68)).trans ?_
                  refine (if_pos (Int32.not_le.mp c85)).trans ?_
                  have e3 : xCB3 w (px_u I 76 7 (I 76 7 - 1)) (I 76 7) = cAdd (px_u I 76 7 (I 76 7 - 1)) w 7 0 := if_pos (Int32.not_le.mp c95)
                  rw [e3]), (by repeat (first | exact hr | refine cRr.up ?_ (by unfold cOk; (try simp only [px_app, px_ur]); grind)))⟩
        · refine px_cVW (ci := 4) rfl q_X4_closeBlock_71 hg rfl trivial lk_4_162 nm_X4_closeDef (xs_closeDef hg hw _ (by grind) (show cRd w _ from (by repeat (first | exact hr | refine cRr.up ?_ (by unfold cOk; (try simp only [px_app, px_ur]); grind)) : cRr w I _).1)) rfl rfl (px_lit hg rfl) rfl rfl rfl ⟨rfl, rfl⟩ ?_
          intro I73 L73 h73
          obtain ⟨rfl, g73, h73⟩ := h73
          replace hr : cRr w I I73 := cRr.trans (by repeat (first | exact hr | refine cRr.up ?_ (by unfold cOk; (try simp only [px_app, px_ur]); grind))) h73
          clear d0 d1 d2 d3 d4 d5 d6 d7 d8 d9
          obtain ⟨d0, d1, d2, d3, d4, d5, d6, d7, d8, d9⟩ := cRd.op hr.1
          refine px_rvW rfl q_X4_closeBlock_76 rfl rfl rfl hg rfl trivial ⟨⟨rfl, rfl⟩, ?_⟩
          exact ⟨rfl, (by
              subst g73
              have eK : xCB1 w (px_u I 76 7 (I 76 7 - 1)) (I 76 7) = (px_u I 76 7 (I 76 7 - 1)) := if_neg c40
              unfold xCB
              rw [if_pos h7, eK]
              unfold xCB2
              refine Eq.symm ?_
              exact if_pos ⟨c60, c68⟩), (by repeat (first | exact hr | refine cRr.up ?_ (by unfold cOk; (try simp only [px_app, px_ur]); grind)))⟩
    · refine px_ne rfl q_X4_closeBlock_43 hg rfl ⟨⟨trivial, (by first | exact hw.1 | exact hw.2.1 | exact hw.2.2 | with_reducible assumption | decide | (refine ⟨?_, ?_⟩ <;> grind) | (simp only [px_ur]; refine ⟨?_, ?_⟩ <;> grind))⟩, (by first | exact hw.1 | exact hw.2.1 | exact hw.2.2 | with_reducible assumption | decide | (refine ⟨?_, ?_⟩ <;> grind) | (simp only [px_ur]; refine ⟨?_, ?_⟩ <;> grind))⟩ (fun c60 => ?_) (fun c60 => ?_)
      · refine px_le rfl q_X4_closeBlock_79 hg rfl ⟨trivial, (by first | exact hw.1 | exact hw.2.1 | exact hw.2.2 | with_reducible assumption | decide | (refine ⟨?_, ?_⟩ <;> grind) | (simp only [px_ur]; refine ⟨?_, ?_⟩ <;> grind))⟩ (fun c85 => ?_) (fun c85 => ?_)
        · refine px_rvW rfl q_X4_closeBlock_125 rfl rfl rfl hg rfl trivial ⟨⟨rfl, rfl⟩, ?_⟩
          exact ⟨rfl, (by
              have eK : xCB1 w (px_u I 76 7 (I 76 7 - 1)) (I 76 7) = (px_u (px_u I 76 7 (I 76 7 - 1)) w 2 ((px_u I 76 7 (I 76 7 - 1)) 80 (I 76 7).toNatClampNeg)) := if_pos c40
              unfold xCB
              rw [if_pos h7, eK]
              unfold xCB2
              refine Eq.symm ?_
              refine (if_neg (fun q => absurd q.1 c60)).trans ?_
              exact if_neg (Int32.not_lt.mpr c85)), (by repeat (first | exact hr | refine cRr.up ?_ (by unfold cOk; (try simp only [px_app, px_ur]); grind)))⟩
        · refine px_ile rfl q_X4_closeBlock_88 hg rfl ⟨trivial, (by first | exact hw.1 | exact hw.2.1 | exact hw.2.2 | with_reducible assumption | decide | (refine ⟨?_, ?_⟩ <;> grind) | (simp only [px_ur]; refine ⟨?_, ?_⟩ <;> grind))⟩ (fun c95 => ?_) (fun c95 => ?_)
          · refine px_cVW (ci := 4) rfl q_X4_closeBlock_108 hg rfl ⟨⟨trivial, (by first | exact hw.1 | exact hw.2.1 | exact hw.2.2 | with_reducible assumption | decide | (refine ⟨?_, ?_⟩ <;> grind) | (simp only [px_ur]; refine ⟨?_, ?_⟩ <;> grind))⟩, (by first | exact hw.1 | exact hw.2.1 | exact hw.2.2 | with_reducible assumption | decide | (refine ⟨?_, ?_⟩ <;> grind) | (simp only [px_ur]; refine ⟨?_, ?_⟩ <;> grind))⟩ lk_4_145 nm_X4_addSteps (xs_addSteps hg hw _ (show cRd w _ from (by repeat (first | exact hr | refine cRr.up ?_ (by unfold cOk; (try simp only [px_app, px_ur]); grind)) : cRr w I _).1)) rfl rfl (px_lit hg rfl) rfl rfl rfl ⟨rfl, rfl⟩ ?_
            intro I122 L122 h122
            obtain ⟨rfl, g122, h122⟩ := h122
            replace hr : cRr w I I122 := cRr.trans (by repeat (first | exact hr | refine cRr.up ?_ (by unfold cOk; (try simp only [px_app, px_ur]); grind))) h122
            clear d0 d1 d2 d3 d4 d5 d6 d7 d8 d9
            obtain ⟨d0, d1, d2, d3, d4, d5, d6, d7, d8, d9⟩ := cRd.op hr.1
            refine px_rvW rfl q_X4_closeBlock_125 rfl rfl rfl hg rfl trivial ⟨⟨rfl, rfl⟩, ?_⟩
            exact ⟨rfl, (by
                subst g122
                have eK : xCB1 w (px_u I 76 7 (I 76 7 - 1)) (I 76 7) = (px_u (px_u I 76 7 (I 76 7 - 1)) w 2 ((px_u I 76 7 (I 76 7 - 1)) 80 (I 76 7).toNatClampNeg)) := if_pos c40
                unfold xCB
                rw [if_pos h7, eK]
                unfold xCB2
                refine Eq.symm ?_
                refine (if_neg (fun q => absurd q.1 c60)).trans ?_
                refine (if_pos (Int32.not_le.mp c85)).trans ?_
                have e3 : xCB3 w (px_u (px_u I 76 7 (I 76 7 - 1)) w 2 ((px_u I 76 7 (I 76 7 - 1)) 80 (I 76 7).toNatClampNeg)) (I 76 7) = (px_u (px_u I 76 7 (I 76 7 - 1)) w 2 ((px_u I 76 7 (I 76 7 - 1)) 80 (I 76 7).toNatClampNeg)) := if_neg (Int32.not_lt.mpr c95)
                rw [e3]), (by repeat (first | exact hr | refine cRr.up ?_ (by unfold cOk; (try simp only [px_app, px_ur]); grind)))⟩
          · refine px_cVW (ci := 10) rfl q_X4_closeBlock_98 hg rfl trivial lk_4_142 nm_X10_add (c_add hg hw _ _ (by first | exact d8.1 | (simp only [px_ur]; grind))) rfl rfl hw.1 rfl rfl rfl ⟨rfl, rfl⟩ ?_
            intro I105 L105 h105
            obtain ⟨rfl, g105⟩ := h105
            replace hr : cRr w I I105 := cRr.add (by repeat (first | exact hr | refine cRr.up ?_ (by unfold cOk; (try simp only [px_app, px_ur]); grind))) g105 (by decide)
            clear d0 d1 d2 d3 d4 d5 d6 d7 d8 d9
            obtain ⟨d0, d1, d2, d3, d4, d5, d6, d7, d8, d9⟩ := cRd.op hr.1
            refine px_cVW (ci := 4) rfl q_X4_closeBlock_108 hg rfl ⟨⟨trivial, (by first | exact hw.1 | exact hw.2.1 | exact hw.2.2 | with_reducible assumption | decide | (refine ⟨?_, ?_⟩ <;> grind) | (simp only [px_ur]; refine ⟨?_, ?_⟩ <;> grind))⟩, (by first | exact hw.1 | exact hw.2.1 | exact hw.2.2 | with_reducible assumption | decide | (refine ⟨?_, ?_⟩ <;> grind) | (simp only [px_ur]; refine ⟨?_, ?_⟩ <;> grind))⟩ lk_4_145 nm_X4_addSteps (xs_addSteps hg hw _ (show cRd w _ from (by repeat (first | exact hr | refine cRr.up ?_ (by unfold cOk; (try simp only [px_app, px_ur]); grind)) : cRr w I _).1)) rfl rfl (px_lit hg rfl) rfl rfl rfl ⟨rfl, rfl⟩ ?_
            intro I122 L122 h122
            obtain ⟨rfl, g122, h122⟩ := h122
            replace hr : cRr w I I122 := cRr.trans (by repeat (first | exact hr | refine cRr.up ?_ (by unfold cOk; (try simp only [px_app, px_ur]); grind))) h122
            clear d0 d1 d2 d3 d4 d5 d6 d7 d8 d9
            obtain ⟨d0, d1, d2, d3, d4, d5, d6, d7, d8, d9⟩ := cRd.op hr.1
            refine px_rvW rfl q_X4_closeBlock_125 rfl rfl rfl hg rfl trivial ⟨⟨rfl, rfl⟩, ?_⟩
            exact ⟨rfl, (by
                subst g122
                subst g105
                have eK : xCB1 w (px_u I 76 7 (I 76 7 - 1)) (I 76 7) = (px_u (px_u I 76 7 (I 76 7 - 1)) w 2 ((px_u I 76 7 (I 76 7 - 1)) 80 (I 76 7).toNatClampNeg)) := if_pos c40
                unfold xCB
                rw [if_pos h7, eK]
                unfold xCB2
                refine Eq.symm ?_
                refine (if_neg (fun q => absurd q.1 c60)).trans ?_
                refine (if_pos (Int32.not_le.mp c85)).trans ?_
                have e3 : xCB3 w (px_u (px_u I 76 7 (I 76 7 - 1)) w 2 ((px_u I 76 7 (I 76 7 - 1)) 80 (I 76 7).toNatClampNeg)) (I 76 7) = cAdd (px_u (px_u I 76 7 (I 76 7 - 1)) w 2 ((px_u I 76 7 (I 76 7 - 1)) 80 (I 76 7).toNatClampNeg)) w 7 0 := if_pos (Int32.not_le.mp c95)
                rw [e3]), (by repeat (first | exact hr | refine cRr.up ?_ (by unfold cOk; (try simp only [px_app, px_ur]); grind)))⟩
      · refine px_ieq rfl q_X4_closeBlock_63 hg rfl trivial (fun c68 => ?_) (fun c68 => ?_)
        · refine px_le rfl q_X4_closeBlock_79 hg rfl ⟨trivial, (by first | exact hw.1 | exact hw.2.1 | exact hw.2.2 | with_reducible assumption | decide | (refine ⟨?_, ?_⟩ <;> grind) | (simp only [px_ur]; refine ⟨?_, ?_⟩ <;> grind))⟩ (fun c85 => ?_) (fun c85 => ?_)
          · refine px_rvW rfl q_X4_closeBlock_125 rfl rfl rfl hg rfl trivial ⟨⟨rfl, rfl⟩, ?_⟩
            exact ⟨rfl, (by
                have eK : xCB1 w (px_u I 76 7 (I 76 7 - 1)) (I 76 7) = (px_u (px_u I 76 7 (I 76 7 - 1)) w 2 ((px_u I 76 7 (I 76 7 - 1)) 80 (I 76 7).toNatClampNeg)) := if_pos c40
                unfold xCB
                rw [if_pos h7, eK]
                unfold xCB2
                refine Eq.symm ?_
                refine (if_neg (fun q => q.2 c68)).trans ?_
                exact if_neg (Int32.not_lt.mpr c85)), (by repeat (first | exact hr | refine cRr.up ?_ (by unfold cOk; (try simp only [px_app, px_ur]); grind)))⟩
          · refine px_ile rfl q_X4_closeBlock_88 hg rfl ⟨trivial, (by first | exact hw.1 | exact hw.2.1 | exact hw.2.2 | with_reducible assumption | decide | (refine ⟨?_, ?_⟩ <;> grind) | (simp only [px_ur]; refine ⟨?_, ?_⟩ <;> grind))⟩ (fun c95 => ?_) (fun c95 => ?_)
            · refine px_cVW (ci := 4) rfl q_X4_closeBlock_108 hg rfl ⟨⟨trivial, (by first | exact hw.1 | exact hw.2.1 | exact hw.2.2 | with_reducible assumption | decide | (refine ⟨?_, ?_⟩ <;> grind) | (simp only [px_ur]; refine ⟨?_, ?_⟩ <;> grind))⟩, (by first | exact hw.1 | exact hw.2.1 | exact hw.2.2 | with_reducible assumption | decide | (refine ⟨?_, ?_⟩ <;> grind) | (simp only [px_ur]; refine ⟨?_, ?_⟩ <;> grind))⟩ lk_4_145 nm_X4_addSteps (xs_addSteps hg hw _ (show cRd w _ from (by repeat (first | exact hr | refine cRr.up ?_ (by unfold cOk; (try simp only [px_app, px_ur]); grind)) : cRr w I _).1)) rfl rfl (px_lit hg rfl) rfl rfl rfl ⟨rfl, rfl⟩ ?_
              intro I122 L122 h122
              obtain ⟨rfl, g122, h122⟩ := h122
              replace hr : cRr w I I122 := cRr.trans (by repeat (first | exact hr | refine cRr.up ?_ (by unfold cOk; (try simp only [px_app, px_ur]); grind))) h122
              clear d0 d1 d2 d3 d4 d5 d6 d7 d8 d9
              obtain ⟨d0, d1, d2, d3, d4, d5, d6, d7, d8, d9⟩ := cRd.op hr.1
              refine px_rvW rfl q_X4_closeBlock_125 rfl rfl rfl hg rfl trivial ⟨⟨rfl, rfl⟩, ?_⟩
              exact ⟨rfl, (by
                  subst g122
                  have eK : xCB1 w (px_u I 76 7 (I 76 7 - 1)) (I 76 7) = (px_u (px_u I 76 7 (I 76 7 - 1)) w 2 ((px_u I 76 7 (I 76 7 - 1)) 80 (I 76 7).toNatClampNeg)) := if_pos c40
                  unfold xCB
                  rw [if_pos h7, eK]
                  unfold xCB2
                  refine Eq.symm ?_
                  refine (if_neg (fun q => q.2 c68)).trans ?_
                  refine (if_pos (Int32.not_le.mp c85)).trans ?_
                  have e3 : xCB3 w (px_u (px_u I 76 7 (I 76 7 - 1)) w 2 ((px_u I 76 7 (I 76 7 - 1)) 80 (I 76 7).toNatClampNeg)) (I 76 7) = (px_u (px_u I 76 7 (I 76 7 - 1)) w 2 ((px_u I 76 7 (I 76 7 - 1)) 80 (I 76 7).toNatClampNeg)) := if_neg (Int32.not_lt.mpr c95)
                  rw [e3]), (by repeat (first | exact hr | refine cRr.up ?_ (by unfold cOk; (try simp only [px_app, px_ur]); grind)))⟩
            · refine px_cVW (ci := 10) rfl q_X4_closeBlock_98 hg rfl trivial lk_4_142 nm_X10_add (c_add hg hw _ _ (by first | exact d8.1 | (simp only [px_ur]; grind))) rfl rfl hw.1 rfl rfl rfl ⟨rfl, rfl⟩ ?_
              intro I105 L105 h105
              obtain ⟨rfl, g105⟩ := h105
              replace hr : cRr w I I105 := cRr.add (by repeat (first | exact hr | refine cRr.up ?_ (by unfold cOk; (try simp only [px_app, px_ur]); grind))) g105 (by decide)
              clear d0 d1 d2 d3 d4 d5 d6 d7 d8 d9
              obtain ⟨d0, d1, d2, d3, d4, d5, d6, d7, d8, d9⟩ := cRd.op hr.1
              refine px_cVW (ci := 4) rfl q_X4_closeBlock_108 hg rfl ⟨⟨trivial, (by first | exact hw.1 | exact hw.2.1 | exact hw.2.2 | with_reducible assumption | decide | (refine ⟨?_, ?_⟩ <;> grind) | (simp only [px_ur]; refine ⟨?_, ?_⟩ <;> grind))⟩, (by first | exact hw.1 | exact hw.2.1 | exact hw.2.2 | with_reducible assumption | decide | (refine ⟨?_, ?_⟩ <;> grind) | (simp only [px_ur]; refine ⟨?_, ?_⟩ <;> grind))⟩ lk_4_145 nm_X4_addSteps (xs_addSteps hg hw _ (show cRd w _ from (by repeat (first | exact hr | refine cRr.up ?_ (by unfold cOk; (try simp only [px_app, px_ur]); grind)) : cRr w I _).1)) rfl rfl (px_lit hg rfl) rfl rfl rfl ⟨rfl, rfl⟩ ?_
              intro I122 L122 h122
              obtain ⟨rfl, g122, h122⟩ := h122
              replace hr : cRr w I I122 := cRr.trans (by repeat (first | exact hr | refine cRr.up ?_ (by unfold cOk; (try simp only [px_app, px_ur]); grind))) h122
              clear d0 d1 d2 d3 d4 d5 d6 d7 d8 d9
              obtain ⟨d0, d1, d2, d3, d4, d5, d6, d7, d8, d9⟩ := cRd.op hr.1
              refine px_rvW rfl q_X4_closeBlock_125 rfl rfl rfl hg rfl trivial ⟨⟨rfl, rfl⟩, ?_⟩
              exact ⟨rfl, (by
                  subst g122
                  subst g105
                  have eK : xCB1 w (px_u I 76 7 (I 76 7 - 1)) (I 76 7) = (px_u (px_u I 76 7 (I 76 7 - 1)) w 2 ((px_u I 76 7 (I 76 7 - 1)) 80 (I 76 7).toNatClampNeg)) := if_pos c40
                  unfold xCB
                  rw [if_pos h7, eK]
                  unfold xCB2
                  refine Eq.symm ?_
                  refine (if_neg (fun q => q.2 c68)).trans ?_
                  refine (if_pos (Int32.not_le.mp c85)).trans ?_
                  have e3 : xCB3 w (px_u (px_u I 76 7 (I 76 7 - 1)) w 2 ((px_u I 76 7 (I 76 7 - 1)) 80 (I 76 7).toNatClampNeg)) (I 76 7) = cAdd (px_u (px_u I 76 7 (I 76 7 - 1)) w 2 ((px_u I 76 7 (I 76 7 - 1)) 80 (I 76 7).toNatClampNeg)) w 7 0 := if_pos (Int32.not_le.mp c95)
                  rw [e3]), (by repeat (first | exact hr | refine cRr.up ?_ (by unfold cOk; (try simp only [px_app, px_ur]); grind)))⟩
        · refine px_cVW (ci := 4) rfl q_X4_closeBlock_71 hg rfl trivial lk_4_162 nm_X4_closeDef (xs_closeDef hg hw _ (by grind) (show cRd w _ from (by repeat (first | exact hr | refine cRr.up ?_ (by unfold cOk; (try simp only [px_app, px_ur]); grind)) : cRr w I _).1)) rfl rfl (px_lit hg rfl) rfl rfl rfl ⟨rfl, rfl⟩ ?_
          intro I73 L73 h73
          obtain ⟨rfl, g73, h73⟩ := h73
          replace hr : cRr w I I73 := cRr.trans (by repeat (first | exact hr | refine cRr.up ?_ (by unfold cOk; (try simp only [px_app, px_ur]); grind))) h73
          clear d0 d1 d2 d3 d4 d5 d6 d7 d8 d9
          obtain ⟨d0, d1, d2, d3, d4, d5, d6, d7, d8, d9⟩ := cRd.op hr.1
          refine px_rvW rfl q_X4_closeBlock_76 rfl rfl rfl hg rfl trivial ⟨⟨rfl, rfl⟩, ?_⟩
          exact ⟨rfl, (by
              subst g73
              have eK : xCB1 w (px_u I 76 7 (I 76 7 - 1)) (I 76 7) = (px_u (px_u I 76 7 (I 76 7 - 1)) w 2 ((px_u I 76 7 (I 76 7 - 1)) 80 (I 76 7).toNatClampNeg)) := if_pos c40
              unfold xCB
              rw [if_pos h7, eK]
              unfold xCB2
              refine Eq.symm ?_
              exact if_pos ⟨c60, c68⟩), (by repeat (first | exact hr | refine cRr.up ?_ (by unfold cOk; (try simp only [px_app, px_ur]); grind)))⟩
  · replace h7 := px_bf h7 c10
    refine px_cVW (ci := 4) rfl q_X4_closeBlock_13 hg rfl trivial lk_4_86 nm_X4_fail (xs_fail hg hw _ (show cRd w _ from (by repeat (first | exact hr | refine cRr.up ?_ (by unfold cOk; (try simp only [px_app, px_ur]); grind)) : cRr w I _).1)) rfl rfl (px_lit hg rfl) rfl rfl rfl ⟨rfl, rfl⟩ ?_
    intro I15 L15 h15
    obtain ⟨rfl, g15, h15⟩ := h15
    replace hr : cRr w I I15 := cRr.trans (by repeat (first | exact hr | refine cRr.up ?_ (by unfold cOk; (try simp only [px_app, px_ur]); grind))) h15
    clear d0 d1 d2 d3 d4 d5 d6 d7 d8 d9
    obtain ⟨d0, d1, d2, d3, d4, d5, d6, d7, d8, d9⟩ := cRd.op hr.1
    refine px_rvW rfl q_X4_closeBlock_18 rfl rfl rfl hg rfl trivial ⟨⟨rfl, rfl⟩, ?_⟩
    exact ⟨rfl, (by
        subst g15
        exact (if_neg h7).symm), (by repeat (first | exact hr | refine cRr.up ?_ (by unfold cOk; (try simp only [px_app, px_ur]); grind)))⟩

set_option maxRecDepth 100000 in
theorem ls_isWord {n : Nat} {R : px_R} (hg : px_G n R) {Q : px_Q} (t : Int32) (i : Nat) (hi : i < 9) (ht : 0 ≤ t ∧ t < 401) {I : px_I} {L : px_L} (hq : ∀ r, (r = 0 ∨ r = 1) → (r = 1 ↔ ∀ j, j < px_len.getD i 0 → xBy I (I 73 t.toNatClampNeg + Int32.ofNat j) = (px_byt.getD i []).getD j 0) → Q (some (.int r)) n I L R) : ∀ k : Int32, k ≤ Int32.ofNat (px_len.getD i 0) → 0 ≤ k → (∀ j, j < k.toNatClampNeg → xBy I (I 73 t.toNatClampNeg + Int32.ofNat j) = (px_byt.getD i []).getD j 0) → px M_X8_isWord 0 0 41 [(0, .ref 70), (1, .int t), (2, .ref i), (3, .int k)] [] n I L R Q := by
  refine px_up _ (fun k ih hk => ?_)
  intro h0 hall
  have kz := px_len_lt i hi
  refine px_cVsP rfl q_X8_isWord_41 hg rfl trivial lk_8_64 nm_J0_length_8abf5 (j_length hg _ (by assumption)) rfl rfl (by assumption) rfl rfl ⟨rfl, rfl⟩ ?_
  intro x43 h43
  refine px_ige rfl q_X8_isWord_46 hg rfl trivial (fun c46 => ?_) (fun c46 => ?_)
  · refine px_rz rfl q_X8_isWord_77 rfl rfl rfl hg rfl trivial (by first | exact Or.inl rfl | exact Or.inr rfl | grind) ?_
    refine hq _ (Or.inr rfl) ⟨fun _ j hj => hall j ?_, fun _ => rfl⟩
    have e := xnat h0
    have e2 := Int32.le_iff_toInt_le.mp (Int32.not_lt.mp (by first | assumption | grind) : Int32.ofNat (px_len.getD i 0) ≤ k)
    rw [Int32.toInt_ofNat_of_lt (by omega)] at e2
    omega
  · have hk9 : 0 ≤ k ∧ k < Int32.ofNat (px_len.getD i 0) := ⟨h0, by grind⟩
    refine px_cVP (ci := 8) rfl q_X8_isWord_49 hg rfl ⟨trivial, (by with_reducible assumption)⟩ lk_8_32 nm_X8_byteAt (c_byteAt hg _) rfl rfl (px_lit hg rfl) rfl rfl rfl ⟨rfl, rfl⟩ ?_
    intro x58 h58
    refine px_cVsP rfl q_X8_isWord_61 hg rfl trivial lk_8_69 nm_J0_charAt_5068e (j_charAt hg _ _ (by assumption) (by assumption)) rfl rfl (by assumption) rfl rfl ⟨rfl, rfl⟩ ?_
    intro x63 h63
    refine px_ieq rfl q_X8_isWord_66 hg rfl trivial (fun c66 => ?_) (fun c66 => ?_)
    · refine px_b rfl q_X8_isWord_71 hg rfl trivial ?_
      have kl := jb_in hi hk9
      have l6 := (show ∀ i, i < 9 → px_len.getD i 0 ≤ 6 by decide) i hi
      have k9 : ¬ 1000 ≤ k := fun z => by
        have z2 := xnat h0
        have z := Int32.le_iff_toInt_le.mp z
        rw [show (1000 : Int32).toInt = 1000 by decide] at z
        omega
      have e58 : xBy I (I 73 t.toNatClampNeg + k) = (px_byt.getD i []).getD k.toNatClampNeg 0 := by rw [← h63, ← c66, h58]; rfl
      have kN := xnat h0
      have kI : Int32.ofNat k.toNatClampNeg = k := by rw [← Int32.toInt_inj, Int32.toInt_ofNat_of_lt (by have := jb_in hi hk9; omega), kN]
      have kup := Int32.lt_iff_toInt_lt.mp hk9.2
      exact px_go (ih (k + 1) (by grind) (by grind) (by grind) (fun j hj => by
        by_cases e : j = k.toNatClampNeg
        · rw [e, kI]; exact e58
        · refine hall j ?_
          have := (px_tnS h0 k9).1
          omega)) ⟨rfl, rfl, rfl, rfl, trivial⟩
    · refine px_rz rfl q_X8_isWord_69 rfl rfl rfl hg rfl trivial (by first | exact Or.inl rfl | exact Or.inr rfl | grind) ?_
      refine hq _ (Or.inl rfl) ⟨fun z => absurd z (by decide), fun z => absurd (z k.toNatClampNeg (jb_in hi hk9)) ?_⟩
      have kI : Int32.ofNat k.toNatClampNeg = k := by rw [← Int32.toInt_inj, Int32.toInt_ofNat_of_lt (by have := jb_in hi hk9; omega), xnat h0]
      rw [kI, ← h63]
      unfold xBy
      rw [← h58]
      exact c66

set_option maxRecDepth 100000 in
theorem xs_isWord {n : Nat} {I : px_I} {L : px_L} {R : px_R} (hg : px_G n R) (t : Int32) (i : Nat) (hi : i < 9) (ht : 0 ≤ I 70 6 ∧ I 70 6 ≤ 401) : px_KP M_X8_isWord [.ref 70, .int t, .ref i] n I L R (fun r => (r = 0 ∨ r = 1) ∧ (r = 1 ↔ xWd I t i = true)) := by
  refine px_of (plainFor_of_name np_RX8) (fun _ _ _ => trivial) rfl ?_
  refine px_cSNP rfl q_X8_isWord_0 hg rfl trivial lk_8_51 nm_X11_within (c_within hg _ _ _) rfl rfl rfl ⟨rfl, rfl⟩ ?_
  intro x8 h8
  refine px_eq rfl q_X8_isWord_11 hg rfl trivial (fun c11 => ?_) (fun c11 => ?_)
  · replace h8 := px_bf h8 c11
    refine px_rzP rfl q_X8_isWord_37 rfl rfl rfl hg rfl trivial ⟨⟨rfl, rfl, rfl, rfl⟩, (by first | exact Or.inl rfl | exact Or.inr rfl | grind), ?_⟩
    refine ⟨Or.inl rfl, fun z => absurd z (by decide), fun z => ?_⟩
    unfold xWd at z
    rw [decide_eq_true_iff] at z
    grind
  · replace h8 := px_bt h8 c11
    have ht9 : 0 ≤ t ∧ t < 401 := by grind
    refine px_ine rfl q_X8_isWord_14 hg rfl ⟨trivial, (by with_reducible assumption)⟩ (fun c21 => ?_) (fun c21 => ?_)
    · refine px_rzP rfl q_X8_isWord_37 rfl rfl rfl hg rfl trivial ⟨⟨rfl, rfl, rfl, rfl⟩, (by first | exact Or.inl rfl | exact Or.inr rfl | grind), ?_⟩
      refine ⟨Or.inl rfl, fun z => absurd z (by decide), fun z => ?_⟩
      unfold xWd at z
      rw [decide_eq_true_iff] at z
      grind
    · refine px_cVsP rfl q_X8_isWord_24 hg rfl ⟨trivial, (by with_reducible assumption)⟩ lk_8_64 nm_J0_length_8abf5 (j_length hg _ (by assumption)) rfl rfl (by assumption) rfl rfl ⟨rfl, rfl⟩ ?_
      intro x31 h31
      refine px_ieq rfl q_X8_isWord_34 hg rfl trivial (fun c34 => ?_) (fun c34 => ?_)
      · refine px_b rfl q_X8_isWord_39 hg rfl trivial ?_
        exact px_go (ls_isWord hg t i hi ht9 (fun r hr hx => ⟨rfl, rfl, r, rfl, rfl, rfl, hr, by
          rw [hx]
          unfold xWd
          rw [decide_eq_true_iff]
          grind⟩) 0 (jb_pos i hi) (by decide) (fun j hj => absurd hj (by rw [xz0]; omega))) ⟨rfl, rfl, rfl, rfl, trivial⟩
      · refine px_rzP rfl q_X8_isWord_37 rfl rfl rfl hg rfl trivial ⟨⟨rfl, rfl, rfl, rfl⟩, (by first | exact Or.inl rfl | exact Or.inr rfl | grind), ?_⟩
        refine ⟨Or.inl rfl, fun z => absurd z (by decide), fun z => ?_⟩
        unfold xWd at z
        rw [decide_eq_true_iff] at z
        grind

set_option maxRecDepth 100000 in
set_option maxHeartbeats 8000000 in
theorem xs_readPart {n : Nat} {I : px_I} {L : px_L} {R : px_R} {w : Nat} (hg : px_G n (cRW R w)) (hw : cWay n w) (hd : cRd w I) : px_KV M_X4_readPart [.ref 76] n I L (cRW R w) (fun I2 L2 => L2 = L ∧ I2 = xRP w I ∧ cRr w I I2) := by
  refine px_of (plainFor_of_name np_RX4) (fun _ _ _ => trivial) rfl ?_
  have hr := cRr.rfl' hd
  obtain ⟨d0, d1, d2, d3, d4, d5, d6, d7, d8, d9⟩ := cRd.op hd
  refine px_ne rfl q_X4_readPart_0 hg rfl trivial (fun c4 => ?_) (fun c4 => ?_)
  · refine px_b rfl q_X4_readPart_17 hg rfl trivial ?_
    refine px_ldS (i := 0) (by decide) rfl (by decide +kernel) ?_
    refine px_cVP (ci := 8) rfl q_X4_readPart_27 hg rfl trivial lk_4_98 nm_X8_isWord (xs_isWord hg _ _ (by decide) (by first | exact d1 | (simp only [px_ur]; grind))) rfl rfl (px_lit hg rfl) rfl rfl rfl ⟨rfl, rfl⟩ ?_
    intro x27 h27
    refine px_eq rfl q_X4_readPart_30 hg rfl trivial (fun c30 => ?_) (fun c30 => ?_)
    · refine px_b rfl q_X4_readPart_45 hg rfl trivial ?_
      refine px_ldS (i := 1) (by decide) rfl (by decide +kernel) ?_
      refine px_cVP (ci := 8) rfl q_X4_readPart_55 hg rfl trivial lk_4_98 nm_X8_isWord (xs_isWord hg _ _ (by decide) (by first | exact d1 | (simp only [px_ur]; grind))) rfl rfl (px_lit hg rfl) rfl rfl rfl ⟨rfl, rfl⟩ ?_
      intro x55 h55
      refine px_eq rfl q_X4_readPart_58 hg rfl trivial (fun c58 => ?_) (fun c58 => ?_)
      · refine px_b rfl q_X4_readPart_72 hg rfl trivial ?_
        refine px_ldS (i := 2) (by decide) rfl (by decide +kernel) ?_
        refine px_cVP (ci := 8) rfl q_X4_readPart_82 hg rfl trivial lk_4_98 nm_X8_isWord (xs_isWord hg _ _ (by decide) (by first | exact d1 | (simp only [px_ur]; grind))) rfl rfl (px_lit hg rfl) rfl rfl rfl ⟨rfl, rfl⟩ ?_
        intro x82 h82
        refine px_eq rfl q_X4_readPart_85 hg rfl trivial (fun c85 => ?_) (fun c85 => ?_)
        · refine px_b rfl q_X4_readPart_99 hg rfl trivial ?_
          refine px_ldS (i := 3) (by decide) rfl (by decide +kernel) ?_
          refine px_cVP (ci := 8) rfl q_X4_readPart_109 hg rfl trivial lk_4_98 nm_X8_isWord (xs_isWord hg _ _ (by decide) (by first | exact d1 | (simp only [px_ur]; grind))) rfl rfl (px_lit hg rfl) rfl rfl rfl ⟨rfl, rfl⟩ ?_
          intro x109 h109
          refine px_eq rfl q_X4_readPart_112 hg rfl trivial (fun c112 => ?_) (fun c112 => ?_)
          · refine px_b rfl q_X4_readPart_126 hg rfl trivial ?_
            refine px_ldS (i := 4) (by decide) rfl (by decide +kernel) ?_
            refine px_cVP (ci := 8) rfl q_X4_readPart_136 hg rfl trivial lk_4_98 nm_X8_isWord (xs_isWord hg _ _ (by decide) (by first | exact d1 | (simp only [px_ur]; grind))) rfl rfl (px_lit hg rfl) rfl rfl rfl ⟨rfl, rfl⟩ ?_
            intro x136 h136
            refine px_eq rfl q_X4_readPart_139 hg rfl trivial (fun c139 => ?_) (fun c139 => ?_)
            · refine px_b rfl q_X4_readPart_150 hg rfl trivial ?_
              refine px_ldS (i := 5) (by decide) rfl (by decide +kernel) ?_
              refine px_cVP (ci := 8) rfl q_X4_readPart_160 hg rfl trivial lk_4_98 nm_X8_isWord (xs_isWord hg _ _ (by decide) (by first | exact d1 | (simp only [px_ur]; grind))) rfl rfl (px_lit hg rfl) rfl rfl rfl ⟨rfl, rfl⟩ ?_
              intro x160 h160
              refine px_eq rfl q_X4_readPart_163 hg rfl trivial (fun c163 => ?_) (fun c163 => ?_)
              · refine px_b rfl q_X4_readPart_174 hg rfl trivial ?_
                refine px_ldS (i := 6) (by decide) rfl (by decide +kernel) ?_
                refine px_cVP (ci := 8) rfl q_X4_readPart_184 hg rfl trivial lk_4_98 nm_X8_isWord (xs_isWord hg _ _ (by decide) (by first | exact d1 | (simp only [px_ur]; grind))) rfl rfl (px_lit hg rfl) rfl rfl rfl ⟨rfl, rfl⟩ ?_
                intro x184 h184
                refine px_eq rfl q_X4_readPart_187 hg rfl trivial (fun c187 => ?_) (fun c187 => ?_)
                · refine px_b rfl q_X4_readPart_197 hg rfl trivial ?_
                  refine px_ldS (i := 7) (by decide) rfl (by decide +kernel) ?_
                  refine px_cVP (ci := 8) rfl q_X4_readPart_207 hg rfl trivial lk_4_98 nm_X8_isWord (xs_isWord hg _ _ (by decide) (by first | exact d1 | (simp only [px_ur]; grind))) rfl rfl (px_lit hg rfl) rfl rfl rfl ⟨rfl, rfl⟩ ?_
                  intro x207 h207
                  refine px_eq rfl q_X4_readPart_210 hg rfl trivial (fun c210 => ?_) (fun c210 => ?_)
                  · refine px_b rfl q_X4_readPart_220 hg rfl trivial ?_
                    refine px_ldS (i := 8) (by decide) rfl (by decide +kernel) ?_
                    refine px_cVP (ci := 8) rfl q_X4_readPart_230 hg rfl trivial lk_4_98 nm_X8_isWord (xs_isWord hg _ _ (by decide) (by first | exact d1 | (simp only [px_ur]; grind))) rfl rfl (px_lit hg rfl) rfl rfl rfl ⟨rfl, rfl⟩ ?_
                    intro x230 h230
                    refine px_eq rfl q_X4_readPart_233 hg rfl trivial (fun c233 => ?_) (fun c233 => ?_)
                    · refine px_cVW (ci := 4) rfl q_X4_readPart_250 hg rfl trivial lk_4_86 nm_X4_fail (xs_fail hg hw _ (show cRd w _ from (by repeat (first | exact hr | refine cRr.up ?_ (by unfold cOk; (try simp only [px_app, px_ur]); grind)) : cRr w I _).1)) rfl rfl (px_lit hg rfl) rfl rfl rfl ⟨rfl, rfl⟩ ?_
                      intro I252 L252 h252
                      obtain ⟨rfl, g252, h252⟩ := h252
                      replace hr : cRr w I I252 := cRr.trans (by repeat (first | exact hr | refine cRr.up ?_ (by unfold cOk; (try simp only [px_app, px_ur]); grind))) h252
                      clear d0 d1 d2 d3 d4 d5 d6 d7 d8 d9
                      obtain ⟨d0, d1, d2, d3, d4, d5, d6, d7, d8, d9⟩ := cRd.op hr.1
                      refine px_rvW rfl q_X4_readPart_255 rfl rfl rfl hg rfl trivial ⟨⟨rfl, rfl⟩, ?_⟩
                      exact ⟨rfl, (by
                          subst g252
                          have eP : xPp I = I := if_neg c4
                          unfold xRP
                          rw [eP]
                          unfold xRP2
                          refine Eq.symm ?_
                          refine (if_neg (xw0 h27 c30)).trans ?_
                          refine (if_neg (xw0 h55 c58)).trans ?_
                          refine (if_neg (xw0 h82 c85)).trans ?_
                          refine (if_neg (xw0 h109 c112)).trans ?_
                          refine (if_neg (xw0 h136 c139)).trans ?_
                          refine (if_neg (xw0 h160 c163)).trans ?_
                          refine (if_neg (xw0 h184 c187)).trans ?_
                          refine (if_neg (xw0 h207 c210)).trans ?_
                          refine (if_neg (fun q => xw0 h230 c233 q.1)).trans ?_
                          rfl), (by repeat (first | exact hr | refine cRr.up ?_ (by unfold cOk; (try simp only [px_app, px_ur]); grind)))⟩
                    · refine px_ne rfl q_X4_readPart_236 hg rfl trivial (fun c240 => ?_) (fun c240 => ?_)
                      · refine px_cVW (ci := 4) rfl q_X4_readPart_250 hg rfl trivial lk_4_86 nm_X4_fail (xs_fail hg hw _ (show cRd w _ from (by repeat (first | exact hr | refine cRr.up ?_ (by unfold cOk; (try simp only [px_app, px_ur]); grind)) : cRr w I _).1)) rfl rfl (px_lit hg rfl) rfl rfl rfl ⟨rfl, rfl⟩ ?_
                        intro I252 L252 h252
                        obtain ⟨rfl, g252, h252⟩ := h252
                        replace hr : cRr w I I252 := cRr.trans (by repeat (first | exact hr | refine cRr.up ?_ (by unfold cOk; (try simp only [px_app, px_ur]); grind))) h252
                        clear d0 d1 d2 d3 d4 d5 d6 d7 d8 d9
                        obtain ⟨d0, d1, d2, d3, d4, d5, d6, d7, d8, d9⟩ := cRd.op hr.1
                        refine px_rvW rfl q_X4_readPart_255 rfl rfl rfl hg rfl trivial ⟨⟨rfl, rfl⟩, ?_⟩
                        exact ⟨rfl, (by
                            subst g252
                            have eP : xPp I = I := if_neg c4
                            unfold xRP
                            rw [eP]
                            unfold xRP2
                            refine Eq.symm ?_
                            refine (if_neg (xw0 h27 c30)).trans ?_
                            refine (if_neg (xw0 h55 c58)).trans ?_
                            refine (if_neg (xw0 h82 c85)).trans ?_
                            refine (if_neg (xw0 h109 c112)).trans ?_
                            refine (if_neg (xw0 h136 c139)).trans ?_
                            refine (if_neg (xw0 h160 c163)).trans ?_
                            refine (if_neg (xw0 h184 c187)).trans ?_
                            refine (if_neg (xw0 h207 c210)).trans ?_
                            refine (if_neg (fun q => absurd q.2 c240)).trans ?_
                            rfl), (by repeat (first | exact hr | refine cRr.up ?_ (by unfold cOk; (try simp only [px_app, px_ur]); grind)))⟩
                      · refine px_cVW (ci := 4) rfl q_X4_readPart_243 hg rfl trivial lk_4_132 nm_X4_readDef (xs_readDef hg hw  (show cRd w _ from (by repeat (first | exact hr | refine cRr.up ?_ (by unfold cOk; (try simp only [px_app, px_ur]); grind)) : cRr w I _).1)) rfl rfl (px_lit hg rfl) rfl rfl rfl ⟨rfl, rfl⟩ ?_
                        intro I244 L244 h244
                        obtain ⟨rfl, g244, h244⟩ := h244
                        replace hr : cRr w I I244 := cRr.trans (by repeat (first | exact hr | refine cRr.up ?_ (by unfold cOk; (try simp only [px_app, px_ur]); grind))) h244
                        clear d0 d1 d2 d3 d4 d5 d6 d7 d8 d9
                        obtain ⟨d0, d1, d2, d3, d4, d5, d6, d7, d8, d9⟩ := cRd.op hr.1
                        refine px_rvW rfl q_X4_readPart_247 rfl rfl rfl hg rfl trivial ⟨⟨rfl, rfl⟩, ?_⟩
                        exact ⟨rfl, (by
                            subst g244
                            have eP : xPp I = I := if_neg c4
                            unfold xRP
                            rw [eP]
                            unfold xRP2
                            refine Eq.symm ?_
                            refine (if_neg (xw0 h27 c30)).trans ?_
                            refine (if_neg (xw0 h55 c58)).trans ?_
                            refine (if_neg (xw0 h82 c85)).trans ?_
                            refine (if_neg (xw0 h109 c112)).trans ?_
                            refine (if_neg (xw0 h136 c139)).trans ?_
                            refine (if_neg (xw0 h160 c163)).trans ?_
                            refine (if_neg (xw0 h184 c187)).trans ?_
                            refine (if_neg (xw0 h207 c210)).trans ?_
                            exact if_pos ⟨xw1 h230 c233, c240⟩), (by repeat (first | exact hr | refine cRr.up ?_ (by unfold cOk; (try simp only [px_app, px_ur]); grind)))⟩
                  · refine px_cVW (ci := 4) rfl q_X4_readPart_213 hg rfl trivial lk_4_127 nm_X4_readRepeat (xs_readRepeat hg hw  (show cRd w _ from (by repeat (first | exact hr | refine cRr.up ?_ (by unfold cOk; (try simp only [px_app, px_ur]); grind)) : cRr w I _).1)) rfl rfl (px_lit hg rfl) rfl rfl rfl ⟨rfl, rfl⟩ ?_
                    intro I214 L214 h214
                    obtain ⟨rfl, g214, h214⟩ := h214
                    replace hr : cRr w I I214 := cRr.trans (by repeat (first | exact hr | refine cRr.up ?_ (by unfold cOk; (try simp only [px_app, px_ur]); grind))) h214
                    clear d0 d1 d2 d3 d4 d5 d6 d7 d8 d9
                    obtain ⟨d0, d1, d2, d3, d4, d5, d6, d7, d8, d9⟩ := cRd.op hr.1
                    refine px_rvW rfl q_X4_readPart_217 rfl rfl rfl hg rfl trivial ⟨⟨rfl, rfl⟩, ?_⟩
                    exact ⟨rfl, (by
                        subst g214
                        have eP : xPp I = I := if_neg c4
                        unfold xRP
                        rw [eP]
                        unfold xRP2
                        refine Eq.symm ?_
                        refine (if_neg (xw0 h27 c30)).trans ?_
                        refine (if_neg (xw0 h55 c58)).trans ?_
                        refine (if_neg (xw0 h82 c85)).trans ?_
                        refine (if_neg (xw0 h109 c112)).trans ?_
                        refine (if_neg (xw0 h136 c139)).trans ?_
                        refine (if_neg (xw0 h160 c163)).trans ?_
                        refine (if_neg (xw0 h184 c187)).trans ?_
                        exact if_pos (xw1 h207 c210)), (by repeat (first | exact hr | refine cRr.up ?_ (by unfold cOk; (try simp only [px_app, px_ur]); grind)))⟩
                · refine px_cVW (ci := 4) rfl q_X4_readPart_190 hg rfl trivial lk_4_122 nm_X4_readDo (xs_readDo hg hw  (show cRd w _ from (by repeat (first | exact hr | refine cRr.up ?_ (by unfold cOk; (try simp only [px_app, px_ur]); grind)) : cRr w I _).1)) rfl rfl (px_lit hg rfl) rfl rfl rfl ⟨rfl, rfl⟩ ?_
                  intro I191 L191 h191
                  obtain ⟨rfl, g191, h191⟩ := h191
                  replace hr : cRr w I I191 := cRr.trans (by repeat (first | exact hr | refine cRr.up ?_ (by unfold cOk; (try simp only [px_app, px_ur]); grind))) h191
                  clear d0 d1 d2 d3 d4 d5 d6 d7 d8 d9
                  obtain ⟨d0, d1, d2, d3, d4, d5, d6, d7, d8, d9⟩ := cRd.op hr.1
                  refine px_rvW rfl q_X4_readPart_194 rfl rfl rfl hg rfl trivial ⟨⟨rfl, rfl⟩, ?_⟩
                  exact ⟨rfl, (by
                      subst g191
                      have eP : xPp I = I := if_neg c4
                      unfold xRP
                      rw [eP]
                      unfold xRP2
                      refine Eq.symm ?_
                      refine (if_neg (xw0 h27 c30)).trans ?_
                      refine (if_neg (xw0 h55 c58)).trans ?_
                      refine (if_neg (xw0 h82 c85)).trans ?_
                      refine (if_neg (xw0 h109 c112)).trans ?_
                      refine (if_neg (xw0 h136 c139)).trans ?_
                      refine (if_neg (xw0 h160 c163)).trans ?_
                      exact if_pos (xw1 h184 c187)), (by repeat (first | exact hr | refine cRr.up ?_ (by unfold cOk; (try simp only [px_app, px_ur]); grind)))⟩
              · refine px_cVW (ci := 4) rfl q_X4_readPart_166 hg rfl trivial lk_4_115 nm_X4_readBareStep (xs_readBareStep hg hw _ (show cRd w _ from (by repeat (first | exact hr | refine cRr.up ?_ (by unfold cOk; (try simp only [px_app, px_ur]); grind)) : cRr w I _).1)) rfl rfl (px_lit hg rfl) rfl rfl rfl ⟨rfl, rfl⟩ ?_
                intro I168 L168 h168
                obtain ⟨rfl, g168, h168⟩ := h168
                replace hr : cRr w I I168 := cRr.trans (by repeat (first | exact hr | refine cRr.up ?_ (by unfold cOk; (try simp only [px_app, px_ur]); grind))) h168
                clear d0 d1 d2 d3 d4 d5 d6 d7 d8 d9
                obtain ⟨d0, d1, d2, d3, d4, d5, d6, d7, d8, d9⟩ := cRd.op hr.1
                refine px_rvW rfl q_X4_readPart_171 rfl rfl rfl hg rfl trivial ⟨⟨rfl, rfl⟩, ?_⟩
                exact ⟨rfl, (by
                    subst g168
                    have eP : xPp I = I := if_neg c4
                    unfold xRP
                    rw [eP]
                    unfold xRP2
                    refine Eq.symm ?_
                    refine (if_neg (xw0 h27 c30)).trans ?_
                    refine (if_neg (xw0 h55 c58)).trans ?_
                    refine (if_neg (xw0 h82 c85)).trans ?_
                    refine (if_neg (xw0 h109 c112)).trans ?_
                    refine (if_neg (xw0 h136 c139)).trans ?_
                    exact if_pos (xw1 h160 c163)), (by repeat (first | exact hr | refine cRr.up ?_ (by unfold cOk; (try simp only [px_app, px_ur]); grind)))⟩
            · refine px_cVW (ci := 4) rfl q_X4_readPart_142 hg rfl trivial lk_4_115 nm_X4_readBareStep (xs_readBareStep hg hw _ (show cRd w _ from (by repeat (first | exact hr | refine cRr.up ?_ (by unfold cOk; (try simp only [px_app, px_ur]); grind)) : cRr w I _).1)) rfl rfl (px_lit hg rfl) rfl rfl rfl ⟨rfl, rfl⟩ ?_
              intro I144 L144 h144
              obtain ⟨rfl, g144, h144⟩ := h144
              replace hr : cRr w I I144 := cRr.trans (by repeat (first | exact hr | refine cRr.up ?_ (by unfold cOk; (try simp only [px_app, px_ur]); grind))) h144
              clear d0 d1 d2 d3 d4 d5 d6 d7 d8 d9
              obtain ⟨d0, d1, d2, d3, d4, d5, d6, d7, d8, d9⟩ := cRd.op hr.1
              refine px_rvW rfl q_X4_readPart_147 rfl rfl rfl hg rfl trivial ⟨⟨rfl, rfl⟩, ?_⟩
              exact ⟨rfl, (by
                  subst g144
                  have eP : xPp I = I := if_neg c4
                  unfold xRP
                  rw [eP]
                  unfold xRP2
                  refine Eq.symm ?_
                  refine (if_neg (xw0 h27 c30)).trans ?_
                  refine (if_neg (xw0 h55 c58)).trans ?_
                  refine (if_neg (xw0 h82 c85)).trans ?_
                  refine (if_neg (xw0 h109 c112)).trans ?_
                  exact if_pos (xw1 h136 c139)), (by repeat (first | exact hr | refine cRr.up ?_ (by unfold cOk; (try simp only [px_app, px_ur]); grind)))⟩
          · refine px_cVW (ci := 4) rfl q_X4_readPart_115 hg rfl trivial lk_4_102 nm_X4_readStep (xs_readStep hg hw _ _ _ (show cRd w _ from (by repeat (first | exact hr | refine cRr.up ?_ (by unfold cOk; (try simp only [px_app, px_ur]); grind)) : cRr w I _).1)) rfl rfl (px_lit hg rfl) rfl rfl rfl ⟨rfl, rfl⟩ ?_
            intro I120 L120 h120
            obtain ⟨rfl, g120, h120⟩ := h120
            replace hr : cRr w I I120 := cRr.trans (by repeat (first | exact hr | refine cRr.up ?_ (by unfold cOk; (try simp only [px_app, px_ur]); grind))) h120
            clear d0 d1 d2 d3 d4 d5 d6 d7 d8 d9
            obtain ⟨d0, d1, d2, d3, d4, d5, d6, d7, d8, d9⟩ := cRd.op hr.1
            refine px_rvW rfl q_X4_readPart_123 rfl rfl rfl hg rfl trivial ⟨⟨rfl, rfl⟩, ?_⟩
            exact ⟨rfl, (by
                subst g120
                have eP : xPp I = I := if_neg c4
                unfold xRP
                rw [eP]
                unfold xRP2
                refine Eq.symm ?_
                refine (if_neg (xw0 h27 c30)).trans ?_
                refine (if_neg (xw0 h55 c58)).trans ?_
                refine (if_neg (xw0 h82 c85)).trans ?_
                exact if_pos (xw1 h109 c112)), (by repeat (first | exact hr | refine cRr.up ?_ (by unfold cOk; (try simp only [px_app, px_ur]); grind)))⟩
        · refine px_cVW (ci := 4) rfl q_X4_readPart_88 hg rfl trivial lk_4_102 nm_X4_readStep (xs_readStep hg hw _ _ _ (show cRd w _ from (by repeat (first | exact hr | refine cRr.up ?_ (by unfold cOk; (try simp only [px_app, px_ur]); grind)) : cRr w I _).1)) rfl rfl (px_lit hg rfl) rfl rfl rfl ⟨rfl, rfl⟩ ?_
          intro I93 L93 h93
          obtain ⟨rfl, g93, h93⟩ := h93
          replace hr : cRr w I I93 := cRr.trans (by repeat (first | exact hr | refine cRr.up ?_ (by unfold cOk; (try simp only [px_app, px_ur]); grind))) h93
          clear d0 d1 d2 d3 d4 d5 d6 d7 d8 d9
          obtain ⟨d0, d1, d2, d3, d4, d5, d6, d7, d8, d9⟩ := cRd.op hr.1
          refine px_rvW rfl q_X4_readPart_96 rfl rfl rfl hg rfl trivial ⟨⟨rfl, rfl⟩, ?_⟩
          exact ⟨rfl, (by
              subst g93
              have eP : xPp I = I := if_neg c4
              unfold xRP
              rw [eP]
              unfold xRP2
              refine Eq.symm ?_
              refine (if_neg (xw0 h27 c30)).trans ?_
              refine (if_neg (xw0 h55 c58)).trans ?_
              exact if_pos (xw1 h82 c85)), (by repeat (first | exact hr | refine cRr.up ?_ (by unfold cOk; (try simp only [px_app, px_ur]); grind)))⟩
      · refine px_cVW (ci := 4) rfl q_X4_readPart_61 hg rfl trivial lk_4_102 nm_X4_readStep (xs_readStep hg hw _ _ _ (show cRd w _ from (by repeat (first | exact hr | refine cRr.up ?_ (by unfold cOk; (try simp only [px_app, px_ur]); grind)) : cRr w I _).1)) rfl rfl (px_lit hg rfl) rfl rfl rfl ⟨rfl, rfl⟩ ?_
        intro I66 L66 h66
        obtain ⟨rfl, g66, h66⟩ := h66
        replace hr : cRr w I I66 := cRr.trans (by repeat (first | exact hr | refine cRr.up ?_ (by unfold cOk; (try simp only [px_app, px_ur]); grind))) h66
        clear d0 d1 d2 d3 d4 d5 d6 d7 d8 d9
        obtain ⟨d0, d1, d2, d3, d4, d5, d6, d7, d8, d9⟩ := cRd.op hr.1
        refine px_rvW rfl q_X4_readPart_69 rfl rfl rfl hg rfl trivial ⟨⟨rfl, rfl⟩, ?_⟩
        exact ⟨rfl, (by
            subst g66
            have eP : xPp I = I := if_neg c4
            unfold xRP
            rw [eP]
            unfold xRP2
            refine Eq.symm ?_
            refine (if_neg (xw0 h27 c30)).trans ?_
            exact if_pos (xw1 h55 c58)), (by repeat (first | exact hr | refine cRr.up ?_ (by unfold cOk; (try simp only [px_app, px_ur]); grind)))⟩
    · refine px_cVW (ci := 4) rfl q_X4_readPart_33 hg rfl trivial lk_4_102 nm_X4_readStep (xs_readStep hg hw _ _ _ (show cRd w _ from (by repeat (first | exact hr | refine cRr.up ?_ (by unfold cOk; (try simp only [px_app, px_ur]); grind)) : cRr w I _).1)) rfl rfl (px_lit hg rfl) rfl rfl rfl ⟨rfl, rfl⟩ ?_
      intro I39 L39 h39
      obtain ⟨rfl, g39, h39⟩ := h39
      replace hr : cRr w I I39 := cRr.trans (by repeat (first | exact hr | refine cRr.up ?_ (by unfold cOk; (try simp only [px_app, px_ur]); grind))) h39
      clear d0 d1 d2 d3 d4 d5 d6 d7 d8 d9
      obtain ⟨d0, d1, d2, d3, d4, d5, d6, d7, d8, d9⟩ := cRd.op hr.1
      refine px_rvW rfl q_X4_readPart_42 rfl rfl rfl hg rfl trivial ⟨⟨rfl, rfl⟩, ?_⟩
      exact ⟨rfl, (by
          subst g39
          have eP : xPp I = I := if_neg c4
          unfold xRP
          rw [eP]
          unfold xRP2
          refine Eq.symm ?_
          exact if_pos (xw1 h27 c30)), (by repeat (first | exact hr | refine cRr.up ?_ (by unfold cOk; (try simp only [px_app, px_ur]); grind)))⟩
  · refine px_b rfl q_X4_readPart_7 hg rfl trivial ?_
    refine px_ldS (i := 0) (by decide) rfl (by decide +kernel) ?_
    refine px_cVP (ci := 8) rfl q_X4_readPart_27 hg rfl trivial lk_4_98 nm_X8_isWord (xs_isWord hg _ _ (by decide) (by first | exact d1 | (simp only [px_ur]; grind))) rfl rfl (px_lit hg rfl) rfl rfl rfl ⟨rfl, rfl⟩ ?_
    intro x27 h27
    refine px_eq rfl q_X4_readPart_30 hg rfl trivial (fun c30 => ?_) (fun c30 => ?_)
    · refine px_b rfl q_X4_readPart_45 hg rfl trivial ?_
      refine px_ldS (i := 1) (by decide) rfl (by decide +kernel) ?_
      refine px_cVP (ci := 8) rfl q_X4_readPart_55 hg rfl trivial lk_4_98 nm_X8_isWord (xs_isWord hg _ _ (by decide) (by first | exact d1 | (simp only [px_ur]; grind))) rfl rfl (px_lit hg rfl) rfl rfl rfl ⟨rfl, rfl⟩ ?_
      intro x55 h55
      refine px_eq rfl q_X4_readPart_58 hg rfl trivial (fun c58 => ?_) (fun c58 => ?_)
      · refine px_b rfl q_X4_readPart_72 hg rfl trivial ?_
        refine px_ldS (i := 2) (by decide) rfl (by decide +kernel) ?_
        refine px_cVP (ci := 8) rfl q_X4_readPart_82 hg rfl trivial lk_4_98 nm_X8_isWord (xs_isWord hg _ _ (by decide) (by first | exact d1 | (simp only [px_ur]; grind))) rfl rfl (px_lit hg rfl) rfl rfl rfl ⟨rfl, rfl⟩ ?_
        intro x82 h82
        refine px_eq rfl q_X4_readPart_85 hg rfl trivial (fun c85 => ?_) (fun c85 => ?_)
        · refine px_b rfl q_X4_readPart_99 hg rfl trivial ?_
          refine px_ldS (i := 3) (by decide) rfl (by decide +kernel) ?_
          refine px_cVP (ci := 8) rfl q_X4_readPart_109 hg rfl trivial lk_4_98 nm_X8_isWord (xs_isWord hg _ _ (by decide) (by first | exact d1 | (simp only [px_ur]; grind))) rfl rfl (px_lit hg rfl) rfl rfl rfl ⟨rfl, rfl⟩ ?_
          intro x109 h109
          refine px_eq rfl q_X4_readPart_112 hg rfl trivial (fun c112 => ?_) (fun c112 => ?_)
          · refine px_b rfl q_X4_readPart_126 hg rfl trivial ?_
            refine px_ldS (i := 4) (by decide) rfl (by decide +kernel) ?_
            refine px_cVP (ci := 8) rfl q_X4_readPart_136 hg rfl trivial lk_4_98 nm_X8_isWord (xs_isWord hg _ _ (by decide) (by first | exact d1 | (simp only [px_ur]; grind))) rfl rfl (px_lit hg rfl) rfl rfl rfl ⟨rfl, rfl⟩ ?_
            intro x136 h136
            refine px_eq rfl q_X4_readPart_139 hg rfl trivial (fun c139 => ?_) (fun c139 => ?_)
            · refine px_b rfl q_X4_readPart_150 hg rfl trivial ?_
              refine px_ldS (i := 5) (by decide) rfl (by decide +kernel) ?_
              refine px_cVP (ci := 8) rfl q_X4_readPart_160 hg rfl trivial lk_4_98 nm_X8_isWord (xs_isWord hg _ _ (by decide) (by first | exact d1 | (simp only [px_ur]; grind))) rfl rfl (px_lit hg rfl) rfl rfl rfl ⟨rfl, rfl⟩ ?_
              intro x160 h160
              refine px_eq rfl q_X4_readPart_163 hg rfl trivial (fun c163 => ?_) (fun c163 => ?_)
              · refine px_b rfl q_X4_readPart_174 hg rfl trivial ?_
                refine px_ldS (i := 6) (by decide) rfl (by decide +kernel) ?_
                refine px_cVP (ci := 8) rfl q_X4_readPart_184 hg rfl trivial lk_4_98 nm_X8_isWord (xs_isWord hg _ _ (by decide) (by first | exact d1 | (simp only [px_ur]; grind))) rfl rfl (px_lit hg rfl) rfl rfl rfl ⟨rfl, rfl⟩ ?_
                intro x184 h184
                refine px_eq rfl q_X4_readPart_187 hg rfl trivial (fun c187 => ?_) (fun c187 => ?_)
                · refine px_b rfl q_X4_readPart_197 hg rfl trivial ?_
                  refine px_ldS (i := 7) (by decide) rfl (by decide +kernel) ?_
                  refine px_cVP (ci := 8) rfl q_X4_readPart_207 hg rfl trivial lk_4_98 nm_X8_isWord (xs_isWord hg _ _ (by decide) (by first | exact d1 | (simp only [px_ur]; grind))) rfl rfl (px_lit hg rfl) rfl rfl rfl ⟨rfl, rfl⟩ ?_
                  intro x207 h207
                  refine px_eq rfl q_X4_readPart_210 hg rfl trivial (fun c210 => ?_) (fun c210 => ?_)
                  · refine px_b rfl q_X4_readPart_220 hg rfl trivial ?_
                    refine px_ldS (i := 8) (by decide) rfl (by decide +kernel) ?_
                    refine px_cVP (ci := 8) rfl q_X4_readPart_230 hg rfl trivial lk_4_98 nm_X8_isWord (xs_isWord hg _ _ (by decide) (by first | exact d1 | (simp only [px_ur]; grind))) rfl rfl (px_lit hg rfl) rfl rfl rfl ⟨rfl, rfl⟩ ?_
                    intro x230 h230
                    refine px_eq rfl q_X4_readPart_233 hg rfl trivial (fun c233 => ?_) (fun c233 => ?_)
                    · refine px_cVW (ci := 4) rfl q_X4_readPart_250 hg rfl trivial lk_4_86 nm_X4_fail (xs_fail hg hw _ (show cRd w _ from (by repeat (first | exact hr | refine cRr.up ?_ (by unfold cOk; (try simp only [px_app, px_ur]); grind)) : cRr w I _).1)) rfl rfl (px_lit hg rfl) rfl rfl rfl ⟨rfl, rfl⟩ ?_
                      intro I252 L252 h252
                      obtain ⟨rfl, g252, h252⟩ := h252
                      replace hr : cRr w I I252 := cRr.trans (by repeat (first | exact hr | refine cRr.up ?_ (by unfold cOk; (try simp only [px_app, px_ur]); grind))) h252
                      clear d0 d1 d2 d3 d4 d5 d6 d7 d8 d9
                      obtain ⟨d0, d1, d2, d3, d4, d5, d6, d7, d8, d9⟩ := cRd.op hr.1
                      refine px_rvW rfl q_X4_readPart_255 rfl rfl rfl hg rfl trivial ⟨⟨rfl, rfl⟩, ?_⟩
                      exact ⟨rfl, (by
                          subst g252
                          have eP : xPp I = px_u I 76 13 (I 76 13 + 1) := if_pos c4
                          unfold xRP
                          rw [eP]
                          unfold xRP2
                          refine Eq.symm ?_
                          refine (if_neg (xw0 h27 c30)).trans ?_
                          refine (if_neg (xw0 h55 c58)).trans ?_
                          refine (if_neg (xw0 h82 c85)).trans ?_
                          refine (if_neg (xw0 h109 c112)).trans ?_
                          refine (if_neg (xw0 h136 c139)).trans ?_
                          refine (if_neg (xw0 h160 c163)).trans ?_
                          refine (if_neg (xw0 h184 c187)).trans ?_
                          refine (if_neg (xw0 h207 c210)).trans ?_
                          refine (if_neg (fun q => xw0 h230 c233 q.1)).trans ?_
                          rfl), (by repeat (first | exact hr | refine cRr.up ?_ (by unfold cOk; (try simp only [px_app, px_ur]); grind)))⟩
                    · refine px_ne rfl q_X4_readPart_236 hg rfl trivial (fun c240 => ?_) (fun c240 => ?_)
                      · refine px_cVW (ci := 4) rfl q_X4_readPart_250 hg rfl trivial lk_4_86 nm_X4_fail (xs_fail hg hw _ (show cRd w _ from (by repeat (first | exact hr | refine cRr.up ?_ (by unfold cOk; (try simp only [px_app, px_ur]); grind)) : cRr w I _).1)) rfl rfl (px_lit hg rfl) rfl rfl rfl ⟨rfl, rfl⟩ ?_
                        intro I252 L252 h252
                        obtain ⟨rfl, g252, h252⟩ := h252
                        replace hr : cRr w I I252 := cRr.trans (by repeat (first | exact hr | refine cRr.up ?_ (by unfold cOk; (try simp only [px_app, px_ur]); grind))) h252
                        clear d0 d1 d2 d3 d4 d5 d6 d7 d8 d9
                        obtain ⟨d0, d1, d2, d3, d4, d5, d6, d7, d8, d9⟩ := cRd.op hr.1
                        refine px_rvW rfl q_X4_readPart_255 rfl rfl rfl hg rfl trivial ⟨⟨rfl, rfl⟩, ?_⟩
                        exact ⟨rfl, (by
                            subst g252
                            have eP : xPp I = px_u I 76 13 (I 76 13 + 1) := if_pos c4
                            unfold xRP
                            rw [eP]
                            unfold xRP2
                            refine Eq.symm ?_
                            refine (if_neg (xw0 h27 c30)).trans ?_
                            refine (if_neg (xw0 h55 c58)).trans ?_
                            refine (if_neg (xw0 h82 c85)).trans ?_
                            refine (if_neg (xw0 h109 c112)).trans ?_
                            refine (if_neg (xw0 h136 c139)).trans ?_
                            refine (if_neg (xw0 h160 c163)).trans ?_
                            refine (if_neg (xw0 h184 c187)).trans ?_
                            refine (if_neg (xw0 h207 c210)).trans ?_
                            refine (if_neg (fun q => absurd q.2 c240)).trans ?_
                            rfl), (by repeat (first | exact hr | refine cRr.up ?_ (by unfold cOk; (try simp only [px_app, px_ur]); grind)))⟩
                      · refine px_cVW (ci := 4) rfl q_X4_readPart_243 hg rfl trivial lk_4_132 nm_X4_readDef (xs_readDef hg hw  (show cRd w _ from (by repeat (first | exact hr | refine cRr.up ?_ (by unfold cOk; (try simp only [px_app, px_ur]); grind)) : cRr w I _).1)) rfl rfl (px_lit hg rfl) rfl rfl rfl ⟨rfl, rfl⟩ ?_
                        intro I244 L244 h244
                        obtain ⟨rfl, g244, h244⟩ := h244
                        replace hr : cRr w I I244 := cRr.trans (by repeat (first | exact hr | refine cRr.up ?_ (by unfold cOk; (try simp only [px_app, px_ur]); grind))) h244
                        clear d0 d1 d2 d3 d4 d5 d6 d7 d8 d9
                        obtain ⟨d0, d1, d2, d3, d4, d5, d6, d7, d8, d9⟩ := cRd.op hr.1
                        refine px_rvW rfl q_X4_readPart_247 rfl rfl rfl hg rfl trivial ⟨⟨rfl, rfl⟩, ?_⟩
                        exact ⟨rfl, (by
                            subst g244
                            have eP : xPp I = px_u I 76 13 (I 76 13 + 1) := if_pos c4
                            unfold xRP
                            rw [eP]
                            unfold xRP2
                            refine Eq.symm ?_
                            refine (if_neg (xw0 h27 c30)).trans ?_
                            refine (if_neg (xw0 h55 c58)).trans ?_
                            refine (if_neg (xw0 h82 c85)).trans ?_
                            refine (if_neg (xw0 h109 c112)).trans ?_
                            refine (if_neg (xw0 h136 c139)).trans ?_
                            refine (if_neg (xw0 h160 c163)).trans ?_
                            refine (if_neg (xw0 h184 c187)).trans ?_
                            refine (if_neg (xw0 h207 c210)).trans ?_
                            exact if_pos ⟨xw1 h230 c233, c240⟩), (by repeat (first | exact hr | refine cRr.up ?_ (by unfold cOk; (try simp only [px_app, px_ur]); grind)))⟩
                  · refine px_cVW (ci := 4) rfl q_X4_readPart_213 hg rfl trivial lk_4_127 nm_X4_readRepeat (xs_readRepeat hg hw  (show cRd w _ from (by repeat (first | exact hr | refine cRr.up ?_ (by unfold cOk; (try simp only [px_app, px_ur]); grind)) : cRr w I _).1)) rfl rfl (px_lit hg rfl) rfl rfl rfl ⟨rfl, rfl⟩ ?_
                    intro I214 L214 h214
                    obtain ⟨rfl, g214, h214⟩ := h214
                    replace hr : cRr w I I214 := cRr.trans (by repeat (first | exact hr | refine cRr.up ?_ (by unfold cOk; (try simp only [px_app, px_ur]); grind))) h214
                    clear d0 d1 d2 d3 d4 d5 d6 d7 d8 d9
                    obtain ⟨d0, d1, d2, d3, d4, d5, d6, d7, d8, d9⟩ := cRd.op hr.1
                    refine px_rvW rfl q_X4_readPart_217 rfl rfl rfl hg rfl trivial ⟨⟨rfl, rfl⟩, ?_⟩
                    exact ⟨rfl, (by
                        subst g214
                        have eP : xPp I = px_u I 76 13 (I 76 13 + 1) := if_pos c4
                        unfold xRP
                        rw [eP]
                        unfold xRP2
                        refine Eq.symm ?_
                        refine (if_neg (xw0 h27 c30)).trans ?_
                        refine (if_neg (xw0 h55 c58)).trans ?_
                        refine (if_neg (xw0 h82 c85)).trans ?_
                        refine (if_neg (xw0 h109 c112)).trans ?_
                        refine (if_neg (xw0 h136 c139)).trans ?_
                        refine (if_neg (xw0 h160 c163)).trans ?_
                        refine (if_neg (xw0 h184 c187)).trans ?_
                        exact if_pos (xw1 h207 c210)), (by repeat (first | exact hr | refine cRr.up ?_ (by unfold cOk; (try simp only [px_app, px_ur]); grind)))⟩
                · refine px_cVW (ci := 4) rfl q_X4_readPart_190 hg rfl trivial lk_4_122 nm_X4_readDo (xs_readDo hg hw  (show cRd w _ from (by repeat (first | exact hr | refine cRr.up ?_ (by unfold cOk; (try simp only [px_app, px_ur]); grind)) : cRr w I _).1)) rfl rfl (px_lit hg rfl) rfl rfl rfl ⟨rfl, rfl⟩ ?_
                  intro I191 L191 h191
                  obtain ⟨rfl, g191, h191⟩ := h191
                  replace hr : cRr w I I191 := cRr.trans (by repeat (first | exact hr | refine cRr.up ?_ (by unfold cOk; (try simp only [px_app, px_ur]); grind))) h191
                  clear d0 d1 d2 d3 d4 d5 d6 d7 d8 d9
                  obtain ⟨d0, d1, d2, d3, d4, d5, d6, d7, d8, d9⟩ := cRd.op hr.1
                  refine px_rvW rfl q_X4_readPart_194 rfl rfl rfl hg rfl trivial ⟨⟨rfl, rfl⟩, ?_⟩
                  exact ⟨rfl, (by
                      subst g191
                      have eP : xPp I = px_u I 76 13 (I 76 13 + 1) := if_pos c4
                      unfold xRP
                      rw [eP]
                      unfold xRP2
                      refine Eq.symm ?_
                      refine (if_neg (xw0 h27 c30)).trans ?_
                      refine (if_neg (xw0 h55 c58)).trans ?_
                      refine (if_neg (xw0 h82 c85)).trans ?_
                      refine (if_neg (xw0 h109 c112)).trans ?_
                      refine (if_neg (xw0 h136 c139)).trans ?_
                      refine (if_neg (xw0 h160 c163)).trans ?_
                      exact if_pos (xw1 h184 c187)), (by repeat (first | exact hr | refine cRr.up ?_ (by unfold cOk; (try simp only [px_app, px_ur]); grind)))⟩
              · refine px_cVW (ci := 4) rfl q_X4_readPart_166 hg rfl trivial lk_4_115 nm_X4_readBareStep (xs_readBareStep hg hw _ (show cRd w _ from (by repeat (first | exact hr | refine cRr.up ?_ (by unfold cOk; (try simp only [px_app, px_ur]); grind)) : cRr w I _).1)) rfl rfl (px_lit hg rfl) rfl rfl rfl ⟨rfl, rfl⟩ ?_
                intro I168 L168 h168
                obtain ⟨rfl, g168, h168⟩ := h168
                replace hr : cRr w I I168 := cRr.trans (by repeat (first | exact hr | refine cRr.up ?_ (by unfold cOk; (try simp only [px_app, px_ur]); grind))) h168
                clear d0 d1 d2 d3 d4 d5 d6 d7 d8 d9
                obtain ⟨d0, d1, d2, d3, d4, d5, d6, d7, d8, d9⟩ := cRd.op hr.1
                refine px_rvW rfl q_X4_readPart_171 rfl rfl rfl hg rfl trivial ⟨⟨rfl, rfl⟩, ?_⟩
                exact ⟨rfl, (by
                    subst g168
                    have eP : xPp I = px_u I 76 13 (I 76 13 + 1) := if_pos c4
                    unfold xRP
                    rw [eP]
                    unfold xRP2
                    refine Eq.symm ?_
                    refine (if_neg (xw0 h27 c30)).trans ?_
                    refine (if_neg (xw0 h55 c58)).trans ?_
                    refine (if_neg (xw0 h82 c85)).trans ?_
                    refine (if_neg (xw0 h109 c112)).trans ?_
                    refine (if_neg (xw0 h136 c139)).trans ?_
                    exact if_pos (xw1 h160 c163)), (by repeat (first | exact hr | refine cRr.up ?_ (by unfold cOk; (try simp only [px_app, px_ur]); grind)))⟩
            · refine px_cVW (ci := 4) rfl q_X4_readPart_142 hg rfl trivial lk_4_115 nm_X4_readBareStep (xs_readBareStep hg hw _ (show cRd w _ from (by repeat (first | exact hr | refine cRr.up ?_ (by unfold cOk; (try simp only [px_app, px_ur]); grind)) : cRr w I _).1)) rfl rfl (px_lit hg rfl) rfl rfl rfl ⟨rfl, rfl⟩ ?_
              intro I144 L144 h144
              obtain ⟨rfl, g144, h144⟩ := h144
              replace hr : cRr w I I144 := cRr.trans (by repeat (first | exact hr | refine cRr.up ?_ (by unfold cOk; (try simp only [px_app, px_ur]); grind))) h144
              clear d0 d1 d2 d3 d4 d5 d6 d7 d8 d9
              obtain ⟨d0, d1, d2, d3, d4, d5, d6, d7, d8, d9⟩ := cRd.op hr.1
              refine px_rvW rfl q_X4_readPart_147 rfl rfl rfl hg rfl trivial ⟨⟨rfl, rfl⟩, ?_⟩
              exact ⟨rfl, (by
                  subst g144
                  have eP : xPp I = px_u I 76 13 (I 76 13 + 1) := if_pos c4
                  unfold xRP
                  rw [eP]
                  unfold xRP2
                  refine Eq.symm ?_
                  refine (if_neg (xw0 h27 c30)).trans ?_
                  refine (if_neg (xw0 h55 c58)).trans ?_
                  refine (if_neg (xw0 h82 c85)).trans ?_
                  refine (if_neg (xw0 h109 c112)).trans ?_
                  exact if_pos (xw1 h136 c139)), (by repeat (first | exact hr | refine cRr.up ?_ (by unfold cOk; (try simp only [px_app, px_ur]); grind)))⟩
          · refine px_cVW (ci := 4) rfl q_X4_readPart_115 hg rfl trivial lk_4_102 nm_X4_readStep (xs_readStep hg hw _ _ _ (show cRd w _ from (by repeat (first | exact hr | refine cRr.up ?_ (by unfold cOk; (try simp only [px_app, px_ur]); grind)) : cRr w I _).1)) rfl rfl (px_lit hg rfl) rfl rfl rfl ⟨rfl, rfl⟩ ?_
            intro I120 L120 h120
            obtain ⟨rfl, g120, h120⟩ := h120
            replace hr : cRr w I I120 := cRr.trans (by repeat (first | exact hr | refine cRr.up ?_ (by unfold cOk; (try simp only [px_app, px_ur]); grind))) h120
            clear d0 d1 d2 d3 d4 d5 d6 d7 d8 d9
            obtain ⟨d0, d1, d2, d3, d4, d5, d6, d7, d8, d9⟩ := cRd.op hr.1
            refine px_rvW rfl q_X4_readPart_123 rfl rfl rfl hg rfl trivial ⟨⟨rfl, rfl⟩, ?_⟩
            exact ⟨rfl, (by
                subst g120
                have eP : xPp I = px_u I 76 13 (I 76 13 + 1) := if_pos c4
                unfold xRP
                rw [eP]
                unfold xRP2
                refine Eq.symm ?_
                refine (if_neg (xw0 h27 c30)).trans ?_
                refine (if_neg (xw0 h55 c58)).trans ?_
                refine (if_neg (xw0 h82 c85)).trans ?_
                exact if_pos (xw1 h109 c112)), (by repeat (first | exact hr | refine cRr.up ?_ (by unfold cOk; (try simp only [px_app, px_ur]); grind)))⟩
        · refine px_cVW (ci := 4) rfl q_X4_readPart_88 hg rfl trivial lk_4_102 nm_X4_readStep (xs_readStep hg hw _ _ _ (show cRd w _ from (by repeat (first | exact hr | refine cRr.up ?_ (by unfold cOk; (try simp only [px_app, px_ur]); grind)) : cRr w I _).1)) rfl rfl (px_lit hg rfl) rfl rfl rfl ⟨rfl, rfl⟩ ?_
          intro I93 L93 h93
          obtain ⟨rfl, g93, h93⟩ := h93
          replace hr : cRr w I I93 := cRr.trans (by repeat (first | exact hr | refine cRr.up ?_ (by unfold cOk; (try simp only [px_app, px_ur]); grind))) h93
          clear d0 d1 d2 d3 d4 d5 d6 d7 d8 d9
          obtain ⟨d0, d1, d2, d3, d4, d5, d6, d7, d8, d9⟩ := cRd.op hr.1
          refine px_rvW rfl q_X4_readPart_96 rfl rfl rfl hg rfl trivial ⟨⟨rfl, rfl⟩, ?_⟩
          exact ⟨rfl, (by
              subst g93
              have eP : xPp I = px_u I 76 13 (I 76 13 + 1) := if_pos c4
              unfold xRP
              rw [eP]
              unfold xRP2
              refine Eq.symm ?_
              refine (if_neg (xw0 h27 c30)).trans ?_
              refine (if_neg (xw0 h55 c58)).trans ?_
              exact if_pos (xw1 h82 c85)), (by repeat (first | exact hr | refine cRr.up ?_ (by unfold cOk; (try simp only [px_app, px_ur]); grind)))⟩
      · refine px_cVW (ci := 4) rfl q_X4_readPart_61 hg rfl trivial lk_4_102 nm_X4_readStep (xs_readStep hg hw _ _ _ (show cRd w _ from (by repeat (first | exact hr | refine cRr.up ?_ (by unfold cOk; (try simp only [px_app, px_ur]); grind)) : cRr w I _).1)) rfl rfl (px_lit hg rfl) rfl rfl rfl ⟨rfl, rfl⟩ ?_
        intro I66 L66 h66
        obtain ⟨rfl, g66, h66⟩ := h66
        replace hr : cRr w I I66 := cRr.trans (by repeat (first | exact hr | refine cRr.up ?_ (by unfold cOk; (try simp only [px_app, px_ur]); grind))) h66
        clear d0 d1 d2 d3 d4 d5 d6 d7 d8 d9
        obtain ⟨d0, d1, d2, d3, d4, d5, d6, d7, d8, d9⟩ := cRd.op hr.1
        refine px_rvW rfl q_X4_readPart_69 rfl rfl rfl hg rfl trivial ⟨⟨rfl, rfl⟩, ?_⟩
        exact ⟨rfl, (by
            subst g66
            have eP : xPp I = px_u I 76 13 (I 76 13 + 1) := if_pos c4
            unfold xRP
            rw [eP]
            unfold xRP2
            refine Eq.symm ?_
            refine (if_neg (xw0 h27 c30)).trans ?_
            exact if_pos (xw1 h55 c58)), (by repeat (first | exact hr | refine cRr.up ?_ (by unfold cOk; (try simp only [px_app, px_ur]); grind)))⟩
    · refine px_cVW (ci := 4) rfl q_X4_readPart_33 hg rfl trivial lk_4_102 nm_X4_readStep (xs_readStep hg hw _ _ _ (show cRd w _ from (by repeat (first | exact hr | refine cRr.up ?_ (by unfold cOk; (try simp only [px_app, px_ur]); grind)) : cRr w I _).1)) rfl rfl (px_lit hg rfl) rfl rfl rfl ⟨rfl, rfl⟩ ?_
      intro I39 L39 h39
      obtain ⟨rfl, g39, h39⟩ := h39
      replace hr : cRr w I I39 := cRr.trans (by repeat (first | exact hr | refine cRr.up ?_ (by unfold cOk; (try simp only [px_app, px_ur]); grind))) h39
      clear d0 d1 d2 d3 d4 d5 d6 d7 d8 d9
      obtain ⟨d0, d1, d2, d3, d4, d5, d6, d7, d8, d9⟩ := cRd.op hr.1
      refine px_rvW rfl q_X4_readPart_42 rfl rfl rfl hg rfl trivial ⟨⟨rfl, rfl⟩, ?_⟩
      exact ⟨rfl, (by
          subst g39
          have eP : xPp I = px_u I 76 13 (I 76 13 + 1) := if_pos c4
          unfold xRP
          rw [eP]
          unfold xRP2
          refine Eq.symm ?_
          exact if_pos (xw1 h27 c30)), (by repeat (first | exact hr | refine cRr.up ?_ (by unfold cOk; (try simp only [px_app, px_ur]); grind)))⟩
