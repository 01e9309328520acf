set_option maxRecDepth 100000 in
theorem ls_begin {n : Nat} {R : px_R} {w : Nat} (hg : px_G n (cRW R w)) (hw : cWay n w) {Q : px_Q} {I0 : px_I} {L : px_L} (hq : ∀ I2, cRr w I0 I2 → xBg w I0 I2 → Q none n I2 L (cRW R w)) : ∀ i : Int32, i ≤ 8 → 0 ≤ i → ∀ I1, cRr w I0 I1 → (∀ b j, b ≠ 84 → I1 b j = xBf w I0 b j) → (∀ l : Nat, l < i.toNatClampNeg → I1 84 l = -1) → px M_X4_begin 0 0 47 [(0, .ref 76), (1, .int i)] [] n I1 L (cRW R w) Q := by
  refine px_up 8 (fun i ih hi => ?_)
  intro h0 I1 hr hb hl
  refine px_ige rfl q_X4_begin_47 hg rfl trivial (fun c50 => ?_) (fun c50 => ?_)
  · refine px_rv rfl q_X4_begin_66 rfl rfl rfl hg rfl trivial ?_
    have e9 : i = 8 := by grind
    subst e9
    exact hq _ hr ⟨hb, fun l h9 => hl l (by rw [show (8 : Int32).toNatClampNeg = 8 by decide]; exact h9)⟩
  · refine px_b rfl q_X4_begin_53 hg rfl ⟨trivial, (by first | decide | (refine ⟨?_, ?_⟩ <;> grind) | grind)⟩ ?_
    exact px_go (ih (i + 1) (by grind) (by grind) (by grind) _ (hr.up (by unfold cOk; grind)) (fun b j hb9 => by rw [px_u_ne hb9]; exact hb b j hb9) (fun l hl9 => by
      have := (px_tnS h0 (by grind)).1
      by_cases e : l = i.toNatClampNeg
      · rw [e, px_u_at]
      · rw [px_u_at_ne e]; exact hl l (by omega))) ⟨rfl, rfl, trivial⟩

set_option maxRecDepth 100000 in
theorem xs_begin {n : Nat} {I : px_I} {L : px_L} {R : px_R} {w : Nat} (hg : px_G n (cRW R w)) (hw : cWay n w) (hd : cRd w I) : px_KV M_X4_begin [.ref 76] n I L (cRW R w) (fun I2 L2 => L2 = L ∧ cRr w I I2 ∧ xBg w I I2) := by
  refine px_of (plainFor_of_name np_RX4) (fun _ _ _ => trivial) rfl ?_
  have hr := cRr.rfl' hd
  obtain ⟨d0, d1, d2, d3, d4, d5, d6, d7, d8, d9⟩ := cRd.op hd
  refine px_b rfl q_X4_begin_0 hg rfl ⟨⟨trivial, (by first | exact hw.1 | exact hw.2.1 | exact hw.2.2 | with_reducible assumption | decide | (refine ⟨?_, ?_⟩ <;> grind) | (simp only [px_ur]; refine ⟨?_, ?_⟩ <;> grind))⟩, (by first | exact hw.1 | exact hw.2.1 | exact hw.2.2 | with_reducible assumption | decide | (refine ⟨?_, ?_⟩ <;> grind) | (simp only [px_ur]; refine ⟨?_, ?_⟩ <;> grind))⟩ ?_
  exact px_go (ls_begin hg hw (I0 := I) (fun I2 h h2 => ⟨rfl, rfl, rfl, rfl, h, h2⟩) 0 (by decide) (by decide) _ (by repeat (first | exact hr | refine cRr.up ?_ (by unfold cOk; (try simp only [px_app, px_ur]); grind))) (fun b j _ => rfl) (fun l h9 => absurd h9 (by rw [xz0]; omega))) ⟨rfl, rfl, trivial⟩

set_option maxRecDepth 100000 in
theorem ls_read70 {n : Nat} {R : px_R} {w : Nat} (hg : px_G n (cRW R w)) (hw : cWay n w) {Q : px_Q} (x : Int32) {I0 I : px_I} {L : px_L} (hr : cRr w I0 I) (hq : ∀ r I2, (r = 0 ∨ r = 1) → cRr w I0 I2 → I2 = xEn w I → (r = 1 ↔ xEn1 I 76 14 = 0) → Q (some (.int r)) n I2 L (cRW R w)) : px M_X4_read 0 0 70 [(0, .ref 76), (1, .int x)] [] n I L (cRW R w) Q := by
  obtain ⟨d0, d1, d2, d3, d4, d5, d6, d7, d8, d9⟩ := cRd.op hr.1
  refine px_ne rfl q_X4_read_70 hg rfl trivial (fun c74 => ?_) (fun c74 => ?_)
  · refine px_ne rfl q_X4_read_89 hg rfl ⟨⟨trivial, (by first | exact hw.1 | exact hw.2.1 | exact hw.2.2 | with_reducible assumption | decide | (refine ⟨?_, ?_⟩ <;> grind) | (simp only [px_ur]; refine ⟨?_, ?_⟩ <;> grind))⟩, (by first | exact hw.1 | exact hw.2.1 | exact hw.2.2 | with_reducible assumption | decide | (refine ⟨?_, ?_⟩ <;> grind) | (simp only [px_ur]; refine ⟨?_, ?_⟩ <;> grind))⟩ (fun c106 => ?_) (fun c106 => ?_)
    · refine px_rz rfl q_X4_read_113 rfl rfl rfl hg rfl trivial (by first | exact Or.inl rfl | exact Or.inr rfl | grind) ?_
      have z9 : I = xEn1 I := by unfold xEn1; rw [if_neg (by grind)]
      first | exact hq _ _ (Or.inl rfl) (by repeat (first | exact hr | refine cRr.up ?_ (by unfold cOk; (try simp only [px_app, px_ur]); grind))) (by unfold xEn; rw [← z9, xz0]) (by rw [← z9]; (try simp only [px_app, px_ur] at *); grind) | exact hq _ _ (Or.inr rfl) (by repeat (first | exact hr | refine cRr.up ?_ (by unfold cOk; (try simp only [px_app, px_ur]); grind))) (by unfold xEn; rw [← z9, xz0]) (by rw [← z9]; (try simp only [px_app, px_ur] at *); grind)
    · refine px_rz rfl q_X4_read_109 rfl rfl rfl hg rfl trivial (by first | exact Or.inl rfl | exact Or.inr rfl | grind) ?_
      have z9 : I = xEn1 I := by unfold xEn1; rw [if_neg (by grind)]
      first | exact hq _ _ (Or.inl rfl) (by repeat (first | exact hr | refine cRr.up ?_ (by unfold cOk; (try simp only [px_app, px_ur]); grind))) (by unfold xEn; rw [← z9, xz0]) (by rw [← z9]; (try simp only [px_app, px_ur] at *); grind) | exact hq _ _ (Or.inr rfl) (by repeat (first | exact hr | refine cRr.up ?_ (by unfold cOk; (try simp only [px_app, px_ur]); grind))) (by unfold xEn; rw [← z9, xz0]) (by rw [← z9]; (try simp only [px_app, px_ur] at *); grind)
  · refine px_le rfl q_X4_read_77 hg rfl trivial (fun c81 => ?_) (fun c81 => ?_)
    · refine px_ne rfl q_X4_read_89 hg rfl ⟨⟨trivial, (by first | exact hw.1 | exact hw.2.1 | exact hw.2.2 | with_reducible assumption | decide | (refine ⟨?_, ?_⟩ <;> grind) | (simp only [px_ur]; refine ⟨?_, ?_⟩ <;> grind))⟩, (by first | exact hw.1 | exact hw.2.1 | exact hw.2.2 | with_reducible assumption | decide | (refine ⟨?_, ?_⟩ <;> grind) | (simp only [px_ur]; refine ⟨?_, ?_⟩ <;> grind))⟩ (fun c106 => ?_) (fun c106 => ?_)
      · refine px_rz rfl q_X4_read_113 rfl rfl rfl hg rfl trivial (by first | exact Or.inl rfl | exact Or.inr rfl | grind) ?_
        have z9 : I = xEn1 I := by unfold xEn1; rw [if_neg (by grind)]
        first | exact hq _ _ (Or.inl rfl) (by repeat (first | exact hr | refine cRr.up ?_ (by unfold cOk; (try simp only [px_app, px_ur]); grind))) (by unfold xEn; rw [← z9, xz0]) (by rw [← z9]; (try simp only [px_app, px_ur] at *); grind) | exact hq _ _ (Or.inr rfl) (by repeat (first | exact hr | refine cRr.up ?_ (by unfold cOk; (try simp only [px_app, px_ur]); grind))) (by unfold xEn; rw [← z9, xz0]) (by rw [← z9]; (try simp only [px_app, px_ur] at *); grind)
      · refine px_rz rfl q_X4_read_109 rfl rfl rfl hg rfl trivial (by first | exact Or.inl rfl | exact Or.inr rfl | grind) ?_
        have z9 : I = xEn1 I := by unfold xEn1; rw [if_neg (by grind)]
        first | exact hq _ _ (Or.inl rfl) (by repeat (first | exact hr | refine cRr.up ?_ (by unfold cOk; (try simp only [px_app, px_ur]); grind))) (by unfold xEn; rw [← z9, xz0]) (by rw [← z9]; (try simp only [px_app, px_ur] at *); grind) | exact hq _ _ (Or.inr rfl) (by repeat (first | exact hr | refine cRr.up ?_ (by unfold cOk; (try simp only [px_app, px_ur]); grind))) (by unfold xEn; rw [← z9, xz0]) (by rw [← z9]; (try simp only [px_app, px_ur] at *); grind)
    · refine px_cVW (ci := 4) rfl q_X4_read_84 hg rfl trivial lk_4_86 nm_X4_fail (xs_fail hg hw _ hr.1) rfl rfl (px_lit hg rfl) rfl rfl rfl ⟨rfl, rfl⟩ ?_
      intro I86 L86 h86
      obtain ⟨rfl, g86, h86⟩ := h86
      replace hr := hr.trans h86
      have z9 : I86 = xEn1 I := by unfold xEn1; rw [g86, if_pos (by grind)]
      refine px_ne rfl q_X4_read_89 hg rfl ⟨⟨trivial, (by first | exact hw.1 | exact hw.2.1 | exact hw.2.2 | with_reducible assumption | decide | (refine ⟨?_, ?_⟩ <;> grind) | (simp only [px_ur]; refine ⟨?_, ?_⟩ <;> grind))⟩, (by first | exact hw.1 | exact hw.2.1 | exact hw.2.2 | with_reducible assumption | decide | (refine ⟨?_, ?_⟩ <;> grind) | (simp only [px_ur]; refine ⟨?_, ?_⟩ <;> grind))⟩ (fun c106 => ?_) (fun c106 => ?_)
      · refine px_rz rfl q_X4_read_113 rfl rfl rfl hg rfl trivial (by first | exact Or.inl rfl | exact Or.inr rfl | grind) ?_
        first | exact hq _ _ (Or.inl rfl) (by repeat (first | exact hr | refine cRr.up ?_ (by unfold cOk; (try simp only [px_app, px_ur]); grind))) (by unfold xEn; rw [← z9, xz0]) (by rw [← z9]; (try simp only [px_app, px_ur] at *); grind) | exact hq _ _ (Or.inr rfl) (by repeat (first | exact hr | refine cRr.up ?_ (by unfold cOk; (try simp only [px_app, px_ur]); grind))) (by unfold xEn; rw [← z9, xz0]) (by rw [← z9]; (try simp only [px_app, px_ur] at *); grind)
      · refine px_rz rfl q_X4_read_109 rfl rfl rfl hg rfl trivial (by first | exact Or.inl rfl | exact Or.inr rfl | grind) ?_
        first | exact hq _ _ (Or.inl rfl) (by repeat (first | exact hr | refine cRr.up ?_ (by unfold cOk; (try simp only [px_app, px_ur]); grind))) (by unfold xEn; rw [← z9, xz0]) (by rw [← z9]; (try simp only [px_app, px_ur] at *); grind) | exact hq _ _ (Or.inr rfl) (by repeat (first | exact hr | refine cRr.up ?_ (by unfold cOk; (try simp only [px_app, px_ur]); grind))) (by unfold xEn; rw [← z9, xz0]) (by rw [← z9]; (try simp only [px_app, px_ur] at *); grind)

set_option maxRecDepth 100000 in
theorem ls_read13 {n : Nat} {R : px_R} {w : Nat} (hg : px_G n (cRW R w)) (hw : cWay n w) {Q : px_Q} {I0 Z : px_I} {L : px_L} (ht : I0 70 6 ≤ 401) (hq : ∀ r I2, (r = 0 ∨ r = 1) → cRr w I0 I2 → I2 = xEn w Z → (r = 1 ↔ xEn1 Z 76 14 = 0) → Q (some (.int r)) n I2 L (cRW R w)) : ∀ i : Int32, i ≤ 401 → 0 ≤ i → i ≤ I0 70 6 → ∀ I, cRr w I0 I → xLp w (I0 70 6 - i).toNatClampNeg I = Z → px M_X4_read 0 0 13 [(0, .ref 76), (1, .int i)] [] n I L (cRW R w) Q := by
  refine px_up 401 (fun i ih hi => ?_)
  intro h0 hiN I hr hZ
  have e6 : I 70 6 = I0 70 6 := hr.2 70 6 (by omega) (by omega) (by have := hr.1.1; omega) (by have := hr.1.1; omega) (by have := hr.1.1; omega)
  refine px_ige rfl q_X4_read_13 hg rfl trivial (fun c21 => ?_) (fun c21 => ?_)
  · have z9 : I = Z := by
      rw [← hZ]
      by_cases e : i = I0 70 6
      · rw [show I0 70 6 - i = 0 by grind, xz0]; rfl
      · rw [xfu h0 (show i < I0 70 6 by grind) ht]
        unfold xLp
        rw [if_neg (by grind)]
    subst z9
    exact px_go (ls_read70 hg hw i hr hq) ⟨rfl, rfl, trivial⟩
  · refine px_ne rfl q_X4_read_24 hg rfl trivial (fun c28 => ?_) (fun c28 => ?_)
    · have z9 : I = Z := by
        rw [← hZ]
        by_cases e : i = I0 70 6
        · rw [show I0 70 6 - i = 0 by grind, xz0]; rfl
        · rw [xfu h0 (show i < I0 70 6 by grind) ht]
          unfold xLp
          rw [if_neg (by grind)]
      subst z9
      exact px_go (ls_read70 hg hw i hr hq) ⟨rfl, rfl, trivial⟩
    · refine px_cVW (ci := 4) rfl q_X4_read_31 hg rfl trivial lk_4_77 nm_X4_nextToken (xs_nextToken hg hw hr.1) rfl rfl (px_lit hg rfl) rfl rfl rfl ⟨rfl, rfl⟩ ?_
      intro I32 L32 h32
      obtain ⟨rfl, g32, h32⟩ := h32
      replace hr := hr.trans h32
      refine px_ne rfl q_X4_read_35 hg rfl trivial (fun c39 => ?_) (fun c39 => ?_)
      · refine px_ine rfl q_X4_read_45 hg rfl trivial (fun c50 => ?_) (fun c50 => ?_)
        · refine px_cVW (ci := 4) rfl q_X4_read_60 hg rfl trivial lk_4_83 nm_X4_readPart (xs_readPart hg hw hr.1) rfl rfl (px_lit hg rfl) rfl rfl rfl ⟨rfl, rfl⟩ ?_
          intro I61 L61 h61
          obtain ⟨rfl, g61, h61⟩ := h61
          replace hr := hr.trans h61
          refine px_b rfl q_X4_read_64 hg rfl trivial ?_
          have f9 := xfu h0 (show i < I0 70 6 by grind) ht
          rw [f9] at hZ
          unfold xLp at hZ
          rw [if_pos (by first | assumption | grind), ← g32, if_neg (by assumption), if_neg (by assumption), ← g61] at hZ
          exact px_go (ih (i + 1) (by grind) (by grind) (by grind) (by grind) _ hr hZ) ⟨rfl, rfl, trivial⟩
        · refine px_cVW (ci := 4) rfl q_X4_read_53 hg rfl trivial lk_4_80 nm_X4_closeBlock (xs_closeBlock hg hw hr.1) rfl rfl (px_lit hg rfl) rfl rfl rfl ⟨rfl, rfl⟩ ?_
          intro I54 L54 h54
          obtain ⟨rfl, g54, h54⟩ := h54
          replace hr := hr.trans h54
          refine px_b rfl q_X4_read_57 hg rfl trivial ?_
          have f9 := xfu h0 (show i < I0 70 6 by grind) ht
          rw [f9] at hZ
          unfold xLp at hZ
          rw [if_pos (by first | assumption | grind), ← g32, if_neg (by assumption), if_pos (by assumption), ← g54] at hZ
          exact px_go (ih (i + 1) (by grind) (by grind) (by grind) (by grind) _ hr hZ) ⟨rfl, rfl, trivial⟩
      · refine px_b rfl q_X4_read_42 hg rfl trivial ?_
        have f9 := xfu h0 (show i < I0 70 6 by grind) ht
        rw [f9] at hZ
        unfold xLp at hZ
        rw [if_pos (by first | assumption | grind), ← g32, if_pos (by assumption)] at hZ
        subst hZ
        exact px_go (ls_read70 hg hw i hr hq) ⟨rfl, rfl, trivial⟩

set_option maxRecDepth 100000 in
theorem xs_read {n : Nat} {I : px_I} {L : px_L} {R : px_R} {w : Nat} (hg : px_G n (cRW R w)) (hw : cWay n w) (hl : 0 ≤ I 70 5 ∧ I 70 5 ≤ 400) (hd : cRd w I) : px_KS M_X4_read [.ref 76] n I L (cRW R w) (fun r I2 L2 => (r = 0 ∨ r = 1) ∧ L2 = L ∧ cRd w I2 ∧ cRG w I I2 ∧ xRead w I I2 ∧ (r = 1 ↔ I2 76 14 = 0)) := by
  refine px_of (plainFor_of_name np_RX4) (fun _ _ _ => trivial) rfl ?_
  refine px_cVW (ci := 8) rfl q_X4_read_0 hg rfl trivial lk_4_68 nm_X8_cut (cs_cut hg hl hd.2.2.1) rfl rfl (px_lit hg rfl) rfl rfl rfl ⟨rfl, rfl⟩ ?_
  intro I4 L4 h4
  obtain ⟨rfl, h4a, h4b, h4c, h4d⟩ := h4
  have hd4 := hd.cut h4a h4b h4c
  refine px_cVW (ci := 4) rfl q_X4_read_7 hg rfl trivial lk_4_71 nm_X4_begin (xs_begin hg hw hd4) rfl rfl (px_lit hg rfl) rfl rfl rfl ⟨rfl, rfl⟩ ?_
  intro I8 L8 h8
  obtain ⟨rfl, h8, g8⟩ := h8
  have e68 : I8 70 6 = I4 70 6 := h8.2 70 6 (by omega) (by omega) (by have := h8.1.1; omega) (by have := h8.1.1; omega) (by have := h8.1.1; omega)
  refine px_b rfl q_X4_read_11 hg rfl trivial ?_
  exact px_go (ls_read13 hg hw h4b.2 (fun r I2 hr h h2 h3 => ⟨rfl, rfl, r, rfl, hr, rfl, h.1, cRG.of h4a h.2, ⟨I4, I8, h4a, h4d, h4b, g8, by rw [h2, e68, show I4 70 6 - 0 = I4 70 6 by grind]⟩, by rw [h3, h2]; unfold xEn; rw [px_u_ne (by have := h.1.1; omega)]⟩) 0 (by decide) (by decide) h4b.1 _ h8 rfl) ⟨rfl, rfl, trivial⟩
