/-! what each call that has to do with ways says -/
def pbs_tools (a b c d e : Int32) (I : px_I) (L : px_L) : Int32 → px_I → px_L → Prop := (fun r I2 L2 => L2 = L ∧ ((((0 ≤ a ∧ a ≤ 1000) ∧ (0 ≤ b ∧ b ≤ 1000) ∧ (0 ≤ c ∧ c ≤ 1000) ∧ (0 ≤ d ∧ d ≤ 10000) ∧ (0 ≤ e ∧ e ≤ 1000)) ∧ r = 1 ∧ cKF (px_u (px_u (px_u (px_u (px_u I 86 3 a) 86 4 b) 86 5 c) 86 6 d) 86 7 e) I2 ∧ ∀ k : Nat, k < 96 → I2 90 k = 0) ∨ (¬ ((0 ≤ a ∧ a ≤ 1000) ∧ (0 ≤ b ∧ b ≤ 1000) ∧ (0 ≤ c ∧ c ≤ 1000) ∧ (0 ≤ d ∧ d ≤ 10000) ∧ (0 ≤ e ∧ e ≤ 1000)) ∧ r = 0 ∧ I2 = I)))
def pks_tools (a b c d e : Int32) (I : px_I) (L : px_L) : Int32 → px_I → px_L → Prop := pk_tools a b c d e I L
theorem pbs_tools.old {a b c d e x : Int32} {I I2 : px_I} {L L2 : px_L} (q : pbs_tools a b c d e I L x I2 L2) : pb_tools a b c d e I L x I2 L2 := ⟨q.1, q.2.imp (fun z => ⟨z.1, z.2.1, z.2.2.1⟩) id⟩
theorem pks_tools.old {a b c d e x : Int32} {I I2 : px_I} {L L2 : px_L} (q : pks_tools a b c d e I L x I2 L2) : pk_tools a b c d e I L x I2 L2 := q
theorem jbs_tools {n : Nat} {I : px_I} {L : px_L} {R : px_R} (hj : jJ n I R) (a b c d e : Int32) : px_K M_X11_tools [.ref 32, .int a, .int b, .int c, .int d, .int e] n I L R (jB n I L (kR R) (pbs_tools a b c d e I L)) := jSk (bs_tools hj.g a b c d e) hj (fun x I2 L2 h => by
  obtain ⟨rfl, h⟩ := h
  rcases h with ⟨a1, rfl, a2, -⟩ | ⟨a1, rfl, rfl⟩
  · refine ⟨fun b j hc => ?_, fun _ _ _ => rfl⟩
    unfold kCell at hc
    rw [a2 b (by omega)]
    (simp only [px_ur]; grind)
  · exact ⟨fun _ _ _ => rfl, fun _ _ _ => rfl⟩)
theorem jks_tools {n : Nat} {I : px_I} {L : px_L} {R : px_R} (hj : jJ n I R) (a b c d e : Int32) : px_K M_X12_tools [.ref 103, .int a, .int b, .int c, .int d, .int e] n I L R (jK n I L R (pks_tools a b c d e I L)) := jk_tools hj a b c d e
theorem wyP.ref {I I2 : px_I} {L L2 : px_L} {R : px_R} {Z : Nat → zL} (h : wyP I R Z) (f : frB I I2 L L2) : mHas I2 Z := h.2.1.eq (f.1 129 (by decide) (by decide)) (f.1 130 (by decide) (by decide)) (f.1 131 (by decide) (by decide))
theorem WY.ask2 {I I2 I3 : px_I} {L L2 L3 : px_L} {R R2 : px_R} {Z : Nat → zL} (h : wyP I R Z) (c : cHas I2 R Z) (hb : bXI I I2) (f1 : frB I I2 L L2) (f2 : frK I2 I3 L2 L3) (k : mXI I2 I3) (hq : kQ R R2) : WY I3 R2 :=
  WY.ask h c (fun b hb => f2.1 b hb) ((funext fun j => k 129 j (by decide) (by decide) (by omega)).trans (f1.1 129 (by decide) (by decide))) ((funext fun j => k 130 j (by decide) (by decide) (by omega)).trans (f1.1 130 (by decide) (by decide))) ((funext fun j => k 131 j (by decide) (by decide) (by omega)).trans (f1.1 131 (by decide) (by decide))) (fun q hq9 => by rw [k 103 (47 + q) (by decide) (by decide) (by omega), f1.1 103 (by decide) (by decide)]) (fun q hq9 => hb 86 (3 + q) (by decide) (by decide) (by decide) (by decide) (by decide) (by decide) (by omega)) hq
theorem run_eq {I I2 : px_I} {L L2 : px_L} {R : px_R} {Z : Nat → zL} {w h a : Int32} (hw : wyP I R Z) (f : frB I I2 L L2) : aRn R (cTl I) Z w h a = kRn I2 Z w h a := by
  obtain ⟨-, -, -, t, tl⟩ := hw
  unfold aRn kRn
  have e : (((0 ≤ w ∧ w < 6) ∧ (0 ≤ h ∧ h ≤ 15) ∧ (0 ≤ a ∧ a ≤ 8)) ∧ R 89 w.toNatClampNeg ≠ none) ↔ (((0 ≤ w ∧ w ≤ 5) ∧ I2 129 w.toNatClampNeg = 1) ∧ (0 ≤ h ∧ h ≤ 15) ∧ (0 ≤ a ∧ a ≤ 8)) := by
    rw [f.1 129 (by decide) (by decide)]
    constructor
    · rintro ⟨⟨q1, q2, q3⟩, q4⟩
      have q := t w.toNatClampNeg (px_n6 q1)
      rw [if_pos (Option.isSome_iff_ne_none.mpr q4)] at q
      exact ⟨⟨⟨q1.1, by have := q1.2; grind⟩, q⟩, q2, q3⟩
    · rintro ⟨⟨q1, q4⟩, q2, q3⟩
      have q1' : 0 ≤ w ∧ w < 6 := ⟨q1.1, by have := q1.2; grind⟩
      refine ⟨⟨q1', q2, q3⟩, fun q5 => ?_⟩
      have q := t w.toNatClampNeg (px_n6 q1')
      rw [q5, q4] at q
      exact absurd q (by decide)
  have eT : ∀ k, k < 5 → cTl I k = tR I2 k := fun k hk => by
    rw [tl k hk]
    show I 103 (47 + k) = I2 103 (47 + k)
    rw [f.1 103 (by decide) (by decide)]
  by_cases c : ((0 ≤ w ∧ w < 6) ∧ (0 ≤ h ∧ h ≤ 15) ∧ (0 ≤ a ∧ a ≤ 8)) ∧ R 89 w.toNatClampNeg ≠ none
  · rw [if_pos c, if_pos (e.mp c)]
    exact aRes_t eT _ _ _
  · rw [if_neg c, if_neg (fun z => c (e.mpr z))]

def pbs_run (R : px_R) (w h a : Int32) (I : px_I) (L : px_L) : Int32 → px_I → px_L → Prop := (fun x9 I2 L2 => (bXI I I2 ∧ bXL L L2) ∧ cHas I2 R (Zc I R) ∧ x9 = aRn R (cTl I) (Zc I R) w h a)
theorem pbs_run.old {w h a x9 : Int32} {I I2 : px_I} {L L2 : px_L} {R : px_R} (q : pbs_run R w h a I L x9 I2 L2) : pb_run w h a I L x9 I2 L2 := q.1
theorem jbs_run {n : Nat} {I : px_I} {L : px_L} {R : px_R} (hj : jJ n I R) (hx : wyP I R (Zc I R) ∧ cSo I) (w h a : Int32) : px_K M_X11_run [.ref 32, .int w, .int h, .int a] n I L R (jB n I L (kR R) (pbs_run R w h a I L)) := jSk (bs_run hj.g w h a hj.t hx.1.1) hj (fun x9 I2 L2 h => by
  replace h := h.1
  refine ⟨fun b j hc => ?_, fun b h1 h2 => h.2 b (by omega) (by omega)⟩
  unfold kCell at hc
  exact h.1 b j (by omega) (by omega) (by omega) (by omega) (by omega) (by omega) (by omega))
def pks_run (Z : Nat → zL) (w h a : Int32) (I : px_I) (L : px_L) : Int32 → px_I → px_L → Prop := (fun x9 I2 L2 => (mXI I I2 ∧ mXL L L2) ∧ x9 = kRn I Z w h a)
theorem pks_run.old {w h a x9 : Int32} {I I2 : px_I} {L L2 : px_L} {Z : Nat → zL} (q : pks_run Z w h a I L x9 I2 L2) : pk_run w h a I L x9 I2 L2 := q.1
theorem jks_run {n : Nat} {I : px_I} {L : px_L} {R : px_R} (hj : jJ n I R) {Z : Nat → zL} (hz : mHas I Z) (w h a : Int32) : px_K M_X12_run [.ref 103, .int w, .int h, .int a] n I L R (jK n I L R (pks_run Z w h a I L)) := jKS (kx_run hj.g w h a hz) hj (fun x9 I2 L2 h => by
  replace h := h.1
  exact ⟨hj.m.cells (fun b j hc => h.1 b j (by unfold mCell at hc; omega) (by unfold mCell at hc; omega) (by unfold mCell at hc; omega)), fun b hb => funext fun j => h.1 b j (by omega) (by omega) (by omega), fun b hb => h.2 b (by omega) (by omega) (by omega) (by omega) (by omega)⟩)

def pbs_ways (R : px_R) (a f b t x : Int32) (I : px_I) (L : px_L) : Int32 → px_I → px_L → Prop := (fun x9 I2 L2 => (bXI I I2 ∧ bXL L L2) ∧ cHas I2 R (Zc I R) ∧ x9 = cWs I R (Zc I R) a f b t x)
theorem pbs_ways.old {a f b t x x9 : Int32} {I I2 : px_I} {L L2 : px_L} {R : px_R} (q : pbs_ways R a f b t x I L x9 I2 L2) : pb_ways a f b t x I L x9 I2 L2 := q.1
theorem jbs_ways {n : Nat} {I : px_I} {L : px_L} {R : px_R} (hj : jJ n I R) (hx : wyP I R (Zc I R) ∧ cSo I) (a f b t x : Int32) : px_K M_X11_ways [.ref 32, .int a, .int f, .int b, .int t, .int x] n I L R (jB n I L (kR R) (pbs_ways R a f b t x I L)) := jSk (bs_ways hj.g a f b t x hj.t hx.1.1 hj.s hx.2) hj (fun x9 I2 L2 h => by
  replace h := h.1
  refine ⟨fun b j hc => ?_, fun b h1 h2 => h.2 b (by omega) (by omega)⟩
  unfold kCell at hc
  exact h.1 b j (by omega) (by omega) (by omega) (by omega) (by omega) (by omega) (by omega))
def pks_ways (Z : Nat → zL) (a f b t x : Int32) (I : px_I) (L : px_L) : Int32 → px_I → px_L → Prop := (fun x9 I2 L2 => (mXI I I2 ∧ mXL L L2) ∧ x9 = kWs I Z a f b t x)
theorem pks_ways.old {a f b t x x9 : Int32} {I I2 : px_I} {L L2 : px_L} {Z : Nat → zL} (q : pks_ways Z a f b t x I L x9 I2 L2) : pk_ways a f b t x I L x9 I2 L2 := q.1
theorem jks_ways {n : Nat} {I : px_I} {L : px_L} {R : px_R} (hj : jJ n I R) {Z : Nat → zL} (hz : mHas I Z) (a f b t x : Int32) : px_K M_X12_ways [.ref 103, .int a, .int f, .int b, .int t, .int x] n I L R (jK n I L R (pks_ways Z a f b t x I L)) := jKS (kx_ways hj.g a f b t x hj.m.1 hz) hj (fun x9 I2 L2 h => by
  replace h := h.1
  exact ⟨hj.m.cells (fun b j hc => h.1 b j (by unfold mCell at hc; omega) (by unfold mCell at hc; omega) (by unfold mCell at hc; omega)), fun b hb => funext fun j => h.1 b j (by omega) (by omega) (by omega), fun b hb => h.2 b (by omega) (by omega) (by omega) (by omega) (by omega)⟩)

def pbs_meeting (R : px_R) (a f b t x h : Int32) (I : px_I) (L : px_L) : Int32 → px_I → px_L → Prop := (fun x9 I2 L2 => (bXI I I2 ∧ bXL L L2) ∧ cHas I2 R (Zc I R))
theorem pbs_meeting.old {a f b t x h x9 : Int32} {I I2 : px_I} {L L2 : px_L} {R : px_R} (q : pbs_meeting R a f b t x h I L x9 I2 L2) : pb_meeting a f b t x h I L x9 I2 L2 := q.1
theorem jbs_meeting {n : Nat} {I : px_I} {L : px_L} {R : px_R} (hj : jJ n I R) (hx : wyP I R (Zc I R) ∧ cSo I) (a f b t x h : Int32) : px_K M_X11_meeting [.ref 32, .int a, .int f, .int b, .int t, .int x, .int h] n I L R (jB n I L (kR R) (pbs_meeting R a f b t x h I L)) := jSk (bs_meeting hj.g a f b t x h hj.t hx.1.1 hj.s) hj (fun x9 I2 L2 h => by
  replace h := h.1
  refine ⟨fun b j hc => ?_, fun b h1 h2 => h.2 b (by omega) (by omega)⟩
  unfold kCell at hc
  exact h.1 b j (by omega) (by omega) (by omega) (by omega) (by omega) (by omega) (by omega))
def pks_meeting (a f b t x h : Int32) (I : px_I) (L : px_L) : Int32 → px_I → px_L → Prop := pk_meeting a f b t x h I L
theorem pks_meeting.old {a f b t x h x9 : Int32} {I I2 : px_I} {L L2 : px_L} (q : pks_meeting a f b t x h I L x9 I2 L2) : pk_meeting a f b t x h I L x9 I2 L2 := q
theorem jks_meeting {n : Nat} {I : px_I} {L : px_L} {R : px_R} (hj : jJ n I R) (a f b t x h : Int32) : px_K M_X12_meeting [.ref 103, .int a, .int f, .int b, .int t, .int x, .int h] n I L R (jK n I L R (pks_meeting a f b t x h I L)) := jk_meeting hj a f b t x h

def pbs_fits (R : px_R) (a f b t : Int32) (I : px_I) (L : px_L) : Int32 → px_I → px_L → Prop := (fun x9 I2 L2 => (bXI I I2 ∧ bXL L L2) ∧ cHas I2 R (Zc I R))
theorem pbs_fits.old {a f b t x9 : Int32} {I I2 : px_I} {L L2 : px_L} {R : px_R} (q : pbs_fits R a f b t I L x9 I2 L2) : pb_fits a f b t I L x9 I2 L2 := q.1
theorem jbs_fits {n : Nat} {I : px_I} {L : px_L} {R : px_R} (hj : jJ n I R) (hx : wyP I R (Zc I R) ∧ cSo I) (a f b t : Int32) : px_K M_X11_fits [.ref 32, .int a, .int f, .int b, .int t] n I L R (jB n I L (kR R) (pbs_fits R a f b t I L)) := jSk (bs_fits hj.g a f b t hj.t hx.1.1 hj.s) hj (fun x9 I2 L2 h => by
  replace h := h.1
  refine ⟨fun b j hc => ?_, fun b h1 h2 => h.2 b (by omega) (by omega)⟩
  unfold kCell at hc
  exact h.1 b j (by omega) (by omega) (by omega) (by omega) (by omega) (by omega) (by omega))
def pks_fits (a f b t : Int32) (I : px_I) (L : px_L) : Int32 → px_I → px_L → Prop := pk_fits a f b t I L
theorem pks_fits.old {a f b t x9 : Int32} {I I2 : px_I} {L L2 : px_L} (q : pks_fits a f b t I L x9 I2 L2) : pk_fits a f b t I L x9 I2 L2 := q
theorem jks_fits {n : Nat} {I : px_I} {L : px_L} {R : px_R} (hj : jJ n I R) (a f b t : Int32) : px_K M_X12_fits [.ref 103, .int a, .int f, .int b, .int t] n I L R (jK n I L R (pks_fits a f b t I L)) := jk_fits hj a f b t



set_option maxRecDepth 100000 in
theorem lcs_way {N : Nat} {xs : Nat → Int32} {n cu su : Nat} {I : px_I} {L : px_L} {R : px_R} {Q : px_Q} {i : Int32} (hi : lwI N i) (hcu : cu ≤ 490000) (hsu : su ≤ 6900000) (hj : jJ n I R) (kk : ∀ (x : Int32) (n2 : Nat) I2 L2 R2 (y : Int32) I3 L3, jJ n2 I3 R2 → frB I I2 L L2 → wZ (ag xs i 1) I R I2 R2 → pbs_way (ag xs i 1) I L x I2 L2 → frK I2 I3 L2 L3 → pks_way (ag xs i 1) I2 L2 y I3 L3 → px (M_law N xs) (cu + 3) (su + 404) 1868 (lwL i) [] n2 I3 L3 R2 Q) : px (M_law N xs) cu su 1039 (lwL i) [] n I L R Q := by
  have hg := hj.g
  refine px_b (on := 13) rfl q_law_1039 hg rfl trivial ?_
  refine px_argC q_law_1040 hg hi (by decide) ?_
  refine px_kB q_law_1045 lk_13_93 nm_X11_way (jbs_way hj _) rfl rfl hg rfl (rkL rfl rfl rfl rfl (by omega) (by omega) rfl) ?_
  intro x n2 I2 L2 R2 hj2 f1 fR p1
  have hg := hj2.g
  refine px_b (on := 13) rfl q_law_1048 hg rfl trivial ?_
  refine px_argC q_law_1050 hg hi (by decide) ?_
  refine px_kK q_law_1055 lk_13_96 nm_X12_way (jks_way hj2 _) rfl rfl hg rfl (rkL rfl rfl rfl rfl (by show cu + 3 ≤ 500000; omega) (by show su + 404 ≤ 7000000; omega) rfl) ?_
  intro y I3 L3 hj3 f2 p2
  have hg := hj3.g
  refine px_b (on := 13) rfl q_law_1058 hg rfl trivial ?_
  exact px_wid (cu2 := cu + 3) (su2 := su + 404) (by show cu + 3 + 0 ≤ cu + 3; omega) (by show su + 404 + 0 ≤ su + 404; omega) (kk x n2 I2 L2 R2 y I3 L3 hj3 f1 fR p1 f2 p2)



set_option maxRecDepth 100000 in
theorem lcs_tools {N : Nat} {xs : Nat → Int32} {n cu su : Nat} {I : px_I} {L : px_L} {R : px_R} {Q : px_Q} {i : Int32} (hi : lwI N i) (hcu : cu ≤ 490000) (hsu : su ≤ 6900000) (hj : jJ n I R) (kk : ∀ (x : Int32) (n2 : Nat) I2 L2 R2 (y : Int32) I3 L3, jJ n2 I3 R2 → frB I I2 L L2 → kR R I2 R2 → pbs_tools (ag xs i 1) (ag xs i 2) (ag xs i 3) (ag xs i 4) (ag xs i 5) I L x I2 L2 → frK I2 I3 L2 L3 → pks_tools (ag xs i 1) (ag xs i 2) (ag xs i 3) (ag xs i 4) (ag xs i 5) I2 L2 y I3 L3 → px (M_law N xs) (cu + 3) (su + 404) 1868 (lwL i) [] n2 I3 L3 R2 Q) : px (M_law N xs) cu su 1085 (lwL i) [] n I L R Q := by
  have hg := hj.g
  refine px_b (on := 13) rfl q_law_1085 hg rfl trivial ?_
  refine px_argC q_law_1086 hg hi (by decide) ?_
  refine px_argC q_law_1091 hg hi (by decide) ?_
  refine px_argC q_law_1096 hg hi (by decide) ?_
  refine px_argC q_law_1101 hg hi (by decide) ?_
  refine px_argC q_law_1106 hg hi (by decide) ?_
  refine px_kB q_law_1111 lk_13_101 nm_X11_tools (jbs_tools hj _ _ _ _ _) rfl rfl hg rfl (rkL rfl rfl rfl rfl (by omega) (by omega) rfl) ?_
  intro x n2 I2 L2 R2 hj2 f1 fR p1
  have hg := hj2.g
  refine px_b (on := 13) rfl q_law_1114 hg rfl trivial ?_
  refine px_argC q_law_1116 hg hi (by decide) ?_
  refine px_argC q_law_1121 hg hi (by decide) ?_
  refine px_argC q_law_1126 hg hi (by decide) ?_
  refine px_argC q_law_1131 hg hi (by decide) ?_
  refine px_argC q_law_1136 hg hi (by decide) ?_
  refine px_kK q_law_1141 lk_13_105 nm_X12_tools (jks_tools hj2 _ _ _ _ _) rfl rfl hg rfl (rkL rfl rfl rfl rfl (by show cu + 0 ≤ 500000; omega) (by show su + 0 ≤ 7000000; omega) rfl) ?_
  intro y I3 L3 hj3 f2 p2
  have hg := hj3.g
  refine px_b (on := 13) rfl q_law_1144 hg rfl trivial ?_
  exact px_wid (cu2 := cu + 3) (su2 := su + 404) (by show cu + 0 + 0 ≤ cu + 3; omega) (by show su + 0 + 0 ≤ su + 404; omega) (kk x n2 I2 L2 R2 y I3 L3 hj3 f1 fR p1 f2 p2)



set_option maxRecDepth 100000 in
theorem lcs_run {N : Nat} {xs : Nat → Int32} {n cu su : Nat} {I : px_I} {L : px_L} {R : px_R} {Q : px_Q} {i : Int32} (hi : lwI N i) (hcu : cu ≤ 490000) (hsu : su ≤ 6900000) (hj : jJ n I R) (hx : wyP I R (Zc I R) ∧ cSo I) (kk : ∀ (x : Int32) (n2 : Nat) I2 L2 R2 (y : Int32) I3 L3, jJ n2 I3 R2 → frB I I2 L L2 → kR R I2 R2 → pbs_run R (ag xs i 1) (ag xs i 2) (ag xs i 3) I L x I2 L2 → frK I2 I3 L2 L3 → pks_run (Zc I R) (ag xs i 1) (ag xs i 2) (ag xs i 3) I2 L2 y I3 L3 → px (M_law N xs) (cu + 3) (su + 404) 1868 (lwL i) [] n2 I3 L3 R2 Q) : px (M_law N xs) cu su 1148 (lwL i) [] n I L R Q := by
  have hg := hj.g
  refine px_b (on := 13) rfl q_law_1148 hg rfl trivial ?_
  refine px_argC q_law_1149 hg hi (by decide) ?_
  refine px_argC q_law_1154 hg hi (by decide) ?_
  refine px_argC q_law_1159 hg hi (by decide) ?_
  refine px_kB q_law_1164 lk_13_106 nm_X11_run (jbs_run hj hx _ _ _) rfl rfl hg rfl (rkL rfl rfl rfl rfl (by omega) (by omega) rfl) ?_
  intro x n2 I2 L2 R2 hj2 f1 fR p1
  have hg := hj2.g
  refine px_b (on := 13) rfl q_law_1167 hg rfl trivial ?_
  refine px_argC q_law_1169 hg hi (by decide) ?_
  refine px_argC q_law_1174 hg hi (by decide) ?_
  refine px_argC q_law_1179 hg hi (by decide) ?_
  refine px_kK q_law_1184 lk_13_109 nm_X12_run (jks_run hj2 (hx.1.ref f1) _ _ _) rfl rfl hg rfl (rkL rfl rfl rfl rfl (by show cu + 0 ≤ 500000; omega) (by show su + 0 ≤ 7000000; omega) rfl) ?_
  intro y I3 L3 hj3 f2 p2
  have hg := hj3.g
  refine px_b (on := 13) rfl q_law_1187 hg rfl trivial ?_
  exact px_wid (cu2 := cu + 3) (su2 := su + 404) (by show cu + 0 + 0 ≤ cu + 3; omega) (by show su + 0 + 0 ≤ su + 404; omega) (kk x n2 I2 L2 R2 y I3 L3 hj3 f1 fR p1 f2 p2)



set_option maxRecDepth 100000 in
theorem lcs_ways {N : Nat} {xs : Nat → Int32} {n cu su : Nat} {I : px_I} {L : px_L} {R : px_R} {Q : px_Q} {i : Int32} (hi : lwI N i) (hcu : cu ≤ 490000) (hsu : su ≤ 6900000) (hj : jJ n I R) (hx : wyP I R (Zc I R) ∧ cSo I) (he : ∀ (x : Int32) (n2 : Nat) I2 L2 (y : Int32) I3 L3, frB I I2 L L2 → pbs_ways R (ag xs i 1) (ag xs i 2) (ag xs i 3) (ag xs i 4) (ag xs i 5) I L x I2 L2 → frK I2 I3 L2 L3 → pks_ways (Zc I R) (ag xs i 1) (ag xs i 2) (ag xs i 3) (ag xs i 4) (ag xs i 5) I2 L2 y I3 L3 → x = y) (kk : ∀ (x : Int32) (n2 : Nat) I2 L2 R2 (y : Int32) I3 L3, jJ n2 I3 R2 → frB I I2 L L2 → kR R I2 R2 → pbs_ways R (ag xs i 1) (ag xs i 2) (ag xs i 3) (ag xs i 4) (ag xs i 5) I L x I2 L2 → frK I2 I3 L2 L3 → pks_ways (Zc I R) (ag xs i 1) (ag xs i 2) (ag xs i 3) (ag xs i 4) (ag xs i 5) I2 L2 y I3 L3 → px (M_law N xs) (cu + 3) (su + 404) 1868 (lwL i) [] n2 I3 L3 R2 Q) : px (M_law N xs) cu su 1378 (lwL i) [] n I L R Q := by
  have hg := hj.g
  refine px_b (on := 13) rfl q_law_1378 hg rfl trivial ?_
  refine px_argC q_law_1379 hg hi (by decide) ?_
  refine px_argC q_law_1384 hg hi (by decide) ?_
  refine px_argC q_law_1389 hg hi (by decide) ?_
  refine px_argC q_law_1394 hg hi (by decide) ?_
  refine px_argC q_law_1399 hg hi (by decide) ?_
  refine px_kB q_law_1404 lk_13_124 nm_X11_ways (jbs_ways hj hx _ _ _ _ _) rfl rfl hg rfl (rkL rfl rfl rfl rfl (by omega) (by omega) rfl) ?_
  intro x n2 I2 L2 R2 hj2 f1 fR p1
  have hg := hj2.g
  refine px_b (on := 13) rfl q_law_1407 hg rfl trivial ?_
  refine px_argC q_law_1408 hg hi (by decide) ?_
  refine px_argC q_law_1413 hg hi (by decide) ?_
  refine px_argC q_law_1418 hg hi (by decide) ?_
  refine px_argC q_law_1423 hg hi (by decide) ?_
  refine px_argC q_law_1428 hg hi (by decide) ?_
  refine px_kK q_law_1433 lk_13_127 nm_X12_ways (jks_ways hj2 (hx.1.ref f1) _ _ _ _ _) rfl rfl hg rfl (rkL rfl rfl rfl rfl (by show cu + 0 ≤ 500000; omega) (by show su + 0 ≤ 7000000; omega) rfl) ?_
  intro y I3 L3 hj3 f2 p2
  have hg := hj3.g
  refine px_ieq (on := 13) rfl q_law_1436 hg rfl trivial (fun c => ?_) (fun c => ?_)
  · exact px_wid (cu2 := cu + 3) (su2 := su + 404) (by show cu + 0 + 0 ≤ cu + 3; omega) (by show su + 0 + 0 ≤ su + 404; omega) (kk x n2 I2 L2 R2 y I3 L3 hj3 f1 fR p1 f2 p2)
  · exact absurd (he x n2 I2 L2 y I3 L3 f1 p1 f2 p2) c



set_option maxRecDepth 100000 in
theorem lcs_meeting {N : Nat} {xs : Nat → Int32} {n cu su : Nat} {I : px_I} {L : px_L} {R : px_R} {Q : px_Q} {i : Int32} (hi : lwI N i) (hcu : cu ≤ 490000) (hsu : su ≤ 6900000) (hj : jJ n I R) (hx : wyP I R (Zc I R) ∧ cSo I) (kk : ∀ (x : Int32) (n2 : Nat) I2 L2 R2 (y : Int32) I3 L3, jJ n2 I3 R2 → frB I I2 L L2 → kR R I2 R2 → pbs_meeting R (ag xs i 1) (ag xs i 2) (ag xs i 3) (ag xs i 4) (ag xs i 5) (bo (ag xs i 6)) I L x I2 L2 → frK I2 I3 L2 L3 → pks_meeting (ag xs i 1) (ag xs i 2) (ag xs i 3) (ag xs i 4) (ag xs i 5) (bo (ag xs i 6)) I2 L2 y I3 L3 → px (M_law N xs) (cu + 3) (su + 404) 1868 (lwL i) [] n2 I3 L3 R2 Q) : px (M_law N xs) cu su 1191 (lwL i) [] n I L R Q := by
  have hg := hj.g
  refine px_b (on := 13) rfl q_law_1191 hg rfl trivial ?_
  refine px_argC q_law_1192 hg hi (by decide) ?_
  refine px_argC q_law_1197 hg hi (by decide) ?_
  refine px_argC q_law_1202 hg hi (by decide) ?_
  refine px_argC q_law_1207 hg hi (by decide) ?_
  refine px_argC q_law_1212 hg hi (by decide) ?_
  refine px_argB q_law_1217 hg hi (by decide) ?_
  refine px_boo q_law_1223 rfl hg ?_
  refine px_kB q_law_1231 lk_13_110 nm_X11_meeting (jbs_meeting hj hx _ _ _ _ _ _) rfl rfl hg rfl (rkL rfl rfl rfl rfl (by omega) (by omega) rfl) ?_
  intro x n2 I2 L2 R2 hj2 f1 fR p1
  have hg := hj2.g
  refine px_b (on := 13) rfl q_law_1234 hg rfl trivial ?_
  refine px_argC q_law_1236 hg hi (by decide) ?_
  refine px_argC q_law_1241 hg hi (by decide) ?_
  refine px_argC q_law_1246 hg hi (by decide) ?_
  refine px_argC q_law_1251 hg hi (by decide) ?_
  refine px_argC q_law_1256 hg hi (by decide) ?_
  refine px_argB q_law_1261 hg hi (by decide) ?_
  refine px_boo q_law_1267 rfl hg ?_
  refine px_kK q_law_1275 lk_13_114 nm_X12_meeting (jks_meeting hj2 _ _ _ _ _ _) rfl rfl hg rfl (rkL rfl rfl rfl rfl (by show cu + 0 ≤ 500000; omega) (by show su + 0 ≤ 7000000; omega) rfl) ?_
  intro y I3 L3 hj3 f2 p2
  have hg := hj3.g
  refine px_b (on := 13) rfl q_law_1278 hg rfl trivial ?_
  exact px_wid (cu2 := cu + 3) (su2 := su + 404) (by show cu + 0 + 0 ≤ cu + 3; omega) (by show su + 0 + 0 ≤ su + 404; omega) (kk x n2 I2 L2 R2 y I3 L3 hj3 f1 fR p1 f2 p2)



set_option maxRecDepth 100000 in
theorem lcs_fits {N : Nat} {xs : Nat → Int32} {n cu su : Nat} {I : px_I} {L : px_L} {R : px_R} {Q : px_Q} {i : Int32} (hi : lwI N i) (hcu : cu ≤ 490000) (hsu : su ≤ 6900000) (hj : jJ n I R) (hx : wyP I R (Zc I R) ∧ cSo I) (kk : ∀ (x : Int32) (n2 : Nat) I2 L2 R2 (y : Int32) I3 L3, jJ n2 I3 R2 → frB I I2 L L2 → kR R I2 R2 → pbs_fits R (ag xs i 1) (ag xs i 2) (ag xs i 3) (ag xs i 4) I L x I2 L2 → frK I2 I3 L2 L3 → pks_fits (ag xs i 1) (ag xs i 2) (ag xs i 3) (ag xs i 4) I2 L2 y I3 L3 → px (M_law N xs) (cu + 3) (su + 404) 1868 (lwL i) [] n2 I3 L3 R2 Q) : px (M_law N xs) cu su 1325 (lwL i) [] n I L R Q := by
  have hg := hj.g
  refine px_b (on := 13) rfl q_law_1325 hg rfl trivial ?_
  refine px_argC q_law_1326 hg hi (by decide) ?_
  refine px_argC q_law_1331 hg hi (by decide) ?_
  refine px_argC q_law_1336 hg hi (by decide) ?_
  refine px_argC q_law_1341 hg hi (by decide) ?_
  refine px_kB q_law_1346 lk_13_120 nm_X11_fits (jbs_fits hj hx _ _ _ _) rfl rfl hg rfl (rkL rfl rfl rfl rfl (by omega) (by omega) rfl) ?_
  intro x n2 I2 L2 R2 hj2 f1 fR p1
  have hg := hj2.g
  refine px_b (on := 13) rfl q_law_1349 hg rfl trivial ?_
  refine px_argC q_law_1351 hg hi (by decide) ?_
  refine px_argC q_law_1356 hg hi (by decide) ?_
  refine px_argC q_law_1361 hg hi (by decide) ?_
  refine px_argC q_law_1366 hg hi (by decide) ?_
  refine px_kK q_law_1371 lk_13_123 nm_X12_fits (jks_fits hj2 _ _ _ _) rfl rfl hg rfl (rkL rfl rfl rfl rfl (by show cu + 0 ≤ 500000; omega) (by show su + 0 ≤ 7000000; omega) rfl) ?_
  intro y I3 L3 hj3 f2 p2
  have hg := hj3.g
  refine px_b (on := 13) rfl q_law_1374 hg rfl trivial ?_
  exact px_wid (cu2 := cu + 3) (su2 := su + 404) (by show cu + 0 + 0 ≤ cu + 3; omega) (by show su + 0 + 0 ≤ su + 404; omega) (kk x n2 I2 L2 R2 y I3 L3 hj3 f1 fR p1 f2 p2)
