/-! lamps: the reference's loop says whether some distance fits -/
def mLk (I : px_I) (k h e : Int32) : Prop := h.toInt64 * e.toInt64 ≤ (I 112 k.toNatClampNeg).toInt64 ∧ (I 111 k.toNatClampNeg).toInt64 ≤ h.toInt64 * e.toInt64 + e.toInt64 - 1
def mLc (I : px_I) (g p h lo hi : Int32) : Prop := mPegOk I g p ∧ p ≠ 0 ∧ (0 ≤ h ∧ h ≤ 9999) ∧ (1 ≤ lo ∧ lo ≤ 100000) ∧ (lo ≤ hi ∧ hi ≤ 100000)
theorem px_lt1 {e d N : Int32} (h : e < d + 1) (hd : d ≤ N) (hN : N < 2147483647) : e < d ∨ e = d := by
  have h1 := Int32.lt_iff_toInt_lt.mp h
  have h2 := Int32.le_iff_toInt_le.mp hd
  have h3 := Int32.lt_iff_toInt_lt.mp hN
  have h4 := Int32.le_toInt d
  rw [show (2147483647 : Int32).toInt = 2147483647 by decide] at h3
  rw [Int32.toInt_add, show (1 : Int32).toInt = 1 by decide, Int.bmod_eq_of_le (by omega) (by omega)] at h1
  by_cases c : e.toInt = d.toInt
  · exact Or.inr (Int32.toInt_inj.mp c)
  · exact Or.inl (Int32.lt_iff_toInt_lt.mpr (by omega))

set_option maxRecDepth 100000 in
theorem ls_lamps {n : Nat} {R : px_R} (hg : px_G n R) {Q : px_Q} (g p h lo hi k : Int32) {I : px_I} {L : px_L} (hk : 0 ≤ k ∧ k < 40) (hh : hi ≤ 100000) (hlo : 1 ≤ lo) (hq1 : (∃ e, lo ≤ e ∧ e ≤ hi ∧ mLk I k h e) → Q (some (.int 1)) n I L R) (hq0 : (∀ e, lo ≤ e → e ≤ hi → ¬ mLk I k h e) → Q (some (.int 0)) n I L R) : ∀ d : Int32, d ≤ 100001 → lo ≤ d → ∀ (b : Int32), ((b = 1 ∧ ∃ e, lo ≤ e ∧ e ≤ hi ∧ mLk I k h e) ∨ (b = 0 ∧ ∀ e, lo ≤ e → e < d → ¬ mLk I k h e)) → px M_X12_lamps 0 0 70 [(0, .ref 103), (1, .int g), (2, .int p), (3, .int h), (4, .int lo), (5, .int hi), (6, .int k), (7, .int b), (8, .int d)] [] n I L R Q := by
  refine px_up _ (fun d ih hk1 => ?_)
  intro h0 b hb
  refine px_igt rfl q_X12_lamps_70 hg rfl trivial (fun c74 => ?_) (fun c74 => ?_)
  · refine px_eq rfl q_X12_lamps_137 hg rfl trivial (fun c139 => ?_) (fun c139 => ?_)
    · refine px_ri rfl q_X12_lamps_146 rfl rfl rfl hg rfl trivial ?_
      first
        | exact hq0 (fun e e0 e1 => (hb.resolve_left (fun q => absurd (q.1.symm.trans c139) (by decide))).2 e e0 (by grind))
        | exact hq1 (hb.resolve_right (fun q => c139 q.1)).2
    · refine px_ri rfl q_X12_lamps_142 rfl rfl rfl hg rfl trivial ?_
      first
        | exact hq0 (fun e e0 e1 => (hb.resolve_left (fun q => absurd (q.1.symm.trans c139) (by decide))).2 e e0 (by grind))
        | exact hq1 (hb.resolve_right (fun q => c139 q.1)).2
  · refine px_ne rfl q_X12_lamps_77 hg rfl trivial (fun c87 => ?_) (fun c87 => ?_)
    · refine px_b rfl q_X12_lamps_124 hg rfl trivial ?_
      first
        | exact px_go (ih (d + 1) (by grind) (by grind) (by grind) _ (Or.inl ⟨rfl, (hb.resolve_right (fun q => c87 q.1)).2⟩)) ⟨rfl, rfl, rfl, rfl, rfl, rfl, rfl, rfl, rfl, trivial⟩
        | exact px_go (ih (d + 1) (by grind) (by grind) (by grind) _ (Or.inr ⟨rfl, fun e e0 e1 => (px_lt1 e1 hk1 (by decide)).elim (fun q => (hb.resolve_left (fun q2 => absurd q2.1 (by grind))).2 e e0 q) (fun q => by subst q; exact fun q3 => absurd q3.1 (Int64.not_le.mpr c101))⟩)) ⟨rfl, rfl, rfl, rfl, rfl, rfl, rfl, rfl, rfl, trivial⟩
        | exact px_go (ih (d + 1) (by grind) (by grind) (by grind) _ (Or.inr ⟨rfl, fun e e0 e1 => (px_lt1 e1 hk1 (by decide)).elim (fun q => (hb.resolve_left (fun q2 => absurd q2.1 (by grind))).2 e e0 q) (fun q => by subst q; exact fun q3 => absurd q3.2 (Int64.not_le.mpr c121))⟩)) ⟨rfl, rfl, rfl, rfl, rfl, rfl, rfl, rfl, rfl, trivial⟩
        | exact px_go (ih (d + 1) (by grind) (by grind) (by grind) _ (Or.inl ⟨rfl, d, h0, (by grind), Int64.not_lt.mp c101, Int64.not_lt.mp c121⟩)) ⟨rfl, rfl, rfl, rfl, rfl, rfl, rfl, rfl, rfl, trivial⟩
    · refine px_lgt rfl q_X12_lamps_90 hg rfl ⟨trivial, (by first | decide | (refine ⟨?_, ?_⟩ <;> grind) | grind)⟩ (fun c101 => ?_) (fun c101 => ?_)
      · refine px_b rfl q_X12_lamps_128 hg rfl trivial ?_
        first
          | exact px_go (ih (d + 1) (by grind) (by grind) (by grind) _ (Or.inl ⟨rfl, (hb.resolve_right (fun q => c87 q.1)).2⟩)) ⟨rfl, rfl, rfl, rfl, rfl, rfl, rfl, rfl, rfl, trivial⟩
          | exact px_go (ih (d + 1) (by grind) (by grind) (by grind) _ (Or.inr ⟨rfl, fun e e0 e1 => (px_lt1 e1 hk1 (by decide)).elim (fun q => (hb.resolve_left (fun q2 => absurd q2.1 (by grind))).2 e e0 q) (fun q => by subst q; exact fun q3 => absurd q3.1 (Int64.not_le.mpr c101))⟩)) ⟨rfl, rfl, rfl, rfl, rfl, rfl, rfl, rfl, rfl, trivial⟩
          | exact px_go (ih (d + 1) (by grind) (by grind) (by grind) _ (Or.inr ⟨rfl, fun e e0 e1 => (px_lt1 e1 hk1 (by decide)).elim (fun q => (hb.resolve_left (fun q2 => absurd q2.1 (by grind))).2 e e0 q) (fun q => by subst q; exact fun q3 => absurd q3.2 (Int64.not_le.mpr c121))⟩)) ⟨rfl, rfl, rfl, rfl, rfl, rfl, rfl, rfl, rfl, trivial⟩
          | exact px_go (ih (d + 1) (by grind) (by grind) (by grind) _ (Or.inl ⟨rfl, d, h0, (by grind), Int64.not_lt.mp c101, Int64.not_lt.mp c121⟩)) ⟨rfl, rfl, rfl, rfl, rfl, rfl, rfl, rfl, rfl, trivial⟩
      · refine px_llt rfl q_X12_lamps_104 hg rfl ⟨trivial, (by first | decide | (refine ⟨?_, ?_⟩ <;> grind) | grind)⟩ (fun c121 => ?_) (fun c121 => ?_)
        · refine px_b rfl q_X12_lamps_128 hg rfl trivial ?_
          first
            | exact px_go (ih (d + 1) (by grind) (by grind) (by grind) _ (Or.inl ⟨rfl, (hb.resolve_right (fun q => c87 q.1)).2⟩)) ⟨rfl, rfl, rfl, rfl, rfl, rfl, rfl, rfl, rfl, trivial⟩
            | exact px_go (ih (d + 1) (by grind) (by grind) (by grind) _ (Or.inr ⟨rfl, fun e e0 e1 => (px_lt1 e1 hk1 (by decide)).elim (fun q => (hb.resolve_left (fun q2 => absurd q2.1 (by grind))).2 e e0 q) (fun q => by subst q; exact fun q3 => absurd q3.1 (Int64.not_le.mpr c101))⟩)) ⟨rfl, rfl, rfl, rfl, rfl, rfl, rfl, rfl, rfl, trivial⟩
            | exact px_go (ih (d + 1) (by grind) (by grind) (by grind) _ (Or.inr ⟨rfl, fun e e0 e1 => (px_lt1 e1 hk1 (by decide)).elim (fun q => (hb.resolve_left (fun q2 => absurd q2.1 (by grind))).2 e e0 q) (fun q => by subst q; exact fun q3 => absurd q3.2 (Int64.not_le.mpr c121))⟩)) ⟨rfl, rfl, rfl, rfl, rfl, rfl, rfl, rfl, rfl, trivial⟩
            | exact px_go (ih (d + 1) (by grind) (by grind) (by grind) _ (Or.inl ⟨rfl, d, h0, (by grind), Int64.not_lt.mp c101, Int64.not_lt.mp c121⟩)) ⟨rfl, rfl, rfl, rfl, rfl, rfl, rfl, rfl, rfl, trivial⟩
        · refine px_b rfl q_X12_lamps_124 hg rfl trivial ?_
          first
            | exact px_go (ih (d + 1) (by grind) (by grind) (by grind) _ (Or.inl ⟨rfl, (hb.resolve_right (fun q => c87 q.1)).2⟩)) ⟨rfl, rfl, rfl, rfl, rfl, rfl, rfl, rfl, rfl, trivial⟩
            | exact px_go (ih (d + 1) (by grind) (by grind) (by grind) _ (Or.inr ⟨rfl, fun e e0 e1 => (px_lt1 e1 hk1 (by decide)).elim (fun q => (hb.resolve_left (fun q2 => absurd q2.1 (by grind))).2 e e0 q) (fun q => by subst q; exact fun q3 => absurd q3.1 (Int64.not_le.mpr c101))⟩)) ⟨rfl, rfl, rfl, rfl, rfl, rfl, rfl, rfl, rfl, trivial⟩
            | exact px_go (ih (d + 1) (by grind) (by grind) (by grind) _ (Or.inr ⟨rfl, fun e e0 e1 => (px_lt1 e1 hk1 (by decide)).elim (fun q => (hb.resolve_left (fun q2 => absurd q2.1 (by grind))).2 e e0 q) (fun q => by subst q; exact fun q3 => absurd q3.2 (Int64.not_le.mpr c121))⟩)) ⟨rfl, rfl, rfl, rfl, rfl, rfl, rfl, rfl, rfl, trivial⟩
            | exact px_go (ih (d + 1) (by grind) (by grind) (by grind) _ (Or.inl ⟨rfl, d, h0, (by grind), Int64.not_lt.mp c101, Int64.not_lt.mp c121⟩)) ⟨rfl, rfl, rfl, rfl, rfl, rfl, rfl, rfl, rfl, trivial⟩

set_option maxRecDepth 100000 in
theorem ks_lamps {n : Nat} {I : px_I} {L : px_L} {R : px_R} (hg : px_G n R) (g p h lo hi : Int32) (hG : mG I) : px_KP M_X12_lamps [.ref 103, .int g, .int p, .int h, .int lo, .int hi] n I L R (fun r => (mLc I g p h lo hi ∧ ((r = 1 ∧ ∃ e, lo ≤ e ∧ e ≤ hi ∧ mLk I (20 * g + p) h e) ∨ (r = 0 ∧ ∀ e, lo ≤ e → e ≤ hi → ¬ mLk I (20 * g + p) h e))) ∨ (¬ mLc I g p h lo hi ∧ r = -1)) := by
  refine px_of (plainFor_of_name np_RX12) (fun _ _ _ => trivial) rfl ?_
  refine px_cVP (ci := 12) rfl q_X12_lamps_0 hg rfl trivial lk_12_233 nm_X12_isPeg (k_isPeg hg _ _) rfl rfl (px_lit hg rfl) rfl rfl rfl ⟨rfl, rfl⟩ ?_
  intro x3 h3
  refine px_eq rfl q_X12_lamps_6 hg rfl trivial (fun c6 => ?_) (fun c6 => ?_)
  · replace h3 := px_bf h3 c6
    refine px_riP rfl q_X12_lamps_53 rfl rfl rfl hg rfl trivial ⟨⟨rfl, rfl, rfl, rfl⟩, ?_⟩
    exact Or.inr ⟨by unfold mLc mPegOk; grind, rfl⟩
  · replace h3 := px_bt h3 c6
    refine px_eq rfl q_X12_lamps_9 hg rfl trivial (fun c10 => ?_) (fun c10 => ?_)
    · refine px_riP rfl q_X12_lamps_53 rfl rfl rfl hg rfl trivial ⟨⟨rfl, rfl, rfl, rfl⟩, ?_⟩
      exact Or.inr ⟨by unfold mLc mPegOk; grind, rfl⟩
    · refine px_cSP rfl q_X12_lamps_13 hg rfl trivial lk_12_167 nm_X12_in (k_inI hg _ (0) (9999) (by decide) (by decide)) rfl rfl rfl ⟨rfl, rfl⟩ ?_
      intro x19 h19
      refine px_eq rfl q_X12_lamps_22 hg rfl trivial (fun c22 => ?_) (fun c22 => ?_)
      · replace h19 := px_bf h19 c22
        refine px_riP rfl q_X12_lamps_53 rfl rfl rfl hg rfl trivial ⟨⟨rfl, rfl, rfl, rfl⟩, ?_⟩
        exact Or.inr ⟨by unfold mLc mPegOk; grind, rfl⟩
      · replace h19 := px_bt h19 c22
        refine px_cSP rfl q_X12_lamps_25 hg rfl trivial lk_12_167 nm_X12_in (k_inI hg _ (1) (100000) (by decide) (by decide)) rfl rfl rfl ⟨rfl, rfl⟩ ?_
        intro x32 h32
        refine px_eq rfl q_X12_lamps_35 hg rfl trivial (fun c35 => ?_) (fun c35 => ?_)
        · replace h32 := px_bf h32 c35
          refine px_riP rfl q_X12_lamps_53 rfl rfl rfl hg rfl trivial ⟨⟨rfl, rfl, rfl, rfl⟩, ?_⟩
          exact Or.inr ⟨by unfold mLc mPegOk; grind, rfl⟩
        · replace h32 := px_bt h32 c35
          refine px_cSP rfl q_X12_lamps_38 hg rfl trivial lk_12_167 nm_X12_in (k_inI hg _ _ (100000) rfl (by decide)) rfl rfl rfl ⟨rfl, rfl⟩ ?_
          intro x47 h47
          refine px_ne rfl q_X12_lamps_50 hg rfl trivial (fun c50 => ?_) (fun c50 => ?_)
          · replace h47 := px_bt h47 c50
            refine px_b rfl q_X12_lamps_55 hg rfl trivial ?_
            obtain ⟨hG1, -⟩ := hG g h3.1 h3.2.1
            have hk9 := (mK h3 hG1).1
            have hc9 : mLc I g p h lo hi := ⟨h3, c10, h19, h32, h47⟩
            exact px_go (ls_lamps hg g p h lo hi (20 * g + p) hk9 h47.2 h32.1 (fun hr => ⟨rfl, rfl, 1, rfl, rfl, rfl, Or.inl ⟨hc9, Or.inl ⟨rfl, hr⟩⟩⟩) (fun hr => ⟨rfl, rfl, 0, rfl, rfl, rfl, Or.inl ⟨hc9, Or.inr ⟨rfl, hr⟩⟩⟩) lo (Int32.le_trans h32.2 (by decide)) (Int32.le_refl _) 0 (Or.inr ⟨rfl, fun e e0 e1 => absurd e1 (Int32.not_lt.mpr e0)⟩)) ⟨rfl, rfl, rfl, rfl, rfl, rfl, rfl, rfl, rfl, trivial⟩
          · replace h47 := px_bf h47 c50
            refine px_riP rfl q_X12_lamps_53 rfl rfl rfl hg rfl trivial ⟨⟨rfl, rfl, rfl, rfl⟩, ?_⟩
            exact Or.inr ⟨by unfold mLc mPegOk; grind, rfl⟩

def pbs_lamps (g p h lo hi : Int32) (I : px_I) (L : px_L) : Int32 → px_I → px_L → Prop := pb_lamps g p h lo hi I L

def pks_lamps (g p h lo hi : Int32) (I : px_I) (L : px_L) : Int32 → px_I → px_L → Prop := (fun y9 I2 L2 => I2 = I ∧ L2 = L ∧ ((fun r => (mLc I g p h lo hi ∧ ((r = 1 ∧ ∃ e, lo ≤ e ∧ e ≤ hi ∧ mLk I (20 * g + p) h e) ∨ (r = 0 ∧ ∀ e, lo ≤ e → e ≤ hi → ¬ mLk I (20 * g + p) h e))) ∨ (¬ mLc I g p h lo hi ∧ r = -1)) y9))

theorem pbs_lamps.old {g p h lo hi x : Int32} {I I2 : px_I} {L L2 : px_L} (q : pbs_lamps g p h lo hi I L x I2 L2) : pb_lamps g p h lo hi I L x I2 L2 := q
theorem pks_lamps.old {g p h lo hi x : Int32} {I I2 : px_I} {L L2 : px_L} (q : pks_lamps g p h lo hi I L x I2 L2) : pk_lamps g p h lo hi I L x I2 L2 := ⟨q.1, q.2.1, trivial⟩
theorem jbs_lamps {n : Nat} {I : px_I} {L : px_L} {R : px_R} (hj : jJ n I R) (g p h lo hi : Int32) : px_K M_X11_lamps [.ref 32, .int g, .int p, .int h, .int lo, .int hi] n I L R (jB n I L (pbs_lamps g p h lo hi I L)) := jb_lamps hj g p h lo hi
theorem jks_lamps {n : Nat} {I : px_I} {L : px_L} {R : px_R} (hj : jJ n I R) (g p h lo hi : Int32) : px_K M_X12_lamps [.ref 103, .int g, .int p, .int h, .int lo, .int hi] n I L R (jK n I L R (pks_lamps g p h lo hi I L)) := jKP (ks_lamps hj.g g p h lo hi hj.m.2.1) hj



set_option maxRecDepth 100000 in
theorem lcs_lamps {N : Nat} {xs : Nat → Int32} {n cu su : Nat} {I : px_I} {L : px_L} {R : px_R} {Q : px_Q} {i : Int32} (hi : lwI N i) (hcu : cu ≤ 490000) (hsu : su ≤ 6900000) (hj : jJ n I R) (he : ∀ (x : Int32) (n2 : Nat) I2 L2 (y : Int32) I3 L3, frB I I2 L L2 → pbs_lamps (ag xs i 1) (ag xs i 2) (ag xs i 3) (ag xs i 4) (ag xs i 5) I L x I2 L2 → frK I2 I3 L2 L3 → pks_lamps (ag xs i 1) (ag xs i 2) (ag xs i 3) (ag xs i 4) (ag xs i 5) I2 L2 y I3 L3 → x = y) (kk : ∀ (x : Int32) (n2 : Nat) I2 L2 R2 (y : Int32) I3 L3, jJ n2 I3 R2 → frB I I2 L L2 → pbs_lamps (ag xs i 1) (ag xs i 2) (ag xs i 3) (ag xs i 4) (ag xs i 5) I L x I2 L2 → frK I2 I3 L2 L3 → pks_lamps (ag xs i 1) (ag xs i 2) (ag xs i 3) (ag xs i 4) (ag xs i 5) I2 L2 y I3 L3 → px (M_law N xs) (cu + 3) (su + 404) 1868 (lwL i) [] n2 I3 L3 R2 Q) : px (M_law N xs) cu su 808 (lwL i) [] n I L R Q := by
  have hg := hj.g
  refine px_b (on := 13) rfl q_law_808 hg rfl trivial ?_
  refine px_argC q_law_809 hg hi (by decide) ?_
  refine px_argC q_law_814 hg hi (by decide) ?_
  refine px_argC q_law_819 hg hi (by decide) ?_
  refine px_argC q_law_824 hg hi (by decide) ?_
  refine px_argC q_law_829 hg hi (by decide) ?_
  refine px_kB q_law_834 lk_13_72 nm_X11_lamps (jbs_lamps hj _ _ _ _ _) rfl rfl hg rfl (rkL rfl rfl rfl rfl (by omega) (by omega) rfl) ?_
  intro x n2 I2 L2 R2 hj2 f1 p1
  have hg := hj2.g
  refine px_b (on := 13) rfl q_law_837 hg rfl trivial ?_
  refine px_argC q_law_838 hg hi (by decide) ?_
  refine px_argC q_law_843 hg hi (by decide) ?_
  refine px_argC q_law_848 hg hi (by decide) ?_
  refine px_argC q_law_853 hg hi (by decide) ?_
  refine px_argC q_law_858 hg hi (by decide) ?_
  refine px_kK q_law_863 lk_13_75 nm_X12_lamps (jks_lamps hj2 _ _ _ _ _) rfl rfl hg rfl (rkL rfl rfl rfl rfl (by show cu + 0 ≤ 500000; omega) (by show su + 0 ≤ 7000000; omega) rfl) ?_
  intro y I3 L3 hj3 f2 p2
  have hg := hj3.g
  refine px_ieq (on := 13) rfl q_law_866 hg rfl trivial (fun c => ?_) (fun c => ?_)
  · exact px_wid (cu2 := cu + 3) (su2 := su + 404) (by show cu + 0 + 0 ≤ cu + 3; omega) (by show su + 0 + 0 ≤ su + 404; omega) (kk x n2 I2 L2 R2 y I3 L3 hj3 f1 p1 f2 p2)
  · exact absurd (he x n2 I2 L2 y I3 L3 f1 p1 f2 p2) c
