/-! calls of the reference's -/
theorem mS.k {I I2 : px_I} (h : mS I) (h1 : I2 103 1 = I 103 1) (h2 : I2 103 2 = I 103 2) (h5 : I2 105 = I 105) (h6 : I2 106 = I 106) : mS I2 := by unfold mS at *; rw [h1, h2, h5, h6]; exact h
theorem mG.k {I I2 : px_I} (h : mG I) (h0 : I2 110 = I 110) (h1 : I2 111 = I 111) (h2 : I2 112 = I 112) (h3 : I2 113 = I 113) (h4 : I2 114 = I 114) : mG I2 := by unfold mG at *; rw [h0, h1, h2, h3, h4]; exact h
theorem mT.k {I I2 : px_I} (h : mT I) (h1 : I2 116 = I 116) : mT I2 := by unfold mT at *; rw [h1]; exact h
theorem mM.k {I I2 : px_I} (h : mM I) (h1 : I2 103 16 = I 103 16) (h7 : I2 117 = I 117) (h8 : I2 118 = I 118) (h0 : I2 110 = I 110) : mM I2 := by unfold mM at *; rw [h1, h7, h8, h0]; exact h
theorem mW.k {I I2 : px_I} (h : mW I) (h1 : I2 103 59 = I 103 59) (h2 : I2 103 60 = I 103 60) (h3 : I2 103 61 = I 103 61) (h4 : I2 137 = I 137) : mW I2 := by unfold mW at *; rw [h1, h2, h3, h4]; exact h
theorem px_u_out {α : Type} {f : Nat → Nat → α} {a k b j : Nat} {v : α} (h : ¬ (b = a ∧ j = k)) : px_u f a k v b j = f b j := by
  rw [px_ur]
  by_cases e : b = a
  · by_cases e2 : j = k
    · exact absurd ⟨e, e2⟩ h
    · rw [if_pos e, if_neg e2]
  · rw [if_neg e]
theorem px_tni {a b : Int32} (ha : 0 ≤ a) (hb : 0 ≤ b) (h : a.toNatClampNeg = b.toNatClampNeg) : a = b := by
  have h1 := Int32.le_iff_toInt_le.mp ha
  have h2 := Int32.le_iff_toInt_le.mp hb
  rw [show (0 : Int32).toInt = 0 by decide] at h1 h2
  rw [← Int32.toInt_inj]
  unfold Int32.toNatClampNeg at h
  omega

theorem jk_days {n : Nat} {I : px_I} {L : px_L} {R : px_R} (hj : jJ n I R) (x : Int32) : px_K M_X12_days [.ref 103, .int x] n I L R (jK n I L R (fun r I2 L2 => L2 = L ∧ ((1 ≤ x ∧ x ≤ 1000 ∧ I 103 0 + x ≤ 9999 ∧ r = I 103 0 + x ∧ I2 = px_u I 103 0 (I 103 0 + x)) ∨ (¬ (1 ≤ x ∧ x ≤ 1000 ∧ I 103 0 + x ≤ 9999) ∧ r = -1 ∧ I2 = I)))) := jKS (k_days hj.g x ) hj (fun x I2 L2 h => by
  obtain ⟨rfl, h⟩ := h
  rcases h with ⟨a1, a2, a3, rfl, rfl⟩ | ⟨a1, rfl, rfl⟩
  · refine ⟨hj.m.cells (fun b j hc => ?_), fun b hb => ?_, fun _ _ => rfl⟩
    · unfold mCell at hc; (repeat rw [px_u_out (by omega)])
    · repeat rw [px_u_ne (by omega)]
  · exact ⟨hj.m, fun _ _ => rfl, fun _ _ => rfl⟩)

theorem jk_closed {n : Nat} {I : px_I} {L : px_L} {R : px_R} (hj : jJ n I R) (a k : Int32) : px_K M_X12_closed [.ref 103, .int a, .int k] n I L R (jK n I L R (fun r I2 L2 => mDI I I2 ∧ mDL L L2)) := jKS (k_closed hj.g a k hj.m.1) hj (fun x I2 L2 h => by
  exact ⟨hj.m.cells (fun b j hc => h.1 b j (by unfold mCell at hc; omega)), fun b hb => funext fun j => h.1 b j (by omega), fun b hb => h.2 b (by omega)⟩)

theorem jk_gap {n : Nat} {I : px_I} {L : px_L} {R : px_R} (hj : jJ n I R) (a f t k h : Int32) : px_K M_X12_gap [.ref 103, .int a, .int f, .int t, .int k, .int h] n I L R (jK n I L R (fun r I2 L2 => mDI I I2 ∧ mDL L L2)) := jKS (k_gap hj.g a f t k h hj.m.1) hj (fun x I2 L2 h => by
  exact ⟨hj.m.cells (fun b j hc => h.1 b j (by unfold mCell at hc; omega)), fun b hb => funext fun j => h.1 b j (by omega), fun b hb => h.2 b (by omega)⟩)

theorem jk_span {n : Nat} {I : px_I} {L : px_L} {R : px_R} (hj : jJ n I R) (a t k h : Int32) : px_K M_X12_span [.ref 103, .int a, .int t, .int k, .int h] n I L R (jK n I L R (fun r I2 L2 => mDI I I2 ∧ mDL L L2)) := jKS (k_span hj.g a t k h hj.m.1) hj (fun x I2 L2 h => by
  exact ⟨hj.m.cells (fun b j hc => h.1 b j (by unfold mCell at hc; omega)), fun b hb => funext fun j => h.1 b j (by omega), fun b hb => h.2 b (by omega)⟩)

theorem jk_blamed {n : Nat} {I : px_I} {L : px_L} {R : px_R} (hj : jJ n I R) (a k i : Int32) : px_K M_X12_blamed [.ref 103, .int a, .int k, .int i] n I L R (jK n I L R (fun r I2 L2 => mDI I I2 ∧ mDL L L2)) := jKS (k_blamed hj.g a k i hj.m.1) hj (fun x I2 L2 h => by
  exact ⟨hj.m.cells (fun b j hc => h.1 b j (by unfold mCell at hc; omega)), fun b hb => funext fun j => h.1 b j (by omega), fun b hb => h.2 b (by omega)⟩)

theorem jk_when {n : Nat} {I : px_I} {L : px_L} {R : px_R} (hj : jJ n I R) (g p h : Int32) : px_K M_X12_when [.ref 103, .int g, .int p, .int h] n I L R (jK n I L R (fun r I2 L2 => mDI I I2 ∧ mDL L L2)) := jKS (k_when hj.g g p h hj.m.2.2.2.1 hj.m.2.1) hj (fun x I2 L2 h => by
  exact ⟨hj.m.cells (fun b j hc => h.1 b j (by unfold mCell at hc; omega)), fun b hb => funext fun j => h.1 b j (by omega), fun b hb => h.2 b (by omega)⟩)

theorem jk_between {n : Nat} {I : px_I} {L : px_L} {R : px_R} (hj : jJ n I R) (g p t h : Int32) : px_K M_X12_between [.ref 103, .int g, .int p, .int t, .int h] n I L R (jK n I L R (fun r I2 L2 => mDI I I2 ∧ mDL L L2)) := jKS (k_between hj.g g p t h hj.m.2.2.2.1 hj.m.2.1) hj (fun x I2 L2 h => by
  exact ⟨hj.m.cells (fun b j hc => h.1 b j (by unfold mCell at hc; omega)), fun b hb => funext fun j => h.1 b j (by omega), fun b hb => h.2 b (by omega)⟩)

theorem jk_flow {n : Nat} {I : px_I} {L : px_L} {R : px_R} (hj : jJ n I R) (g y k h : Int32) : px_K M_X12_flow [.ref 103, .int g, .int y, .int k, .int h] n I L R (jK n I L R (fun r I2 L2 => mDI I I2 ∧ mDL L L2)) := jKS (k_flow hj.g g y k h hj.m.1 hj.m.2.1 hj.m.2.2.1 hj.m.2.2.2.2.2.2.2) hj (fun x I2 L2 h => by
  exact ⟨hj.m.cells (fun b j hc => h.1 b j (by unfold mCell at hc; omega)), fun b hb => funext fun j => h.1 b j (by omega), fun b hb => h.2 b (by omega)⟩)

theorem jk_narrow {n : Nat} {I : px_I} {L : px_L} {R : px_R} (hj : jJ n I R) (g y k : Int32) : px_K M_X12_narrow [.ref 103, .int g, .int y, .int k] n I L R (jK n I L R (fun r I2 L2 => mDI I I2 ∧ mDL L L2)) := jKS (k_narrow hj.g g y k hj.m.1 hj.m.2.1 hj.m.2.2.1 hj.m.2.2.2.2.2.2.2) hj (fun x I2 L2 h => by
  exact ⟨hj.m.cells (fun b j hc => h.1 b j (by unfold mCell at hc; omega)), fun b hb => funext fun j => h.1 b j (by omega), fun b hb => h.2 b (by omega)⟩)

theorem jk_run {n : Nat} {I : px_I} {L : px_L} {R : px_R} (hj : jJ n I R) (w h a : Int32) : px_K M_X12_run [.ref 103, .int w, .int h, .int a] n I L R (jK n I L R (fun r I2 L2 => mXI I I2 ∧ mXL L L2)) := jKS (k_run hj.g w h a hj.m.2.2.2.2.2.1) hj (fun x I2 L2 h => by
  exact ⟨hj.m.cells (fun b j hc => h.1 b j (by unfold mCell at hc; omega) (by unfold mCell at hc; omega) (by unfold mCell at hc; omega)), fun b hb => funext fun j => h.1 b j (by omega) (by omega) (by omega), fun b hb => h.2 b (by omega) (by omega) (by omega) (by omega) (by omega)⟩)

theorem jk_meeting {n : Nat} {I : px_I} {L : px_L} {R : px_R} (hj : jJ n I R) (a f b t x h : Int32) : px_K M_X12_meeting [.ref 103, .int a, .int f, .int b, .int t, .int x, .int h] n I L R (jK n I L R (fun r I2 L2 => mXI I I2 ∧ mXL L L2)) := jKS (k_meeting hj.g a f b t x h hj.m.1 hj.m.2.2.2.2.2.1) hj (fun x I2 L2 h => by
  exact ⟨hj.m.cells (fun b j hc => h.1 b j (by unfold mCell at hc; omega) (by unfold mCell at hc; omega) (by unfold mCell at hc; omega)), fun b hb => funext fun j => h.1 b j (by omega) (by omega) (by omega), fun b hb => h.2 b (by omega) (by omega) (by omega) (by omega) (by omega)⟩)

theorem jk_fits {n : Nat} {I : px_I} {L : px_L} {R : px_R} (hj : jJ n I R) (a f b t : Int32) : px_K M_X12_fits [.ref 103, .int a, .int f, .int b, .int t] n I L R (jK n I L R (fun r I2 L2 => mXI I I2 ∧ mXL L L2)) := jKS (k_fits hj.g a f b t hj.m.1 hj.m.2.2.2.2.2.1) hj (fun x I2 L2 h => by
  exact ⟨hj.m.cells (fun b j hc => h.1 b j (by unfold mCell at hc; omega) (by unfold mCell at hc; omega) (by unfold mCell at hc; omega)), fun b hb => funext fun j => h.1 b j (by omega) (by omega) (by omega), fun b hb => h.2 b (by omega) (by omega) (by omega) (by omega) (by omega)⟩)

theorem jk_ways {n : Nat} {I : px_I} {L : px_L} {R : px_R} (hj : jJ n I R) (a f b t x : Int32) : px_K M_X12_ways [.ref 103, .int a, .int f, .int b, .int t, .int x] n I L R (jK n I L R (fun r I2 L2 => mXI I I2 ∧ mXL L L2)) := jKS (k_ways hj.g a f b t x hj.m.1 hj.m.2.2.2.2.2.1) hj (fun x I2 L2 h => by
  exact ⟨hj.m.cells (fun b j hc => h.1 b j (by unfold mCell at hc; omega) (by unfold mCell at hc; omega) (by unfold mCell at hc; omega)), fun b hb => funext fun j => h.1 b j (by omega) (by omega) (by omega), fun b hb => h.2 b (by omega) (by omega) (by omega) (by omega) (by omega)⟩)

theorem jk_lamps {n : Nat} {I : px_I} {L : px_L} {R : px_R} (hj : jJ n I R) (g p h lo hi : Int32) : px_K M_X12_lamps [.ref 103, .int g, .int p, .int h, .int lo, .int hi] n I L R (jK n I L R (fun y9 I2 L2 => I2 = I ∧ L2 = L ∧ ((fun r => True)) y9)) := jKP (k_lamps hj.g g p h lo hi hj.m.2.1) hj

theorem jk_unit {n : Nat} {I : px_I} {L : px_L} {R : px_R} (hj : jJ n I R) (h : Int32) : px_K M_X12_unit [.ref 103, .int h] n I L R (jK n I L R (fun y9 I2 L2 => I2 = I ∧ L2 = L ∧ ((fun r => r = if I 103 21 = 0 then -1 else if ¬ h = 0 then (L 103 23).toInt32 else (L 103 22).toInt32)) y9)) := jKP (k_unit hj.g h ) hj

theorem jk_fault {n : Nat} {I : px_I} {L : px_L} {R : px_R} (hj : jJ n I R) (x : Int32) : px_K M_X12_fault [.ref 103, .int x] n I L R (jK n I L R (fun y9 I2 L2 => I2 = I ∧ L2 = L ∧ ((fun r => r = if x = 0 then I 103 33 else if x = 1 then I 103 34 else -1)) y9)) := jKP (k_fault hj.g x ) hj

theorem jk_about {n : Nat} {I : px_I} {L : px_L} {R : px_R} (hj : jJ n I R) (w : Int32) : px_K M_X12_about [.ref 103, .int w] n I L R (jK n I L R (fun y9 I2 L2 => I2 = I ∧ L2 = L ∧ ((fun r => True)) y9)) := jKP (k_about hj.g w ) hj

theorem jk_count {n : Nat} {I : px_I} {L : px_L} {R : px_R} (hj : jJ n I R) (u lo hi : Int32) : px_K M_X12_count [.ref 103, .int u, .int lo, .int hi] n I L R (jK n I L R (fun r I2 L2 => (mCountOk I L u lo hi ∧ r = I 103 21 + 1 ∧ I2 = px_u I 103 21 (I 103 21 + 1) ∧ L2 = px_u (px_u L 103 22 (mLo I L u lo)) 103 23 (mHi I L u hi)) ∨ (¬ mCountOk I L u lo hi ∧ r = -1 ∧ I2 = I ∧ L2 = L))) := jKS (k_count hj.g u lo hi ) hj (fun x I2 L2 h => by
  rcases h with ⟨a1, rfl, rfl, rfl⟩ | ⟨a1, rfl, rfl, rfl⟩
  · refine ⟨hj.m.cells (fun b j hc => ?_), fun b hb => ?_, fun b hb => ?_⟩
    · unfold mCell at hc; (repeat rw [px_u_out (by omega)])
    · repeat rw [px_u_ne (by omega)]
    · repeat rw [px_u_ne (by omega)]
  · exact ⟨hj.m, fun _ _ => rfl, fun _ _ => rfl⟩)

theorem jk_tools {n : Nat} {I : px_I} {L : px_L} {R : px_R} (hj : jJ n I R) (a b c d e : Int32) : px_K M_X12_tools [.ref 103, .int a, .int b, .int c, .int d, .int e] n I L R (jK n I L R (fun r I2 L2 => L2 = L ∧ ((((0 ≤ a ∧ a ≤ 1000) ∧ (0 ≤ b ∧ b ≤ 1000) ∧ (0 ≤ c ∧ c ≤ 1000) ∧ (0 ≤ d ∧ d ≤ 10000) ∧ (0 ≤ e ∧ e ≤ 1000)) ∧ r = 1 ∧ I2 = px_u (px_u (px_u (px_u (px_u I 103 47 a) 103 48 b) 103 49 c) 103 50 d) 103 51 e) ∨ (¬ ((0 ≤ a ∧ a ≤ 1000) ∧ (0 ≤ b ∧ b ≤ 1000) ∧ (0 ≤ c ∧ c ≤ 1000) ∧ (0 ≤ d ∧ d ≤ 10000) ∧ (0 ≤ e ∧ e ≤ 1000)) ∧ r = 0 ∧ I2 = I)))) := jKS (k_tools hj.g a b c d e ) hj (fun x I2 L2 h => by
  obtain ⟨rfl, h⟩ := h
  rcases h with ⟨a1, rfl, rfl⟩ | ⟨a1, rfl, rfl⟩
  · refine ⟨hj.m.cells (fun b j hc => ?_), fun b hb => ?_, fun _ _ => rfl⟩
    · unfold mCell at hc; (repeat rw [px_u_out (by omega)])
    · repeat rw [px_u_ne (by omega)]
  · exact ⟨hj.m, fun _ _ => rfl, fun _ _ => rfl⟩)

theorem jk_there {n : Nat} {I : px_I} {L : px_L} {R : px_R} (hj : jJ n I R) (a lo hi : Int32) : px_K M_X12_there [.ref 103, .int a, .int lo, .int hi] n I L R (jK n I L R (fun r I2 L2 => L2 = L ∧ ((((0 ≤ a ∧ a ≤ 2) ∧ (-1000000 ≤ lo ∧ lo ≤ 1000000) ∧ (lo ≤ hi ∧ hi ≤ 1000000)) ∧ r = 1 ∧ I2 = px_u (px_u I 135 a.toNatClampNeg lo) 136 a.toNatClampNeg hi) ∨ (¬ ((0 ≤ a ∧ a ≤ 2) ∧ (-1000000 ≤ lo ∧ lo ≤ 1000000) ∧ (lo ≤ hi ∧ hi ≤ 1000000)) ∧ r = 0 ∧ I2 = I)))) := jKS (k_there hj.g a lo hi ) hj (fun x I2 L2 h => by
  obtain ⟨rfl, h⟩ := h
  rcases h with ⟨a1, rfl, rfl⟩ | ⟨a1, rfl, rfl⟩
  · refine ⟨hj.m.cells (fun b j hc => ?_), fun b hb => ?_, fun _ _ => rfl⟩
    · unfold mCell at hc; (repeat rw [px_u_out (by omega)])
    · repeat rw [px_u_ne (by omega)]
  · exact ⟨hj.m, fun _ _ => rfl, fun _ _ => rfl⟩)

theorem jk_table {n : Nat} {I : px_I} {L : px_L} {R : px_R} (hj : jJ n I R) (c v : Int32) : px_K M_X12_table [.ref 103, .int c, .int v] n I L R (jK n I L R (fun r I2 L2 => L2 = L ∧ ((((0 ≤ c ∧ c ≤ 9) ∧ (0 ≤ v ∧ v ≤ 1000)) ∧ r = 1 ∧ I2 = px_u I 138 c.toNatClampNeg v) ∨ (¬ ((0 ≤ c ∧ c ≤ 9) ∧ (0 ≤ v ∧ v ≤ 1000)) ∧ r = 0 ∧ I2 = I)))) := jKS (k_table hj.g c v ) hj (fun x I2 L2 h => by
  obtain ⟨rfl, h⟩ := h
  rcases h with ⟨a1, rfl, rfl⟩ | ⟨a1, rfl, rfl⟩
  · refine ⟨hj.m.cells (fun b j hc => ?_), fun b hb => ?_, fun _ _ => rfl⟩
    · unfold mCell at hc; (repeat rw [px_u_out (by omega)])
    · repeat rw [px_u_ne (by omega)]
  · exact ⟨hj.m, fun _ _ => rfl, fun _ _ => rfl⟩)

theorem jk_lime {n : Nat} {I : px_I} {L : px_L} {R : px_R} (hj : jJ n I R) (v : Int32) : px_K M_X12_lime [.ref 103, .int v] n I L R (jK n I L R (fun r I2 L2 => L2 = L ∧ ((0 ≤ v ∧ v ≤ 1000 ∧ r = 1 ∧ I2 = px_u I 103 68 v) ∨ (¬ (0 ≤ v ∧ v ≤ 1000) ∧ r = 0 ∧ I2 = I)))) := jKS (k_lime hj.g v ) hj (fun x I2 L2 h => by
  obtain ⟨rfl, h⟩ := h
  rcases h with ⟨a1, a2, rfl, rfl⟩ | ⟨a1, rfl, rfl⟩
  · refine ⟨hj.m.cells (fun b j hc => ?_), fun b hb => ?_, fun _ _ => rfl⟩
    · unfold mCell at hc; (repeat rw [px_u_out (by omega)])
    · repeat rw [px_u_ne (by omega)]
  · exact ⟨hj.m, fun _ _ => rfl, fun _ _ => rfl⟩)

theorem jk_station {n : Nat} {I : px_I} {L : px_L} {R : px_R} (hj : jJ n I R)  : px_K M_X12_station [.ref 103] n I L R (jK n I L R (fun r I2 L2 => L2 = L ∧ ((I 103 1 ≠ 24 ∧ r = I 103 1 ∧ I2 = px_u I 103 1 (I 103 1 + 1)) ∨ (I 103 1 = 24 ∧ r = -1 ∧ I2 = I)))) := jKS (k_station hj.g  ) hj (fun x I2 L2 h => by
  obtain ⟨rfl, h⟩ := h
  rcases h with ⟨a1, rfl, rfl⟩ | ⟨a1, rfl, rfl⟩
  · obtain ⟨m1, m2, m3, m4, m5, m6, m7, m8⟩ := hj.m
    refine ⟨⟨?_, m2.k (px_u_ne (by decide)) (px_u_ne (by decide)) (px_u_ne (by decide)) (px_u_ne (by decide)) (px_u_ne (by decide)), m3.k (px_u_ne (by decide)), m4.k (px_u_at_ne (by decide)) (px_u_ne (by decide)) (px_u_ne (by decide)) (px_u_ne (by decide)), m5.k (px_u_at_ne (by decide)) (px_u_at_ne (by decide)) (px_u_at_ne (by decide)) (px_u_ne (by decide)), m6.same (fun b k hb => by rw [px_u_ne (by omega)]), ?_, ?_⟩, fun b hb => px_u_ne (by omega), fun _ _ => rfl⟩
    · unfold mS at *
      rw [px_u_at, px_u_at_ne (by decide), px_u_ne (by decide), px_u_ne (by decide)]
      exact ⟨by grind, m1.2⟩
    · rw [px_u_at_ne (by decide)]; exact m7
    · rw [px_u_at_ne (by decide)]; exact m8
  · exact ⟨hj.m, fun _ _ => rfl, fun _ _ => rfl⟩)

theorem jk_end {n : Nat} {I : px_I} {L : px_L} {R : px_R} (hj : jJ n I R) (x : Int32) : px_K M_X12_end [.ref 103, .int x] n I L R (jK n I L R (fun r I2 L2 => L2 = L ∧ ((0 ≤ x ∧ x ≤ I 103 25 ∧ r = x ∧ I2 = px_u I 103 25 x) ∨ (¬ (0 ≤ x ∧ x ≤ I 103 25) ∧ r = -1 ∧ I2 = I)))) := jKS (k_end hj.g x ) hj (fun x I2 L2 h => by
  obtain ⟨rfl, h⟩ := h
  rcases h with ⟨a1, a2, rfl, rfl⟩ | ⟨a1, rfl, rfl⟩
  · obtain ⟨m1, m2, m3, m4, m5, m6, m7, m8⟩ := hj.m
    refine ⟨⟨m1.k (px_u_at_ne (by decide)) (px_u_at_ne (by decide)) (px_u_ne (by decide)) (px_u_ne (by decide)), m2.k (px_u_ne (by decide)) (px_u_ne (by decide)) (px_u_ne (by decide)) (px_u_ne (by decide)) (px_u_ne (by decide)), m3.k (px_u_ne (by decide)), m4.k (px_u_at_ne (by decide)) (px_u_ne (by decide)) (px_u_ne (by decide)) (px_u_ne (by decide)), m5.k (px_u_at_ne (by decide)) (px_u_at_ne (by decide)) (px_u_at_ne (by decide)) (px_u_ne (by decide)), m6.same (fun b k hb => by rw [px_u_ne (by omega)]), ?_, ?_⟩, fun b hb => px_u_ne (by omega), fun _ _ => rfl⟩
    · rw [px_u_at]; grind
    · rw [px_u_at_ne (by decide)]; exact m8
  · exact ⟨hj.m, fun _ _ => rfl, fun _ _ => rfl⟩)

theorem jk_mouth {n : Nat} {I : px_I} {L : px_L} {R : px_R} (hj : jJ n I R) (g st : Int32) : px_K M_X12_mouth [.ref 103, .int g, .int st] n I L R (jK n I L R (fun r I2 L2 => L2 = L ∧ (((0 ≤ g ∧ g ≤ 1) ∧ (0 ≤ st ∧ st ≤ I 103 1 - 1) ∧ r = 1 ∧ I2 = px_u I 116 (20 * g).toNatClampNeg st) ∨ (¬ ((0 ≤ g ∧ g ≤ 1) ∧ (0 ≤ st ∧ st ≤ I 103 1 - 1)) ∧ r = 0 ∧ I2 = I)))) := jKS (k_mouth hj.g g st ) hj (fun x I2 L2 h => by
  obtain ⟨rfl, h⟩ := h
  rcases h with ⟨a1, a2, rfl, rfl⟩ | ⟨a1, rfl, rfl⟩
  · obtain ⟨m1, m2, m3, m4, m5, m6, m7, m8⟩ := hj.m
    refine ⟨⟨m1.k (by rw [px_u_ne (by decide)]) (by rw [px_u_ne (by decide)]) (px_u_ne (by decide)) (px_u_ne (by decide)), m2.k (px_u_ne (by decide)) (px_u_ne (by decide)) (px_u_ne (by decide)) (px_u_ne (by decide)) (px_u_ne (by decide)), fun k k1 k2 => ?_, m4.k (by rw [px_u_ne (by decide)]) (px_u_ne (by decide)) (px_u_ne (by decide)) (px_u_ne (by decide)), m5.k (by rw [px_u_ne (by decide)]) (by rw [px_u_ne (by decide)]) (by rw [px_u_ne (by decide)]) (px_u_ne (by decide)), m6.same (fun b k hb => by rw [px_u_ne (by omega)]), by rw [px_u_ne (by decide)]; exact m7, by rw [px_u_ne (by decide)]; exact m8⟩, fun b hb => px_u_ne (by omega), fun _ _ => rfl⟩
    have o := m3 k k1 k2
    have s1 := m1.1
    rw [px_ur, if_pos rfl]
    split
    · constructor <;> grind
    · exact o
  · exact ⟨hj.m, fun _ _ => rfl, fun _ _ => rfl⟩)

theorem jk_seek {n : Nat} {I : px_I} {L : px_L} {R : px_R} (hj : jJ n I R) (a b c d e f : Int32) : px_K M_X12_seek [.ref 103, .int a, .int b, .int c, .int d, .int e, .int f] n I L R (jK n I L R (fun r I2 L2 => L2 = L ∧ ((((0 ≤ a ∧ a ≤ 9) ∧ (0 ≤ b ∧ b ≤ 9) ∧ (0 ≤ c ∧ c ≤ 9) ∧ a + b + c ≠ 0 ∧ (0 ≤ d ∧ d ≤ 40) ∧ (0 ≤ e ∧ e ≤ 3) ∧ (0 ≤ f ∧ f ≤ 20)) ∧ r = 1 ∧ I2 = px_u (px_u (px_u (px_u (px_u (px_u I 137 0 a) 137 1 b) 137 2 c) 103 59 d) 103 60 e) 103 61 f) ∨ (¬ ((0 ≤ a ∧ a ≤ 9) ∧ (0 ≤ b ∧ b ≤ 9) ∧ (0 ≤ c ∧ c ≤ 9) ∧ a + b + c ≠ 0 ∧ (0 ≤ d ∧ d ≤ 40) ∧ (0 ≤ e ∧ e ≤ 3) ∧ (0 ≤ f ∧ f ≤ 20)) ∧ r = 0 ∧ I2 = I)))) := jKS (k_seek hj.g a b c d e f ) hj (fun x I2 L2 h => by
  obtain ⟨rfl, h⟩ := h
  rcases h with ⟨a1, rfl, rfl⟩ | ⟨a1, rfl, rfl⟩
  · obtain ⟨m1, m2, m3, m4, m5, m6, m7, m8⟩ := hj.m
    have o : ∀ z : Nat, z ≠ 103 → z ≠ 137 → px_u (px_u (px_u (px_u (px_u (px_u I 137 0 a) 137 1 b) 137 2 c) 103 59 d) 103 60 e) 103 61 f z = I z := fun z h1 h2 => by (repeat rw [px_u_ne h1]); (repeat rw [px_u_ne h2])
    have q : ∀ j, j ≠ 59 → j ≠ 60 → j ≠ 61 → px_u (px_u (px_u (px_u (px_u (px_u I 137 0 a) 137 1 b) 137 2 c) 103 59 d) 103 60 e) 103 61 f 103 j = I 103 j := fun j h1 h2 h3 => by rw [px_u_at_ne h3, px_u_at_ne h2, px_u_at_ne h1, px_u_ne (by decide), px_u_ne (by decide), px_u_ne (by decide)]
    refine ⟨⟨m1.k (q 1 (by decide) (by decide) (by decide)) (q 2 (by decide) (by decide) (by decide)) (o 105 (by decide) (by decide)) (o 106 (by decide) (by decide)), m2.k (o 110 (by decide) (by decide)) (o 111 (by decide) (by decide)) (o 112 (by decide) (by decide)) (o 113 (by decide) (by decide)) (o 114 (by decide) (by decide)), m3.k (o 116 (by decide) (by decide)), m4.k (q 16 (by decide) (by decide) (by decide)) (o 117 (by decide) (by decide)) (o 118 (by decide) (by decide)) (o 110 (by decide) (by decide)), ?_, m6.same (fun z k hb => by rw [o z (by omega) (by omega)]), by rw [q 25 (by decide) (by decide) (by decide)]; exact m7, by rw [q 63 (by decide) (by decide) (by decide)]; exact m8⟩, fun z hb => o z (by omega) (by omega), fun _ _ => rfl⟩
    obtain ⟨b1, b2, b3, b4, b5, b6, b7⟩ := a1
    unfold mW
    simp only [px_ur]
    exact ⟨b1, b2, b3, b4, b5, b6, b7⟩
  · exact ⟨hj.m, fun _ _ => rfl, fun _ _ => rfl⟩)

theorem jk_repair {n : Nat} {I : px_I} {L : px_L} {R : px_R} (hj : jJ n I R) (g p y : Int32) : px_K M_X12_repair [.ref 103, .int g, .int p, .int y] n I L R (jK n I L R (fun r I2 L2 => L2 = L ∧ (((mPegOk I g p ∧ p ≠ 0 ∧ (0 ≤ y ∧ y ≤ 5000) ∧ I 103 63 ≠ 30) ∧ r = I 103 63 + 1 ∧ I2 = px_u (px_u (px_u (px_u (px_u I 139 (I 103 63).toNatClampNeg g) 140 (I 103 63).toNatClampNeg p) 141 (I 103 63).toNatClampNeg y) 142 (I 103 63).toNatClampNeg (I 103 0)) 103 63 (I 103 63 + 1)) ∨ (¬ (mPegOk I g p ∧ p ≠ 0 ∧ (0 ≤ y ∧ y ≤ 5000) ∧ I 103 63 ≠ 30) ∧ r = -1 ∧ I2 = I)))) := jKS (k_repair hj.g g p y hj.m.2.2.2.2.2.2.2) hj (fun x I2 L2 h => by
  obtain ⟨rfl, h⟩ := h
  rcases h with ⟨a1, rfl, rfl⟩ | ⟨a1, rfl, rfl⟩
  · obtain ⟨m1, m2, m3, m4, m5, m6, m7, m8⟩ := hj.m
    have o : ∀ b, b ≠ 103 → (b < 139 ∨ 142 < b) → px_u (px_u (px_u (px_u (px_u I 139 (I 103 63).toNatClampNeg g) 140 (I 103 63).toNatClampNeg p) 141 (I 103 63).toNatClampNeg y) 142 (I 103 63).toNatClampNeg (I 103 0)) 103 63 (I 103 63 + 1) b = I b := fun b h1 h2 => by rw [px_u_ne h1, px_u_ne (by omega), px_u_ne (by omega), px_u_ne (by omega), px_u_ne (by omega)]
    have q : ∀ j, j ≠ 63 → px_u (px_u (px_u (px_u (px_u I 139 (I 103 63).toNatClampNeg g) 140 (I 103 63).toNatClampNeg p) 141 (I 103 63).toNatClampNeg y) 142 (I 103 63).toNatClampNeg (I 103 0)) 103 63 (I 103 63 + 1) 103 j = I 103 j := fun j h1 => by rw [px_u_at_ne h1, px_u_ne (by decide), px_u_ne (by decide), px_u_ne (by decide), px_u_ne (by decide)]
    refine ⟨⟨m1.k (q 1 (by decide)) (q 2 (by decide)) (o 105 (by decide) (by decide)) (o 106 (by decide) (by decide)), m2.k (o 110 (by decide) (by decide)) (o 111 (by decide) (by decide)) (o 112 (by decide) (by decide)) (o 113 (by decide) (by decide)) (o 114 (by decide) (by decide)), m3.k (o 116 (by decide) (by decide)), m4.k (q 16 (by decide)) (o 117 (by decide) (by decide)) (o 118 (by decide) (by decide)) (o 110 (by decide) (by decide)), m5.k (q 59 (by decide)) (q 60 (by decide)) (q 61 (by decide)) (o 137 (by decide) (by decide)), m6.same (fun b k hb => by rw [o b (by omega) (by omega)]), by rw [q 25 (by decide)]; exact m7, ?_⟩, fun b hb => o b (by omega) (by omega), fun _ _ => rfl⟩
    rw [px_u_at]
    have := a1.2.2.2
    constructor <;> grind
  · exact ⟨hj.m, fun _ _ => rfl, fun _ _ => rfl⟩)
