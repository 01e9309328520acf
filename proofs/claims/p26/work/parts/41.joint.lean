/-! both books together: what both need, kept by whatever is called -/
def swp (R : px_R) : Prop := (R 97 1 = some 99 ∧ R 97 2 = some 100) ∨ (R 97 1 = some 100 ∧ R 97 2 = some 99)
def mSafe (I : px_I) : Prop := mS I ∧ mG I ∧ mT I ∧ mM I ∧ mW I ∧ mWays I ∧ (0 ≤ I 103 25 ∧ I 103 25 ≤ 400) ∧ (0 ≤ I 103 63 ∧ I 103 63 ≤ 30)
def jJ (n : Nat) (I : px_I) (R : px_R) : Prop := kI n I R ∧ cSt I ∧ cGal I ∧ swp R ∧ mSafe I
def kCell (b j : Nat) : Prop := (b = 33 ∧ (j = 7 ∨ j = 8)) ∨ ((b = 41 ∨ b = 55) ∧ (j = 13 ∨ j = 15)) ∨ (70 ≤ b ∧ b ≤ 84) ∨ 103 ≤ b
def kKeep (I I2 : px_I) : Prop := ∀ b j, kCell b j → I2 b j = I b j
def mCell (b j : Nat) : Prop := (b = 103 ∧ (j = 1 ∨ j = 2 ∨ j = 16 ∨ j = 25 ∨ j = 59 ∨ j = 60 ∨ j = 61 ∨ j = 63)) ∨ (105 ≤ b ∧ b ≤ 106) ∨ (110 ≤ b ∧ b ≤ 114) ∨ (116 ≤ b ∧ b ≤ 118) ∨ (129 ≤ b ∧ b ≤ 131) ∨ b = 137
theorem mSafe.cells {I I2 : px_I} (h : ∀ b j, mCell b j → I2 b j = I b j) (hs : mSafe I) : mSafe I2 := by
  have e : ∀ b, (105 ≤ b ∧ b ≤ 106) ∨ (110 ≤ b ∧ b ≤ 114) ∨ (116 ≤ b ∧ b ≤ 118) ∨ (129 ≤ b ∧ b ≤ 131) ∨ b = 137 → I2 b = I b := fun b hb => funext fun j => h b j (Or.inr hb)
  obtain ⟨h1, h2, h3, h4, h5, h6, h7, h8⟩ := hs
  have f : ∀ j, (j = 1 ∨ j = 2 ∨ j = 16 ∨ j = 25 ∨ j = 59 ∨ j = 60 ∨ j = 61 ∨ j = 63) → I2 103 j = I 103 j := fun j hj => h 103 j (Or.inl ⟨rfl, hj⟩)
  refine ⟨?_, ?_, ?_, ?_, ?_, h6.same (fun b k hb => by rw [e b (by omega)]), ?_, ?_⟩
  · unfold mS at *; rw [f 1 (by decide), f 2 (by decide), e 105 (by decide), e 106 (by decide)]; exact h1
  · unfold mG at *; rw [e 110 (by decide), e 111 (by decide), e 112 (by decide), e 113 (by decide), e 114 (by decide)]; exact h2
  · unfold mT at *; rw [e 116 (by decide)]; exact h3
  · unfold mM at *; rw [f 16 (by decide), e 117 (by decide), e 118 (by decide), e 110 (by decide)]; exact h4
  · unfold mW at *; rw [f 59 (by decide), f 60 (by decide), f 61 (by decide), e 137 (by decide)]; exact h5
  · rw [f 25 (by decide)]; exact h7
  · rw [f 63 (by decide)]; exact h8
theorem jJ.keep {n : Nat} {I I2 : px_I} {R : px_R} (h : kKeep I I2) (hj : jJ n I R) : jJ n I2 R := by
  obtain ⟨⟨k1, k2, ⟨w, w1, w2, w3⟩, k4, k5⟩, s, g, p, m⟩ := hj
  obtain ⟨d0, d1, d2, d3, d4, d5, d6, d7, d8, d9⟩ := w3.op
  have c : ∀ b j, (70 ≤ b ∧ b ≤ 84) ∨ 103 ≤ b → I2 b j = I b j := fun b j hb => h b j (Or.inr (Or.inr hb))
  refine ⟨⟨k1, k2, ⟨w, w1, w2, ⟨d0, ?_, fun k => ?_, ?_, ?_, ?_, fun k => ?_, fun k => ?_, ?_, fun k => ?_⟩⟩, fun i hi x hx => ?_, ?_⟩, ?_, ?_, p, m.cells (fun b j hb => h b j (by unfold mCell at hb; unfold kCell; omega))⟩
  · rw [c 70 6 (by omega)]; exact d1
  · rw [c 75 k (by omega)]; exact d2 k
  · rw [c 76 7 (by omega)]; exact d3
  · rw [c 76 9 (by omega)]; exact d4
  · rw [c 76 12 (by omega)]; exact d5
  · rw [c 80 k (by omega)]; exact d6 k
  · rw [c 83 k (by omega)]; exact d7 k
  · rw [c w 2 (by omega)]; exact d8
  · rw [c (w + 2) k (by omega)]; exact d9 k
  · obtain ⟨t1, t2, t3⟩ := k4 i hi x hx
    exact ⟨t1, t2, t3.eq (funext fun k => c x k (by omega)) (funext fun k => c (x + 2) k (by omega))⟩
  · rw [c 70 5 (by omega)]; exact k5
  · unfold cSt at *; rw [h 33 7 (by unfold kCell; omega), h 33 8 (by unfold kCell; omega)]; exact s
  · unfold cGal at *; rw [h 41 13 (by unfold kCell; omega), h 41 15 (by unfold kCell; omega), h 55 13 (by unfold kCell; omega), h 55 15 (by unfold kCell; omega)]; exact g
theorem jJ.mod {n : Nat} {I I2 : px_I} {R : px_R} (h : ∀ b, b < 103 ∨ 147 ≤ b → I2 b = I b) (hm : mSafe I2) (hj : jJ n I R) : jJ n I2 R := by
  obtain ⟨⟨k1, k2, ⟨w, w1, w2, w3⟩, k4, k5⟩, s, g, p, m⟩ := hj
  obtain ⟨d0, d1, d2, d3, d4, d5, d6, d7, d8, d9⟩ := w3.op
  refine ⟨⟨k1, k2, ⟨w, w1, w2, ⟨d0, ?_, fun k => ?_, ?_, ?_, ?_, fun k => ?_, fun k => ?_, ?_, fun k => ?_⟩⟩, fun i hi x hx => ?_, ?_⟩, ?_, ?_, p, hm⟩
  · rw [h 70 (by omega)]; exact d1
  · rw [h 75 (by omega)]; exact d2 k
  · rw [h 76 (by omega)]; exact d3
  · rw [h 76 (by omega)]; exact d4
  · rw [h 76 (by omega)]; exact d5
  · rw [h 80 (by omega)]; exact d6 k
  · rw [h 83 (by omega)]; exact d7 k
  · rw [h w (by omega)]; exact d8
  · rw [h (w + 2) (by omega)]; exact d9 k
  · obtain ⟨t1, t2, t3⟩ := k4 i hi x hx
    exact ⟨t1, t2, t3.eq (h x (by omega)) (h (x + 2) (by omega))⟩
  · rw [h 70 (by omega)]; exact k5
  · unfold cSt at *; rw [h 33 (by omega)]; exact s
  · unfold cGal at *; rw [h 41 (by omega), h 55 (by omega)]; exact g
def frB (I I2 : px_I) (L L2 : px_L) : Prop := (∀ b, 103 ≤ b → b < 147 → I2 b = I b) ∧ ∀ b, 103 ≤ b → b < 147 → L2 b = L b
def frK (I I2 : px_I) (L L2 : px_L) : Prop := (∀ b, b < 103 ∨ 147 ≤ b → I2 b = I b) ∧ ∀ b, b < 103 ∨ 147 ≤ b → L2 b = L b
/-- after a call of the class's, of the reference's -/
def kR (R : px_R) (I2 : px_I) (R2 : px_R) : Prop := ∀ b k, (b = 89 ∨ (b = 76 ∧ k = 1)) → R2 b k = R b k
def jB (n : Nat) (I : px_I) (L : px_L) (F : px_I → px_R → Prop) (post : Int32 → px_I → px_L → Prop) : px_Q := fun r n2 I2 L2 R2 => ∃ x, r = some (.int x) ∧ jJ n2 I2 R2 ∧ n ≤ n2 ∧ frB I I2 L L2 ∧ F I2 R2 ∧ post x I2 L2
def jK (n : Nat) (I : px_I) (L : px_L) (R : px_R) (post : Int32 → px_I → px_L → Prop) : px_Q := fun r n2 I2 L2 R2 => ∃ x, r = some (.int x) ∧ n2 = n ∧ R2 = R ∧ jJ n I2 R ∧ frK I I2 L L2 ∧ post x I2 L2
theorem jS {M : px_M} {as : List Value} {n : Nat} {I : px_I} {L : px_L} {R : px_R} {post : Int32 → px_I → px_L → Prop} (hc : px_KS M as n I L R post) (hp : ∀ x I2 L2, post x I2 L2 → jJ n I2 R ∧ frB I I2 L L2) : px_K M as n I L R (jB n I L (kR R) post) :=
  px_K.mono hc (fun r n2 I2 L2 R2 ⟨h1, h2, x, h3, h4⟩ => by subst h1; subst h2; exact ⟨x, h3, (hp x I2 L2 h4).1, Nat.le_refl _, (hp x I2 L2 h4).2, fun _ _ _ => rfl, h4⟩)
theorem jSk {M : px_M} {as : List Value} {n : Nat} {I : px_I} {L : px_L} {R : px_R} {post : Int32 → px_I → px_L → Prop} (hc : px_KS M as n I L R post) (hj : jJ n I R) (hp : ∀ x I2 L2, post x I2 L2 → kKeep I I2 ∧ ∀ b, 103 ≤ b → b < 147 → L2 b = L b) : px_K M as n I L R (jB n I L (kR R) post) :=
  jS hc (fun x I2 L2 h => ⟨hj.keep (hp x I2 L2 h).1, fun b h1 h2 => funext fun j => (hp x I2 L2 h).1 b j (Or.inr (Or.inr (Or.inr h1))), (hp x I2 L2 h).2⟩)
theorem jP {M : px_M} {as : List Value} {n : Nat} {I : px_I} {L : px_L} {R : px_R} {post : Int32 → Prop} (hc : px_KP M as n I L R post) (hj : jJ n I R) : px_K M as n I L R (jB n I L (kR R) (fun x I2 L2 => I2 = I ∧ L2 = L ∧ post x)) :=
  px_K.mono hc (fun r n2 I2 L2 R2 ⟨h1, h2, x, h3, h4, h5, h6⟩ => by subst h1; subst h2; subst h4; subst h5; exact ⟨x, h3, hj, Nat.le_refl _, ⟨fun _ _ _ => rfl, fun _ _ _ => rfl⟩, fun _ _ _ => rfl, rfl, rfl, h6⟩)
theorem jKS {M : px_M} {as : List Value} {n : Nat} {I : px_I} {L : px_L} {R : px_R} {post : Int32 → px_I → px_L → Prop} (hc : px_KS M as n I L R post) (hj : jJ n I R) (hp : ∀ x I2 L2, post x I2 L2 → mSafe I2 ∧ frK I I2 L L2) : px_K M as n I L R (jK n I L R post) :=
  px_K.mono hc (fun r n2 I2 L2 R2 ⟨h1, h2, x, h3, h4⟩ => by subst h1; subst h2; exact ⟨x, h3, rfl, rfl, hj.mod (hp x I2 L2 h4).2.1 (hp x I2 L2 h4).1, (hp x I2 L2 h4).2, h4⟩)
theorem jKP {M : px_M} {as : List Value} {n : Nat} {I : px_I} {L : px_L} {R : px_R} {post : Int32 → Prop} (hc : px_KP M as n I L R post) (hj : jJ n I R) : px_K M as n I L R (jK n I L R (fun x I2 L2 => I2 = I ∧ L2 = L ∧ post x)) :=
  px_K.mono hc (fun r n2 I2 L2 R2 ⟨h1, h2, x, h3, h4, h5, h6⟩ => by subst h1; subst h2; subst h4; subst h5; exact ⟨x, h3, rfl, rfl, hj, ⟨fun _ _ => rfl, fun _ _ => rfl⟩, rfl, rfl, h6⟩)
/-- what the lemmas of the class ask, out of jJ -/
theorem jJ.g {n : Nat} {I : px_I} {R : px_R} (h : jJ n I R) : px_G n R := h.1.2.1
theorem jJ.t {n : Nat} {I : px_I} {R : px_R} (h : jJ n I R) : cTold n I R := h.1.2.2.2.1
theorem jJ.s {n : Nat} {I : px_I} {R : px_R} (h : jJ n I R) : cSt I := h.2.1
theorem jJ.l {n : Nat} {I : px_I} {R : px_R} (h : jJ n I R) : cGal I := h.2.2.1
theorem jJ.m {n : Nat} {I : px_I} {R : px_R} (h : jJ n I R) : mSafe I := h.2.2.2.2

theorem jb_days {n : Nat} {I : px_I} {L : px_L} {R : px_R} (hj : jJ n I R) (x : Int32) : px_K M_X11_days [.ref 32, .int x] n I L R (jB n I L (kR R) (fun r I2 L2 => L2 = L ∧ (((1 ≤ x ∧ x ≤ 1000) ∧ I 32 10 + x ≤ 9999 ∧ r = I 32 10 + x ∧ I2 = px_u I 32 10 (I 32 10 + x)) ∨ (¬ ((1 ≤ x ∧ x ≤ 1000) ∧ I 32 10 + x ≤ 9999) ∧ r = -1 ∧ I2 = I)))) := jSk (b_days hj.g x ) hj (fun x I2 L2 h => by
  obtain ⟨rfl, h⟩ := h
  rcases h with ⟨a1, a2, rfl, rfl⟩ | ⟨a1, rfl, rfl⟩
  · refine ⟨fun b j hc => ?_, fun _ _ _ => rfl⟩
    unfold kCell at hc
    (simp only [px_ur]; grind)
  · exact ⟨fun _ _ _ => rfl, fun _ _ _ => rfl⟩)

theorem jb_closed {n : Nat} {I : px_I} {L : px_L} {R : px_R} (hj : jJ n I R) (a k : Int32) : px_K M_X11_closed [.ref 32, .int a, .int k] n I L R (jB n I L (kR R) (fun r I2 L2 => I2 = I ∧ cDL L L2)) := jSk (b_closed hj.g a k hj.s) hj (fun x I2 L2 h => by
  obtain ⟨rfl, h⟩ := h
  exact ⟨fun _ _ _ => rfl, fun b h1 h2 => h b (by omega)⟩)

theorem jb_gap {n : Nat} {I : px_I} {L : px_L} {R : px_R} (hj : jJ n I R) (a f t k h : Int32) : px_K M_X11_gap [.ref 32, .int a, .int f, .int t, .int k, .int h] n I L R (jB n I L (kR R) (fun r I2 L2 => I2 = I ∧ cDL L L2)) := jSk (b_gap hj.g a f t k h hj.s) hj (fun x I2 L2 h => by
  obtain ⟨rfl, h⟩ := h
  exact ⟨fun _ _ _ => rfl, fun b h1 h2 => h b (by omega)⟩)

theorem jb_span {n : Nat} {I : px_I} {L : px_L} {R : px_R} (hj : jJ n I R) (a t k h : Int32) : px_K M_X11_span [.ref 32, .int a, .int t, .int k, .int h] n I L R (jB n I L (kR R) (fun r I2 L2 => I2 = I ∧ cDL L L2)) := jSk (b_span hj.g a t k h hj.s) hj (fun x I2 L2 h => by
  obtain ⟨rfl, h⟩ := h
  exact ⟨fun _ _ _ => rfl, fun b h1 h2 => h b (by omega)⟩)

theorem jb_blamed {n : Nat} {I : px_I} {L : px_L} {R : px_R} (hj : jJ n I R) (a k i : Int32) : px_K M_X11_blamed [.ref 32, .int a, .int k, .int i] n I L R (jB n I L (kR R) (fun r I2 L2 => I2 = I ∧ cDL L L2)) := jSk (b_blamed hj.g a k i hj.s) hj (fun x I2 L2 h => by
  obtain ⟨rfl, h⟩ := h
  exact ⟨fun _ _ _ => rfl, fun b h1 h2 => h b (by omega)⟩)

theorem jb_mouth {n : Nat} {I : px_I} {L : px_L} {R : px_R} (hj : jJ n I R) (g st : Int32) : px_K M_X11_mouth [.ref 32, .int g, .int st] n I L R (jB n I L (kR R) (fun r I2 L2 => L2 = L ∧ ((∃ G, bG g G ∧ I2 = px_u I (G + 1) 0 st) ∨ I2 = I))) := jSk (b_mouth hj.g g st ) hj (fun x I2 L2 h => by
  obtain ⟨rfl, h⟩ := h
  rcases h with ⟨G, g1, rfl⟩ | rfl
  · unfold bG at g1
    refine ⟨fun b j hc => ?_, fun _ _ _ => rfl⟩
    unfold kCell at hc
    (simp only [px_ur]; grind)
  · exact ⟨fun _ _ _ => rfl, fun _ _ _ => rfl⟩)

theorem jb_mark {n : Nat} {I : px_I} {L : px_L} {R : px_R} (hj : jJ n I R) (g p f t : Int32) : px_K M_X11_mark [.ref 32, .int g, .int p, .int f, .int t] n I L R (jB n I L (kR R) (fun r I2 L2 => L2 = L ∧ ((∃ G, (bG g G ∧ I 41 14 + I 55 14 < 40 ∧ (0 ≤ p ∧ p < I G 13) ∧ (0 ≤ f ∧ f ≤ t ∧ t ≤ 20000)) ∧ r = I 41 14 + I 55 14 + 1 ∧ I2 = cMark G I p f t) ∨ (¬ (∃ G, bG g G ∧ I 41 14 + I 55 14 < 40 ∧ (0 ≤ p ∧ p < I G 13) ∧ (0 ≤ f ∧ f ≤ t ∧ t ≤ 20000)) ∧ r = -1 ∧ I2 = I)))) := jSk (b_mark hj.g g p f t hj.l) hj (fun x I2 L2 h => by
  obtain ⟨rfl, h⟩ := h
  rcases h with ⟨G, g1, rfl, rfl⟩ | ⟨a1, rfl, rfl⟩
  · have g2 := g1.1
    unfold bG at g2
    refine ⟨fun b j hc => ?_, fun _ _ _ => rfl⟩
    unfold kCell at hc
    unfold cMark; (simp only [px_ur]; grind)
  · exact ⟨fun _ _ _ => rfl, fun _ _ _ => rfl⟩)

theorem jb_when {n : Nat} {I : px_I} {L : px_L} {R : px_R} (hj : jJ n I R) (g p h : Int32) : px_K M_X11_when [.ref 32, .int g, .int p, .int h] n I L R (jB n I L (kR R) (fun r I2 L2 => L2 = L ∧ bEI I I2)) := jSk (b_when hj.g g p h hj.l) hj (fun x I2 L2 h => by
  obtain ⟨rfl, h⟩ := h
  refine ⟨fun b j hc => ?_, fun _ _ _ => rfl⟩
  unfold kCell at hc
  rw [h b (by omega) (by omega) (by omega) (by omega)])

theorem jb_between {n : Nat} {I : px_I} {L : px_L} {R : px_R} (hj : jJ n I R) (g p q h : Int32) : px_K M_X11_between [.ref 32, .int g, .int p, .int q, .int h] n I L R (jB n I L (kR R) (fun r I2 L2 => L2 = L ∧ bEI I I2)) := jSk (b_between hj.g g p q h hj.l) hj (fun x I2 L2 h => by
  obtain ⟨rfl, h⟩ := h
  refine ⟨fun b j hc => ?_, fun _ _ _ => rfl⟩
  unfold kCell at hc
  rw [h b (by omega) (by omega) (by omega) (by omega)])

theorem jb_lamps {n : Nat} {I : px_I} {L : px_L} {R : px_R} (hj : jJ n I R) (g p h lo hi : Int32) : px_K M_X11_lamps [.ref 32, .int g, .int p, .int h, .int lo, .int hi] n I L R (jB n I L (kR R) (fun y9 I2 L2 => I2 = I ∧ L2 = L ∧ ((fun r => (∃ G, (bG g G ∧ (1 ≤ p ∧ p < I G 13) ∧ (0 ≤ h ∧ h ≤ 9999) ∧ (1 ≤ lo ∧ lo ≤ hi ∧ hi ≤ 100000)) ∧ ((r = 1 ∧ cHo G I p h lo hi) ∨ (r = 0 ∧ ¬ cHo G I p h lo hi))) ∨ (¬ (∃ G, bG g G ∧ (1 ≤ p ∧ p < I G 13) ∧ (0 ≤ h ∧ h ≤ 9999) ∧ (1 ≤ lo ∧ lo ≤ hi ∧ hi ≤ 100000)) ∧ r = -1))) y9)) := jP (b_lamps hj.g g p h lo hi hj.l) hj

theorem jb_count {n : Nat} {I : px_I} {L : px_L} {R : px_R} (hj : jJ n I R) (u lo hi : Int32) : px_K M_X11_count [.ref 32, .int u, .int lo, .int hi] n I L R (jB n I L (kR R) (fun r I2 L2 => L2 = L ∧ ((cCount I u lo hi ∧ r = I 69 0 + 1 ∧ I2 = px_u (px_u (px_u I 69 1 (cCf I u lo)) 69 2 (cCt I u hi)) 69 0 (I 69 0 + 1)) ∨ (¬ cCount I u lo hi ∧ r = -1 ∧ I2 = I)))) := jSk (b_count hj.g u lo hi ) hj (fun x I2 L2 h => by
  obtain ⟨rfl, h⟩ := h
  rcases h with ⟨a1, rfl, rfl⟩ | ⟨a1, rfl, rfl⟩
  · refine ⟨fun b j hc => ?_, fun _ _ _ => rfl⟩
    unfold kCell at hc
    (simp only [px_ur]; grind)
  · exact ⟨fun _ _ _ => rfl, fun _ _ _ => rfl⟩)

theorem jb_unit {n : Nat} {I : px_I} {L : px_L} {R : px_R} (hj : jJ n I R) (h : Int32) : px_K M_X11_unit [.ref 32, .int h] n I L R (jB n I L (kR R) (fun y9 I2 L2 => I2 = I ∧ L2 = L ∧ ((fun r => r = if I 69 0 = 0 then -1 else if ¬ h = 0 then I 69 2 else I 69 1)) y9)) := jP (b_unit hj.g h ) hj

theorem jb_fault {n : Nat} {I : px_I} {L : px_L} {R : px_R} (hj : jJ n I R) (x : Int32) : px_K M_X11_fault [.ref 32, .int x] n I L R (jB n I L (kR R) (fun y9 I2 L2 => I2 = I ∧ L2 = L ∧ ((fun r => r = if x = 0 then I 76 14 else if x = 1 then I 76 15 else -1)) y9)) := jP (b_fault hj.g x ) hj

theorem jb_tools {n : Nat} {I : px_I} {L : px_L} {R : px_R} (hj : jJ n I R) (a b c d e : Int32) : px_K M_X11_tools [.ref 32, .int a, .int b, .int c, .int d, .int e] n I L R (jB n I L (kR R) (fun r I2 L2 => L2 = L ∧ ((((0 ≤ a ∧ a ≤ 1000) ∧ (0 ≤ b ∧ b ≤ 1000) ∧ (0 ≤ c ∧ c ≤ 1000) ∧ (0 ≤ d ∧ d ≤ 10000) ∧ (0 ≤ e ∧ e ≤ 1000)) ∧ r = 1 ∧ cKF (px_u (px_u (px_u (px_u (px_u I 86 3 a) 86 4 b) 86 5 c) 86 6 d) 86 7 e) I2) ∨ (¬ ((0 ≤ a ∧ a ≤ 1000) ∧ (0 ≤ b ∧ b ≤ 1000) ∧ (0 ≤ c ∧ c ≤ 1000) ∧ (0 ≤ d ∧ d ≤ 10000) ∧ (0 ≤ e ∧ e ≤ 1000)) ∧ r = 0 ∧ I2 = I)))) := jSk (b_tools hj.g a b c d e ) hj (fun x I2 L2 h => by
  obtain ⟨rfl, h⟩ := h
  rcases h with ⟨a1, rfl, a2⟩ | ⟨a1, rfl, rfl⟩
  · refine ⟨fun b j hc => ?_, fun _ _ _ => rfl⟩
    unfold kCell at hc
    rw [a2 b (by omega)]
    (simp only [px_ur]; grind)
  · exact ⟨fun _ _ _ => rfl, fun _ _ _ => rfl⟩)

theorem jb_run {n : Nat} {I : px_I} {L : px_L} {R : px_R} (hj : jJ n I R) (w h a : Int32) : px_K M_X11_run [.ref 32, .int w, .int h, .int a] n I L R (jB n I L (kR R) (fun r I2 L2 => bXI I I2 ∧ bXL L L2)) := jSk (b_run hj.g w h a hj.t) hj (fun x I2 L2 h => by
  refine ⟨fun b j hc => ?_, fun b h1 h2 => h.2 b (by omega) (by omega)⟩
  unfold kCell at hc
  exact h.1 b j (by omega) (by omega) (by omega) (by omega) (by omega) (by omega) (by omega))

theorem jb_meeting {n : Nat} {I : px_I} {L : px_L} {R : px_R} (hj : jJ n I R) (a f b t x h : Int32) : px_K M_X11_meeting [.ref 32, .int a, .int f, .int b, .int t, .int x, .int h] n I L R (jB n I L (kR R) (fun r I2 L2 => bXI I I2 ∧ bXL L L2)) := jSk (b_meeting hj.g a f b t x h hj.t hj.s) hj (fun x I2 L2 h => by
  refine ⟨fun b j hc => ?_, fun b h1 h2 => h.2 b (by omega) (by omega)⟩
  unfold kCell at hc
  exact h.1 b j (by omega) (by omega) (by omega) (by omega) (by omega) (by omega) (by omega))

theorem jb_fits {n : Nat} {I : px_I} {L : px_L} {R : px_R} (hj : jJ n I R) (a f b t : Int32) : px_K M_X11_fits [.ref 32, .int a, .int f, .int b, .int t] n I L R (jB n I L (kR R) (fun r I2 L2 => bXI I I2 ∧ bXL L L2)) := jSk (b_fits hj.g a f b t hj.t hj.s) hj (fun x I2 L2 h => by
  refine ⟨fun b j hc => ?_, fun b h1 h2 => h.2 b (by omega) (by omega)⟩
  unfold kCell at hc
  exact h.1 b j (by omega) (by omega) (by omega) (by omega) (by omega) (by omega) (by omega))

theorem jb_ways {n : Nat} {I : px_I} {L : px_L} {R : px_R} (hj : jJ n I R) (a f b t x : Int32) : px_K M_X11_ways [.ref 32, .int a, .int f, .int b, .int t, .int x] n I L R (jB n I L (kR R) (fun r I2 L2 => bXI I I2 ∧ bXL L L2)) := jSk (b_ways hj.g a f b t x hj.t hj.s) hj (fun x I2 L2 h => by
  refine ⟨fun b j hc => ?_, fun b h1 h2 => h.2 b (by omega) (by omega)⟩
  unfold kCell at hc
  exact h.1 b j (by omega) (by omega) (by omega) (by omega) (by omega) (by omega) (by omega))

theorem jb_there {n : Nat} {I : px_I} {L : px_L} {R : px_R} (hj : jJ n I R) (a lo hi : Int32) : px_K M_X11_there [.ref 32, .int a, .int lo, .int hi] n I L R (jB n I L (kR R) (fun r I2 L2 => L2 = L ∧ ((((0 ≤ a ∧ a ≤ 2) ∧ (-1000000 ≤ lo ∧ lo ≤ hi ∧ hi ≤ 1000000)) ∧ r = 1 ∧ I2 = px_u (px_u I 93 a.toNatClampNeg lo) 94 a.toNatClampNeg hi) ∨ (¬ ((0 ≤ a ∧ a ≤ 2) ∧ (-1000000 ≤ lo ∧ lo ≤ hi ∧ hi ≤ 1000000)) ∧ r = 0 ∧ I2 = I)))) := jSk (b_there hj.g a lo hi ) hj (fun x I2 L2 h => by
  obtain ⟨rfl, h⟩ := h
  rcases h with ⟨a1, rfl, rfl⟩ | ⟨a1, rfl, rfl⟩
  · refine ⟨fun b j hc => ?_, fun _ _ _ => rfl⟩
    unfold kCell at hc
    (simp only [px_ur]; grind)
  · exact ⟨fun _ _ _ => rfl, fun _ _ _ => rfl⟩)

theorem jb_seek {n : Nat} {I : px_I} {L : px_L} {R : px_R} (hj : jJ n I R) (a b c d e f : Int32) : px_K M_X11_seek [.ref 32, .int a, .int b, .int c, .int d, .int e, .int f] n I L R (jB n I L (kR R) (fun r I2 L2 => L2 = L ∧ ((((0 ≤ a ∧ a ≤ 9) ∧ (0 ≤ b ∧ b ≤ 9) ∧ (0 ≤ c ∧ c ≤ 9) ∧ a + b + c ≠ 0 ∧ (0 ≤ d ∧ d ≤ 40) ∧ (0 ≤ e ∧ e ≤ 3) ∧ (0 ≤ f ∧ f ≤ 20)) ∧ r = 1 ∧ I2 = px_u (px_u (px_u (px_u (px_u (px_u I 98 0 a) 98 1 b) 98 2 c) 97 3 d) 97 4 e) 97 5 f) ∨ (¬ ((0 ≤ a ∧ a ≤ 9) ∧ (0 ≤ b ∧ b ≤ 9) ∧ (0 ≤ c ∧ c ≤ 9) ∧ a + b + c ≠ 0 ∧ (0 ≤ d ∧ d ≤ 40) ∧ (0 ≤ e ∧ e ≤ 3) ∧ (0 ≤ f ∧ f ≤ 20)) ∧ r = 0 ∧ I2 = I)))) := jSk (b_seek hj.g a b c d e f ) hj (fun x I2 L2 h => by
  obtain ⟨rfl, h⟩ := h
  rcases h with ⟨a1, rfl, rfl⟩ | ⟨a1, rfl, rfl⟩
  · refine ⟨fun b j hc => ?_, fun _ _ _ => rfl⟩
    unfold kCell at hc
    (simp only [px_ur]; grind)
  · exact ⟨fun _ _ _ => rfl, fun _ _ _ => rfl⟩)

theorem jb_table {n : Nat} {I : px_I} {L : px_L} {R : px_R} (hj : jJ n I R) (c v : Int32) : px_K M_X11_table [.ref 32, .int c, .int v] n I L R (jB n I L (kR R) (fun r I2 L2 => L2 = L ∧ ((((0 ≤ c ∧ c ≤ 9) ∧ (0 ≤ v ∧ v ≤ 1000)) ∧ r = 1 ∧ I2 = px_u I 102 c.toNatClampNeg v) ∨ (¬ ((0 ≤ c ∧ c ≤ 9) ∧ (0 ≤ v ∧ v ≤ 1000)) ∧ r = 0 ∧ I2 = I)))) := jSk (b_table hj.g c v ) hj (fun x I2 L2 h => by
  obtain ⟨rfl, h⟩ := h
  rcases h with ⟨a1, rfl, rfl⟩ | ⟨a1, rfl, rfl⟩
  · refine ⟨fun b j hc => ?_, fun _ _ _ => rfl⟩
    unfold kCell at hc
    (simp only [px_ur]; grind)
  · exact ⟨fun _ _ _ => rfl, fun _ _ _ => rfl⟩)

theorem jb_lime {n : Nat} {I : px_I} {L : px_L} {R : px_R} (hj : jJ n I R) (v : Int32) : px_K M_X11_lime [.ref 32, .int v] n I L R (jB n I L (kR R) (fun r I2 L2 => L2 = L ∧ (((0 ≤ v ∧ v ≤ 1000) ∧ r = 1 ∧ I2 = px_u I 101 2 v) ∨ (¬ (0 ≤ v ∧ v ≤ 1000) ∧ r = 0 ∧ I2 = I)))) := jSk (b_lime hj.g v ) hj (fun x I2 L2 h => by
  obtain ⟨rfl, h⟩ := h
  rcases h with ⟨a1, rfl, rfl⟩ | ⟨a1, rfl, rfl⟩
  · refine ⟨fun b j hc => ?_, fun _ _ _ => rfl⟩
    unfold kCell at hc
    (simp only [px_ur]; grind)
  · exact ⟨fun _ _ _ => rfl, fun _ _ _ => rfl⟩)

theorem jb_flow {n : Nat} {I : px_I} {L : px_L} {R : px_R} (hj : jJ n I R) (g y k h : Int32) : px_K M_X11_flow [.ref 32, .int g, .int y, .int k, .int h] n I L R (jB n I L (kR R) (fun r I2 L2 => cLI I I2 ∧ cDL L L2)) := jSk (b_flow hj.g g y k h hj.l hj.s) hj (fun x I2 L2 h => by
  refine ⟨fun b j hc => ?_, fun b h1 h2 => h.2 b (by omega)⟩
  unfold kCell at hc
  exact h.1 b j (by omega))

theorem jb_narrow {n : Nat} {I : px_I} {L : px_L} {R : px_R} (hj : jJ n I R) (g y k : Int32) : px_K M_X11_narrow [.ref 32, .int g, .int y, .int k] n I L R (jB n I L (kR R) (fun r I2 L2 => cLI I I2 ∧ cDL L L2)) := jSk (b_narrow hj.g g y k hj.l hj.s) hj (fun x I2 L2 h => by
  refine ⟨fun b j hc => ?_, fun b h1 h2 => h.2 b (by omega)⟩
  unfold kCell at hc
  exact h.1 b j (by omega))

theorem jb_about {n : Nat} {I : px_I} {L : px_L} {R : px_R} (hj : jJ n I R) (w : Int32) : px_K M_X11_about [.ref 32, .int w] n I L R (jB n I L (kR R) (fun y9 I2 L2 => I2 = I ∧ L2 = L ∧ ((fun r => True)) y9)) := jP (b_about hj.g w ) hj
