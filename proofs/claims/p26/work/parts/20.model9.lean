/-! the reference: reading a text -/
theorem mReg.nil {X : Int32 → Prop} {o v : Int32 → Int32} {s i : Int32} (h : 0 ≤ s) : mReg X o v s i i := fun P r0 _ _ _ _ => r0 s i h
theorem mReg.step {X : Int32 → Prop} {o v : Int32 → Int32} {s i j : Int32} (h : mReg X o v s i j) (hX : X j) (h1 : 1 ≤ o j) (h2 : o j ≤ 6) : mReg X o v s i (j + 1) := fun P r0 r1 r2 r3 r4 => r1 s i j (h P r0 r1 r2 r3 r4) hX h1 h2
theorem mReg.skip {X : Int32 → Prop} {o v : Int32 → Int32} {s i j : Int32} (h : mReg X o v s i j) (hX : X j) (h1 : o j = 23) : mReg X o v s i (v j) := fun P r0 r1 r2 r3 r4 => r2 s i j (h P r0 r1 r2 r3 r4) hX h1
theorem mReg.call {X : Int32 → Prop} {o v : Int32 → Int32} {s i j t e : Int32} (h : mReg X o v s i j) (hX : X j) (h1 : o j = 7) (h2 : 0 ≤ t) (h3 : t < s) (hb : mReg X o v t (v j) e) (he : X e) (h4 : o e = 21) : mReg X o v s i (j + 1) := fun P r0 r1 r2 r3 r4 => r3 s i j t e (h P r0 r1 r2 r3 r4) hX h1 h2 h3 (hb P r0 r1 r2 r3 r4) he h4
theorem mReg.rep {X : Int32 → Prop} {o v : Int32 → Int32} {s i j t e : Int32} (h : mReg X o v s i j) (hX : X j) (h1 : o j = 8) (h2 : 0 ≤ t) (h3 : t < s) (hb : mReg X o v t (j + 1) e) (he : X e) (h4 : o e = 20) (h5 : v e = j + 1) : mReg X o v s i (e + 1) := fun P r0 r1 r2 r3 r4 => r4 s i j t e (h P r0 r1 r2 r3 r4) hX h1 h2 h3 (hb P r0 r1 r2 r3 r4) he h4 h5
theorem mReg.cg {X X2 : Int32 → Prop} {o v o2 v2 : Int32 → Int32} {s i j : Int32} (hc : ∀ j, X j → X2 j ∧ o2 j = o j ∧ v2 j = v j) (h : mReg X o v s i j) : mReg X2 o2 v2 s i j := by
  refine h (fun s i j => mReg X2 o2 v2 s i j) (fun s i h => mReg.nil h) (fun s i j hP hj h1 h2 => ?_) (fun s i j hP hj h1 => ?_) (fun s i j t e hP hj h1 h2 h3 hB he h4 => ?_) (fun s i j t e hP hj h1 h2 h3 hB he h4 h5 => ?_)
  · obtain ⟨c1, c2, c3⟩ := hc j hj
    exact hP.step c1 (by rw [c2]; exact h1) (by rw [c2]; exact h2)
  · obtain ⟨c1, c2, c3⟩ := hc j hj
    rw [← c3]; exact hP.skip c1 (by rw [c2]; exact h1)
  · obtain ⟨c1, c2, c3⟩ := hc j hj
    obtain ⟨d1, d2, d3⟩ := hc e he
    exact hP.call c1 (by rw [c2]; exact h1) h2 h3 (by rw [c3]; exact hB) d1 (by rw [d2]; exact h4)
  · obtain ⟨c1, c2, c3⟩ := hc j hj
    obtain ⟨d1, d2, d3⟩ := hc e he
    exact hP.rep c1 (by rw [c2]; exact h1) h2 h3 hB d1 (by rw [d2]; exact h4) (by rw [d3]; exact h5)
theorem mReg.up {X : Int32 → Prop} {o v : Int32 → Int32} {s i j : Int32} (h : mReg X o v s i j) : ∀ {s2 : Int32}, s ≤ s2 → mReg X o v s2 i j := by
  refine h (fun s i j => ∀ {s2 : Int32}, s ≤ s2 → mReg X o v s2 i j) (fun s i h s2 hs => mReg.nil (Int32.le_trans h hs)) (fun s i j hP hj h1 h2 s2 hs => (hP hs).step hj h1 h2) (fun s i j hP hj h1 s2 hs => (hP hs).skip hj h1) (fun s i j t e hP hj h1 h2 h3 hB he h4 s2 hs => (hP hs).call hj h1 h2 (Int32.lt_of_lt_of_le h3 hs) (hB (Int32.le_refl t)) he h4) (fun s i j t e hP hj h1 h2 h3 hB he h4 h5 s2 hs => (hP hs).rep hj h1 h2 (Int32.lt_of_lt_of_le h3 hs) (hB (Int32.le_refl t)) he h4 h5)
/-- how many letters are told -/
def mNd (d : Int32 → Int32) : Int32 := (if d 0 < 0 then 0 else 1) + (if d 1 < 0 then 0 else 1) + (if d 2 < 0 then 0 else 1) + (if d 3 < 0 then 0 else 1) + (if d 4 < 0 then 0 else 1) + (if d 5 < 0 then 0 else 1) + (if d 6 < 0 then 0 else 1) + (if d 7 < 0 then 0 else 1)
theorem mNd_in (d : Int32 → Int32) : 0 ≤ mNd d ∧ mNd d ≤ 8 := by
  unfold mNd
  constructor <;> grind
theorem mNd_up {d d2 : Int32 → Int32} {l : Int32} (h0 : 0 ≤ l) (h7 : l ≤ 7) (h1 : d l < 0) (h2 : ¬ d2 l < 0) (h3 : ∀ q, 0 ≤ q → q ≤ 7 → q ≠ l → d2 q = d q) : mNd d2 = mNd d + 1 := by
  have hl : l = 0 ∨ l = 1 ∨ l = 2 ∨ l = 3 ∨ l = 4 ∨ l = 5 ∨ l = 6 ∨ l = 7 := by grind
  have a0 := h3 0 (by decide) (by decide)
  have a1 := h3 1 (by decide) (by decide)
  have a2 := h3 2 (by decide) (by decide)
  have a3 := h3 3 (by decide) (by decide)
  have a4 := h3 4 (by decide) (by decide)
  have a5 := h3 5 (by decide) (by decide)
  have a6 := h3 6 (by decide) (by decide)
  have a7 := h3 7 (by decide) (by decide)
  unfold mNd
  rcases hl with rfl | rfl | rfl | rfl | rfl | rfl | rfl | rfl
  · rw [a1 (by decide), a2 (by decide), a3 (by decide), a4 (by decide), a5 (by decide), a6 (by decide), a7 (by decide), if_pos h1, if_neg h2]; grind
  · rw [a0 (by decide), a2 (by decide), a3 (by decide), a4 (by decide), a5 (by decide), a6 (by decide), a7 (by decide), if_pos h1, if_neg h2]; grind
  · rw [a0 (by decide), a1 (by decide), a3 (by decide), a4 (by decide), a5 (by decide), a6 (by decide), a7 (by decide), if_pos h1, if_neg h2]; grind
  · rw [a0 (by decide), a1 (by decide), a2 (by decide), a4 (by decide), a5 (by decide), a6 (by decide), a7 (by decide), if_pos h1, if_neg h2]; grind
  · rw [a0 (by decide), a1 (by decide), a2 (by decide), a3 (by decide), a5 (by decide), a6 (by decide), a7 (by decide), if_pos h1, if_neg h2]; grind
  · rw [a0 (by decide), a1 (by decide), a2 (by decide), a3 (by decide), a4 (by decide), a6 (by decide), a7 (by decide), if_pos h1, if_neg h2]; grind
  · rw [a0 (by decide), a1 (by decide), a2 (by decide), a3 (by decide), a4 (by decide), a5 (by decide), a7 (by decide), if_pos h1, if_neg h2]; grind
  · rw [a0 (by decide), a1 (by decide), a2 (by decide), a3 (by decide), a4 (by decide), a5 (by decide), a6 (by decide), if_pos h1, if_neg h2]; grind
/-- what has been read so far: open blocks and their places, letters -/
def mSt (o v dA oD oA : Int32 → Int32) (op lt : Int32) (X : Int32 → Prop) (fe : Int32) : Prop :=
  (0 ≤ op ∧ op ≤ 8) ∧ (0 ≤ fe ∧ fe ≤ 210) ∧ (∀ j, X j → 0 ≤ j ∧ j < fe) ∧
  (∀ q, 0 ≤ q → q < op → (0 ≤ oA q ∧ oA q < fe) ∧ ¬ X (oA q) ∧ (oD q = 1 → q = 0 ∧ o (oA q) = 23 ∧ (0 ≤ lt ∧ lt ≤ 7) ∧ dA lt < 0)) ∧
  (∀ p q, 0 ≤ p → p < q → q < op → oA p ≠ oA q) ∧
  (∀ q, 0 ≤ q → q ≤ op → mReg X o v (9 - q + 8 * mNd dA) (if q = 0 then 0 else oA (q - 1) + 1) (if q = op then fe else oA q)) ∧
  (∀ l, 0 ≤ l → l ≤ 7 → 0 ≤ dA l → ∃ e, X e ∧ o e = 21 ∧ mReg X o v (8 * mNd dA) (dA l) e)
theorem mSt.emit {o v o2 v2 dA oD oA : Int32 → Int32} {op lt fe : Int32} {X : Int32 → Prop} (h : mSt o v dA oD oA op lt X fe) (ho : ∀ j, 0 ≤ j → j < fe → o2 j = o j ∧ v2 j = v j) : mSt o2 v2 dA oD oA op lt X fe := by
  obtain ⟨h1, h2, h3, h4, h5, h6, h7⟩ := h
  have hc : ∀ j, X j → X j ∧ o2 j = o j ∧ v2 j = v j := fun j hj => ⟨hj, ho j (h3 j hj).1 (h3 j hj).2⟩
  refine ⟨h1, h2, h3, fun q q1 q2 => ?_, h5, fun q q1 q2 => (h6 q q1 q2).cg hc, fun l l1 l2 l3 => ?_⟩
  · obtain ⟨a1, a2, a3⟩ := h4 q q1 q2
    exact ⟨a1, a2, fun hd => by rw [(ho _ a1.1 a1.2).1]; exact a3 hd⟩
  · obtain ⟨e, e1, e2, e3⟩ := h7 l l1 l2 l3
    exact ⟨e, e1, by rw [(hc e e1).2.1]; exact e2, e3.cg hc⟩
theorem mSt.grow {o v dA oD oA : Int32 → Int32} {op lt fe : Int32} {X : Int32 → Prop} (h : mSt o v dA oD oA op lt X fe) (hf : fe < 210) (hr : ∀ s i, 8 * mNd dA < s → mReg (fun j => X j ∨ j = fe) o v s i fe → mReg (fun j => X j ∨ j = fe) o v s i (fe + 1)) : mSt o v dA oD oA op lt (fun j => X j ∨ j = fe) (fe + 1) := by
  obtain ⟨h1, h2, h3, h4, h5, h6, h7⟩ := h
  have hc : ∀ j, X j → (X j ∨ j = fe) ∧ o j = o j ∧ v j = v j := fun j hj => ⟨Or.inl hj, rfl, rfl⟩
  have hn := mNd_in dA
  refine ⟨h1, ⟨by grind, by grind⟩, fun j hj => ?_, fun q q1 q2 => ?_, h5, fun q q1 q2 => ?_, fun l l1 l2 l3 => ?_⟩
  · rcases hj with hj | rfl
    · have := h3 j hj; grind
    · grind
  · obtain ⟨a1, a2, a3⟩ := h4 q q1 q2
    exact ⟨⟨a1.1, by grind⟩, fun hx => by rcases hx with hx | hx; exact a2 hx; grind, a3⟩
  · by_cases hq : q = op
    · have h8 := (h6 q q1 q2).cg hc
      rw [if_pos hq] at h8 ⊢
      exact hr _ _ (by grind) h8
    · have h8 := (h6 q q1 q2).cg hc
      rw [if_neg hq] at h8 ⊢
      exact h8
  · obtain ⟨e, e1, e2, e3⟩ := h7 l l1 l2 l3
    exact ⟨e, Or.inl e1, e2, e3.cg hc⟩
theorem mSt.stp {o v dA oD oA : Int32 → Int32} {op lt fe : Int32} {X : Int32 → Prop} (h : mSt o v dA oD oA op lt X fe) (hf : fe < 210) (h1 : 1 ≤ o fe) (h2 : o fe ≤ 6) : mSt o v dA oD oA op lt (fun j => X j ∨ j = fe) (fe + 1) := h.grow hf (fun _ _ _ hm => hm.step (Or.inr rfl) h1 h2)
theorem mSt.cal {o v dA oD oA : Int32 → Int32} {op lt fe l : Int32} {X : Int32 → Prop} (h : mSt o v dA oD oA op lt X fe) (hf : fe < 210) (h1 : o fe = 7) (h2 : v fe = dA l) (hl : 0 ≤ l ∧ l ≤ 7) (hd : 0 ≤ dA l) : mSt o v dA oD oA op lt (fun j => X j ∨ j = fe) (fe + 1) := by
  obtain ⟨e, e1, e2, e3⟩ := h.2.2.2.2.2.2 l hl.1 hl.2 hd
  have hn := mNd_in dA
  exact h.grow hf (fun s i hs hm => hm.call (Or.inr rfl) h1 (by grind) hs (by rw [h2]; exact e3.cg (fun j hj => ⟨Or.inl hj, rfl, rfl⟩)) (Or.inl e1) e2)
theorem mSt.opn {o v dA oD oA oD2 oA2 : Int32 → Int32} {op lt lt2 fe : Int32} {X : Int32 → Prop} (h : mSt o v dA oD oA op lt X fe) (hf : fe < 210) (h8 : op < 8) (hD : ∀ q, 0 ≤ q → q < op → oD2 q = oD q ∧ oA2 q = oA q) (hA : oA2 op = fe) (hd : oD2 op = 1 → op = 0 ∧ o fe = 23 ∧ (0 ≤ lt2 ∧ lt2 ≤ 7) ∧ dA lt2 < 0) (hl : op ≠ 0 → lt2 = lt) : mSt o v dA oD2 oA2 (op + 1) lt2 X (fe + 1) := by
  obtain ⟨h1, h2, h3, h4, h5, h6, h7⟩ := h
  have hn := mNd_in dA
  refine ⟨⟨by grind, by grind⟩, ⟨by grind, by grind⟩, fun j hj => ?_, fun q q1 q2 => ?_, fun p q p1 p2 p3 => ?_, fun q q1 q2 => ?_, h7⟩
  · have := h3 j hj; grind
  · by_cases hq : q = op
    · subst hq
      rw [hA]
      exact ⟨⟨h2.1, by grind⟩, fun hx => by have := h3 _ hx; grind, hd⟩
    · have q3 : q < op := by grind
      obtain ⟨a1, a2, a3⟩ := h4 q q1 q3
      rw [(hD q q1 q3).2, (hD q q1 q3).1]
      refine ⟨⟨a1.1, by grind⟩, a2, fun hd1 => ?_⟩
      have hl2 := hl (by grind)
      subst hl2
      exact a3 hd1
  · by_cases hq : q = op
    · subst hq
      have a := h4 p p1 p2
      rw [hA, (hD p p1 p2).2]
      exact fun he => by grind
    · have q3 : q < op := by grind
      rw [(hD q (by grind) q3).2, (hD p p1 (by grind)).2]
      exact h5 p q p1 p2 q3
  · by_cases hq : q = op + 1
    · rw [if_pos hq, if_neg (by grind)]
      have e1 : q - 1 = op := by grind
      rw [e1, hA]
      exact mReg.nil (by grind)
    · rw [if_neg hq]
      have q3 : q ≤ op := by grind
      have h9 := h6 q q1 q3
      have e1 : (if q = 0 then 0 else oA2 (q - 1) + 1) = (if q = 0 then 0 else oA (q - 1) + 1) := by
        by_cases hq0 : q = 0
        · rw [if_pos hq0, if_pos hq0]
        · rw [if_neg hq0, if_neg hq0, (hD (q - 1) (by grind) (by grind)).2]
      have e2 : oA2 q = (if q = op then fe else oA q) := by
        by_cases hq2 : q = op
        · rw [if_pos hq2, hq2, hA]
        · rw [if_neg hq2, (hD q q1 (by grind)).2]
      rw [e1, e2]
      exact h9
theorem px_m1 (x : Int32) : ¬ x - 1 = x := by grind
theorem px_m2 {q x : Int32} (h : q ≤ x - 1) (h0 : 0 < x) : ¬ q = x := by grind
theorem px_m3 {x : Int32} (h0 : 0 < x) : ¬ x = 0 := by grind
theorem mSt.clR {o v o2 v2 dA oD oA : Int32 → Int32} {op lt fe w : Int32} {X : Int32 → Prop} (h : mSt o v dA oD oA op lt X fe) (hf : fe < 210) (h0 : 0 < op) (hw : w = oA (op - 1)) (ho : ∀ j, 0 ≤ j → j < fe → j ≠ w → o2 j = o j ∧ v2 j = v j) (h20 : o2 fe = 20) (hv : v2 fe = w + 1) (hk : o2 w = 8 ∨ (o2 w = 23 ∧ v2 w = fe + 1)) : mSt o2 v2 dA oD oA (op - 1) lt (fun j => (X j ∨ j = w) ∨ j = fe) (fe + 1) := by
  obtain ⟨h1, h2, h3, h4, h5, h6, h7⟩ := h
  have hn := mNd_in dA
  obtain ⟨w1, w2, -⟩ := h4 (op - 1) (by grind) (by grind)
  rw [← hw] at w1 w2
  have hc : ∀ j, X j → ((X j ∨ j = w) ∨ j = fe) ∧ o2 j = o j ∧ v2 j = v j := fun j hj => ⟨Or.inl (Or.inl hj), ho j (h3 j hj).1 (h3 j hj).2 (fun e => w2 (e ▸ hj))⟩
  refine ⟨⟨by grind, by grind⟩, ⟨by grind, by grind⟩, fun j hj => ?_, fun q q1 q2 => ?_, fun p q p1 p2 p3 => h5 p q p1 p2 (by grind), fun q q1 q2 => ?_, fun l l1 l2 l3 => ?_⟩
  · rcases hj with (hj | rfl) | rfl
    · have := h3 j hj; grind
    · grind
    · grind
  · obtain ⟨a1, a2, a3⟩ := h4 q q1 (by grind)
    have a4 : oA q ≠ w := by rw [hw]; exact h5 q (op - 1) q1 q2 (by grind)
    refine ⟨⟨a1.1, by grind⟩, fun hx => ?_, fun hd => by rw [(ho _ a1.1 a1.2 a4).1]; exact a3 hd⟩
    rcases hx with (hx | hx) | hx
    · exact a2 hx
    · exact a4 hx
    · grind
  · by_cases hq : q = op - 1
    · rw [if_pos hq]
      have h8 := (h6 q q1 (by grind)).cg hc
      rw [hq, if_neg (px_m1 op), ← hw] at h8
      rw [hq]
      rcases hk with hk | hk
      · have h9 := (h6 op (by grind) (by grind)).cg hc
        rw [if_pos rfl, if_neg (px_m3 h0), ← hw] at h9
        exact h8.rep (Or.inl (Or.inr rfl)) hk (t := 9 - op + 8 * mNd dA) (by grind) (by grind) h9 (Or.inr rfl) h20 hv
      · have h9 := h8.skip (Or.inl (Or.inr rfl)) hk.1
        rw [hk.2] at h9
        exact h9
    · rw [if_neg hq]
      have h8 := (h6 q q1 (by grind)).cg hc
      rw [if_neg (px_m2 q2 h0)] at h8
      exact h8
  · obtain ⟨e, e1, e2, e3⟩ := h7 l l1 l2 l3
    exact ⟨e, Or.inl (Or.inl e1), by rw [(hc e e1).2.1]; exact e2, e3.cg hc⟩
theorem mSt.clD {o v o2 v2 dA dA2 oD oA : Int32 → Int32} {op lt fe w : Int32} {X : Int32 → Prop} (h : mSt o v dA oD oA op lt X fe) (hf : fe < 210) (h0 : 0 < op) (hw : w = oA (op - 1)) (hd : oD (op - 1) = 1) (ho : ∀ j, 0 ≤ j → j < fe → o2 j = o j ∧ (j ≠ w → v2 j = v j)) (h21 : o2 fe = 21) (hv : v2 w = fe + 1) (hA : ∀ l, 0 ≤ l → l ≤ 7 → l ≠ lt → dA2 l = dA l) (hA2 : dA2 lt = w + 1) : mSt o2 v2 dA2 oD oA (op - 1) lt (fun j => (X j ∨ j = w) ∨ j = fe) (fe + 1) := by
  obtain ⟨h1, h2, h3, h4, h5, h6, h7⟩ := h
  obtain ⟨w1, w2, w3⟩ := h4 (op - 1) (by grind) (by grind)
  rw [← hw] at w1 w2 w3
  obtain ⟨w4, w5, w6, w7⟩ := w3 hd
  have hn := mNd_in dA
  have hn2 : mNd dA2 = mNd dA + 1 := mNd_up w6.1 w6.2 w7 (by rw [hA2]; grind) hA
  have hn3 := mNd_in dA2
  have hop : op = 1 := by grind
  subst hop
  have hc : ∀ j, X j → ((X j ∨ j = w) ∨ j = fe) ∧ o2 j = o j ∧ v2 j = v j := fun j hj => ⟨Or.inl (Or.inl hj), (ho j (h3 j hj).1 (h3 j hj).2).1, (ho j (h3 j hj).1 (h3 j hj).2).2 (fun e => w2 (e ▸ hj))⟩
  have e0 : (1 : Int32) - 1 = 0 := by decide
  rw [e0] at hw ⊢
  refine ⟨⟨by decide, by decide⟩, ⟨by grind, by grind⟩, fun j hj => ?_, fun q q1 q2 => by grind, fun p q p1 p2 p3 => by grind, fun q q1 q2 => ?_, fun l l1 l2 l3 => ?_⟩
  · rcases hj with (hj | rfl) | rfl
    · have := h3 j hj; grind
    · grind
    · grind
  · have hq : q = 0 := by grind
    subst hq
    have h8 := (h6 0 (by decide) (by decide)).cg hc
    rw [if_pos rfl, if_neg (by decide), ← hw] at h8
    rw [if_pos rfl, if_pos rfl]
    have h9 := (h8.skip (Or.inl (Or.inr rfl)) (by rw [(ho w w1.1 w1.2).1]; exact w5)).up (s2 := 9 - 0 + 8 * mNd dA2) (by grind)
    rw [hv] at h9
    exact h9
  · by_cases hl : l = lt
    · subst hl
      refine ⟨fe, Or.inr rfl, h21, ?_⟩
      have h9 := (h6 1 (by decide) (by decide)).cg hc
      rw [if_pos rfl, if_neg (by decide), e0, ← hw] at h9
      rw [hA2]
      exact h9.up (by grind)
    · rw [hA l l1 l2 hl] at l3 ⊢
      obtain ⟨e, e1, e2, e3⟩ := h7 l l1 l2 l3
      exact ⟨e, Or.inl (Or.inl e1), by rw [(hc e e1).2.1]; exact e2, (e3.cg hc).up (by grind)⟩
/-! the same by numbers -/
def mSI (I : px_I) (X : Int32 → Prop) (fe : Int32) : Prop := mSt (fun j => I 122 j.toNatClampNeg) (fun j => I 123 j.toNatClampNeg) (fun j => I 124 j.toNatClampNeg) (fun j => I 125 j.toNatClampNeg) (fun j => I 126 j.toNatClampNeg) (I 103 39) (I 103 71) X fe
theorem mSI.same {I I2 : px_I} {X : Int32 → Prop} {fe : Int32} (h : mSI I X fe) (h2 : I2 122 = I 122) (h3 : I2 123 = I 123) (h4 : I2 124 = I 124) (h5 : I2 125 = I 125) (h6 : I2 126 = I 126) (h7 : I2 103 39 = I 103 39) (h8 : I2 103 71 = I 103 71) : mSI I2 X fe := by
  unfold mSI at *
  rw [h2, h3, h4, h5, h6, h7, h8]
  exact h
theorem px_uJ {α : Type} {f : Nat → Nat → α} {b : Nat} {N j : Int32} {x : α} (hj : 0 ≤ j) (hN : 0 ≤ N) (h : j ≠ N) : px_u f b N.toNatClampNeg x b j.toNatClampNeg = f b j.toNatClampNeg := px_u_at_ne (mNat_inj hj hN h)
def mTk (I : px_I) : Prop := (0 ≤ I 103 28 ∧ I 103 28 ≤ I 103 27 ∧ I 103 27 ≤ I 103 26 ∧ I 103 26 ≤ 400) ∧ (I 103 29 ≠ 0 → I 103 28 < I 103 27) ∧ (I 103 29 = 2 → 0 ≤ I 103 30 ∧ I 103 30 ≤ 7) ∧ (I 103 29 = 1 → 0 ≤ I 103 30 ∧ I 103 30 ≤ 8)
theorem mTk.b {I : px_I} (h : mTk I) : (0 ≤ I 103 28 ∧ I 103 28 ≤ 400) ∧ I 103 28 ≤ I 103 27 ∧ I 103 27 ≤ 400 := by
  obtain ⟨⟨a1, a2, a3, a4⟩, -⟩ := h
  exact ⟨⟨a1, Int32.le_trans a2 (Int32.le_trans a3 a4)⟩, a2, Int32.le_trans a3 a4⟩
def mPI (I : px_I) (c : Int32) : Prop := mTk I ∧ I 103 31 = 0 ∧ 0 ≤ I 103 35 ∧ 2 * I 103 35 + I 103 39 ≤ I 103 28 + c ∧ ∃ X, mSI I X (I 103 35)
/-- reading a token changes four fields; reading a text more -/
def mKI (I I2 : px_I) : Prop := ∀ b j, ¬ (b = 103 ∧ 27 ≤ j ∧ j ≤ 30) → I2 b j = I b j
def mPF (I I2 : px_I) : Prop := ∀ b j, (b < 122 ∨ 128 < b) → ¬ (b = 103 ∧ ((27 ≤ j ∧ j ≤ 32) ∨ j = 35 ∨ j = 39 ∨ j = 71 ∨ j = 72)) → I2 b j = I b j
theorem mKI.u {I I1 : px_I} (h : mKI I I1) (k : Nat) (v : Int32) (hk : 27 ≤ k ∧ k ≤ 30) : mKI I (px_u I1 103 k v) := fun b j h3 => by rw [px_ur, ← h b j h3]; grind
theorem mKI.u27 {I I1 : px_I} (h : mKI I I1) (v : Int32) : mKI I (px_u I1 103 27 v) := h.u 27 v (by decide)
theorem mKI.u28 {I I1 : px_I} (h : mKI I I1) (v : Int32) : mKI I (px_u I1 103 28 v) := h.u 28 v (by decide)
theorem mKI.u29 {I I1 : px_I} (h : mKI I I1) (v : Int32) : mKI I (px_u I1 103 29 v) := h.u 29 v (by decide)
theorem mKI.u30 {I I1 : px_I} (h : mKI I I1) (v : Int32) : mKI I (px_u I1 103 30 v) := h.u 30 v (by decide)
theorem mKI.trans {I I1 I2 : px_I} (h : mKI I I1) (h2 : mKI I1 I2) : mKI I I2 := fun b j h3 => (h2 b j h3).trans (h b j h3)
theorem mKI.o {I I2 : px_I} (h : mKI I I2) (b : Nat) (hb : b ≠ 103) : I2 b = I b := funext fun j => h b j (fun q => hb q.1)
theorem mKI.f {I I2 : px_I} (h : mKI I I2) (j : Nat) (hj : j < 27 ∨ 30 < j) : I2 103 j = I 103 j := h 103 j (fun q => by omega)
theorem mKI.P {I I2 : px_I} (h : mKI I I2) : mPF I I2 := fun b j h1 h2 => h b j (fun q => h2 ⟨q.1, Or.inl ⟨q.2.1, by omega⟩⟩)
theorem mPF.trans {I I1 I2 : px_I} (h : mPF I I1) (h2 : mPF I1 I2) : mPF I I2 := fun b j h3 h4 => (h2 b j h3 h4).trans (h b j h3 h4)
theorem mPF.u {I I1 : px_I} (h : mPF I I1) (k : Nat) (v : Int32) (hk : (27 ≤ k ∧ k ≤ 32) ∨ k = 35 ∨ k = 39 ∨ k = 71 ∨ k = 72 := by decide) : mPF I (px_u I1 103 k v) := fun b j h3 h4 => by rw [px_ur, ← h b j h3 h4]; grind
theorem mPF.a {I I1 : px_I} (h : mPF I I1) (b k : Nat) (v : Int32) (hb : 122 ≤ b ∧ b ≤ 128 := by decide) : mPF I (px_u I1 b k v) := fun b2 j h3 h4 => by rw [px_u_ne (by omega)]; exact h b2 j h3 h4
theorem mPF.rfl' {I : px_I} : mPF I I := fun _ _ _ _ => rfl
theorem mKI.S {I I2 : px_I} {X : Int32 → Prop} {fe : Int32} (h : mKI I I2) (hs : mSI I X fe) : mSI I2 X fe := hs.same (h.o _ (by decide)) (h.o _ (by decide)) (h.o _ (by decide)) (h.o _ (by decide)) (h.o _ (by decide)) (h.f _ (by decide)) (h.f _ (by decide))
def mLt (x : Int32) : Prop := (97 ≤ x ∧ x ≤ 122) ∨ (65 ≤ x ∧ x ≤ 90)

theorem q_X12_isLetter_0 : px_bk 12 1 cX12_isLetter 0 [(.iload_n 0, (0, 0, 0, 0, 0), 0, 0), (.i2l, (0, 0, 0, 0, 0), 0, 0), (.ldc2_w 265, (0, 0, 0, 0, 0), 0, 97), (.ldc2_w 267, (0, 0, 0, 0, 0), 0, 122)] = some 8 ∧ px_tS cX12_isLetter 8 167 = true := by decide +kernel
theorem q_X12_isLetter_11 : px_bk 12 1 cX12_isLetter 11 [] = some 11 ∧ px_t1 cX12_isLetter 11 .ne 28 = true := by decide +kernel
theorem q_X12_isLetter_28 : px_bk 12 1 cX12_isLetter 28 [(.iconst 1, (0, 0, 0, 0, 0), 1, 0), (.goto 4, (0, 0, 0, 0, 0), 0, 0)] = some 33 ∧ px_tr cX12_isLetter 33 .ireturn = true := by decide +kernel
theorem q_X12_isLetter_14 : px_bk 12 1 cX12_isLetter 14 [(.iload_n 0, (0, 0, 0, 0, 0), 0, 0), (.i2l, (0, 0, 0, 0, 0), 0, 0), (.ldc2_w 269, (0, 0, 0, 0, 0), 0, 65), (.ldc2_w 271, (0, 0, 0, 0, 0), 0, 90)] = some 22 ∧ px_tS cX12_isLetter 22 167 = true := by decide +kernel
theorem q_X12_isLetter_25 : px_bk 12 1 cX12_isLetter 25 [] = some 25 ∧ px_t1 cX12_isLetter 25 .eq 32 = true := by decide +kernel
theorem q_X12_isLetter_32 : px_bk 12 1 cX12_isLetter 32 [(.iconst 0, (0, 0, 0, 0, 0), 0, 0)] = some 33 ∧ px_tr cX12_isLetter 33 .ireturn = true := by decide +kernel
set_option maxRecDepth 100000 in
theorem k_isLetter {n : Nat} {I : px_I} {L : px_L} {R : px_R} (hg : px_G n R) (x : Int32) : px_KP M_X12_isLetter [.int x] n I L R (fun r => (r = 1 ∧ mLt x) ∨ (r = 0 ∧ ¬ mLt x)) := by
  refine px_of (plainFor_of_name np_RX12) (fun _ _ _ => trivial) rfl ?_
  refine px_cSP rfl q_X12_isLetter_0 hg rfl trivial lk_12_167 nm_X12_in (k_inI hg _ (97) (122) (by decide) (by decide)) rfl rfl rfl ⟨rfl, rfl⟩ ?_
  intro x8 h8
  refine px_ne rfl q_X12_isLetter_11 hg rfl trivial (fun c11 => ?_) (fun c11 => ?_)
  · replace h8 := px_bt h8 c11
    refine px_rzP rfl q_X12_isLetter_28 rfl rfl rfl hg rfl trivial ⟨⟨rfl, rfl, rfl, rfl⟩, (by first | exact Or.inl rfl | exact Or.inr rfl | grind), ?_⟩
    unfold mLt; grind
  · replace h8 := px_bf h8 c11
    refine px_cSP rfl q_X12_isLetter_14 hg rfl trivial lk_12_167 nm_X12_in (k_inI hg _ (65) (90) (by decide) (by decide)) rfl rfl rfl ⟨rfl, rfl⟩ ?_
    intro x22 h22
    refine px_eq rfl q_X12_isLetter_25 hg rfl trivial (fun c25 => ?_) (fun c25 => ?_)
    · replace h22 := px_bf h22 c25
      refine px_rzP rfl q_X12_isLetter_32 rfl rfl rfl hg rfl trivial ⟨⟨rfl, rfl, rfl, rfl⟩, (by first | exact Or.inl rfl | exact Or.inr rfl | grind), ?_⟩
      unfold mLt; grind
    · replace h22 := px_bt h22 c25
      refine px_rzP rfl q_X12_isLetter_28 rfl rfl rfl hg rfl trivial ⟨⟨rfl, rfl, rfl, rfl⟩, (by first | exact Or.inl rfl | exact Or.inr rfl | grind), ?_⟩
      unfold mLt; grind

theorem q_X12_wordOf_0 : px_bk 12 2 cX12_wordOf 0 [(.lload_n 0, (0, 0, 0, 0, 0), 0, 0), (.ldc2_w 273, (0, 0, 0, 0, 0), 0, 149862), (.lcmp, (0, 0, 0, 0, 0), 0, 0)] = some 5 ∧ px_t1 cX12_wordOf 5 .ne 10 = true := by decide +kernel
theorem q_X12_wordOf_10 : px_bk 12 2 cX12_wordOf 10 [(.lload_n 0, (0, 0, 0, 0, 0), 0, 0), (.ldc2_w 275, (0, 0, 0, 0, 0), 0, 11705253), (.lcmp, (0, 0, 0, 0, 0), 0, 0)] = some 15 ∧ px_t1 cX12_wordOf 15 .ne 20 = true := by decide +kernel
theorem q_X12_wordOf_20 : px_bk 12 2 cX12_wordOf 20 [(.lload_n 0, (0, 0, 0, 0, 0), 0, 0), (.ldc2_w 277, (0, 0, 0, 0, 0), 0, 13851822), (.lcmp, (0, 0, 0, 0, 0), 0, 0)] = some 25 ∧ px_t1 cX12_wordOf 25 .ne 30 = true := by decide +kernel
theorem q_X12_wordOf_30 : px_bk 12 2 cX12_wordOf 30 [(.lload_n 0, (0, 0, 0, 0, 0), 0, 0), (.ldc2_w 279, (0, 0, 0, 0, 0), 0, 13278437), (.lcmp, (0, 0, 0, 0, 0), 0, 0)] = some 35 ∧ px_t1 cX12_wordOf 35 .ne 40 = true := by decide +kernel
theorem q_X12_wordOf_40 : px_bk 12 2 cX12_wordOf 40 [(.lload_n 0, (0, 0, 0, 0, 0), 0, 0), (.ldc2_w 281, (0, 0, 0, 0, 0), 0, 10099500), (.lcmp, (0, 0, 0, 0, 0), 0, 0)] = some 45 ∧ px_t1 cX12_wordOf 45 .ne 50 = true := by decide +kernel
theorem q_X12_wordOf_50 : px_bk 12 2 cX12_wordOf 50 [(.lload_n 0, (0, 0, 0, 0, 0), 0, 0), (.ldc2_w 283, (0, 0, 0, 0, 0), 0, 866261428), (.lcmp, (0, 0, 0, 0, 0), 0, 0)] = some 55 ∧ px_t1 cX12_wordOf 55 .ne 60 = true := by decide +kernel
theorem q_X12_wordOf_60 : px_bk 12 2 cX12_wordOf 60 [(.lload_n 0, (0, 0, 0, 0, 0), 0, 0), (.ldc2_w 285, (0, 0, 0, 0, 0), 0, 817809779), (.lcmp, (0, 0, 0, 0, 0), 0, 0)] = some 65 ∧ px_t1 cX12_wordOf 65 .ne 71 = true := by decide +kernel
theorem q_X12_wordOf_71 : px_bk 12 2 cX12_wordOf 71 [(.lload_n 0, (0, 0, 0, 0, 0), 0, 0), (.ldc2_w 287, (0, 0, 0, 0, 0), 0, 2351), (.lcmp, (0, 0, 0, 0, 0), 0, 0)] = some 76 ∧ px_t1 cX12_wordOf 76 .ne 82 = true := by decide +kernel
theorem q_X12_wordOf_82 : px_bk 12 2 cX12_wordOf 82 [(.lload_n 0, (0, 0, 0, 0, 0), 0, 0), (.ldc2_w 289, (0, 0, 0, 0, 0), 0, 54320584820), (.lcmp, (0, 0, 0, 0, 0), 0, 0)] = some 87 ∧ px_t1 cX12_wordOf 87 .ne 93 = true := by decide +kernel
theorem q_X12_wordOf_93 : px_bk 12 2 cX12_wordOf 93 [(.iconst (-1), (0, 0, 0, 0, 0), -1, 0)] = some 94 ∧ px_tr cX12_wordOf 94 .ireturn = true := by decide +kernel
theorem q_X12_wordOf_90 : px_bk 12 2 cX12_wordOf 90 [(.bipush 8, (0, 0, 0, 0, 0), 8, 0)] = some 92 ∧ px_tr cX12_wordOf 92 .ireturn = true := by decide +kernel
theorem q_X12_wordOf_79 : px_bk 12 2 cX12_wordOf 79 [(.bipush 7, (0, 0, 0, 0, 0), 7, 0)] = some 81 ∧ px_tr cX12_wordOf 81 .ireturn = true := by decide +kernel
theorem q_X12_wordOf_68 : px_bk 12 2 cX12_wordOf 68 [(.bipush 6, (0, 0, 0, 0, 0), 6, 0)] = some 70 ∧ px_tr cX12_wordOf 70 .ireturn = true := by decide +kernel
theorem q_X12_wordOf_58 : px_bk 12 2 cX12_wordOf 58 [(.iconst 5, (0, 0, 0, 0, 0), 5, 0)] = some 59 ∧ px_tr cX12_wordOf 59 .ireturn = true := by decide +kernel
theorem q_X12_wordOf_48 : px_bk 12 2 cX12_wordOf 48 [(.iconst 4, (0, 0, 0, 0, 0), 4, 0)] = some 49 ∧ px_tr cX12_wordOf 49 .ireturn = true := by decide +kernel
theorem q_X12_wordOf_38 : px_bk 12 2 cX12_wordOf 38 [(.iconst 3, (0, 0, 0, 0, 0), 3, 0)] = some 39 ∧ px_tr cX12_wordOf 39 .ireturn = true := by decide +kernel
theorem q_X12_wordOf_28 : px_bk 12 2 cX12_wordOf 28 [(.iconst 2, (0, 0, 0, 0, 0), 2, 0)] = some 29 ∧ px_tr cX12_wordOf 29 .ireturn = true := by decide +kernel
theorem q_X12_wordOf_18 : px_bk 12 2 cX12_wordOf 18 [(.iconst 1, (0, 0, 0, 0, 0), 1, 0)] = some 19 ∧ px_tr cX12_wordOf 19 .ireturn = true := by decide +kernel
theorem q_X12_wordOf_8 : px_bk 12 2 cX12_wordOf 8 [(.iconst 0, (0, 0, 0, 0, 0), 0, 0)] = some 9 ∧ px_tr cX12_wordOf 9 .ireturn = true := by decide +kernel
set_option maxRecDepth 100000 in
theorem k_wordOf {n : Nat} {I : px_I} {L : px_L} {R : px_R} (hg : px_G n R) (z : Int64) : px_KP M_X12_wordOf [.long z] n I L R (fun r => -1 ≤ r ∧ r ≤ 8) := by
  refine px_of (plainFor_of_name np_RX12) (fun _ _ _ => trivial) rfl ?_
  refine px_lne rfl q_X12_wordOf_0 hg rfl trivial (fun c5 => ?_) (fun c5 => ?_)
  · refine px_lne rfl q_X12_wordOf_10 hg rfl trivial (fun c15 => ?_) (fun c15 => ?_)
    · refine px_lne rfl q_X12_wordOf_20 hg rfl trivial (fun c25 => ?_) (fun c25 => ?_)
      · refine px_lne rfl q_X12_wordOf_30 hg rfl trivial (fun c35 => ?_) (fun c35 => ?_)
        · refine px_lne rfl q_X12_wordOf_40 hg rfl trivial (fun c45 => ?_) (fun c45 => ?_)
          · refine px_lne rfl q_X12_wordOf_50 hg rfl trivial (fun c55 => ?_) (fun c55 => ?_)
            · refine px_lne rfl q_X12_wordOf_60 hg rfl trivial (fun c65 => ?_) (fun c65 => ?_)
              · refine px_lne rfl q_X12_wordOf_71 hg rfl trivial (fun c76 => ?_) (fun c76 => ?_)
                · refine px_lne rfl q_X12_wordOf_82 hg rfl trivial (fun c87 => ?_) (fun c87 => ?_)
                  · refine px_riP rfl q_X12_wordOf_93 rfl rfl rfl hg rfl trivial ⟨⟨rfl, rfl, rfl, rfl⟩, ?_⟩
                    exact ⟨by decide, by decide⟩
                  · refine px_riP rfl q_X12_wordOf_90 rfl rfl rfl hg rfl trivial ⟨⟨rfl, rfl, rfl, rfl⟩, ?_⟩
                    exact ⟨by decide, by decide⟩
                · refine px_riP rfl q_X12_wordOf_79 rfl rfl rfl hg rfl trivial ⟨⟨rfl, rfl, rfl, rfl⟩, ?_⟩
                  exact ⟨by decide, by decide⟩
              · refine px_riP rfl q_X12_wordOf_68 rfl rfl rfl hg rfl trivial ⟨⟨rfl, rfl, rfl, rfl⟩, ?_⟩
                exact ⟨by decide, by decide⟩
            · refine px_riP rfl q_X12_wordOf_58 rfl rfl rfl hg rfl trivial ⟨⟨rfl, rfl, rfl, rfl⟩, ?_⟩
              exact ⟨by decide, by decide⟩
          · refine px_riP rfl q_X12_wordOf_48 rfl rfl rfl hg rfl trivial ⟨⟨rfl, rfl, rfl, rfl⟩, ?_⟩
            exact ⟨by decide, by decide⟩
        · refine px_riP rfl q_X12_wordOf_38 rfl rfl rfl hg rfl trivial ⟨⟨rfl, rfl, rfl, rfl⟩, ?_⟩
          exact ⟨by decide, by decide⟩
      · refine px_riP rfl q_X12_wordOf_28 rfl rfl rfl hg rfl trivial ⟨⟨rfl, rfl, rfl, rfl⟩, ?_⟩
        exact ⟨by decide, by decide⟩
    · refine px_riP rfl q_X12_wordOf_18 rfl rfl rfl hg rfl trivial ⟨⟨rfl, rfl, rfl, rfl⟩, ?_⟩
      exact ⟨by decide, by decide⟩
  · refine px_riP rfl q_X12_wordOf_8 rfl rfl rfl hg rfl trivial ⟨⟨rfl, rfl, rfl, rfl⟩, ?_⟩
    exact ⟨by decide, by decide⟩

theorem q_X12_next_271 : px_bk 12 5 cX12_next 271 [(.aload_n 0, (0, 0, 0, 0, 0), 0, 0), (.getfield 291, (12, 27, 0, 0, 0), 0, 0), (.aload_n 0, (0, 0, 0, 0, 0), 0, 0), (.getfield 294, (12, 26, 0, 0, 0), 0, 0)] = some 279 ∧ px_t2 cX12_next 279 .ge 400 = true := by decide +kernel
theorem q_X12_next_400 : px_bk 12 5 cX12_next 400 [] = some 400 ∧ px_tr cX12_next 400 .return_ = true := by decide +kernel
theorem q_X12_next_282 : px_bk 12 5 cX12_next 282 [(.aload_n 0, (0, 0, 0, 0, 0), 0, 0), (.getfield 65, (12, 24, 3, 121, 0), 0, 0), (.aload_n 0, (0, 0, 0, 0, 0), 0, 0), (.getfield 291, (12, 27, 0, 0, 0), 0, 0), (.baload, (0, 0, 0, 0, 0), 0, 0), (.i2l, (0, 0, 0, 0, 0), 0, 0), (.ldc2_w 317, (0, 0, 0, 0, 0), 0, 48), (.ldc2_w 319, (0, 0, 0, 0, 0), 0, 57)] = some 298 ∧ px_tS cX12_next 298 167 = true := by decide +kernel
theorem q_X12_next_301 : px_bk 12 5 cX12_next 301 [] = some 301 ∧ px_t1 cX12_next 301 .eq 400 = true := by decide +kernel
theorem q_X12_next_304 : px_bk 12 5 cX12_next 304 [(.aload_n 0, (0, 0, 0, 0, 0), 0, 0), (.aload_n 0, (0, 0, 0, 0, 0), 0, 0), (.getfield 310, (12, 30, 0, 0, 0), 0, 0), (.ldc_w 321, (0, 0, 0, 0, 0), 999999, 0)] = some 312 ∧ px_t2 cX12_next 312 .le 322 = true := by decide +kernel
theorem q_X12_next_322 : px_bk 12 5 cX12_next 322 [(.bipush 10, (0, 0, 0, 0, 0), 10, 0), (.aload_n 0, (0, 0, 0, 0, 0), 0, 0), (.getfield 310, (12, 30, 0, 0, 0), 0, 0), (.imul, (0, 0, 0, 0, 0), 0, 0), (.aload_n 0, (0, 0, 0, 0, 0), 0, 0), (.getfield 65, (12, 24, 3, 121, 0), 0, 0), (.aload_n 0, (0, 0, 0, 0, 0), 0, 0), (.getfield 291, (12, 27, 0, 0, 0), 0, 0), (.baload, (0, 0, 0, 0, 0), 0, 0), (.iadd, (0, 0, 0, 0, 0), 0, 0), (.bipush 48, (0, 0, 0, 0, 0), 48, 0), (.isub, (0, 0, 0, 0, 0), 0, 0), (.putfield 310, (12, 30, 0, 0, 0), 0, 0), (.aload_n 0, (0, 0, 0, 0, 0), 0, 0), (.dup, (0, 0, 0, 0, 0), 0, 0), (.getfield 291, (12, 27, 0, 0, 0), 0, 0), (.iconst 1, (0, 0, 0, 0, 0), 1, 0), (.iadd, (0, 0, 0, 0, 0), 0, 0), (.putfield 291, (12, 27, 0, 0, 0), 0, 0), (.goto (-84), (0, 0, 0, 0, 0), 0, 0)] = some 271 := by decide +kernel
theorem q_X12_next_315 : px_bk 12 5 cX12_next 315 [(.aload_n 0, (0, 0, 0, 0, 0), 0, 0), (.getfield 310, (12, 30, 0, 0, 0), 0, 0), (.goto 23, (0, 0, 0, 0, 0), 0, 0), (.putfield 310, (12, 30, 0, 0, 0), 0, 0), (.aload_n 0, (0, 0, 0, 0, 0), 0, 0), (.dup, (0, 0, 0, 0, 0), 0, 0), (.getfield 291, (12, 27, 0, 0, 0), 0, 0), (.iconst 1, (0, 0, 0, 0, 0), 1, 0), (.iadd, (0, 0, 0, 0, 0), 0, 0), (.putfield 291, (12, 27, 0, 0, 0), 0, 0), (.goto (-84), (0, 0, 0, 0, 0), 0, 0)] = some 271 := by decide +kernel
set_option maxRecDepth 100000 in
theorem l_next271 {n : Nat} {R : px_R} (hg : px_G n R) {Q : px_Q} (x tk len : Int32) {I : px_I} {L : px_L} (hl : I 103 26 = len ∧ len ≤ 400) (ht : 0 ≤ tk ∧ tk < len ∧ I 103 27 ≤ tk) (hx : I 121 tk.toNatClampNeg = x ∧ (48 ≤ x ∧ x ≤ 57)) (hq : ∀ I2, mKI I I2 → I 103 27 ≤ I2 103 28 → mTk I2 → Q none n I2 L R) : ∀ a : Int32, a ≤ len → tk ≤ a → ∀ I1, mKI I I1 → I1 103 27 = a → I1 103 28 = tk → I1 103 29 = 3 → px M_X12_next 0 0 271 [(0, .ref 103), (1, .int x)] [] n I1 L R Q := by
  refine px_up _ (fun a ih ha => ?_)
  intro h0 I1 hI e27 e28 e29
  have f26 : I1 103 26 = len := (hI.f 26 (by decide)).trans hl.1
  refine px_ige rfl q_X12_next_271 hg rfl trivial (fun c279 => ?_) (fun c279 => ?_)
  · refine px_rv rfl q_X12_next_400 rfl rfl rfl hg rfl trivial ?_
    have hlt : tk < a := by
      by_cases hz : a = tk
      · exfalso
        have f121 := hI.o 121 (by decide)
        grind
      · grind
    refine hq _ hI (by grind) ?_
    unfold mTk
    grind
  · refine px_cSP rfl q_X12_next_282 hg rfl ⟨trivial, (by first | decide | (refine ⟨?_, ?_⟩ <;> grind) | grind)⟩ lk_12_167 nm_X12_in (k_inI hg _ (48) (57) (by decide) (by decide)) rfl rfl rfl ⟨rfl, rfl⟩ ?_
    intro x298 h298
    refine px_eq rfl q_X12_next_301 hg rfl trivial (fun c301 => ?_) (fun c301 => ?_)
    · replace h298 := px_bf h298 c301
      refine px_rv rfl q_X12_next_400 rfl rfl rfl hg rfl trivial ?_
      have hlt : tk < a := by
        by_cases hz : a = tk
        · exfalso
          have f121 := hI.o 121 (by decide)
          grind
        · grind
      refine hq _ hI (by grind) ?_
      unfold mTk
      grind
    · replace h298 := px_bt h298 c301
      refine px_ile rfl q_X12_next_304 hg rfl trivial (fun c312 => ?_) (fun c312 => ?_)
      · refine px_b rfl q_X12_next_322 hg rfl ⟨trivial, (by first | decide | (refine ⟨?_, ?_⟩ <;> grind) | grind)⟩ ?_
        exact px_go (ih (a + 1) (by grind) (by grind) (by grind) _ (by repeat (first | exact hI | refine mKI.u27 ?_ _ | refine mKI.u28 ?_ _ | refine mKI.u29 ?_ _ | refine mKI.u30 ?_ _)) (by simp [px_ur]; grind) (by simp [px_ur]; exact e28) (by simp [px_ur]; exact e29)) ⟨rfl, rfl, trivial⟩
      · refine px_b rfl q_X12_next_315 hg rfl trivial ?_
        exact px_go (ih (a + 1) (by grind) (by grind) (by grind) _ (by repeat (first | exact hI | refine mKI.u27 ?_ _ | refine mKI.u28 ?_ _ | refine mKI.u29 ?_ _ | refine mKI.u30 ?_ _)) (by simp [px_ur]; grind) (by simp [px_ur]; exact e28) (by simp [px_ur]; exact e29)) ⟨rfl, rfl, trivial⟩

theorem q_X12_next_99 : px_bk 12 5 cX12_next 99 [(.aload_n 0, (0, 0, 0, 0, 0), 0, 0), (.getfield 291, (12, 27, 0, 0, 0), 0, 0), (.aload_n 0, (0, 0, 0, 0, 0), 0, 0), (.getfield 294, (12, 26, 0, 0, 0), 0, 0)] = some 107 ∧ px_t2 cX12_next 107 .ge 173 = true := by decide +kernel
theorem q_X12_next_173 : px_bk 12 5 cX12_next 173 [(.iload 4, (0, 0, 0, 0, 0), 0, 0), (.iconst 1, (0, 0, 0, 0, 0), 1, 0)] = some 176 ∧ px_t2 cX12_next 176 .ne 209 = true := by decide +kernel
theorem q_X12_next_209 : px_bk 12 5 cX12_next 209 [(.aload_n 0, (0, 0, 0, 0, 0), 0, 0), (.iload 4, (0, 0, 0, 0, 0), 0, 0), (.bipush 6, (0, 0, 0, 0, 0), 6, 0)] = some 214 ∧ px_t2 cX12_next 214 .le 221 = true := by decide +kernel
theorem q_X12_next_221 : px_bk 12 5 cX12_next 221 [(.lload_n 2, (0, 0, 0, 0, 0), 0, 0)] = some 222 ∧ px_tS cX12_next 222 313 = true := by decide +kernel
theorem q_X12_next_225 : px_bk 12 5 cX12_next 225 [(.putfield 310, (12, 30, 0, 0, 0), 0, 0), (.aload_n 0, (0, 0, 0, 0, 0), 0, 0), (.aload_n 0, (0, 0, 0, 0, 0), 0, 0), (.getfield 310, (12, 30, 0, 0, 0), 0, 0)] = some 233 ∧ px_t1 cX12_next 233 .ge 240 = true := by decide +kernel
theorem q_X12_next_240 : px_bk 12 5 cX12_next 240 [(.iconst 1, (0, 0, 0, 0, 0), 1, 0), (.putfield 300, (12, 29, 0, 0, 0), 0, 0), (.goto 156, (0, 0, 0, 0, 0), 0, 0)] = some 400 ∧ px_tr cX12_next 400 .return_ = true := by decide +kernel
theorem q_X12_next_236 : px_bk 12 5 cX12_next 236 [(.iconst 5, (0, 0, 0, 0, 0), 5, 0), (.goto 4, (0, 0, 0, 0, 0), 0, 0), (.putfield 300, (12, 29, 0, 0, 0), 0, 0), (.goto 156, (0, 0, 0, 0, 0), 0, 0)] = some 400 ∧ px_tr cX12_next 400 .return_ = true := by decide +kernel
theorem q_X12_next_217 : px_bk 12 5 cX12_next 217 [(.iconst (-1), (0, 0, 0, 0, 0), -1, 0), (.goto 7, (0, 0, 0, 0, 0), 0, 0), (.putfield 310, (12, 30, 0, 0, 0), 0, 0), (.aload_n 0, (0, 0, 0, 0, 0), 0, 0), (.aload_n 0, (0, 0, 0, 0, 0), 0, 0), (.getfield 310, (12, 30, 0, 0, 0), 0, 0)] = some 233 ∧ px_t1 cX12_next 233 .ge 240 = true := by decide +kernel
theorem q_X12_next_179 : px_bk 12 5 cX12_next 179 [(.iload_n 1, (0, 0, 0, 0, 0), 0, 0), (.i2l, (0, 0, 0, 0, 0), 0, 0), (.ldc2_w 265, (0, 0, 0, 0, 0), 0, 97), (.ldc2_w 308, (0, 0, 0, 0, 0), 0, 104)] = some 187 ∧ px_tS cX12_next 187 167 = true := by decide +kernel
theorem q_X12_next_190 : px_bk 12 5 cX12_next 190 [] = some 190 ∧ px_t1 cX12_next 190 .eq 209 = true := by decide +kernel
theorem q_X12_next_193 : px_bk 12 5 cX12_next 193 [(.aload_n 0, (0, 0, 0, 0, 0), 0, 0), (.iconst 2, (0, 0, 0, 0, 0), 2, 0), (.putfield 300, (12, 29, 0, 0, 0), 0, 0), (.aload_n 0, (0, 0, 0, 0, 0), 0, 0), (.iload_n 1, (0, 0, 0, 0, 0), 0, 0), (.bipush 97, (0, 0, 0, 0, 0), 97, 0), (.isub, (0, 0, 0, 0, 0), 0, 0), (.putfield 310, (12, 30, 0, 0, 0), 0, 0), (.goto 38, (0, 0, 0, 0, 0), 0, 0), (.goto 156, (0, 0, 0, 0, 0), 0, 0)] = some 400 ∧ px_tr cX12_next 400 .return_ = true := by decide +kernel
theorem q_X12_next_110 : px_bk 12 5 cX12_next 110 [(.aload_n 0, (0, 0, 0, 0, 0), 0, 0), (.getfield 65, (12, 24, 3, 121, 0), 0, 0), (.aload_n 0, (0, 0, 0, 0, 0), 0, 0), (.getfield 291, (12, 27, 0, 0, 0), 0, 0), (.baload, (0, 0, 0, 0, 0), 0, 0)] = some 119 ∧ px_tS cX12_next 119 303 = true := by decide +kernel
theorem q_X12_next_122 : px_bk 12 5 cX12_next 122 [] = some 122 ∧ px_t1 cX12_next 122 .eq 173 = true := by decide +kernel
theorem q_X12_next_125 : px_bk 12 5 cX12_next 125 [(.iload 4, (0, 0, 0, 0, 0), 0, 0), (.bipush 8, (0, 0, 0, 0, 0), 8, 0)] = some 129 ∧ px_t2 cX12_next 129 .ge 155 = true := by decide +kernel
theorem q_X12_next_155 : px_bk 12 5 cX12_next 155 [(.lload_n 2, (0, 0, 0, 0, 0), 0, 0), (.lstore_n 2, (0, 0, 0, 0, 0), 0, 0), (.iinc 4 1, (0, 0, 0, 0, 0), 1, 0), (.aload_n 0, (0, 0, 0, 0, 0), 0, 0), (.dup, (0, 0, 0, 0, 0), 0, 0), (.getfield 291, (12, 27, 0, 0, 0), 0, 0), (.iconst 1, (0, 0, 0, 0, 0), 1, 0), (.iadd, (0, 0, 0, 0, 0), 0, 0), (.putfield 291, (12, 27, 0, 0, 0), 0, 0), (.goto (-71), (0, 0, 0, 0, 0), 0, 0)] = some 99 := by decide +kernel
theorem q_X12_next_132 : px_bk 12 5 cX12_next 132 [(.ldc2_w 306, (0, 0, 0, 0, 0), 0, 64), (.lload_n 2, (0, 0, 0, 0, 0), 0, 0), (.lmul, (0, 0, 0, 0, 0), 0, 0), (.aload_n 0, (0, 0, 0, 0, 0), 0, 0), (.getfield 65, (12, 24, 3, 121, 0), 0, 0), (.aload_n 0, (0, 0, 0, 0, 0), 0, 0), (.getfield 291, (12, 27, 0, 0, 0), 0, 0), (.baload, (0, 0, 0, 0, 0), 0, 0), (.i2l, (0, 0, 0, 0, 0), 0, 0), (.ladd, (0, 0, 0, 0, 0), 0, 0), (.ldc2_w 306, (0, 0, 0, 0, 0), 0, 64), (.lsub, (0, 0, 0, 0, 0), 0, 0), (.goto 4, (0, 0, 0, 0, 0), 0, 0), (.lstore_n 2, (0, 0, 0, 0, 0), 0, 0), (.iinc 4 1, (0, 0, 0, 0, 0), 1, 0), (.aload_n 0, (0, 0, 0, 0, 0), 0, 0), (.dup, (0, 0, 0, 0, 0), 0, 0), (.getfield 291, (12, 27, 0, 0, 0), 0, 0), (.iconst 1, (0, 0, 0, 0, 0), 1, 0), (.iadd, (0, 0, 0, 0, 0), 0, 0), (.putfield 291, (12, 27, 0, 0, 0), 0, 0), (.goto (-71), (0, 0, 0, 0, 0), 0, 0)] = some 99 := by decide +kernel
set_option maxRecDepth 100000 in
theorem l_next99 {n : Nat} {R : px_R} (hg : px_G n R) {Q : px_Q} (x tk len : Int32) {I : px_I} {L : px_L} (hl : I 103 26 = len ∧ len ≤ 400) (ht : 0 ≤ tk ∧ tk < len ∧ I 103 27 ≤ tk) (hx : I 121 tk.toNatClampNeg = x ∧ mLt x) (hq : ∀ I2, mKI I I2 → I 103 27 ≤ I2 103 28 → mTk I2 → Q none n I2 L R) : ∀ a : Int32, a ≤ len → tk ≤ a → ∀ I1, mKI I I1 → I1 103 27 = a → I1 103 28 = tk → ∀ (z : Int64) (c : Int32), px M_X12_next 0 0 99 [(0, .ref 103), (1, .int x), (2, .long z), (4, .int c)] [] n I1 L R Q := by
  refine px_up _ (fun a ih ha => ?_)
  intro h0 I1 hI e27 e28 z c
  have f26 : I1 103 26 = len := (hI.f 26 (by decide)).trans hl.1
  refine px_ige rfl q_X12_next_99 hg rfl trivial (fun c107 => ?_) (fun c107 => ?_)
  · refine px_ine rfl q_X12_next_173 hg rfl trivial (fun c176 => ?_) (fun c176 => ?_)
    · refine px_ile rfl q_X12_next_209 hg rfl trivial (fun c214 => ?_) (fun c214 => ?_)
      · refine px_cSP rfl q_X12_next_221 hg rfl trivial lk_12_313 nm_X12_wordOf (k_wordOf hg _) rfl rfl rfl ⟨rfl, rfl⟩ ?_
        intro x222 h222
        refine px_ge rfl q_X12_next_225 hg rfl trivial (fun c233 => ?_) (fun c233 => ?_)
        · refine px_rv rfl q_X12_next_240 rfl rfl rfl hg rfl trivial ?_
          have hlt : tk < a := by
            by_cases hz : a = tk
            · exfalso
              have f121 := hI.o 121 (by decide)
              grind
            · grind
          refine hq _ (by repeat (first | exact hI | refine mKI.u27 ?_ _ | refine mKI.u28 ?_ _ | refine mKI.u29 ?_ _ | refine mKI.u30 ?_ _)) ?_ ?_
          · simp [px_ur]; grind
          · unfold mTk; simp [px_ur]; grind
        · refine px_rv rfl q_X12_next_236 rfl rfl rfl hg rfl trivial ?_
          have hlt : tk < a := by
            by_cases hz : a = tk
            · exfalso
              have f121 := hI.o 121 (by decide)
              grind
            · grind
          refine hq _ (by repeat (first | exact hI | refine mKI.u27 ?_ _ | refine mKI.u28 ?_ _ | refine mKI.u29 ?_ _ | refine mKI.u30 ?_ _)) ?_ ?_
          · simp [px_ur]; grind
          · unfold mTk; simp [px_ur]; grind
      · refine px_ge rfl q_X12_next_217 hg rfl trivial (fun c233 => ?_) (fun c233 => ?_)
        · refine px_rv rfl q_X12_next_240 rfl rfl rfl hg rfl trivial ?_
          have hlt : tk < a := by
            by_cases hz : a = tk
            · exfalso
              have f121 := hI.o 121 (by decide)
              grind
            · grind
          refine hq _ (by repeat (first | exact hI | refine mKI.u27 ?_ _ | refine mKI.u28 ?_ _ | refine mKI.u29 ?_ _ | refine mKI.u30 ?_ _)) ?_ ?_
          · simp [px_ur]; grind
          · unfold mTk; simp [px_ur]; grind
        · refine px_rv rfl q_X12_next_236 rfl rfl rfl hg rfl trivial ?_
          have hlt : tk < a := by
            by_cases hz : a = tk
            · exfalso
              have f121 := hI.o 121 (by decide)
              grind
            · grind
          refine hq _ (by repeat (first | exact hI | refine mKI.u27 ?_ _ | refine mKI.u28 ?_ _ | refine mKI.u29 ?_ _ | refine mKI.u30 ?_ _)) ?_ ?_
          · simp [px_ur]; grind
          · unfold mTk; simp [px_ur]; grind
    · refine px_cSP rfl q_X12_next_179 hg rfl trivial lk_12_167 nm_X12_in (k_inI hg _ (97) (104) (by decide) (by decide)) rfl rfl rfl ⟨rfl, rfl⟩ ?_
      intro x187 h187
      refine px_eq rfl q_X12_next_190 hg rfl trivial (fun c190 => ?_) (fun c190 => ?_)
      · replace h187 := px_bf h187 c190
        refine px_ile rfl q_X12_next_209 hg rfl trivial (fun c214 => ?_) (fun c214 => ?_)
        · refine px_cSP rfl q_X12_next_221 hg rfl trivial lk_12_313 nm_X12_wordOf (k_wordOf hg _) rfl rfl rfl ⟨rfl, rfl⟩ ?_
          intro x222 h222
          refine px_ge rfl q_X12_next_225 hg rfl trivial (fun c233 => ?_) (fun c233 => ?_)
          · refine px_rv rfl q_X12_next_240 rfl rfl rfl hg rfl trivial ?_
            have hlt : tk < a := by
              by_cases hz : a = tk
              · exfalso
                have f121 := hI.o 121 (by decide)
                grind
              · grind
            refine hq _ (by repeat (first | exact hI | refine mKI.u27 ?_ _ | refine mKI.u28 ?_ _ | refine mKI.u29 ?_ _ | refine mKI.u30 ?_ _)) ?_ ?_
            · simp [px_ur]; grind
            · unfold mTk; simp [px_ur]; grind
          · refine px_rv rfl q_X12_next_236 rfl rfl rfl hg rfl trivial ?_
            have hlt : tk < a := by
              by_cases hz : a = tk
              · exfalso
                have f121 := hI.o 121 (by decide)
                grind
              · grind
            refine hq _ (by repeat (first | exact hI | refine mKI.u27 ?_ _ | refine mKI.u28 ?_ _ | refine mKI.u29 ?_ _ | refine mKI.u30 ?_ _)) ?_ ?_
            · simp [px_ur]; grind
            · unfold mTk; simp [px_ur]; grind
        · refine px_ge rfl q_X12_next_217 hg rfl trivial (fun c233 => ?_) (fun c233 => ?_)
          · refine px_rv rfl q_X12_next_240 rfl rfl rfl hg rfl trivial ?_
            have hlt : tk < a := by
              by_cases hz : a = tk
              · exfalso
                have f121 := hI.o 121 (by decide)
                grind
              · grind
            refine hq _ (by repeat (first | exact hI | refine mKI.u27 ?_ _ | refine mKI.u28 ?_ _ | refine mKI.u29 ?_ _ | refine mKI.u30 ?_ _)) ?_ ?_
            · simp [px_ur]; grind
            · unfold mTk; simp [px_ur]; grind
          · refine px_rv rfl q_X12_next_236 rfl rfl rfl hg rfl trivial ?_
            have hlt : tk < a := by
              by_cases hz : a = tk
              · exfalso
                have f121 := hI.o 121 (by decide)
                grind
              · grind
            refine hq _ (by repeat (first | exact hI | refine mKI.u27 ?_ _ | refine mKI.u28 ?_ _ | refine mKI.u29 ?_ _ | refine mKI.u30 ?_ _)) ?_ ?_
            · simp [px_ur]; grind
            · unfold mTk; simp [px_ur]; grind
      · replace h187 := px_bt h187 c190
        refine px_rv rfl q_X12_next_193 rfl rfl rfl hg rfl trivial ?_
        have hlt : tk < a := by
          by_cases hz : a = tk
          · exfalso
            have f121 := hI.o 121 (by decide)
            grind
          · grind
        refine hq _ (by repeat (first | exact hI | refine mKI.u27 ?_ _ | refine mKI.u28 ?_ _ | refine mKI.u29 ?_ _ | refine mKI.u30 ?_ _)) ?_ ?_
        · simp [px_ur]; grind
        · unfold mTk; simp [px_ur]; grind
  · refine px_cSP rfl q_X12_next_110 hg rfl ⟨trivial, (by first | decide | (refine ⟨?_, ?_⟩ <;> grind) | grind)⟩ lk_12_303 nm_X12_isLetter (k_isLetter hg _) rfl rfl rfl ⟨rfl, rfl⟩ ?_
    intro x119 h119
    refine px_eq rfl q_X12_next_122 hg rfl trivial (fun c122 => ?_) (fun c122 => ?_)
    · replace h119 := px_bf h119 c122
      refine px_ine rfl q_X12_next_173 hg rfl trivial (fun c176 => ?_) (fun c176 => ?_)
      · refine px_ile rfl q_X12_next_209 hg rfl trivial (fun c214 => ?_) (fun c214 => ?_)
        · refine px_cSP rfl q_X12_next_221 hg rfl trivial lk_12_313 nm_X12_wordOf (k_wordOf hg _) rfl rfl rfl ⟨rfl, rfl⟩ ?_
          intro x222 h222
          refine px_ge rfl q_X12_next_225 hg rfl trivial (fun c233 => ?_) (fun c233 => ?_)
          · refine px_rv rfl q_X12_next_240 rfl rfl rfl hg rfl trivial ?_
            have hlt : tk < a := by
              by_cases hz : a = tk
              · exfalso
                have f121 := hI.o 121 (by decide)
                grind
              · grind
            refine hq _ (by repeat (first | exact hI | refine mKI.u27 ?_ _ | refine mKI.u28 ?_ _ | refine mKI.u29 ?_ _ | refine mKI.u30 ?_ _)) ?_ ?_
            · simp [px_ur]; grind
            · unfold mTk; simp [px_ur]; grind
          · refine px_rv rfl q_X12_next_236 rfl rfl rfl hg rfl trivial ?_
            have hlt : tk < a := by
              by_cases hz : a = tk
              · exfalso
                have f121 := hI.o 121 (by decide)
                grind
              · grind
            refine hq _ (by repeat (first | exact hI | refine mKI.u27 ?_ _ | refine mKI.u28 ?_ _ | refine mKI.u29 ?_ _ | refine mKI.u30 ?_ _)) ?_ ?_
            · simp [px_ur]; grind
            · unfold mTk; simp [px_ur]; grind
        · refine px_ge rfl q_X12_next_217 hg rfl trivial (fun c233 => ?_) (fun c233 => ?_)
          · refine px_rv rfl q_X12_next_240 rfl rfl rfl hg rfl trivial ?_
            have hlt : tk < a := by
              by_cases hz : a = tk
              · exfalso
                have f121 := hI.o 121 (by decide)
                grind
              · grind
            refine hq _ (by repeat (first | exact hI | refine mKI.u27 ?_ _ | refine mKI.u28 ?_ _ | refine mKI.u29 ?_ _ | refine mKI.u30 ?_ _)) ?_ ?_
            · simp [px_ur]; grind
            · unfold mTk; simp [px_ur]; grind
          · refine px_rv rfl q_X12_next_236 rfl rfl rfl hg rfl trivial ?_
            have hlt : tk < a := by
              by_cases hz : a = tk
              · exfalso
                have f121 := hI.o 121 (by decide)
                grind
              · grind
            refine hq _ (by repeat (first | exact hI | refine mKI.u27 ?_ _ | refine mKI.u28 ?_ _ | refine mKI.u29 ?_ _ | refine mKI.u30 ?_ _)) ?_ ?_
            · simp [px_ur]; grind
            · unfold mTk; simp [px_ur]; grind
      · refine px_cSP rfl q_X12_next_179 hg rfl trivial lk_12_167 nm_X12_in (k_inI hg _ (97) (104) (by decide) (by decide)) rfl rfl rfl ⟨rfl, rfl⟩ ?_
        intro x187 h187
        refine px_eq rfl q_X12_next_190 hg rfl trivial (fun c190 => ?_) (fun c190 => ?_)
        · replace h187 := px_bf h187 c190
          refine px_ile rfl q_X12_next_209 hg rfl trivial (fun c214 => ?_) (fun c214 => ?_)
          · refine px_cSP rfl q_X12_next_221 hg rfl trivial lk_12_313 nm_X12_wordOf (k_wordOf hg _) rfl rfl rfl ⟨rfl, rfl⟩ ?_
            intro x222 h222
            refine px_ge rfl q_X12_next_225 hg rfl trivial (fun c233 => ?_) (fun c233 => ?_)
            · refine px_rv rfl q_X12_next_240 rfl rfl rfl hg rfl trivial ?_
              have hlt : tk < a := by
                by_cases hz : a = tk
                · exfalso
                  have f121 := hI.o 121 (by decide)
                  grind
                · grind
              refine hq _ (by repeat (first | exact hI | refine mKI.u27 ?_ _ | refine mKI.u28 ?_ _ | refine mKI.u29 ?_ _ | refine mKI.u30 ?_ _)) ?_ ?_
              · simp [px_ur]; grind
              · unfold mTk; simp [px_ur]; grind
            · refine px_rv rfl q_X12_next_236 rfl rfl rfl hg rfl trivial ?_
              have hlt : tk < a := by
                by_cases hz : a = tk
                · exfalso
                  have f121 := hI.o 121 (by decide)
                  grind
                · grind
              refine hq _ (by repeat (first | exact hI | refine mKI.u27 ?_ _ | refine mKI.u28 ?_ _ | refine mKI.u29 ?_ _ | refine mKI.u30 ?_ _)) ?_ ?_
              · simp [px_ur]; grind
              · unfold mTk; simp [px_ur]; grind
          · refine px_ge rfl q_X12_next_217 hg rfl trivial (fun c233 => ?_) (fun c233 => ?_)
            · refine px_rv rfl q_X12_next_240 rfl rfl rfl hg rfl trivial ?_
              have hlt : tk < a := by
                by_cases hz : a = tk
                · exfalso
                  have f121 := hI.o 121 (by decide)
                  grind
                · grind
              refine hq _ (by repeat (first | exact hI | refine mKI.u27 ?_ _ | refine mKI.u28 ?_ _ | refine mKI.u29 ?_ _ | refine mKI.u30 ?_ _)) ?_ ?_
              · simp [px_ur]; grind
              · unfold mTk; simp [px_ur]; grind
            · refine px_rv rfl q_X12_next_236 rfl rfl rfl hg rfl trivial ?_
              have hlt : tk < a := by
                by_cases hz : a = tk
                · exfalso
                  have f121 := hI.o 121 (by decide)
                  grind
                · grind
              refine hq _ (by repeat (first | exact hI | refine mKI.u27 ?_ _ | refine mKI.u28 ?_ _ | refine mKI.u29 ?_ _ | refine mKI.u30 ?_ _)) ?_ ?_
              · simp [px_ur]; grind
              · unfold mTk; simp [px_ur]; grind
        · replace h187 := px_bt h187 c190
          refine px_rv rfl q_X12_next_193 rfl rfl rfl hg rfl trivial ?_
          have hlt : tk < a := by
            by_cases hz : a = tk
            · exfalso
              have f121 := hI.o 121 (by decide)
              grind
            · grind
          refine hq _ (by repeat (first | exact hI | refine mKI.u27 ?_ _ | refine mKI.u28 ?_ _ | refine mKI.u29 ?_ _ | refine mKI.u30 ?_ _)) ?_ ?_
          · simp [px_ur]; grind
          · unfold mTk; simp [px_ur]; grind
    · replace h119 := px_bt h119 c122
      refine px_ige rfl q_X12_next_125 hg rfl trivial (fun c129 => ?_) (fun c129 => ?_)
      · refine px_b rfl q_X12_next_155 hg rfl trivial ?_
        exact px_go (ih (a + 1) (by grind) (by grind) (by grind) _ (by repeat (first | exact hI | refine mKI.u27 ?_ _ | refine mKI.u28 ?_ _ | refine mKI.u29 ?_ _ | refine mKI.u30 ?_ _)) (by simp [px_ur]; grind) (by simp [px_ur]; exact e28) _ _) ⟨rfl, rfl, rfl, rfl, trivial⟩
      · refine px_b rfl q_X12_next_132 hg rfl ⟨trivial, (by first | decide | (refine ⟨?_, ?_⟩ <;> grind) | grind)⟩ ?_
        exact px_go (ih (a + 1) (by grind) (by grind) (by grind) _ (by repeat (first | exact hI | refine mKI.u27 ?_ _ | refine mKI.u28 ?_ _ | refine mKI.u29 ?_ _ | refine mKI.u30 ?_ _)) (by simp [px_ur]; grind) (by simp [px_ur]; exact e28) _ _) ⟨rfl, rfl, rfl, rfl, trivial⟩

theorem q_X12_next_0 : px_bk 12 5 cX12_next 0 [(.aload_n 0, (0, 0, 0, 0, 0), 0, 0), (.getfield 291, (12, 27, 0, 0, 0), 0, 0), (.aload_n 0, (0, 0, 0, 0, 0), 0, 0), (.getfield 294, (12, 26, 0, 0, 0), 0, 0)] = some 8 ∧ px_t2 cX12_next 8 .ge 52 = true := by decide +kernel
theorem q_X12_next_52 : px_bk 12 5 cX12_next 52 [(.aload_n 0, (0, 0, 0, 0, 0), 0, 0), (.aload_n 0, (0, 0, 0, 0, 0), 0, 0), (.getfield 291, (12, 27, 0, 0, 0), 0, 0), (.putfield 297, (12, 28, 0, 0, 0), 0, 0), (.aload_n 0, (0, 0, 0, 0, 0), 0, 0), (.getfield 291, (12, 27, 0, 0, 0), 0, 0), (.aload_n 0, (0, 0, 0, 0, 0), 0, 0), (.getfield 294, (12, 26, 0, 0, 0), 0, 0)] = some 68 ∧ px_t2 cX12_next 68 .ne 77 = true := by decide +kernel
theorem q_X12_next_77 : px_bk 12 5 cX12_next 77 [(.aload_n 0, (0, 0, 0, 0, 0), 0, 0), (.getfield 65, (12, 24, 3, 121, 0), 0, 0), (.aload_n 0, (0, 0, 0, 0, 0), 0, 0), (.getfield 291, (12, 27, 0, 0, 0), 0, 0), (.baload, (0, 0, 0, 0, 0), 0, 0), (.istore_n 1, (0, 0, 0, 0, 0), 0, 0), (.iload_n 1, (0, 0, 0, 0, 0), 0, 0)] = some 88 ∧ px_tS cX12_next 88 303 = true := by decide +kernel
theorem q_X12_next_91 : px_bk 12 5 cX12_next 91 [] = some 91 ∧ px_t1 cX12_next 91 .eq 247 = true := by decide +kernel
theorem q_X12_next_247 : px_bk 12 5 cX12_next 247 [(.iload_n 1, (0, 0, 0, 0, 0), 0, 0), (.i2l, (0, 0, 0, 0, 0), 0, 0), (.ldc2_w 317, (0, 0, 0, 0, 0), 0, 48), (.ldc2_w 319, (0, 0, 0, 0, 0), 0, 57)] = some 255 ∧ px_tS cX12_next 255 167 = true := by decide +kernel
theorem q_X12_next_258 : px_bk 12 5 cX12_next 258 [] = some 258 ∧ px_t1 cX12_next 258 .eq 358 = true := by decide +kernel
theorem q_X12_next_358 : px_bk 12 5 cX12_next 358 [(.aload_n 0, (0, 0, 0, 0, 0), 0, 0), (.dup, (0, 0, 0, 0, 0), 0, 0), (.getfield 291, (12, 27, 0, 0, 0), 0, 0), (.iconst 1, (0, 0, 0, 0, 0), 1, 0), (.iadd, (0, 0, 0, 0, 0), 0, 0), (.putfield 291, (12, 27, 0, 0, 0), 0, 0), (.aload_n 0, (0, 0, 0, 0, 0), 0, 0), (.iload_n 1, (0, 0, 0, 0, 0), 0, 0), (.putfield 310, (12, 30, 0, 0, 0), 0, 0), (.aload_n 0, (0, 0, 0, 0, 0), 0, 0), (.iload_n 1, (0, 0, 0, 0, 0), 0, 0), (.bipush 59, (0, 0, 0, 0, 0), 59, 0)] = some 377 ∧ px_t2 cX12_next 377 .eq 392 = true := by decide +kernel
theorem q_X12_next_392 : px_bk 12 5 cX12_next 392 [(.iconst 4, (0, 0, 0, 0, 0), 4, 0), (.goto 4, (0, 0, 0, 0, 0), 0, 0), (.putfield 300, (12, 29, 0, 0, 0), 0, 0)] = some 400 ∧ px_tr cX12_next 400 .return_ = true := by decide +kernel
theorem q_X12_next_380 : px_bk 12 5 cX12_next 380 [(.iload_n 1, (0, 0, 0, 0, 0), 0, 0), (.bipush 123, (0, 0, 0, 0, 0), 123, 0)] = some 383 ∧ px_t2 cX12_next 383 .eq 392 = true := by decide +kernel
theorem q_X12_next_386 : px_bk 12 5 cX12_next 386 [(.iload_n 1, (0, 0, 0, 0, 0), 0, 0), (.bipush 125, (0, 0, 0, 0, 0), 125, 0)] = some 389 ∧ px_t2 cX12_next 389 .ne 396 = true := by decide +kernel
theorem q_X12_next_396 : px_bk 12 5 cX12_next 396 [(.iconst 5, (0, 0, 0, 0, 0), 5, 0), (.putfield 300, (12, 29, 0, 0, 0), 0, 0)] = some 400 ∧ px_tr cX12_next 400 .return_ = true := by decide +kernel
theorem q_X12_next_261 : px_bk 12 5 cX12_next 261 [(.aload_n 0, (0, 0, 0, 0, 0), 0, 0), (.iconst 3, (0, 0, 0, 0, 0), 3, 0), (.putfield 300, (12, 29, 0, 0, 0), 0, 0), (.aload_n 0, (0, 0, 0, 0, 0), 0, 0), (.iconst 0, (0, 0, 0, 0, 0), 0, 0), (.putfield 310, (12, 30, 0, 0, 0), 0, 0)] = some 271 := by decide +kernel
theorem q_X12_next_94 : px_bk 12 5 cX12_next 94 [(.lconst 0, (0, 0, 0, 0, 0), 0, 0), (.lstore_n 2, (0, 0, 0, 0, 0), 0, 0), (.iconst 0, (0, 0, 0, 0, 0), 0, 0), (.istore 4, (0, 0, 0, 0, 0), 0, 0)] = some 99 := by decide +kernel
theorem q_X12_next_71 : px_bk 12 5 cX12_next 71 [(.aload_n 0, (0, 0, 0, 0, 0), 0, 0), (.iconst 0, (0, 0, 0, 0, 0), 0, 0), (.putfield 300, (12, 29, 0, 0, 0), 0, 0)] = some 76 ∧ px_tr cX12_next 76 .return_ = true := by decide +kernel
theorem q_X12_next_11 : px_bk 12 5 cX12_next 11 [(.aload_n 0, (0, 0, 0, 0, 0), 0, 0), (.getfield 65, (12, 24, 3, 121, 0), 0, 0), (.aload_n 0, (0, 0, 0, 0, 0), 0, 0), (.getfield 291, (12, 27, 0, 0, 0), 0, 0), (.baload, (0, 0, 0, 0, 0), 0, 0), (.bipush 32, (0, 0, 0, 0, 0), 32, 0)] = some 22 ∧ px_t2 cX12_next 22 .eq 39 = true := by decide +kernel
theorem q_X12_next_39 : px_bk 12 5 cX12_next 39 [(.aload_n 0, (0, 0, 0, 0, 0), 0, 0), (.dup, (0, 0, 0, 0, 0), 0, 0), (.getfield 291, (12, 27, 0, 0, 0), 0, 0), (.iconst 1, (0, 0, 0, 0, 0), 1, 0), (.iadd, (0, 0, 0, 0, 0), 0, 0), (.putfield 291, (12, 27, 0, 0, 0), 0, 0), (.goto (-49), (0, 0, 0, 0, 0), 0, 0)] = some 0 := by decide +kernel
theorem q_X12_next_25 : px_bk 12 5 cX12_next 25 [(.aload_n 0, (0, 0, 0, 0, 0), 0, 0), (.getfield 65, (12, 24, 3, 121, 0), 0, 0), (.aload_n 0, (0, 0, 0, 0, 0), 0, 0), (.getfield 291, (12, 27, 0, 0, 0), 0, 0), (.baload, (0, 0, 0, 0, 0), 0, 0), (.bipush 10, (0, 0, 0, 0, 0), 10, 0)] = some 36 ∧ px_t2 cX12_next 36 .ne 52 = true := by decide +kernel
set_option maxRecDepth 100000 in
theorem l_next0 {n : Nat} {R : px_R} (hg : px_G n R) {Q : px_Q} (len : Int32) {I : px_I} {L : px_L} (hl : I 103 26 = len ∧ len ≤ 400) (hz : 0 ≤ I 103 27) (hq : ∀ I2, mKI I I2 → I 103 27 ≤ I2 103 28 → mTk I2 → Q none n I2 L R) : ∀ a : Int32, a ≤ len → I 103 27 ≤ a → ∀ I1, mKI I I1 → I1 103 27 = a → px M_X12_next 0 0 0 [(0, .ref 103)] [] n I1 L R Q := by
  refine px_up _ (fun a ih ha => ?_)
  intro h0 I1 hI e27
  have f26 : I1 103 26 = len := (hI.f 26 (by decide)).trans hl.1
  refine px_ige rfl q_X12_next_0 hg rfl trivial (fun c8 => ?_) (fun c8 => ?_)
  · refine px_ine rfl q_X12_next_52 hg rfl trivial (fun c68 => ?_) (fun c68 => ?_)
    · have f27 : px_u I1 103 28 (I1 103 27) 103 27 = a := by simp [px_ur]; exact e27
      refine px_cSP rfl q_X12_next_77 hg rfl ⟨trivial, (by first | decide | (refine ⟨?_, ?_⟩ <;> grind) | grind)⟩ lk_12_303 nm_X12_isLetter (k_isLetter hg _) rfl rfl rfl ⟨rfl, rfl⟩ ?_
      intro x88 h88
      refine px_eq rfl q_X12_next_91 hg rfl trivial (fun c91 => ?_) (fun c91 => ?_)
      · replace h88 := px_bf h88 c91
        refine px_cSP rfl q_X12_next_247 hg rfl trivial lk_12_167 nm_X12_in (k_inI hg _ (48) (57) (by decide) (by decide)) rfl rfl rfl ⟨rfl, rfl⟩ ?_
        intro x255 h255
        refine px_eq rfl q_X12_next_258 hg rfl trivial (fun c258 => ?_) (fun c258 => ?_)
        · replace h255 := px_bf h255 c258
          refine px_ieq rfl q_X12_next_358 hg rfl trivial (fun c377 => ?_) (fun c377 => ?_)
          · refine px_rv rfl q_X12_next_392 rfl rfl rfl hg rfl trivial ?_
            refine hq _ (by repeat (first | exact hI | refine mKI.u27 ?_ _ | refine mKI.u28 ?_ _ | refine mKI.u29 ?_ _ | refine mKI.u30 ?_ _)) ?_ ?_
            · simp [px_ur]; grind
            · unfold mTk; simp [px_ur]; grind
          · refine px_ieq rfl q_X12_next_380 hg rfl trivial (fun c383 => ?_) (fun c383 => ?_)
            · refine px_rv rfl q_X12_next_392 rfl rfl rfl hg rfl trivial ?_
              refine hq _ (by repeat (first | exact hI | refine mKI.u27 ?_ _ | refine mKI.u28 ?_ _ | refine mKI.u29 ?_ _ | refine mKI.u30 ?_ _)) ?_ ?_
              · simp [px_ur]; grind
              · unfold mTk; simp [px_ur]; grind
            · refine px_ine rfl q_X12_next_386 hg rfl trivial (fun c389 => ?_) (fun c389 => ?_)
              · refine px_rv rfl q_X12_next_396 rfl rfl rfl hg rfl trivial ?_
                refine hq _ (by repeat (first | exact hI | refine mKI.u27 ?_ _ | refine mKI.u28 ?_ _ | refine mKI.u29 ?_ _ | refine mKI.u30 ?_ _)) ?_ ?_
                · simp [px_ur]; grind
                · unfold mTk; simp [px_ur]; grind
              · refine px_rv rfl q_X12_next_392 rfl rfl rfl hg rfl trivial ?_
                refine hq _ (by repeat (first | exact hI | refine mKI.u27 ?_ _ | refine mKI.u28 ?_ _ | refine mKI.u29 ?_ _ | refine mKI.u30 ?_ _)) ?_ ?_
                · simp [px_ur]; grind
                · unfold mTk; simp [px_ur]; grind
        · replace h255 := px_bt h255 c258
          refine px_b rfl q_X12_next_261 hg rfl trivial ?_
          exact px_go (l_next271 hg _ a len hl ⟨by grind, by grind, h0⟩ ⟨by rw [← hI.o 121 (by decide), ← e27]; rfl, h255⟩ hq a (by grind) (Int32.le_refl _) _ (by repeat (first | exact hI | refine mKI.u27 ?_ _ | refine mKI.u28 ?_ _ | refine mKI.u29 ?_ _ | refine mKI.u30 ?_ _)) (by simp [px_ur]; exact e27) (by simp [px_ur]; exact e27) (by simp [px_ur])) ⟨rfl, rfl, trivial⟩
      · replace h88 := px_bt h88 c91
        refine px_b rfl q_X12_next_94 hg rfl trivial ?_
        exact px_go (l_next99 hg _ a len hl ⟨by grind, by grind, h0⟩ ⟨by rw [← hI.o 121 (by decide), ← e27]; rfl, h88⟩ hq a (by grind) (Int32.le_refl _) _ (by repeat (first | exact hI | refine mKI.u27 ?_ _ | refine mKI.u28 ?_ _ | refine mKI.u29 ?_ _ | refine mKI.u30 ?_ _)) (by simp [px_ur]; exact e27) (by simp [px_ur]; exact e27) _ _) ⟨rfl, rfl, rfl, rfl, trivial⟩
    · refine px_rv rfl q_X12_next_71 rfl rfl rfl hg rfl trivial ?_
      refine hq _ (by repeat (first | exact hI | refine mKI.u27 ?_ _ | refine mKI.u28 ?_ _ | refine mKI.u29 ?_ _ | refine mKI.u30 ?_ _)) ?_ ?_
      · simp [px_ur]; grind
      · unfold mTk; simp [px_ur]; grind
  · refine px_ieq rfl q_X12_next_11 hg rfl ⟨trivial, (by first | decide | (refine ⟨?_, ?_⟩ <;> grind) | grind)⟩ (fun c22 => ?_) (fun c22 => ?_)
    · refine px_b rfl q_X12_next_39 hg rfl trivial ?_
      exact px_go (ih (a + 1) (by grind) (by grind) (by grind) _ (by repeat (first | exact hI | refine mKI.u27 ?_ _ | refine mKI.u28 ?_ _ | refine mKI.u29 ?_ _ | refine mKI.u30 ?_ _)) (by simp [px_ur]; grind)) ⟨rfl, trivial⟩
    · refine px_ine rfl q_X12_next_25 hg rfl ⟨trivial, (by first | decide | (refine ⟨?_, ?_⟩ <;> grind) | grind)⟩ (fun c36 => ?_) (fun c36 => ?_)
      · refine px_ine rfl q_X12_next_52 hg rfl trivial (fun c68 => ?_) (fun c68 => ?_)
        · have f27 : px_u I1 103 28 (I1 103 27) 103 27 = a := by simp [px_ur]; exact e27
          refine px_cSP rfl q_X12_next_77 hg rfl ⟨trivial, (by first | decide | (refine ⟨?_, ?_⟩ <;> grind) | grind)⟩ lk_12_303 nm_X12_isLetter (k_isLetter hg _) rfl rfl rfl ⟨rfl, rfl⟩ ?_
          intro x88 h88
          refine px_eq rfl q_X12_next_91 hg rfl trivial (fun c91 => ?_) (fun c91 => ?_)
          · replace h88 := px_bf h88 c91
            refine px_cSP rfl q_X12_next_247 hg rfl trivial lk_12_167 nm_X12_in (k_inI hg _ (48) (57) (by decide) (by decide)) rfl rfl rfl ⟨rfl, rfl⟩ ?_
            intro x255 h255
            refine px_eq rfl q_X12_next_258 hg rfl trivial (fun c258 => ?_) (fun c258 => ?_)
            · replace h255 := px_bf h255 c258
              refine px_ieq rfl q_X12_next_358 hg rfl trivial (fun c377 => ?_) (fun c377 => ?_)
              · refine px_rv rfl q_X12_next_392 rfl rfl rfl hg rfl trivial ?_
                refine hq _ (by repeat (first | exact hI | refine mKI.u27 ?_ _ | refine mKI.u28 ?_ _ | refine mKI.u29 ?_ _ | refine mKI.u30 ?_ _)) ?_ ?_
                · simp [px_ur]; grind
                · unfold mTk; simp [px_ur]; grind
              · refine px_ieq rfl q_X12_next_380 hg rfl trivial (fun c383 => ?_) (fun c383 => ?_)
                · refine px_rv rfl q_X12_next_392 rfl rfl rfl hg rfl trivial ?_
                  refine hq _ (by repeat (first | exact hI | refine mKI.u27 ?_ _ | refine mKI.u28 ?_ _ | refine mKI.u29 ?_ _ | refine mKI.u30 ?_ _)) ?_ ?_
                  · simp [px_ur]; grind
                  · unfold mTk; simp [px_ur]; grind
                · refine px_ine rfl q_X12_next_386 hg rfl trivial (fun c389 => ?_) (fun c389 => ?_)
                  · refine px_rv rfl q_X12_next_396 rfl rfl rfl hg rfl trivial ?_
                    refine hq _ (by repeat (first | exact hI | refine mKI.u27 ?_ _ | refine mKI.u28 ?_ _ | refine mKI.u29 ?_ _ | refine mKI.u30 ?_ _)) ?_ ?_
                    · simp [px_ur]; grind
                    · unfold mTk; simp [px_ur]; grind
                  · refine px_rv rfl q_X12_next_392 rfl rfl rfl hg rfl trivial ?_
                    refine hq _ (by repeat (first | exact hI | refine mKI.u27 ?_ _ | refine mKI.u28 ?_ _ | refine mKI.u29 ?_ _ | refine mKI.u30 ?_ _)) ?_ ?_
                    · simp [px_ur]; grind
                    · unfold mTk; simp [px_ur]; grind
            · replace h255 := px_bt h255 c258
              refine px_b rfl q_X12_next_261 hg rfl trivial ?_
              exact px_go (l_next271 hg _ a len hl ⟨by grind, by grind, h0⟩ ⟨by rw [← hI.o 121 (by decide), ← e27]; rfl, h255⟩ hq a (by grind) (Int32.le_refl _) _ (by repeat (first | exact hI | refine mKI.u27 ?_ _ | refine mKI.u28 ?_ _ | refine mKI.u29 ?_ _ | refine mKI.u30 ?_ _)) (by simp [px_ur]; exact e27) (by simp [px_ur]; exact e27) (by simp [px_ur])) ⟨rfl, rfl, trivial⟩
          · replace h88 := px_bt h88 c91
            refine px_b rfl q_X12_next_94 hg rfl trivial ?_
            exact px_go (l_next99 hg _ a len hl ⟨by grind, by grind, h0⟩ ⟨by rw [← hI.o 121 (by decide), ← e27]; rfl, h88⟩ hq a (by grind) (Int32.le_refl _) _ (by repeat (first | exact hI | refine mKI.u27 ?_ _ | refine mKI.u28 ?_ _ | refine mKI.u29 ?_ _ | refine mKI.u30 ?_ _)) (by simp [px_ur]; exact e27) (by simp [px_ur]; exact e27) _ _) ⟨rfl, rfl, rfl, rfl, trivial⟩
        · refine px_rv rfl q_X12_next_71 rfl rfl rfl hg rfl trivial ?_
          refine hq _ (by repeat (first | exact hI | refine mKI.u27 ?_ _ | refine mKI.u28 ?_ _ | refine mKI.u29 ?_ _ | refine mKI.u30 ?_ _)) ?_ ?_
          · simp [px_ur]; grind
          · unfold mTk; simp [px_ur]; grind
      · refine px_b rfl q_X12_next_39 hg rfl trivial ?_
        exact px_go (ih (a + 1) (by grind) (by grind) (by grind) _ (by repeat (first | exact hI | refine mKI.u27 ?_ _ | refine mKI.u28 ?_ _ | refine mKI.u29 ?_ _ | refine mKI.u30 ?_ _)) (by simp [px_ur]; grind)) ⟨rfl, trivial⟩

set_option maxRecDepth 100000 in
theorem k_next {n : Nat} {I : px_I} {L : px_L} {R : px_R} (hg : px_G n R) (h : 0 ≤ I 103 27 ∧ I 103 27 ≤ I 103 26 ∧ I 103 26 ≤ 400) : px_KV M_X12_next [.ref 103] n I L R (fun I2 L2 => L2 = L ∧ mKI I I2 ∧ I 103 27 ≤ I2 103 28 ∧ mTk I2) := by
  refine px_of (plainFor_of_name np_RX12) (fun _ _ _ => trivial) rfl ?_
  exact l_next0 hg (I 103 26) ⟨rfl, h.2.2⟩ h.1 (fun I2 h1 h2 h3 => ⟨rfl, rfl, rfl, rfl, h1, h2, h3⟩) (I 103 27) h.2.1 (Int32.le_refl _) I (fun _ _ _ => rfl) rfl

theorem q_X12_isSign_0 : px_bk 12 2 cX12_isSign 0 [(.aload_n 0, (0, 0, 0, 0, 0), 0, 0), (.getfield 300, (12, 29, 0, 0, 0), 0, 0), (.iconst 4, (0, 0, 0, 0, 0), 4, 0)] = some 5 ∧ px_t2 cX12_isSign 5 .ne 20 = true := by decide +kernel
theorem q_X12_isSign_20 : px_bk 12 2 cX12_isSign 20 [(.iconst 0, (0, 0, 0, 0, 0), 0, 0)] = some 21 ∧ px_tr cX12_isSign 21 .ireturn = true := by decide +kernel
theorem q_X12_isSign_8 : px_bk 12 2 cX12_isSign 8 [(.aload_n 0, (0, 0, 0, 0, 0), 0, 0), (.getfield 310, (12, 30, 0, 0, 0), 0, 0), (.iload_n 1, (0, 0, 0, 0, 0), 0, 0)] = some 13 ∧ px_t2 cX12_isSign 13 .ne 20 = true := by decide +kernel
theorem q_X12_isSign_16 : px_bk 12 2 cX12_isSign 16 [(.iconst 1, (0, 0, 0, 0, 0), 1, 0), (.goto 4, (0, 0, 0, 0, 0), 0, 0)] = some 21 ∧ px_tr cX12_isSign 21 .ireturn = true := by decide +kernel
set_option maxRecDepth 100000 in
theorem k_isSign {n : Nat} {I : px_I} {L : px_L} {R : px_R} (hg : px_G n R) (s : Int32) : px_KP M_X12_isSign [.ref 103, .int s] n I L R (fun r => (r = 1 ∧ (I 103 29 = 4 ∧ I 103 30 = s)) ∨ (r = 0 ∧ ¬ (I 103 29 = 4 ∧ I 103 30 = s))) := by
  refine px_of (plainFor_of_name np_RX12) (fun _ _ _ => trivial) rfl ?_
  refine px_ine rfl q_X12_isSign_0 hg rfl trivial (fun c5 => ?_) (fun c5 => ?_)
  · refine px_rzP rfl q_X12_isSign_20 rfl rfl rfl hg rfl trivial ⟨⟨rfl, rfl, rfl, rfl⟩, (by first | exact Or.inl rfl | exact Or.inr rfl | grind), ?_⟩
    grind
  · refine px_ine rfl q_X12_isSign_8 hg rfl trivial (fun c13 => ?_) (fun c13 => ?_)
    · refine px_rzP rfl q_X12_isSign_20 rfl rfl rfl hg rfl trivial ⟨⟨rfl, rfl, rfl, rfl⟩, (by first | exact Or.inl rfl | exact Or.inr rfl | grind), ?_⟩
      grind
    · refine px_rzP rfl q_X12_isSign_16 rfl rfl rfl hg rfl trivial ⟨⟨rfl, rfl, rfl, rfl⟩, (by first | exact Or.inl rfl | exact Or.inr rfl | grind), ?_⟩
      grind

theorem q_X12_errs_0 : px_bk 12 2 cX12_errs 0 [(.aload_n 0, (0, 0, 0, 0, 0), 0, 0), (.getfield 322, (12, 31, 0, 0, 0), 0, 0)] = some 4 ∧ px_t1 cX12_errs 4 .ne 20 = true := by decide +kernel
theorem q_X12_errs_20 : px_bk 12 2 cX12_errs 20 [] = some 20 ∧ px_tr cX12_errs 20 .return_ = true := by decide +kernel
theorem q_X12_errs_7 : px_bk 12 2 cX12_errs 7 [(.aload_n 0, (0, 0, 0, 0, 0), 0, 0), (.iload_n 1, (0, 0, 0, 0, 0), 0, 0), (.putfield 322, (12, 31, 0, 0, 0), 0, 0), (.aload_n 0, (0, 0, 0, 0, 0), 0, 0), (.aload_n 0, (0, 0, 0, 0, 0), 0, 0), (.getfield 297, (12, 28, 0, 0, 0), 0, 0), (.putfield 325, (12, 32, 0, 0, 0), 0, 0)] = some 20 ∧ px_tr cX12_errs 20 .return_ = true := by decide +kernel
set_option maxRecDepth 100000 in
theorem k_errs {n : Nat} {I : px_I} {L : px_L} {R : px_R} (hg : px_G n R) (f : Int32) : px_KV M_X12_errs [.ref 103, .int f] n I L R (fun I2 L2 => L2 = L ∧ I2 = if I 103 31 = 0 then px_u (px_u I 103 31 f) 103 32 (I 103 28) else I) := by
  refine px_of (plainFor_of_name np_RX12) (fun _ _ _ => trivial) rfl ?_
  refine px_ne rfl q_X12_errs_0 hg rfl trivial (fun c4 => ?_) (fun c4 => ?_)
  · refine px_rvW rfl q_X12_errs_20 rfl rfl rfl hg rfl trivial ⟨⟨rfl, rfl⟩, ?_⟩
    grind
  · refine px_rvW rfl q_X12_errs_7 rfl rfl rfl hg rfl trivial ⟨⟨rfl, rfl⟩, ?_⟩
    grind

theorem q_X12_emits_0 : px_bk 12 3 cX12_emits 0 [(.aload_n 0, (0, 0, 0, 0, 0), 0, 0), (.getfield 75, (12, 36, 3, 122, 0), 0, 0), (.aload_n 0, (0, 0, 0, 0, 0), 0, 0), (.getfield 328, (12, 35, 0, 0, 0), 0, 0), (.iload_n 1, (0, 0, 0, 0, 0), 0, 0), (.iastore, (0, 0, 0, 0, 0), 0, 0), (.aload_n 0, (0, 0, 0, 0, 0), 0, 0), (.getfield 78, (12, 37, 3, 123, 0), 0, 0), (.aload_n 0, (0, 0, 0, 0, 0), 0, 0), (.getfield 328, (12, 35, 0, 0, 0), 0, 0), (.iload_n 2, (0, 0, 0, 0, 0), 0, 0), (.iastore, (0, 0, 0, 0, 0), 0, 0), (.aload_n 0, (0, 0, 0, 0, 0), 0, 0), (.dup, (0, 0, 0, 0, 0), 0, 0), (.getfield 328, (12, 35, 0, 0, 0), 0, 0), (.iconst 1, (0, 0, 0, 0, 0), 1, 0), (.iadd, (0, 0, 0, 0, 0), 0, 0), (.putfield 328, (12, 35, 0, 0, 0), 0, 0), (.aload_n 0, (0, 0, 0, 0, 0), 0, 0), (.getfield 328, (12, 35, 0, 0, 0), 0, 0), (.iconst 1, (0, 0, 0, 0, 0), 1, 0), (.isub, (0, 0, 0, 0, 0), 0, 0)] = some 36 ∧ px_tr cX12_emits 36 .ireturn = true := by decide +kernel
set_option maxRecDepth 100000 in
theorem k_emits {n : Nat} {I : px_I} {L : px_L} {R : px_R} (hg : px_G n R) (o v : Int32) (hN : 0 ≤ I 103 35 ∧ I 103 35 < 220) : px_KS M_X12_emits [.ref 103, .int o, .int v] n I L R (fun r I2 L2 => L2 = L ∧ r = I 103 35 ∧ I2 = px_u (px_u (px_u I 122 (I 103 35).toNatClampNeg o) 123 (I 103 35).toNatClampNeg v) 103 35 (I 103 35 + 1)) := by
  refine px_of (plainFor_of_name np_RX12) (fun _ _ _ => trivial) rfl ?_
  refine px_riS rfl q_X12_emits_0 rfl rfl rfl hg rfl ⟨⟨trivial, (by first | decide | (refine ⟨?_, ?_⟩ <;> grind) | grind)⟩, (by first | decide | (refine ⟨?_, ?_⟩ <;> grind) | grind)⟩ ⟨⟨rfl, rfl⟩, ?_⟩
  exact ⟨rfl, by grind, rfl⟩

theorem mErr {I I2 : px_I} {f : Int32} (h : I2 = if I 103 31 = 0 then px_u (px_u I 103 31 f) 103 32 (I 103 28) else I) (hw : I 103 31 = 0) (hf : 1 ≤ f) : mPF I I2 ∧ 1 ≤ I2 103 31 := by
  rw [if_pos hw] at h
  subst h
  exact ⟨(mPF.rfl'.u _ _).u _ _, by simp [px_ur]; exact hf⟩
/-- what a piece of reading leaves: a fault, or a text read further -/
def mPo (I I2 : px_I) : Prop := mPF I I2 ∧ (1 ≤ I2 103 31 ∨ (mPI I2 0 ∧ I 103 28 < I2 103 28))
theorem mPI.at {I : px_I} {c : Int32} (h : mPI I c) : 0 ≤ I 103 27 ∧ I 103 27 ≤ I 103 26 ∧ I 103 26 ≤ 400 := by
  obtain ⟨⟨⟨a1, a2, a3, a4⟩, -⟩, -⟩ := h
  exact ⟨Int32.le_trans a1 a2, a3, a4⟩
theorem mPI.N {I : px_I} {c : Int32} (h : mPI I c) (hc : 0 ≤ c ∧ c ≤ 1) : (0 ≤ I 103 35 ∧ I 103 35 ≤ 200) ∧ (0 ≤ I 103 39 ∧ I 103 39 ≤ 8) := by
  obtain ⟨⟨⟨a1, a2, a3, a4⟩, -⟩, -, b1, b2, X, b3⟩ := h
  obtain ⟨c1, c2, -⟩ := b3
  grind
theorem mSI.emit {I : px_I} {X : Int32 → Prop} {fe : Int32} (h : mSI I X fe) (o v : Int32) (hN : fe = I 103 35) : mSI (px_u (px_u (px_u I 122 (I 103 35).toNatClampNeg o) 123 (I 103 35).toNatClampNeg v) 103 35 (I 103 35 + 1)) X fe := by
  have h0 : 0 ≤ I 103 35 := by rw [← hN]; exact h.2.1.1
  have h2 := mSt.emit (o2 := fun j => px_u (px_u (px_u I 122 (I 103 35).toNatClampNeg o) 123 (I 103 35).toNatClampNeg v) 103 35 (I 103 35 + 1) 122 j.toNatClampNeg) (v2 := fun j => px_u (px_u (px_u I 122 (I 103 35).toNatClampNeg o) 123 (I 103 35).toNatClampNeg v) 103 35 (I 103 35 + 1) 123 j.toNatClampNeg) h (fun j h1 h2 => by
    refine ⟨?_, ?_⟩
    · show px_u (px_u (px_u I 122 _ _) 123 _ _) 103 35 _ 122 _ = _
      rw [px_u_ne (by decide), px_u_ne (by decide), px_uJ h1 h0 (by grind)]
    · show px_u (px_u (px_u I 122 _ _) 123 _ _) 103 35 _ 123 _ = _
      rw [px_u_ne (by decide), px_uJ h1 h0 (by grind), px_u_ne (by decide)])
  unfold mSI
  rw [show px_u (px_u (px_u I 122 (I 103 35).toNatClampNeg o) 123 (I 103 35).toNatClampNeg v) 103 35 (I 103 35 + 1) 124 = I 124 by rw [px_u_ne (by decide), px_u_ne (by decide), px_u_ne (by decide)], show px_u (px_u (px_u I 122 (I 103 35).toNatClampNeg o) 123 (I 103 35).toNatClampNeg v) 103 35 (I 103 35 + 1) 125 = I 125 by rw [px_u_ne (by decide), px_u_ne (by decide), px_u_ne (by decide)], show px_u (px_u (px_u I 122 (I 103 35).toNatClampNeg o) 123 (I 103 35).toNatClampNeg v) 103 35 (I 103 35 + 1) 126 = I 126 by rw [px_u_ne (by decide), px_u_ne (by decide), px_u_ne (by decide)], show px_u (px_u (px_u I 122 (I 103 35).toNatClampNeg o) 123 (I 103 35).toNatClampNeg v) 103 35 (I 103 35 + 1) 103 39 = I 103 39 by simp [px_ur], show px_u (px_u (px_u I 122 (I 103 35).toNatClampNeg o) 123 (I 103 35).toNatClampNeg v) 103 35 (I 103 35 + 1) 103 71 = I 103 71 by simp [px_ur]]
  exact h2
theorem mEm122 {I : px_I} {o v : Int32} : px_u (px_u (px_u I 122 (I 103 35).toNatClampNeg o) 123 (I 103 35).toNatClampNeg v) 103 35 (I 103 35 + 1) 122 (I 103 35).toNatClampNeg = o := by rw [px_u_ne (by decide), px_u_ne (by decide), px_u_at]
theorem mEm123 {I : px_I} {o v : Int32} : px_u (px_u (px_u I 122 (I 103 35).toNatClampNeg o) 123 (I 103 35).toNatClampNeg v) 103 35 (I 103 35 + 1) 123 (I 103 35).toNatClampNeg = v := by rw [px_u_ne (by decide), px_u_at]
theorem mSI.stand {I : px_I} {X : Int32 → Prop} {fe : Int32} (h : mSI I X fe) (k : Nat) (v : Int32) : mSI (px_u I 127 k v) X fe := h.same (px_u_ne (by decide)) (px_u_ne (by decide)) (px_u_ne (by decide)) (px_u_ne (by decide)) (px_u_ne (by decide)) (by rw [px_u_ne (by decide)]) (by rw [px_u_ne (by decide)])
theorem mSI.fld {I : px_I} {X : Int32 → Prop} {fe : Int32} (h : mSI I X fe) (k : Nat) (v : Int32) (hk : k ≠ 39 ∧ k ≠ 71 := by decide) : mSI (px_u I 103 k v) X fe := h.same (px_u_ne (by decide)) (px_u_ne (by decide)) (px_u_ne (by decide)) (px_u_ne (by decide)) (px_u_ne (by decide)) (px_u_at_ne (Ne.symm hk.1)) (px_u_at_ne (Ne.symm hk.2))

theorem q_X12_stepIsOver_0 : px_bk 12 1 cX12_stepIsOver 0 [(.aload_n 0, (0, 0, 0, 0, 0), 0, 0), (.bipush 59, (0, 0, 0, 0, 0), 59, 0)] = some 3 ∧ px_tv cX12_stepIsOver 3 331 = true := by decide +kernel
theorem q_X12_stepIsOver_6 : px_bk 12 1 cX12_stepIsOver 6 [] = some 6 ∧ px_t1 cX12_stepIsOver 6 .ne 15 = true := by decide +kernel
theorem q_X12_stepIsOver_15 : px_bk 12 1 cX12_stepIsOver 15 [(.aload_n 0, (0, 0, 0, 0, 0), 0, 0), (.dup, (0, 0, 0, 0, 0), 0, 0), (.getfield 354, (12, 72, 0, 0, 0), 0, 0), (.aload_n 0, (0, 0, 0, 0, 0), 0, 0), (.getfield 337, (12, 39, 0, 0, 0), 0, 0)] = some 24 ∧ px_t1 cX12_stepIsOver 24 .ne 31 = true := by decide +kernel
theorem q_X12_stepIsOver_31 : px_bk 12 1 cX12_stepIsOver 31 [(.iconst 0, (0, 0, 0, 0, 0), 0, 0), (.iadd, (0, 0, 0, 0, 0), 0, 0), (.putfield 354, (12, 72, 0, 0, 0), 0, 0), (.aload_n 0, (0, 0, 0, 0, 0), 0, 0)] = some 37 ∧ px_tv cX12_stepIsOver 37 340 = true := by decide +kernel
theorem q_X12_stepIsOver_40 : px_bk 12 1 cX12_stepIsOver 40 [] = some 40 ∧ px_tr cX12_stepIsOver 40 .return_ = true := by decide +kernel
theorem q_X12_stepIsOver_27 : px_bk 12 1 cX12_stepIsOver 27 [(.iconst 1, (0, 0, 0, 0, 0), 1, 0), (.goto 4, (0, 0, 0, 0, 0), 0, 0), (.iadd, (0, 0, 0, 0, 0), 0, 0), (.putfield 354, (12, 72, 0, 0, 0), 0, 0), (.aload_n 0, (0, 0, 0, 0, 0), 0, 0)] = some 37 ∧ px_tv cX12_stepIsOver 37 340 = true := by decide +kernel
theorem q_X12_stepIsOver_9 : px_bk 12 1 cX12_stepIsOver 9 [(.aload_n 0, (0, 0, 0, 0, 0), 0, 0), (.iconst 1, (0, 0, 0, 0, 0), 1, 0)] = some 11 ∧ px_tv cX12_stepIsOver 11 334 = true := by decide +kernel
theorem q_X12_stepIsOver_14 : px_bk 12 1 cX12_stepIsOver 14 [] = some 14 ∧ px_tr cX12_stepIsOver 14 .return_ = true := by decide +kernel
set_option maxRecDepth 100000 in
theorem k_stepIsOver {n : Nat} {I : px_I} {L : px_L} {R : px_R} (hg : px_G n R) (h : mPI I 1) : px_KV M_X12_stepIsOver [.ref 103] n I L R (fun I2 L2 => L2 = L ∧ mPF I I2 ∧ (1 ≤ I2 103 31 ∨ (mPI I2 0 ∧ I 103 28 < I2 103 28))) := by
  refine px_of (plainFor_of_name np_RX12) (fun _ _ _ => trivial) rfl ?_
  have hat := h.at
  have hat2 : 0 ≤ (px_u I 103 72 (I 103 72 + 1)) 103 27 ∧ (px_u I 103 72 (I 103 72 + 1)) 103 27 ≤ (px_u I 103 72 (I 103 72 + 1)) 103 26 ∧ (px_u I 103 72 (I 103 72 + 1)) 103 26 ≤ 400 := by simpa [px_ur] using hat
  have hat3 : 0 ≤ (px_u I 103 72 (I 103 72 + 0)) 103 27 ∧ (px_u I 103 72 (I 103 72 + 0)) 103 27 ≤ (px_u I 103 72 (I 103 72 + 0)) 103 26 ∧ (px_u I 103 72 (I 103 72 + 0)) 103 26 ≤ 400 := by simpa [px_ur] using hat
  refine px_cVP (ci := 12) rfl q_X12_stepIsOver_0 hg rfl trivial lk_12_331 nm_X12_isSign (k_isSign hg _) rfl rfl (px_lit hg rfl) rfl rfl rfl ⟨rfl, rfl⟩ ?_
  intro x3 h3
  refine px_ne rfl q_X12_stepIsOver_6 hg rfl trivial (fun c6 => ?_) (fun c6 => ?_)
  · replace h3 := px_bt h3 c6
    refine px_ne rfl q_X12_stepIsOver_15 hg rfl trivial (fun c24 => ?_) (fun c24 => ?_)
    · refine px_cVW (ci := 12) rfl q_X12_stepIsOver_31 hg rfl trivial lk_12_340 nm_X12_next (k_next hg (by assumption)) rfl rfl (px_lit hg rfl) rfl rfl rfl ⟨rfl, rfl⟩ ?_
      intro I37 L37 h37
      refine px_rvW rfl q_X12_stepIsOver_40 rfl rfl rfl hg rfl trivial ⟨⟨rfl, rfl⟩, ?_⟩
      obtain ⟨h37a, h37b, h37c, h37d⟩ := h37
      obtain ⟨k1, k2, k3, k4, X, k5⟩ := h
      refine ⟨h37a, (mPF.rfl'.u 72 _).trans h37b.P, Or.inr ⟨⟨h37d, ?_, ?_, ?_, X, ?_⟩, ?_⟩⟩
      · rw [h37b.f 31 (by decide)]; simpa [px_ur] using k2
      · rw [h37b.f 35 (by decide)]; simpa [px_ur] using k3
      · rw [h37b.f 35 (by decide), h37b.f 39 (by decide)]
        simp [px_ur] at h37c ⊢
        unfold mTk at k1
        grind
      · rw [h37b.f 35 (by decide)]
        exact h37b.S (by simp only [px_ur]; exact k5.fld _ _)
      · simp [px_ur] at h37c
        unfold mTk at k1
        grind
    · refine px_cVW (ci := 12) rfl q_X12_stepIsOver_27 hg rfl trivial lk_12_340 nm_X12_next (k_next hg (by assumption)) rfl rfl (px_lit hg rfl) rfl rfl rfl ⟨rfl, rfl⟩ ?_
      intro I37 L37 h37
      refine px_rvW rfl q_X12_stepIsOver_40 rfl rfl rfl hg rfl trivial ⟨⟨rfl, rfl⟩, ?_⟩
      obtain ⟨h37a, h37b, h37c, h37d⟩ := h37
      obtain ⟨k1, k2, k3, k4, X, k5⟩ := h
      refine ⟨h37a, (mPF.rfl'.u 72 _).trans h37b.P, Or.inr ⟨⟨h37d, ?_, ?_, ?_, X, ?_⟩, ?_⟩⟩
      · rw [h37b.f 31 (by decide)]; simpa [px_ur] using k2
      · rw [h37b.f 35 (by decide)]; simpa [px_ur] using k3
      · rw [h37b.f 35 (by decide), h37b.f 39 (by decide)]
        simp [px_ur] at h37c ⊢
        unfold mTk at k1
        grind
      · rw [h37b.f 35 (by decide)]
        exact h37b.S (by simp only [px_ur]; exact k5.fld _ _)
      · simp [px_ur] at h37c
        unfold mTk at k1
        grind
  · replace h3 := px_bf h3 c6
    refine px_cVW (ci := 12) rfl q_X12_stepIsOver_9 hg rfl trivial lk_12_334 nm_X12_errs (k_errs hg _) rfl rfl (px_lit hg rfl) rfl rfl rfl ⟨rfl, rfl⟩ ?_
    intro I11 L11 h11
    refine px_rvW rfl q_X12_stepIsOver_14 rfl rfl rfl hg rfl trivial ⟨⟨rfl, rfl⟩, ?_⟩
    obtain ⟨e1, e2⟩ := mErr h11.2 h.2.1 (by decide)
    exact ⟨h11.1, e1, Or.inl e2⟩

/-! an order is written -/
def mE (I : px_I) (o v : Int32) : px_I := px_u (px_u (px_u I 122 (I 103 35).toNatClampNeg o) 123 (I 103 35).toNatClampNeg v) 103 35 (I 103 35 + 1)
theorem mE_f {I I2 : px_I} {o v : Int32} (h : I2 = mE I o v) {j : Nat} (hj : j ≠ 35) : I2 103 j = I 103 j := by
  subst h
  unfold mE
  rw [px_u_at_ne hj, px_u_ne (by decide), px_u_ne (by decide)]
theorem mE_35 {I I2 : px_I} {o v : Int32} (h : I2 = mE I o v) : I2 103 35 = I 103 35 + 1 := by
  subst h
  exact px_u_at
theorem mE_b {I I2 : px_I} {o v : Int32} (h : I2 = mE I o v) {b : Nat} (h1 : b ≠ 103) (h2 : b ≠ 122) (h3 : b ≠ 123) : I2 b = I b := by
  subst h
  unfold mE
  rw [px_u_ne h1, px_u_ne h3, px_u_ne h2]
theorem mE_122 {I I2 : px_I} {o v : Int32} (h : I2 = mE I o v) : I2 122 (I 103 35).toNatClampNeg = o := by subst h; exact mEm122
theorem mE_123 {I I2 : px_I} {o v : Int32} (h : I2 = mE I o v) : I2 123 (I 103 35).toNatClampNeg = v := by subst h; exact mEm123
theorem mE_lo {I I2 : px_I} {o v : Int32} (h : I2 = mE I o v) (h0 : 0 ≤ I 103 35) {j : Int32} (hj : 0 ≤ j) (hn : j ≠ I 103 35) : I2 122 j.toNatClampNeg = I 122 j.toNatClampNeg ∧ I2 123 j.toNatClampNeg = I 123 j.toNatClampNeg := by
  subst h
  unfold mE
  refine ⟨?_, ?_⟩
  · rw [px_u_ne (by decide), px_u_ne (by decide), px_uJ hj h0 hn]
  · rw [px_u_ne (by decide), px_uJ hj h0 hn, px_u_ne (by decide)]
theorem mE_P {I I2 : px_I} {o v : Int32} (h : I2 = mE I o v) : mPF I I2 := by
  subst h
  exact ((mPF.rfl'.a 122 _ _).a 123 _ _).u 35 _
theorem mSI.em {I I2 : px_I} {X : Int32 → Prop} {fe o v : Int32} (h : mSI I X fe) (he : I2 = mE I o v) (hN : fe = I 103 35) : mSI I2 X fe := by
  subst he
  exact h.emit o v hN
theorem mSI.emS {I I2 : px_I} {X : Int32 → Prop} {o v : Int32} (h : mSI I X (I 103 35)) (he : I2 = mE I o v) (hN : I 103 35 < 210) (h1 : 1 ≤ o) (h6 : o ≤ 6) : ∃ X, mSI I2 X (I2 103 35) := by
  have h2 := h.em he rfl
  have e := mE_122 he
  rw [mE_35 he]
  exact ⟨_, mSt.stp h2 hN (by show 1 ≤ I2 122 _; rw [e]; exact h1) (by show I2 122 _ ≤ 6; rw [e]; exact h6)⟩
theorem mSI.emC {I I2 : px_I} {X : Int32 → Prop} {l : Int32} (h : mSI I X (I 103 35)) (he : I2 = mE I 7 (I 124 l.toNatClampNeg)) (hN : I 103 35 < 210) (hl : 0 ≤ l ∧ l ≤ 7) (hd : 0 ≤ I 124 l.toNatClampNeg) : ∃ X, mSI I2 X (I2 103 35) := by
  have h2 := h.em he rfl
  have f := mE_b (b := 124) he (by decide) (by decide) (by decide)
  rw [mE_35 he]
  exact ⟨_, mSt.cal h2 hN (mE_122 he) (by show I2 123 _ = I2 124 _; rw [mE_123 he, f]) hl (by show 0 ≤ I2 124 _; rw [f]; exact hd)⟩
theorem mPI.nx {J K : px_I} {c : Int32} (h1 : mKI J K) (h2 : mTk K) (h3 : J 103 31 = 0) (h4 : 0 ≤ J 103 35) (h5 : 2 * J 103 35 + J 103 39 ≤ K 103 28 + c) (h6 : ∃ X, mSI J X (J 103 35)) : mPI K c := by
  obtain ⟨X, h6⟩ := h6
  have e31 := h1.f 31 (by decide)
  have e35 := h1.f 35 (by decide)
  have e39 := h1.f 39 (by decide)
  exact ⟨h2, e31.trans h3, by rw [e35]; exact h4, by rw [e35, e39]; exact h5, X, by rw [e35]; exact h1.S h6⟩
theorem mSI.st {I : px_I} (h : ∃ X, mSI I X (I 103 35)) (k : Nat) (v : Int32) : ∃ X, mSI (px_u I 127 k v) X (px_u I 127 k v 103 35) := by
  obtain ⟨X, h⟩ := h
  exact ⟨X, by rw [px_u_ne (by decide)]; exact h.stand k v⟩
theorem mSI.opn {I J : px_I} {X : Int32 → Prop} {wh dv : Int32} (h : mSI I X wh) (hN : wh < 210) (h8 : I 103 39 < 8) (hd : dv = 1 → I 103 39 = 0 ∧ I 122 wh.toNatClampNeg = 23 ∧ (0 ≤ I 103 71 ∧ I 103 71 ≤ 7) ∧ I 124 (I 103 71).toNatClampNeg < 0) (k : Nat) (st : Int32)
    (hJ : J = px_u (px_u (px_u (px_u I 125 (I 103 39).toNatClampNeg dv) 126 (I 103 39).toNatClampNeg wh) 103 39 (I 103 39 + 1)) 127 k st) : mSI J X (wh + 1) := by
  have hop := h.1.1
  have j122 : J 122 = I 122 := by subst hJ; funext j; simp [px_ur]
  have j123 : J 123 = I 123 := by subst hJ; funext j; simp [px_ur]
  have j124 : J 124 = I 124 := by subst hJ; funext j; simp [px_ur]
  have j39 : J 103 39 = I 103 39 + 1 := by subst hJ; simp [px_ur]
  have j71 : J 103 71 = I 103 71 := by subst hJ; simp [px_ur]
  have j125 : ∀ q : Int32, J 125 q.toNatClampNeg = px_u I 125 (I 103 39).toNatClampNeg dv 125 q.toNatClampNeg := by subst hJ; intro q; simp [px_ur]
  have j126 : ∀ q : Int32, J 126 q.toNatClampNeg = px_u I 126 (I 103 39).toNatClampNeg wh 126 q.toNatClampNeg := by subst hJ; intro q; simp [px_ur]
  have e := mSt.opn (oD2 := fun j => J 125 j.toNatClampNeg) (oA2 := fun j => J 126 j.toNatClampNeg) (lt2 := J 103 71) h hN h8 (fun q q1 q2 => ⟨by
    show J 125 _ = _
    rw [j125, px_uJ q1 hop (by grind)], by
    show J 126 _ = _
    rw [j126, px_uJ q1 hop (by grind)]⟩) (by show J 126 _ = _; rw [j126, px_u_at]) (by
      show J 125 _ = 1 → _
      rw [j125, px_u_at, j71]
      exact hd) (fun _ => j71)
  unfold mSI
  rw [j122, j123, j124, j39]
  exact e

theorem q_X12_opens_0 : px_bk 12 3 cX12_opens 0 [(.aload_n 0, (0, 0, 0, 0, 0), 0, 0), (.bipush 123, (0, 0, 0, 0, 0), 123, 0)] = some 3 ∧ px_tv cX12_opens 3 331 = true := by decide +kernel
theorem q_X12_opens_6 : px_bk 12 3 cX12_opens 6 [] = some 6 ∧ px_t1 cX12_opens 6 .ne 17 = true := by decide +kernel
theorem q_X12_opens_17 : px_bk 12 3 cX12_opens 17 [(.aload_n 0, (0, 0, 0, 0, 0), 0, 0), (.getfield 337, (12, 39, 0, 0, 0), 0, 0), (.bipush 8, (0, 0, 0, 0, 0), 8, 0)] = some 23 ∧ px_t2 cX12_opens 23 .ne 31 = true := by decide +kernel
theorem q_X12_opens_31 : px_bk 12 3 cX12_opens 31 [(.aload_n 0, (0, 0, 0, 0, 0), 0, 0), (.getfield 322, (12, 31, 0, 0, 0), 0, 0)] = some 35 ∧ px_t1 cX12_opens 35 .le 39 = true := by decide +kernel
theorem q_X12_opens_39 : px_bk 12 3 cX12_opens 39 [(.aload_n 0, (0, 0, 0, 0, 0), 0, 0), (.getfield 84, (12, 40, 3, 125, 0), 0, 0), (.aload_n 0, (0, 0, 0, 0, 0), 0, 0), (.getfield 337, (12, 39, 0, 0, 0), 0, 0), (.iload_n 1, (0, 0, 0, 0, 0), 0, 0)] = some 48 ∧ px_t1 cX12_opens 48 .eq 55 = true := by decide +kernel
theorem q_X12_opens_55 : px_bk 12 3 cX12_opens 55 [(.iconst 0, (0, 0, 0, 0, 0), 0, 0), (.iastore, (0, 0, 0, 0, 0), 0, 0), (.aload_n 0, (0, 0, 0, 0, 0), 0, 0), (.getfield 87, (12, 41, 3, 126, 0), 0, 0), (.aload_n 0, (0, 0, 0, 0, 0), 0, 0), (.getfield 337, (12, 39, 0, 0, 0), 0, 0), (.iload_n 2, (0, 0, 0, 0, 0), 0, 0), (.iastore, (0, 0, 0, 0, 0), 0, 0), (.aload_n 0, (0, 0, 0, 0, 0), 0, 0), (.dup, (0, 0, 0, 0, 0), 0, 0), (.getfield 337, (12, 39, 0, 0, 0), 0, 0), (.iconst 1, (0, 0, 0, 0, 0), 1, 0), (.iadd, (0, 0, 0, 0, 0), 0, 0), (.putfield 337, (12, 39, 0, 0, 0), 0, 0), (.aload_n 0, (0, 0, 0, 0, 0), 0, 0), (.getfield 90, (12, 42, 3, 127, 0), 0, 0), (.aload_n 0, (0, 0, 0, 0, 0), 0, 0), (.getfield 337, (12, 39, 0, 0, 0), 0, 0), (.iconst 0, (0, 0, 0, 0, 0), 0, 0), (.bastore, (0, 0, 0, 0, 0), 0, 0), (.aload_n 0, (0, 0, 0, 0, 0), 0, 0)] = some 88 ∧ px_tv cX12_opens 88 340 = true := by decide +kernel
theorem q_X12_opens_91 : px_bk 12 3 cX12_opens 91 [] = some 91 ∧ px_tr cX12_opens 91 .return_ = true := by decide +kernel
theorem q_X12_opens_51 : px_bk 12 3 cX12_opens 51 [(.iconst 1, (0, 0, 0, 0, 0), 1, 0), (.goto 4, (0, 0, 0, 0, 0), 0, 0), (.iastore, (0, 0, 0, 0, 0), 0, 0), (.aload_n 0, (0, 0, 0, 0, 0), 0, 0), (.getfield 87, (12, 41, 3, 126, 0), 0, 0), (.aload_n 0, (0, 0, 0, 0, 0), 0, 0), (.getfield 337, (12, 39, 0, 0, 0), 0, 0), (.iload_n 2, (0, 0, 0, 0, 0), 0, 0), (.iastore, (0, 0, 0, 0, 0), 0, 0), (.aload_n 0, (0, 0, 0, 0, 0), 0, 0), (.dup, (0, 0, 0, 0, 0), 0, 0), (.getfield 337, (12, 39, 0, 0, 0), 0, 0), (.iconst 1, (0, 0, 0, 0, 0), 1, 0), (.iadd, (0, 0, 0, 0, 0), 0, 0), (.putfield 337, (12, 39, 0, 0, 0), 0, 0), (.aload_n 0, (0, 0, 0, 0, 0), 0, 0), (.getfield 90, (12, 42, 3, 127, 0), 0, 0), (.aload_n 0, (0, 0, 0, 0, 0), 0, 0), (.getfield 337, (12, 39, 0, 0, 0), 0, 0), (.iconst 0, (0, 0, 0, 0, 0), 0, 0), (.bastore, (0, 0, 0, 0, 0), 0, 0), (.aload_n 0, (0, 0, 0, 0, 0), 0, 0)] = some 88 ∧ px_tv cX12_opens 88 340 = true := by decide +kernel
theorem q_X12_opens_26 : px_bk 12 3 cX12_opens 26 [(.aload_n 0, (0, 0, 0, 0, 0), 0, 0), (.iconst 3, (0, 0, 0, 0, 0), 3, 0)] = some 28 ∧ px_tv cX12_opens 28 334 = true := by decide +kernel
theorem q_X12_opens_38 : px_bk 12 3 cX12_opens 38 [] = some 38 ∧ px_tr cX12_opens 38 .return_ = true := by decide +kernel
theorem q_X12_opens_9 : px_bk 12 3 cX12_opens 9 [(.aload_n 0, (0, 0, 0, 0, 0), 0, 0), (.iconst 1, (0, 0, 0, 0, 0), 1, 0)] = some 11 ∧ px_tv cX12_opens 11 334 = true := by decide +kernel
theorem q_X12_opens_14 : px_bk 12 3 cX12_opens 14 [(.goto 17, (0, 0, 0, 0, 0), 0, 0), (.aload_n 0, (0, 0, 0, 0, 0), 0, 0), (.getfield 322, (12, 31, 0, 0, 0), 0, 0)] = some 35 ∧ px_t1 cX12_opens 35 .le 39 = true := by decide +kernel
set_option maxRecDepth 100000 in
theorem k_opens {n : Nat} {I : px_I} {L : px_L} {R : px_R} (hg : px_G n R) (d wh : Int32) (hk : mTk I) (h0 : I 103 31 = 0) (hN : wh + 1 = I 103 35 ∧ 0 ≤ wh) (hb : 2 * I 103 35 + I 103 39 ≤ I 103 28) (hs : ∃ X, mSI I X wh) (hd : ¬ d = 0 → I 103 39 = 0 ∧ I 122 wh.toNatClampNeg = 23 ∧ (0 ≤ I 103 71 ∧ I 103 71 ≤ 7) ∧ I 124 (I 103 71).toNatClampNeg < 0) : px_KV M_X12_opens [.ref 103, .int d, .int wh] n I L R (fun I2 L2 => L2 = L ∧ mPo I I2) := by
  refine px_of (plainFor_of_name np_RX12) (fun _ _ _ => trivial) rfl ?_
  have hat : 0 ≤ I 103 27 ∧ I 103 27 ≤ I 103 26 ∧ I 103 26 ≤ 400 := by unfold mTk at hk; grind
  obtain ⟨X, hs⟩ := hs
  have hop : 0 ≤ I 103 39 ∧ I 103 39 ≤ 8 := hs.1
  have hwb : 0 ≤ wh ∧ wh ≤ 210 := hs.2.1
  have hw2 : wh < 210 := by unfold mTk at hk; grind
  refine px_cVP (ci := 12) rfl q_X12_opens_0 hg rfl trivial lk_12_331 nm_X12_isSign (k_isSign hg _) rfl rfl (px_lit hg rfl) rfl rfl rfl ⟨rfl, rfl⟩ ?_
  intro x3 h3
  refine px_ne rfl q_X12_opens_6 hg rfl trivial (fun c6 => ?_) (fun c6 => ?_)
  · replace h3 := px_bt h3 c6
    refine px_ine rfl q_X12_opens_17 hg rfl trivial (fun c23 => ?_) (fun c23 => ?_)
    · refine px_le rfl q_X12_opens_31 hg rfl trivial (fun c35 => ?_) (fun c35 => ?_)
      · refine px_eq rfl q_X12_opens_39 hg rfl trivial (fun c48 => ?_) (fun c48 => ?_)
        · refine px_cVW (ci := 12) rfl q_X12_opens_55 hg rfl ⟨⟨⟨trivial, (by first | with_reducible assumption | (refine ⟨?_, ?_⟩ <;> grind))⟩, (by first | with_reducible assumption | (refine ⟨?_, ?_⟩ <;> grind))⟩, (by first | with_reducible assumption | (refine ⟨?_, ?_⟩ <;> grind))⟩ lk_12_340 nm_X12_next (k_next hg (by first | assumption | simpa [px_ur] using hat)) rfl rfl (px_lit hg rfl) rfl rfl rfl ⟨rfl, rfl⟩ ?_
          intro I88 L88 h88
          refine px_rvW rfl q_X12_opens_91 rfl rfl rfl hg rfl trivial ⟨⟨rfl, rfl⟩, ?_⟩
          obtain ⟨rfl, g1, g2, g3⟩ := h88
          have g4 : I 103 28 < I 103 27 := by unfold mTk at hk; grind
          have g5 : I 103 27 ≤ I88 103 28 := by simpa [px_ur] using g2
          have g6 := mSI.opn (J := px_u (px_u (px_u (px_u I 125 (I 103 39).toNatClampNeg 0) 126 (I 103 39).toNatClampNeg wh) 103 39 (I 103 39 + 1)) 127 (I 103 39 + 1).toNatClampNeg (0 &&& 1)) (dv := 0) hs hw2 (by grind) (by first | exact fun _ => hd (by assumption) | exact fun hz => absurd hz (by decide)) (I 103 39 + 1).toNatClampNeg (0 &&& 1) rfl
          refine ⟨rfl, ((((mPF.rfl'.a 125 _ _).a 126 _ _).u 39 _).a 127 _ _).trans g1.P, Or.inr ⟨mPI.nx g1 g3 (by simpa [px_ur] using h0) (by simp [px_ur]; grind) ?_ ⟨X, ?_⟩, by grind⟩⟩
          · simp [px_ur]; grind
          · have e : (px_u (px_u (px_u (px_u I 125 (I 103 39).toNatClampNeg 0) 126 (I 103 39).toNatClampNeg wh) 103 39 (I 103 39 + 1)) 127 (I 103 39 + 1).toNatClampNeg (0 &&& 1)) 103 35 = wh + 1 := by simp [px_ur]; exact hN.1.symm
            rw [e]
            exact g6
        · refine px_cVW (ci := 12) rfl q_X12_opens_51 hg rfl ⟨⟨⟨trivial, (by first | with_reducible assumption | (refine ⟨?_, ?_⟩ <;> grind))⟩, (by first | with_reducible assumption | (refine ⟨?_, ?_⟩ <;> grind))⟩, (by first | with_reducible assumption | (refine ⟨?_, ?_⟩ <;> grind))⟩ lk_12_340 nm_X12_next (k_next hg (by first | assumption | simpa [px_ur] using hat)) rfl rfl (px_lit hg rfl) rfl rfl rfl ⟨rfl, rfl⟩ ?_
          intro I88 L88 h88
          refine px_rvW rfl q_X12_opens_91 rfl rfl rfl hg rfl trivial ⟨⟨rfl, rfl⟩, ?_⟩
          obtain ⟨rfl, g1, g2, g3⟩ := h88
          have g4 : I 103 28 < I 103 27 := by unfold mTk at hk; grind
          have g5 : I 103 27 ≤ I88 103 28 := by simpa [px_ur] using g2
          have g6 := mSI.opn (J := px_u (px_u (px_u (px_u I 125 (I 103 39).toNatClampNeg 1) 126 (I 103 39).toNatClampNeg wh) 103 39 (I 103 39 + 1)) 127 (I 103 39 + 1).toNatClampNeg (0 &&& 1)) (dv := 1) hs hw2 (by grind) (by first | exact fun _ => hd (by assumption) | exact fun hz => absurd hz (by decide)) (I 103 39 + 1).toNatClampNeg (0 &&& 1) rfl
          refine ⟨rfl, ((((mPF.rfl'.a 125 _ _).a 126 _ _).u 39 _).a 127 _ _).trans g1.P, Or.inr ⟨mPI.nx g1 g3 (by simpa [px_ur] using h0) (by simp [px_ur]; grind) ?_ ⟨X, ?_⟩, by grind⟩⟩
          · simp [px_ur]; grind
          · have e : (px_u (px_u (px_u (px_u I 125 (I 103 39).toNatClampNeg 1) 126 (I 103 39).toNatClampNeg wh) 103 39 (I 103 39 + 1)) 127 (I 103 39 + 1).toNatClampNeg (0 &&& 1)) 103 35 = wh + 1 := by simp [px_ur]; exact hN.1.symm
            rw [e]
            exact g6
      · exact absurd c35 (by rw [h0]; decide)
    · refine px_cVW (ci := 12) rfl q_X12_opens_26 hg rfl trivial lk_12_334 nm_X12_errs (k_errs hg _) rfl rfl (px_lit hg rfl) rfl rfl rfl ⟨rfl, rfl⟩ ?_
      intro I28 L28 h28
      obtain ⟨rfl, h28⟩ := h28
      have e9 := mErr h28 h0 (by decide)
      refine px_le rfl q_X12_opens_31 hg rfl trivial (fun c35 => ?_) (fun c35 => ?_)
      · exact absurd c35 (by have := e9.2; grind)
      · refine px_rvW rfl q_X12_opens_38 rfl rfl rfl hg rfl trivial ⟨⟨rfl, rfl⟩, ?_⟩
        exact ⟨rfl, e9.1, Or.inl e9.2⟩
  · replace h3 := px_bf h3 c6
    refine px_cVW (ci := 12) rfl q_X12_opens_9 hg rfl trivial lk_12_334 nm_X12_errs (k_errs hg _) rfl rfl (px_lit hg rfl) rfl rfl rfl ⟨rfl, rfl⟩ ?_
    intro I11 L11 h11
    obtain ⟨rfl, h11⟩ := h11
    have e9 := mErr h11 h0 (by decide)
    refine px_le rfl q_X12_opens_14 hg rfl trivial (fun c35 => ?_) (fun c35 => ?_)
    · exact absurd c35 (by have := e9.2; grind)
    · refine px_rvW rfl q_X12_opens_38 rfl rfl rfl hg rfl trivial ⟨⟨rfl, rfl⟩, ?_⟩
      exact ⟨rfl, e9.1, Or.inl e9.2⟩

theorem q_X12_numbered_56 : px_bk 12 5 cX12_numbered 56 [(.aload_n 0, (0, 0, 0, 0, 0), 0, 0), (.getfield 300, (12, 29, 0, 0, 0), 0, 0), (.iconst 3, (0, 0, 0, 0, 0), 3, 0)] = some 61 ∧ px_t2 cX12_numbered 61 .eq 72 = true := by decide +kernel
theorem q_X12_numbered_72 : px_bk 12 5 cX12_numbered 72 [(.aload_n 0, (0, 0, 0, 0, 0), 0, 0), (.getfield 310, (12, 30, 0, 0, 0), 0, 0), (.i2l, (0, 0, 0, 0, 0), 0, 0), (.iload_n 2, (0, 0, 0, 0, 0), 0, 0), (.i2l, (0, 0, 0, 0, 0), 0, 0), (.iload_n 3, (0, 0, 0, 0, 0), 0, 0), (.i2l, (0, 0, 0, 0, 0), 0, 0)] = some 81 ∧ px_tS cX12_numbered 81 167 = true := by decide +kernel
theorem q_X12_numbered_84 : px_bk 12 5 cX12_numbered 84 [] = some 84 ∧ px_t1 cX12_numbered 84 .ne 92 = true := by decide +kernel
theorem q_X12_numbered_92 : px_bk 12 5 cX12_numbered 92 [(.aload_n 0, (0, 0, 0, 0, 0), 0, 0), (.getfield 322, (12, 31, 0, 0, 0), 0, 0)] = some 96 ∧ px_t1 cX12_numbered 96 .le 100 = true := by decide +kernel
theorem q_X12_numbered_100 : px_bk 12 5 cX12_numbered 100 [(.aload_n 0, (0, 0, 0, 0, 0), 0, 0), (.iload_n 1, (0, 0, 0, 0, 0), 0, 0), (.aload_n 0, (0, 0, 0, 0, 0), 0, 0), (.getfield 310, (12, 30, 0, 0, 0), 0, 0)] = some 106 ∧ px_tv cX12_numbered 106 346 = true := by decide +kernel
theorem q_X12_numbered_109 : px_bk 12 5 cX12_numbered 109 [(.istore 4, (0, 0, 0, 0, 0), 0, 0), (.aload_n 0, (0, 0, 0, 0, 0), 0, 0), (.getfield 90, (12, 42, 3, 127, 0), 0, 0), (.aload_n 0, (0, 0, 0, 0, 0), 0, 0), (.getfield 337, (12, 39, 0, 0, 0), 0, 0), (.aload_n 0, (0, 0, 0, 0, 0), 0, 0), (.getfield 90, (12, 42, 3, 127, 0), 0, 0), (.aload_n 0, (0, 0, 0, 0, 0), 0, 0), (.getfield 337, (12, 39, 0, 0, 0), 0, 0), (.baload, (0, 0, 0, 0, 0), 0, 0)] = some 128 ∧ px_t1 cX12_numbered 128 .ne 137 = true := by decide +kernel
theorem q_X12_numbered_137 : px_bk 12 5 cX12_numbered 137 [(.iconst 1, (0, 0, 0, 0, 0), 1, 0), (.goto 4, (0, 0, 0, 0, 0), 0, 0), (.bastore, (0, 0, 0, 0, 0), 0, 0), (.aload_n 0, (0, 0, 0, 0, 0), 0, 0)] = some 144 ∧ px_tv cX12_numbered 144 340 = true := by decide +kernel
theorem q_X12_numbered_147 : px_bk 12 5 cX12_numbered 147 [(.iload_n 1, (0, 0, 0, 0, 0), 0, 0), (.bipush 8, (0, 0, 0, 0, 0), 8, 0)] = some 150 ∧ px_t2 cX12_numbered 150 .ne 163 = true := by decide +kernel
theorem q_X12_numbered_163 : px_bk 12 5 cX12_numbered 163 [(.aload_n 0, (0, 0, 0, 0, 0), 0, 0)] = some 164 ∧ px_tv cX12_numbered 164 358 = true := by decide +kernel
theorem q_X12_numbered_167 : px_bk 12 5 cX12_numbered 167 [] = some 167 ∧ px_tr cX12_numbered 167 .return_ = true := by decide +kernel
theorem q_X12_numbered_153 : px_bk 12 5 cX12_numbered 153 [(.aload_n 0, (0, 0, 0, 0, 0), 0, 0), (.iconst 0, (0, 0, 0, 0, 0), 0, 0), (.iload 4, (0, 0, 0, 0, 0), 0, 0)] = some 157 ∧ px_tv cX12_numbered 157 350 = true := by decide +kernel
theorem q_X12_numbered_160 : px_bk 12 5 cX12_numbered 160 [(.goto 7, (0, 0, 0, 0, 0), 0, 0)] = some 167 ∧ px_tr cX12_numbered 167 .return_ = true := by decide +kernel
theorem q_X12_numbered_131 : px_bk 12 5 cX12_numbered 131 [(.iload_n 1, (0, 0, 0, 0, 0), 0, 0), (.bipush 8, (0, 0, 0, 0, 0), 8, 0)] = some 134 ∧ px_t2 cX12_numbered 134 .eq 141 = true := by decide +kernel
theorem q_X12_numbered_141 : px_bk 12 5 cX12_numbered 141 [(.iconst 0, (0, 0, 0, 0, 0), 0, 0), (.bastore, (0, 0, 0, 0, 0), 0, 0), (.aload_n 0, (0, 0, 0, 0, 0), 0, 0)] = some 144 ∧ px_tv cX12_numbered 144 340 = true := by decide +kernel
theorem q_X12_numbered_87 : px_bk 12 5 cX12_numbered 87 [(.aload_n 0, (0, 0, 0, 0, 0), 0, 0), (.iconst 2, (0, 0, 0, 0, 0), 2, 0)] = some 89 ∧ px_tv cX12_numbered 89 334 = true := by decide +kernel
theorem q_X12_numbered_99 : px_bk 12 5 cX12_numbered 99 [] = some 99 ∧ px_tr cX12_numbered 99 .return_ = true := by decide +kernel
theorem q_X12_numbered_64 : px_bk 12 5 cX12_numbered 64 [(.aload_n 0, (0, 0, 0, 0, 0), 0, 0), (.iconst 1, (0, 0, 0, 0, 0), 1, 0)] = some 66 ∧ px_tv cX12_numbered 66 334 = true := by decide +kernel
theorem q_X12_numbered_69 : px_bk 12 5 cX12_numbered 69 [(.goto 23, (0, 0, 0, 0, 0), 0, 0), (.aload_n 0, (0, 0, 0, 0, 0), 0, 0), (.getfield 322, (12, 31, 0, 0, 0), 0, 0)] = some 96 ∧ px_t1 cX12_numbered 96 .le 100 = true := by decide +kernel
set_option maxRecDepth 100000 in
theorem l_numbered56 {n : Nat} {R : px_R} (hg : px_G n R) {Q : px_Q} (w lo hi : Int32) {I I1 : px_I} {L : px_L} (h : mPI I 0) (hlt : I 103 28 < I 103 27) (h1 : mKI I I1) (h2 : I 103 27 ≤ I1 103 28) (h3 : mTk I1) (hw : w = 1 ∨ w = 2 ∨ w = 3 ∨ w = 4 ∨ w = 8) (hq : ∀ I2, mPo I I2 → Q none n I2 L R) : px M_X12_numbered 0 0 56 [(0, .ref 103), (1, .int w), (2, .int lo), (3, .int hi)] [] n I1 L R Q := by
  obtain ⟨hN, hop⟩ := h.N (by decide)
  have h0 : I1 103 31 = 0 := (h1.f 31 (by decide)).trans h.2.1
  have f35 := h1.f 35 (by decide)
  have f39 := h1.f 39 (by decide)
  have hN1 : 0 ≤ I1 103 35 ∧ I1 103 35 < 220 := by grind
  have hop1 : 0 ≤ I1 103 39 ∧ I1 103 39 < 10 := by grind
  have hat : 0 ≤ I1 103 27 ∧ I1 103 27 ≤ I1 103 26 ∧ I1 103 26 ≤ 400 := by unfold mTk at h3; grind
  obtain ⟨hk1, -, -, hk4, X, hk5⟩ := id h
  have hX : mSI I1 X (I1 103 35) := by rw [f35]; exact h1.S hk5
  have hbd : 2 * I1 103 35 + I1 103 39 + 1 ≤ I1 103 28 := by unfold mTk at h3; grind
  have h128 : I1 103 28 ≤ I1 103 27 := h3.1.2.1
  have g4 : I1 103 29 = 3 → I1 103 28 < I1 103 27 := fun hz => h3.2.1 (by rw [hz]; decide)
  refine px_ieq rfl q_X12_numbered_56 hg rfl trivial (fun c61 => ?_) (fun c61 => ?_)
  · refine px_cSP rfl q_X12_numbered_72 hg rfl trivial lk_12_167 nm_X12_in (k_inI hg _ _ _ rfl rfl) rfl rfl rfl ⟨rfl, rfl⟩ ?_
    intro x81 h81
    refine px_ne rfl q_X12_numbered_84 hg rfl trivial (fun c84 => ?_) (fun c84 => ?_)
    · replace h81 := px_bt h81 c84
      refine px_le rfl q_X12_numbered_92 hg rfl trivial (fun c96 => ?_) (fun c96 => ?_)
      · refine px_cVS (ci := 12) rfl q_X12_numbered_100 hg rfl trivial lk_12_346 nm_X12_emits (k_emits hg _ _ hN1) rfl rfl (px_lit hg rfl) rfl rfl rfl ⟨rfl, rfl⟩ ?_
        intro x106 I106 L106 h106
        obtain ⟨rfl, rfl, h106⟩ := h106
        have e39 := mE_f h106 (j := 39) (by decide)
        have e35 := mE_35 h106
        have e31 := mE_f h106 (j := 31) (by decide)
        have e28 := mE_f h106 (j := 28) (by decide)
        have e27 := mE_f h106 (j := 27) (by decide)
        have e26 := mE_f h106 (j := 26) (by decide)
        have eP := mE_P h106
        refine px_ne rfl q_X12_numbered_109 hg rfl ⟨trivial, (by first | with_reducible assumption | (rw [e39]; with_reducible assumption))⟩ (fun c128 => ?_) (fun c128 => ?_)
        · refine px_cVW (ci := 12) rfl q_X12_numbered_137 hg rfl ⟨trivial, (by first | with_reducible assumption | (rw [e39]; with_reducible assumption))⟩ lk_12_340 nm_X12_next (k_next hg (by simpa [px_ur, e26, e27] using hat)) rfl rfl (px_lit hg rfl) rfl rfl rfl ⟨rfl, rfl⟩ ?_
          intro I144 L144 h144
          obtain ⟨rfl, g1, g2, g3⟩ := h144
          have g2 : I1 103 27 ≤ I144 103 28 := by rw [px_u_ne (by decide), e27] at g2; exact g2
          have g9 := g3.b
          refine px_ine rfl q_X12_numbered_147 hg rfl trivial (fun c150 => ?_) (fun c150 => ?_)
          · refine px_cVW (ci := 12) rfl q_X12_numbered_163 hg rfl trivial lk_12_358 nm_X12_stepIsOver (k_stepIsOver hg (mPI.nx g1 g3 (by rw [px_u_ne (by decide), e31]; exact h0) (by rw [px_u_ne (by decide), e35]; grind) (by rw [px_u_ne (by decide), e35, e39]; grind) (mSI.st (hX.emS h106 (by grind) (by grind) (by grind)) _ _))) rfl rfl (px_lit hg rfl) rfl rfl rfl ⟨rfl, rfl⟩ ?_
            intro I164 L164 h164
            refine px_rv rfl q_X12_numbered_167 rfl rfl rfl hg rfl trivial ?_
            obtain ⟨rfl, g5, g6⟩ := h164
            exact hq _ ⟨(h1.P.trans (eP.trans ((mPF.rfl'.a 127 _ _).trans g1.P))).trans g5, g6.imp id (fun q => ⟨q.1, by have := q.2; grind⟩)⟩
          · refine px_cVW (ci := 12) rfl q_X12_numbered_153 hg rfl trivial lk_12_350 nm_X12_opens (k_opens hg 0 (I1 103 35) g3 (by rw [g1.f 31 (by decide), px_u_ne (by decide), e31]; exact h0) ⟨by rw [g1.f 35 (by decide), px_u_ne (by decide), e35], hN1.1⟩ (by rw [g1.f 35 (by decide), g1.f 39 (by decide), px_u_ne (by decide), e35, e39]; grind) ⟨X, g1.S ((hX.em h106 rfl).stand _ _)⟩ (fun hz => absurd rfl hz)) rfl rfl (px_lit hg rfl) rfl rfl rfl ⟨rfl, rfl⟩ ?_
            intro I157 L157 h157
            refine px_rv rfl q_X12_numbered_160 rfl rfl rfl hg rfl trivial ?_
            obtain ⟨rfl, g5, g6⟩ := h157
            exact hq _ ⟨(h1.P.trans (eP.trans ((mPF.rfl'.a 127 _ _).trans g1.P))).trans g5, g6.imp id (fun q => ⟨q.1, by have := q.2; grind⟩)⟩
        · refine px_ieq rfl q_X12_numbered_131 hg rfl trivial (fun c134 => ?_) (fun c134 => ?_)
          · refine px_cVW (ci := 12) rfl q_X12_numbered_141 hg rfl ⟨trivial, (by first | with_reducible assumption | (rw [e39]; with_reducible assumption))⟩ lk_12_340 nm_X12_next (k_next hg (by simpa [px_ur, e26, e27] using hat)) rfl rfl (px_lit hg rfl) rfl rfl rfl ⟨rfl, rfl⟩ ?_
            intro I144 L144 h144
            obtain ⟨rfl, g1, g2, g3⟩ := h144
            have g2 : I1 103 27 ≤ I144 103 28 := by rw [px_u_ne (by decide), e27] at g2; exact g2
            have g9 := g3.b
            refine px_ine rfl q_X12_numbered_147 hg rfl trivial (fun c150 => ?_) (fun c150 => ?_)
            · refine px_cVW (ci := 12) rfl q_X12_numbered_163 hg rfl trivial lk_12_358 nm_X12_stepIsOver (k_stepIsOver hg (mPI.nx g1 g3 (by rw [px_u_ne (by decide), e31]; exact h0) (by rw [px_u_ne (by decide), e35]; grind) (by rw [px_u_ne (by decide), e35, e39]; grind) (mSI.st (hX.emS h106 (by grind) (by grind) (by grind)) _ _))) rfl rfl (px_lit hg rfl) rfl rfl rfl ⟨rfl, rfl⟩ ?_
              intro I164 L164 h164
              refine px_rv rfl q_X12_numbered_167 rfl rfl rfl hg rfl trivial ?_
              obtain ⟨rfl, g5, g6⟩ := h164
              exact hq _ ⟨(h1.P.trans (eP.trans ((mPF.rfl'.a 127 _ _).trans g1.P))).trans g5, g6.imp id (fun q => ⟨q.1, by have := q.2; grind⟩)⟩
            · refine px_cVW (ci := 12) rfl q_X12_numbered_153 hg rfl trivial lk_12_350 nm_X12_opens (k_opens hg 0 (I1 103 35) g3 (by rw [g1.f 31 (by decide), px_u_ne (by decide), e31]; exact h0) ⟨by rw [g1.f 35 (by decide), px_u_ne (by decide), e35], hN1.1⟩ (by rw [g1.f 35 (by decide), g1.f 39 (by decide), px_u_ne (by decide), e35, e39]; grind) ⟨X, g1.S ((hX.em h106 rfl).stand _ _)⟩ (fun hz => absurd rfl hz)) rfl rfl (px_lit hg rfl) rfl rfl rfl ⟨rfl, rfl⟩ ?_
              intro I157 L157 h157
              refine px_rv rfl q_X12_numbered_160 rfl rfl rfl hg rfl trivial ?_
              obtain ⟨rfl, g5, g6⟩ := h157
              exact hq _ ⟨(h1.P.trans (eP.trans ((mPF.rfl'.a 127 _ _).trans g1.P))).trans g5, g6.imp id (fun q => ⟨q.1, by have := q.2; grind⟩)⟩
          · refine px_cVW (ci := 12) rfl q_X12_numbered_137 hg rfl ⟨trivial, (by first | with_reducible assumption | (rw [e39]; with_reducible assumption))⟩ lk_12_340 nm_X12_next (k_next hg (by simpa [px_ur, e26, e27] using hat)) rfl rfl (px_lit hg rfl) rfl rfl rfl ⟨rfl, rfl⟩ ?_
            intro I144 L144 h144
            obtain ⟨rfl, g1, g2, g3⟩ := h144
            have g2 : I1 103 27 ≤ I144 103 28 := by rw [px_u_ne (by decide), e27] at g2; exact g2
            have g9 := g3.b
            refine px_ine rfl q_X12_numbered_147 hg rfl trivial (fun c150 => ?_) (fun c150 => ?_)
            · refine px_cVW (ci := 12) rfl q_X12_numbered_163 hg rfl trivial lk_12_358 nm_X12_stepIsOver (k_stepIsOver hg (mPI.nx g1 g3 (by rw [px_u_ne (by decide), e31]; exact h0) (by rw [px_u_ne (by decide), e35]; grind) (by rw [px_u_ne (by decide), e35, e39]; grind) (mSI.st (hX.emS h106 (by grind) (by grind) (by grind)) _ _))) rfl rfl (px_lit hg rfl) rfl rfl rfl ⟨rfl, rfl⟩ ?_
              intro I164 L164 h164
              refine px_rv rfl q_X12_numbered_167 rfl rfl rfl hg rfl trivial ?_
              obtain ⟨rfl, g5, g6⟩ := h164
              exact hq _ ⟨(h1.P.trans (eP.trans ((mPF.rfl'.a 127 _ _).trans g1.P))).trans g5, g6.imp id (fun q => ⟨q.1, by have := q.2; grind⟩)⟩
            · refine px_cVW (ci := 12) rfl q_X12_numbered_153 hg rfl trivial lk_12_350 nm_X12_opens (k_opens hg 0 (I1 103 35) g3 (by rw [g1.f 31 (by decide), px_u_ne (by decide), e31]; exact h0) ⟨by rw [g1.f 35 (by decide), px_u_ne (by decide), e35], hN1.1⟩ (by rw [g1.f 35 (by decide), g1.f 39 (by decide), px_u_ne (by decide), e35, e39]; grind) ⟨X, g1.S ((hX.em h106 rfl).stand _ _)⟩ (fun hz => absurd rfl hz)) rfl rfl (px_lit hg rfl) rfl rfl rfl ⟨rfl, rfl⟩ ?_
              intro I157 L157 h157
              refine px_rv rfl q_X12_numbered_160 rfl rfl rfl hg rfl trivial ?_
              obtain ⟨rfl, g5, g6⟩ := h157
              exact hq _ ⟨(h1.P.trans (eP.trans ((mPF.rfl'.a 127 _ _).trans g1.P))).trans g5, g6.imp id (fun q => ⟨q.1, by have := q.2; grind⟩)⟩
      · exact absurd c96 (by rw [h0]; decide)
    · replace h81 := px_bf h81 c84
      refine px_cVW (ci := 12) rfl q_X12_numbered_87 hg rfl trivial lk_12_334 nm_X12_errs (k_errs hg _) rfl rfl (px_lit hg rfl) rfl rfl rfl ⟨rfl, rfl⟩ ?_
      intro I89 L89 h89
      obtain ⟨rfl, h89⟩ := h89
      have e9 := mErr h89 h0 (by decide)
      refine px_le rfl q_X12_numbered_92 hg rfl trivial (fun c96 => ?_) (fun c96 => ?_)
      · exact absurd c96 (by have := e9.2; grind)
      · refine px_rv rfl q_X12_numbered_99 rfl rfl rfl hg rfl trivial ?_
        exact hq _ ⟨h1.P.trans e9.1, Or.inl e9.2⟩
  · refine px_cVW (ci := 12) rfl q_X12_numbered_64 hg rfl trivial lk_12_334 nm_X12_errs (k_errs hg _) rfl rfl (px_lit hg rfl) rfl rfl rfl ⟨rfl, rfl⟩ ?_
    intro I66 L66 h66
    obtain ⟨rfl, h66⟩ := h66
    have e9 := mErr h66 h0 (by decide)
    refine px_le rfl q_X12_numbered_69 hg rfl trivial (fun c96 => ?_) (fun c96 => ?_)
    · exact absurd c96 (by have := e9.2; grind)
    · refine px_rv rfl q_X12_numbered_99 rfl rfl rfl hg rfl trivial ?_
      exact hq _ ⟨h1.P.trans e9.1, Or.inl e9.2⟩

theorem q_X12_numbered_20 : px_bk 12 5 cX12_numbered 20 [(.iload_n 1, (0, 0, 0, 0, 0), 0, 0), (.iconst 1, (0, 0, 0, 0, 0), 1, 0)] = some 22 ∧ px_t2 cX12_numbered 22 .ne 31 = true := by decide +kernel
theorem q_X12_numbered_31 : px_bk 12 5 cX12_numbered 31 [(.iload_n 1, (0, 0, 0, 0, 0), 0, 0), (.iconst 2, (0, 0, 0, 0, 0), 2, 0)] = some 33 ∧ px_t2 cX12_numbered 33 .ne 41 = true := by decide +kernel
theorem q_X12_numbered_41 : px_bk 12 5 cX12_numbered 41 [(.iload_n 1, (0, 0, 0, 0, 0), 0, 0), (.bipush 8, (0, 0, 0, 0, 0), 8, 0)] = some 44 ∧ px_t2 cX12_numbered 44 .ne 52 = true := by decide +kernel
theorem q_X12_numbered_52 : px_bk 12 5 cX12_numbered 52 [(.ldc_w 357, (0, 0, 0, 0, 0), 100000, 0), (.istore_n 3, (0, 0, 0, 0, 0), 0, 0)] = some 56 := by decide +kernel
theorem q_X12_numbered_47 : px_bk 12 5 cX12_numbered 47 [(.bipush 99, (0, 0, 0, 0, 0), 99, 0), (.goto 6, (0, 0, 0, 0, 0), 0, 0), (.istore_n 3, (0, 0, 0, 0, 0), 0, 0)] = some 56 := by decide +kernel
theorem q_X12_numbered_36 : px_bk 12 5 cX12_numbered 36 [(.bipush 15, (0, 0, 0, 0, 0), 15, 0), (.goto 17, (0, 0, 0, 0, 0), 0, 0), (.istore_n 3, (0, 0, 0, 0, 0), 0, 0)] = some 56 := by decide +kernel
theorem q_X12_numbered_25 : px_bk 12 5 cX12_numbered 25 [(.sipush 9999, (0, 0, 0, 0, 0), 9999, 0), (.goto 27, (0, 0, 0, 0, 0), 0, 0), (.istore_n 3, (0, 0, 0, 0, 0), 0, 0)] = some 56 := by decide +kernel
set_option maxRecDepth 100000 in
theorem l_numbered20 {n : Nat} {R : px_R} (hg : px_G n R) {Q : px_Q} (w lo : Int32) {I I1 : px_I} {L : px_L} (h : mPI I 0) (hlt : I 103 28 < I 103 27) (h1 : mKI I I1) (h2 : I 103 27 ≤ I1 103 28) (h3 : mTk I1) (hw : w = 1 ∨ w = 2 ∨ w = 3 ∨ w = 4 ∨ w = 8) (hq : ∀ I2, mPo I I2 → Q none n I2 L R) : px M_X12_numbered 0 0 20 [(0, .ref 103), (1, .int w), (2, .int lo)] [] n I1 L R Q := by
  skip
  refine px_ine rfl q_X12_numbered_20 hg rfl trivial (fun c22 => ?_) (fun c22 => ?_)
  · refine px_ine rfl q_X12_numbered_31 hg rfl trivial (fun c33 => ?_) (fun c33 => ?_)
    · refine px_ine rfl q_X12_numbered_41 hg rfl trivial (fun c44 => ?_) (fun c44 => ?_)
      · refine px_b rfl q_X12_numbered_52 hg rfl trivial ?_
        exact px_go (l_numbered56 hg w lo _ h hlt h1 h2 h3 hw hq) ⟨rfl, rfl, rfl, rfl, trivial⟩
      · refine px_b rfl q_X12_numbered_47 hg rfl trivial ?_
        exact px_go (l_numbered56 hg w lo _ h hlt h1 h2 h3 hw hq) ⟨rfl, rfl, rfl, rfl, trivial⟩
    · refine px_b rfl q_X12_numbered_36 hg rfl trivial ?_
      exact px_go (l_numbered56 hg w lo _ h hlt h1 h2 h3 hw hq) ⟨rfl, rfl, rfl, rfl, trivial⟩
  · refine px_b rfl q_X12_numbered_25 hg rfl trivial ?_
    exact px_go (l_numbered56 hg w lo _ h hlt h1 h2 h3 hw hq) ⟨rfl, rfl, rfl, rfl, trivial⟩

theorem q_X12_numbered_0 : px_bk 12 5 cX12_numbered 0 [(.aload_n 0, (0, 0, 0, 0, 0), 0, 0)] = some 1 ∧ px_tv cX12_numbered 1 340 = true := by decide +kernel
theorem q_X12_numbered_4 : px_bk 12 5 cX12_numbered 4 [(.iload_n 1, (0, 0, 0, 0, 0), 0, 0), (.iconst 3, (0, 0, 0, 0, 0), 3, 0)] = some 6 ∧ px_t2 cX12_numbered 6 .eq 14 = true := by decide +kernel
theorem q_X12_numbered_14 : px_bk 12 5 cX12_numbered 14 [(.iconst 0, (0, 0, 0, 0, 0), 0, 0), (.goto 4, (0, 0, 0, 0, 0), 0, 0), (.istore_n 2, (0, 0, 0, 0, 0), 0, 0)] = some 20 := by decide +kernel
theorem q_X12_numbered_9 : px_bk 12 5 cX12_numbered 9 [(.iload_n 1, (0, 0, 0, 0, 0), 0, 0), (.iconst 4, (0, 0, 0, 0, 0), 4, 0)] = some 11 ∧ px_t2 cX12_numbered 11 .ne 18 = true := by decide +kernel
theorem q_X12_numbered_18 : px_bk 12 5 cX12_numbered 18 [(.iconst 1, (0, 0, 0, 0, 0), 1, 0), (.istore_n 2, (0, 0, 0, 0, 0), 0, 0)] = some 20 := by decide +kernel
set_option maxRecDepth 100000 in
theorem k_numbered {n : Nat} {I : px_I} {L : px_L} {R : px_R} (hg : px_G n R) (w : Int32) (h : mPI I 0) (hlt : I 103 28 < I 103 27) (hw : w = 1 ∨ w = 2 ∨ w = 3 ∨ w = 4 ∨ w = 8) : px_KV M_X12_numbered [.ref 103, .int w] n I L R (fun I2 L2 => L2 = L ∧ mPo I I2) := by
  refine px_of (plainFor_of_name np_RX12) (fun _ _ _ => trivial) rfl ?_
  have hat := h.at
  refine px_cVW (ci := 12) rfl q_X12_numbered_0 hg rfl trivial lk_12_340 nm_X12_next (k_next hg (by first | assumption | simpa [px_ur] using hat)) rfl rfl (px_lit hg rfl) rfl rfl rfl ⟨rfl, rfl⟩ ?_
  intro I1 L1 h1
  obtain ⟨rfl, h1, h2, h3⟩ := h1
  refine px_ieq rfl q_X12_numbered_4 hg rfl trivial (fun c6 => ?_) (fun c6 => ?_)
  · refine px_b rfl q_X12_numbered_14 hg rfl trivial ?_
    exact px_go (l_numbered20 hg w _ h hlt h1 h2 h3 hw (fun I2 hp => ⟨rfl, rfl, rfl, rfl, hp⟩)) ⟨rfl, rfl, rfl, trivial⟩
  · refine px_ine rfl q_X12_numbered_9 hg rfl trivial (fun c11 => ?_) (fun c11 => ?_)
    · refine px_b rfl q_X12_numbered_18 hg rfl trivial ?_
      exact px_go (l_numbered20 hg w _ h hlt h1 h2 h3 hw (fun I2 hp => ⟨rfl, rfl, rfl, rfl, hp⟩)) ⟨rfl, rfl, rfl, trivial⟩
    · refine px_b rfl q_X12_numbered_14 hg rfl trivial ?_
      exact px_go (l_numbered20 hg w _ h hlt h1 h2 h3 hw (fun I2 hp => ⟨rfl, rfl, rfl, rfl, hp⟩)) ⟨rfl, rfl, rfl, trivial⟩

theorem q_X12_step_0 : px_bk 12 3 cX12_step 0 [(.aload_n 0, (0, 0, 0, 0, 0), 0, 0), (.getfield 310, (12, 30, 0, 0, 0), 0, 0), (.istore_n 1, (0, 0, 0, 0, 0), 0, 0), (.iload_n 1, (0, 0, 0, 0, 0), 0, 0), (.iconst 5, (0, 0, 0, 0, 0), 5, 0)] = some 7 ∧ px_t2 cX12_step 7 .eq 16 = true := by decide +kernel
theorem q_X12_step_16 : px_bk 12 3 cX12_step 16 [(.aload_n 0, (0, 0, 0, 0, 0), 0, 0), (.iload_n 1, (0, 0, 0, 0, 0), 0, 0), (.iconst 0, (0, 0, 0, 0, 0), 0, 0)] = some 19 ∧ px_tv cX12_step 19 346 = true := by decide +kernel
theorem q_X12_step_22 : px_bk 12 3 cX12_step 22 [(.istore_n 2, (0, 0, 0, 0, 0), 0, 0), (.aload_n 0, (0, 0, 0, 0, 0), 0, 0), (.getfield 90, (12, 42, 3, 127, 0), 0, 0), (.aload_n 0, (0, 0, 0, 0, 0), 0, 0), (.getfield 337, (12, 39, 0, 0, 0), 0, 0), (.iconst 1, (0, 0, 0, 0, 0), 1, 0), (.bastore, (0, 0, 0, 0, 0), 0, 0), (.aload_n 0, (0, 0, 0, 0, 0), 0, 0)] = some 34 ∧ px_tv cX12_step 34 340 = true := by decide +kernel
theorem q_X12_step_37 : px_bk 12 3 cX12_step 37 [(.aload_n 0, (0, 0, 0, 0, 0), 0, 0)] = some 38 ∧ px_tv cX12_step 38 358 = true := by decide +kernel
theorem q_X12_step_41 : px_bk 12 3 cX12_step 41 [(.goto 107, (0, 0, 0, 0, 0), 0, 0)] = some 148 ∧ px_tr cX12_step 148 .return_ = true := by decide +kernel
theorem q_X12_step_10 : px_bk 12 3 cX12_step 10 [(.iload_n 1, (0, 0, 0, 0, 0), 0, 0), (.bipush 6, (0, 0, 0, 0, 0), 6, 0)] = some 13 ∧ px_t2 cX12_step 13 .ne 44 = true := by decide +kernel
theorem q_X12_step_44 : px_bk 12 3 cX12_step 44 [(.iload_n 1, (0, 0, 0, 0, 0), 0, 0), (.bipush 7, (0, 0, 0, 0, 0), 7, 0)] = some 47 ∧ px_t2 cX12_step 47 .ne 143 = true := by decide +kernel
theorem q_X12_step_143 : px_bk 12 3 cX12_step 143 [(.aload_n 0, (0, 0, 0, 0, 0), 0, 0), (.iload_n 1, (0, 0, 0, 0, 0), 0, 0)] = some 145 ∧ px_tv cX12_step 145 361 = true := by decide +kernel
theorem q_X12_step_148 : px_bk 12 3 cX12_step 148 [] = some 148 ∧ px_tr cX12_step 148 .return_ = true := by decide +kernel
theorem q_X12_step_50 : px_bk 12 3 cX12_step 50 [(.aload_n 0, (0, 0, 0, 0, 0), 0, 0)] = some 51 ∧ px_tv cX12_step 51 340 = true := by decide +kernel
theorem q_X12_step_54 : px_bk 12 3 cX12_step 54 [(.aload_n 0, (0, 0, 0, 0, 0), 0, 0), (.getfield 300, (12, 29, 0, 0, 0), 0, 0), (.iconst 2, (0, 0, 0, 0, 0), 2, 0)] = some 59 ∧ px_t2 cX12_step 59 .eq 70 = true := by decide +kernel
theorem q_X12_step_70 : px_bk 12 3 cX12_step 70 [(.aload_n 0, (0, 0, 0, 0, 0), 0, 0), (.getfield 81, (12, 38, 3, 124, 0), 0, 0), (.aload_n 0, (0, 0, 0, 0, 0), 0, 0), (.getfield 310, (12, 30, 0, 0, 0), 0, 0), (.iaload, (0, 0, 0, 0, 0), 0, 0)] = some 79 ∧ px_t1 cX12_step 79 .ge 87 = true := by decide +kernel
theorem q_X12_step_87 : px_bk 12 3 cX12_step 87 [(.aload_n 0, (0, 0, 0, 0, 0), 0, 0), (.getfield 322, (12, 31, 0, 0, 0), 0, 0)] = some 91 ∧ px_t1 cX12_step 91 .ne 148 = true := by decide +kernel
theorem q_X12_step_94 : px_bk 12 3 cX12_step 94 [(.aload_n 0, (0, 0, 0, 0, 0), 0, 0), (.getfield 94, (12, 43, 3, 128, 0), 0, 0), (.aload_n 0, (0, 0, 0, 0, 0), 0, 0), (.getfield 310, (12, 30, 0, 0, 0), 0, 0), (.baload, (0, 0, 0, 0, 0), 0, 0)] = some 103 ∧ px_t1 cX12_step 103 .eq 132 = true := by decide +kernel
theorem q_X12_step_132 : px_bk 12 3 cX12_step 132 [(.aload_n 0, (0, 0, 0, 0, 0), 0, 0)] = some 133 ∧ px_tv cX12_step 133 340 = true := by decide +kernel
theorem q_X12_step_136 : px_bk 12 3 cX12_step 136 [(.aload_n 0, (0, 0, 0, 0, 0), 0, 0)] = some 137 ∧ px_tv cX12_step 137 358 = true := by decide +kernel
theorem q_X12_step_140 : px_bk 12 3 cX12_step 140 [(.goto 8, (0, 0, 0, 0, 0), 0, 0)] = some 148 ∧ px_tr cX12_step 148 .return_ = true := by decide +kernel
theorem q_X12_step_106 : px_bk 12 3 cX12_step 106 [(.aload_n 0, (0, 0, 0, 0, 0), 0, 0), (.bipush 7, (0, 0, 0, 0, 0), 7, 0), (.aload_n 0, (0, 0, 0, 0, 0), 0, 0), (.getfield 81, (12, 38, 3, 124, 0), 0, 0), (.aload_n 0, (0, 0, 0, 0, 0), 0, 0), (.getfield 310, (12, 30, 0, 0, 0), 0, 0), (.iaload, (0, 0, 0, 0, 0), 0, 0)] = some 118 ∧ px_tv cX12_step 118 346 = true := by decide +kernel
theorem q_X12_step_121 : px_bk 12 3 cX12_step 121 [(.istore_n 2, (0, 0, 0, 0, 0), 0, 0), (.aload_n 0, (0, 0, 0, 0, 0), 0, 0), (.getfield 90, (12, 42, 3, 127, 0), 0, 0), (.aload_n 0, (0, 0, 0, 0, 0), 0, 0), (.getfield 337, (12, 39, 0, 0, 0), 0, 0), (.iconst 1, (0, 0, 0, 0, 0), 1, 0), (.bastore, (0, 0, 0, 0, 0), 0, 0), (.aload_n 0, (0, 0, 0, 0, 0), 0, 0)] = some 133 ∧ px_tv cX12_step 133 340 = true := by decide +kernel
theorem q_X12_step_82 : px_bk 12 3 cX12_step 82 [(.aload_n 0, (0, 0, 0, 0, 0), 0, 0), (.iconst 4, (0, 0, 0, 0, 0), 4, 0)] = some 84 ∧ px_tv cX12_step 84 334 = true := by decide +kernel
theorem q_X12_step_62 : px_bk 12 3 cX12_step 62 [(.aload_n 0, (0, 0, 0, 0, 0), 0, 0), (.iconst 1, (0, 0, 0, 0, 0), 1, 0)] = some 64 ∧ px_tv cX12_step 64 334 = true := by decide +kernel
theorem q_X12_step_67 : px_bk 12 3 cX12_step 67 [(.goto 20, (0, 0, 0, 0, 0), 0, 0), (.aload_n 0, (0, 0, 0, 0, 0), 0, 0), (.getfield 322, (12, 31, 0, 0, 0), 0, 0)] = some 91 ∧ px_t1 cX12_step 91 .ne 148 = true := by decide +kernel
set_option maxRecDepth 100000 in
theorem k_step {n : Nat} {I : px_I} {L : px_L} {R : px_R} (hg : px_G n R) (h : mPI I 0) (hs : I 103 29 = 1) (hw : ¬ I 103 30 = 0) : px_KV M_X12_step [.ref 103] n I L R (fun I2 L2 => L2 = L ∧ mPo I I2) := by
  refine px_of (plainFor_of_name np_RX12) (fun _ _ _ => trivial) rfl ?_
  have hat := h.at
  obtain ⟨hN, hop⟩ := h.N (by decide)
  have h0 := h.2.1
  obtain ⟨hk1, -, -, hk4, X, hk5⟩ := id h
  have hlt : I 103 28 < I 103 27 := hk1.2.1 (by rw [hs]; decide)
  have htd := hk1.2.2.2 hs
  have hN1 : 0 ≤ I 103 35 ∧ I 103 35 < 220 := by grind
  have hop1 : 0 ≤ I 103 39 ∧ I 103 39 < 10 := by grind
  refine px_ieq rfl q_X12_step_0 hg rfl trivial (fun c7 => ?_) (fun c7 => ?_)
  · refine px_cVS (ci := 12) rfl q_X12_step_16 hg rfl trivial lk_12_346 nm_X12_emits (k_emits hg _ _ hN1) rfl rfl (px_lit hg rfl) rfl rfl rfl ⟨rfl, rfl⟩ ?_
    intro x19 I19 L19 h19
    obtain ⟨rfl, rfl, h19⟩ := h19
    have e39 := mE_f h19 (j := 39) (by decide)
    have e35 := mE_35 h19
    have e31 := mE_f h19 (j := 31) (by decide)
    have e28 := mE_f h19 (j := 28) (by decide)
    have e27 := mE_f h19 (j := 27) (by decide)
    have e26 := mE_f h19 (j := 26) (by decide)
    have eP := mE_P h19
    refine px_cVW (ci := 12) rfl q_X12_step_22 hg rfl ⟨trivial, (by first | with_reducible assumption | (rw [e39]; with_reducible assumption))⟩ lk_12_340 nm_X12_next (k_next hg (by simpa [px_ur, e26, e27] using hat)) rfl rfl (px_lit hg rfl) rfl rfl rfl ⟨rfl, rfl⟩ ?_
    intro I34 L34 h34
    obtain ⟨rfl, g1, g2, g3⟩ := h34
    have g2 : I 103 27 ≤ I34 103 28 := by rw [px_u_ne (by decide), e27] at g2; exact g2
    have g9 := g3.b
    refine px_cVW (ci := 12) rfl q_X12_step_37 hg rfl trivial lk_12_358 nm_X12_stepIsOver (k_stepIsOver hg (mPI.nx g1 g3 (by rw [px_u_ne (by decide), e31]; exact h0) (by rw [px_u_ne (by decide), e35]; grind) (by rw [px_u_ne (by decide), e35, e39]; grind) (mSI.st (hk5.emS h19 (by grind) (by grind) (by grind)) _ _))) rfl rfl (px_lit hg rfl) rfl rfl rfl ⟨rfl, rfl⟩ ?_
    intro I38 L38 h38
    refine px_rvW rfl q_X12_step_41 rfl rfl rfl hg rfl trivial ⟨⟨rfl, rfl⟩, ?_⟩
    obtain ⟨rfl, g5, g6⟩ := h38
    exact ⟨rfl, (eP.trans ((mPF.rfl'.a 127 _ _).trans g1.P)).trans g5, g6.imp id (fun q => ⟨q.1, by have := q.2; grind⟩)⟩
  · refine px_ine rfl q_X12_step_10 hg rfl trivial (fun c13 => ?_) (fun c13 => ?_)
    · refine px_ine rfl q_X12_step_44 hg rfl trivial (fun c47 => ?_) (fun c47 => ?_)
      · refine px_cVW (ci := 12) rfl q_X12_step_143 hg rfl trivial lk_12_361 nm_X12_numbered (k_numbered hg _ h hlt (by grind)) rfl rfl (px_lit hg rfl) rfl rfl rfl ⟨rfl, rfl⟩ ?_
        intro I145 L145 h145
        refine px_rvW rfl q_X12_step_148 rfl rfl rfl hg rfl trivial ⟨⟨rfl, rfl⟩, ?_⟩
        obtain ⟨rfl, g5, g6⟩ := h145
        exact ⟨rfl, g5, g6⟩
      · refine px_cVW (ci := 12) rfl q_X12_step_50 hg rfl trivial lk_12_340 nm_X12_next (k_next hg hat) rfl rfl (px_lit hg rfl) rfl rfl rfl ⟨rfl, rfl⟩ ?_
        intro I51 L51 h51
        obtain ⟨rfl, g1, g2, g3⟩ := h51
        have h051 : I51 103 31 = 0 := (g1.f 31 (by decide)).trans h0
        have f35 := g1.f 35 (by decide)
        have f39 := g1.f 39 (by decide)
        have hN51 : 0 ≤ I51 103 35 ∧ I51 103 35 < 220 := by grind
        have hop51 : 0 ≤ I51 103 39 ∧ I51 103 39 < 10 := by grind
        have hX : mSI I51 X (I51 103 35) := by rw [f35]; exact g1.S hk5
        have hl51 : I51 103 28 ≤ I51 103 27 := g3.1.2.1
        have hat51 : 0 ≤ I51 103 27 ∧ I51 103 27 ≤ I51 103 26 ∧ I51 103 26 ≤ 400 := ⟨Int32.le_trans g3.1.1 hl51, g3.1.2.2.1, g3.1.2.2.2⟩
        have g4 : mPF I I51 := g1.P
        refine px_ieq rfl q_X12_step_54 hg rfl trivial (fun c59 => ?_) (fun c59 => ?_)
        · have htl := g3.2.2.1 (by assumption)
          have htl2 : 0 ≤ I51 103 30 ∧ I51 103 30 < 8 := by grind
          have hl52 : I51 103 28 < I51 103 27 := g3.2.1 (by rw [show I51 103 29 = 2 by assumption]; decide)
          refine px_ge rfl q_X12_step_70 hg rfl ⟨trivial, (by first | with_reducible assumption | (rw [e39]; with_reducible assumption))⟩ (fun c79 => ?_) (fun c79 => ?_)
          · refine px_ne rfl q_X12_step_87 hg rfl trivial (fun c91 => ?_) (fun c91 => ?_)
            · exact absurd h051 c91
            · refine px_eq rfl q_X12_step_94 hg rfl ⟨trivial, (by first | with_reducible assumption | (rw [e39]; with_reducible assumption))⟩ (fun c103 => ?_) (fun c103 => ?_)
              · refine px_cVW (ci := 12) rfl q_X12_step_132 hg rfl trivial lk_12_340 nm_X12_next (k_next hg (by first | exact hat51 | simpa [px_ur, e26, e27] using hat51)) rfl rfl (px_lit hg rfl) rfl rfl rfl ⟨rfl, rfl⟩ ?_
                intro I133 L133 h133
                obtain ⟨rfl, g1, g2, g3⟩ := h133
                have g9 := g3.b
                refine px_cVW (ci := 12) rfl q_X12_step_136 hg rfl trivial lk_12_358 nm_X12_stepIsOver (k_stepIsOver hg (mPI.nx g1 g3 h051 hN51.1 (by grind) ⟨X, hX⟩)) rfl rfl (px_lit hg rfl) rfl rfl rfl ⟨rfl, rfl⟩ ?_
                intro I137 L137 h137
                refine px_rvW rfl q_X12_step_140 rfl rfl rfl hg rfl trivial ⟨⟨rfl, rfl⟩, ?_⟩
                obtain ⟨rfl, g5, g6⟩ := h137
                exact ⟨rfl, (g4.trans g1.P).trans g5, g6.imp id (fun q => ⟨q.1, by have := q.2; grind⟩)⟩
              · refine px_cVS (ci := 12) rfl q_X12_step_106 hg rfl ⟨trivial, (by first | with_reducible assumption | (rw [e39]; with_reducible assumption))⟩ lk_12_346 nm_X12_emits (k_emits hg _ _ hN51) rfl rfl (px_lit hg rfl) rfl rfl rfl ⟨rfl, rfl⟩ ?_
                intro x118 I118 L118 h118
                obtain ⟨rfl, rfl, h118⟩ := h118
                have e39 := mE_f h118 (j := 39) (by decide)
                have e35 := mE_35 h118
                have e31 := mE_f h118 (j := 31) (by decide)
                have e28 := mE_f h118 (j := 28) (by decide)
                have e27 := mE_f h118 (j := 27) (by decide)
                have e26 := mE_f h118 (j := 26) (by decide)
                have eP := mE_P h118
                refine px_cVW (ci := 12) rfl q_X12_step_121 hg rfl ⟨trivial, (by first | with_reducible assumption | (rw [e39]; with_reducible assumption))⟩ lk_12_340 nm_X12_next (k_next hg (by first | exact hat51 | simpa [px_ur, e26, e27] using hat51)) rfl rfl (px_lit hg rfl) rfl rfl rfl ⟨rfl, rfl⟩ ?_
                intro I133 L133 h133
                obtain ⟨rfl, g1, g2, g3⟩ := h133
                have g2 : I51 103 27 ≤ I133 103 28 := by rw [px_u_ne (by decide), e27] at g2; exact g2
                have g9 := g3.b
                refine px_cVW (ci := 12) rfl q_X12_step_136 hg rfl trivial lk_12_358 nm_X12_stepIsOver (k_stepIsOver hg (mPI.nx g1 g3 (by rw [px_u_ne (by decide), e31]; exact h051) (by rw [px_u_ne (by decide), e35]; grind) (by rw [px_u_ne (by decide), e35, e39]; grind) (mSI.st (hX.emC h118 (by grind) ⟨by grind, by grind⟩ (by assumption)) _ _))) rfl rfl (px_lit hg rfl) rfl rfl rfl ⟨rfl, rfl⟩ ?_
                intro I137 L137 h137
                refine px_rvW rfl q_X12_step_140 rfl rfl rfl hg rfl trivial ⟨⟨rfl, rfl⟩, ?_⟩
                obtain ⟨rfl, g5, g6⟩ := h137
                exact ⟨rfl, (g4.trans (eP.trans ((mPF.rfl'.a 127 _ _).trans g1.P))).trans g5, g6.imp id (fun q => ⟨q.1, by have := q.2; grind⟩)⟩
          · refine px_cVW (ci := 12) rfl q_X12_step_82 hg rfl trivial lk_12_334 nm_X12_errs (k_errs hg _) rfl rfl (px_lit hg rfl) rfl rfl rfl ⟨rfl, rfl⟩ ?_
            intro I84 L84 h84
            obtain ⟨rfl, h84⟩ := h84
            have e9 := mErr h84 h051 (by decide)
            refine px_ne rfl q_X12_step_87 hg rfl trivial (fun c91 => ?_) (fun c91 => ?_)
            · refine px_rvW rfl q_X12_step_148 rfl rfl rfl hg rfl trivial ⟨⟨rfl, rfl⟩, ?_⟩
              exact ⟨rfl, g4.trans e9.1, Or.inl e9.2⟩
            · exact absurd c91 (by have := e9.2; grind)
        · refine px_cVW (ci := 12) rfl q_X12_step_62 hg rfl trivial lk_12_334 nm_X12_errs (k_errs hg _) rfl rfl (px_lit hg rfl) rfl rfl rfl ⟨rfl, rfl⟩ ?_
          intro I64 L64 h64
          obtain ⟨rfl, h64⟩ := h64
          have e9 := mErr h64 h051 (by decide)
          refine px_ne rfl q_X12_step_67 hg rfl trivial (fun c91 => ?_) (fun c91 => ?_)
          · refine px_rvW rfl q_X12_step_148 rfl rfl rfl hg rfl trivial ⟨⟨rfl, rfl⟩, ?_⟩
            exact ⟨rfl, g4.trans e9.1, Or.inl e9.2⟩
          · exact absurd c91 (by have := e9.2; grind)
    · refine px_cVS (ci := 12) rfl q_X12_step_16 hg rfl trivial lk_12_346 nm_X12_emits (k_emits hg _ _ hN1) rfl rfl (px_lit hg rfl) rfl rfl rfl ⟨rfl, rfl⟩ ?_
      intro x19 I19 L19 h19
      obtain ⟨rfl, rfl, h19⟩ := h19
      have e39 := mE_f h19 (j := 39) (by decide)
      have e35 := mE_35 h19
      have e31 := mE_f h19 (j := 31) (by decide)
      have e28 := mE_f h19 (j := 28) (by decide)
      have e27 := mE_f h19 (j := 27) (by decide)
      have e26 := mE_f h19 (j := 26) (by decide)
      have eP := mE_P h19
      refine px_cVW (ci := 12) rfl q_X12_step_22 hg rfl ⟨trivial, (by first | with_reducible assumption | (rw [e39]; with_reducible assumption))⟩ lk_12_340 nm_X12_next (k_next hg (by simpa [px_ur, e26, e27] using hat)) rfl rfl (px_lit hg rfl) rfl rfl rfl ⟨rfl, rfl⟩ ?_
      intro I34 L34 h34
      obtain ⟨rfl, g1, g2, g3⟩ := h34
      have g2 : I 103 27 ≤ I34 103 28 := by rw [px_u_ne (by decide), e27] at g2; exact g2
      have g9 := g3.b
      refine px_cVW (ci := 12) rfl q_X12_step_37 hg rfl trivial lk_12_358 nm_X12_stepIsOver (k_stepIsOver hg (mPI.nx g1 g3 (by rw [px_u_ne (by decide), e31]; exact h0) (by rw [px_u_ne (by decide), e35]; grind) (by rw [px_u_ne (by decide), e35, e39]; grind) (mSI.st (hk5.emS h19 (by grind) (by grind) (by grind)) _ _))) rfl rfl (px_lit hg rfl) rfl rfl rfl ⟨rfl, rfl⟩ ?_
      intro I38 L38 h38
      refine px_rvW rfl q_X12_step_41 rfl rfl rfl hg rfl trivial ⟨⟨rfl, rfl⟩, ?_⟩
      obtain ⟨rfl, g5, g6⟩ := h38
      exact ⟨rfl, (eP.trans ((mPF.rfl'.a 127 _ _).trans g1.P)).trans g5, g6.imp id (fun q => ⟨q.1, by have := q.2; grind⟩)⟩

theorem mSI.let0 {I : px_I} {X : Int32 → Prop} {fe : Int32} (h : mSI I X fe) (h0 : I 103 39 = 0) (v : Int32) : mSI (px_u I 103 71 v) X fe := by
  have e : ∀ b, b ≠ 103 → px_u I 103 71 v b = I b := fun b hb => px_u_ne hb
  have e39 : px_u I 103 71 v 103 39 = 0 := by rw [px_u_at_ne (by decide)]; exact h0
  unfold mSI at *
  rw [e 122 (by decide), e 123 (by decide), e 124 (by decide), e 125 (by decide), e 126 (by decide), e39]
  rw [h0] at h
  obtain ⟨h1, h2, h3, h4, h5, h6, h7⟩ := h
  exact ⟨h1, h2, h3, fun q q1 q2 => by grind, fun p q p1 p2 p3 => by grind, h6, h7⟩

theorem q_X12_def_0 : px_bk 12 2 cX12_def 0 [(.aload_n 0, (0, 0, 0, 0, 0), 0, 0)] = some 1 ∧ px_tv cX12_def 1 340 = true := by decide +kernel
theorem q_X12_def_4 : px_bk 12 2 cX12_def 4 [(.aload_n 0, (0, 0, 0, 0, 0), 0, 0), (.getfield 300, (12, 29, 0, 0, 0), 0, 0), (.iconst 2, (0, 0, 0, 0, 0), 2, 0)] = some 9 ∧ px_t2 cX12_def 9 .eq 20 = true := by decide +kernel
theorem q_X12_def_20 : px_bk 12 2 cX12_def 20 [(.aload_n 0, (0, 0, 0, 0, 0), 0, 0), (.getfield 81, (12, 38, 3, 124, 0), 0, 0), (.aload_n 0, (0, 0, 0, 0, 0), 0, 0), (.getfield 310, (12, 30, 0, 0, 0), 0, 0), (.iaload, (0, 0, 0, 0, 0), 0, 0)] = some 29 ∧ px_t1 cX12_def 29 .lt 37 = true := by decide +kernel
theorem q_X12_def_37 : px_bk 12 2 cX12_def 37 [(.aload_n 0, (0, 0, 0, 0, 0), 0, 0), (.getfield 322, (12, 31, 0, 0, 0), 0, 0)] = some 41 ∧ px_t1 cX12_def 41 .le 45 = true := by decide +kernel
theorem q_X12_def_45 : px_bk 12 2 cX12_def 45 [(.aload_n 0, (0, 0, 0, 0, 0), 0, 0), (.aload_n 0, (0, 0, 0, 0, 0), 0, 0), (.getfield 310, (12, 30, 0, 0, 0), 0, 0), (.putfield 343, (12, 71, 0, 0, 0), 0, 0), (.aload_n 0, (0, 0, 0, 0, 0), 0, 0)] = some 54 ∧ px_tv cX12_def 54 340 = true := by decide +kernel
theorem q_X12_def_57 : px_bk 12 2 cX12_def 57 [(.aload_n 0, (0, 0, 0, 0, 0), 0, 0), (.bipush 23, (0, 0, 0, 0, 0), 23, 0), (.iconst 0, (0, 0, 0, 0, 0), 0, 0)] = some 61 ∧ px_tv cX12_def 61 346 = true := by decide +kernel
theorem q_X12_def_64 : px_bk 12 2 cX12_def 64 [(.istore_n 1, (0, 0, 0, 0, 0), 0, 0), (.aload_n 0, (0, 0, 0, 0, 0), 0, 0), (.iconst 1, (0, 0, 0, 0, 0), 1, 0), (.iload_n 1, (0, 0, 0, 0, 0), 0, 0)] = some 68 ∧ px_tv cX12_def 68 350 = true := by decide +kernel
theorem q_X12_def_71 : px_bk 12 2 cX12_def 71 [] = some 71 ∧ px_tr cX12_def 71 .return_ = true := by decide +kernel
theorem q_X12_def_32 : px_bk 12 2 cX12_def 32 [(.aload_n 0, (0, 0, 0, 0, 0), 0, 0), (.iconst 4, (0, 0, 0, 0, 0), 4, 0)] = some 34 ∧ px_tv cX12_def 34 334 = true := by decide +kernel
theorem q_X12_def_44 : px_bk 12 2 cX12_def 44 [] = some 44 ∧ px_tr cX12_def 44 .return_ = true := by decide +kernel
theorem q_X12_def_12 : px_bk 12 2 cX12_def 12 [(.aload_n 0, (0, 0, 0, 0, 0), 0, 0), (.iconst 1, (0, 0, 0, 0, 0), 1, 0)] = some 14 ∧ px_tv cX12_def 14 334 = true := by decide +kernel
theorem q_X12_def_17 : px_bk 12 2 cX12_def 17 [(.goto 20, (0, 0, 0, 0, 0), 0, 0), (.aload_n 0, (0, 0, 0, 0, 0), 0, 0), (.getfield 322, (12, 31, 0, 0, 0), 0, 0)] = some 41 ∧ px_t1 cX12_def 41 .le 45 = true := by decide +kernel
set_option maxRecDepth 100000 in
theorem k_def {n : Nat} {I : px_I} {L : px_L} {R : px_R} (hg : px_G n R) (h : mPI I 0) (hlt : I 103 28 < I 103 27) (hz : I 103 39 = 0) : px_KV M_X12_def [.ref 103] n I L R (fun I2 L2 => L2 = L ∧ mPo I I2) := by
  refine px_of (plainFor_of_name np_RX12) (fun _ _ _ => trivial) rfl ?_
  have hat := h.at
  obtain ⟨hN, hop⟩ := h.N (by decide)
  have h0 := h.2.1
  obtain ⟨hk1, -, -, hk4, X, hk5⟩ := id h
  refine px_cVW (ci := 12) rfl q_X12_def_0 hg rfl trivial lk_12_340 nm_X12_next (k_next hg hat) rfl rfl (px_lit hg rfl) rfl rfl rfl ⟨rfl, rfl⟩ ?_
  intro I1 L1 h1
  obtain ⟨rfl, g1, g2, g3⟩ := h1
  have h01 : I1 103 31 = 0 := (g1.f 31 (by decide)).trans h0
  have f35 := g1.f 35 (by decide)
  have f39 := (g1.f 39 (by decide)).trans hz
  have hX : mSI I1 X (I1 103 35) := by rw [f35]; exact g1.S hk5
  have hl1 : I1 103 28 ≤ I1 103 27 := g3.1.2.1
  have hat1 : 0 ≤ I1 103 27 ∧ I1 103 27 ≤ I1 103 26 ∧ I1 103 26 ≤ 400 := ⟨Int32.le_trans g3.1.1 hl1, g3.1.2.2.1, g3.1.2.2.2⟩
  have g4 : mPF I I1 := g1.P
  refine px_ieq rfl q_X12_def_4 hg rfl trivial (fun c9 => ?_) (fun c9 => ?_)
  · have htl := g3.2.2.1 (by assumption)
    have htl2 : 0 ≤ I1 103 30 ∧ I1 103 30 < 8 := by grind
    have hl52 : I1 103 28 < I1 103 27 := g3.2.1 (by rw [show I1 103 29 = 2 by assumption]; decide)
    refine px_lt rfl q_X12_def_20 hg rfl ⟨trivial, (by with_reducible assumption)⟩ (fun c29 => ?_) (fun c29 => ?_)
    · refine px_le rfl q_X12_def_37 hg rfl trivial (fun c41 => ?_) (fun c41 => ?_)
      · refine px_cVW (ci := 12) rfl q_X12_def_45 hg rfl trivial lk_12_340 nm_X12_next (k_next hg (by simpa [px_ur] using hat1)) rfl rfl (px_lit hg rfl) rfl rfl rfl ⟨rfl, rfl⟩ ?_
        intro I54 L54 h54
        obtain ⟨rfl, k1, k2, k3⟩ := h54
        have k2 : I1 103 27 ≤ I54 103 28 := by simpa [px_ur] using k2
        have d39 : I54 103 39 = 0 := by rw [k1.f 39 (by decide), px_u_at_ne (by decide)]; exact f39
        have d35 : I54 103 35 = I1 103 35 := by rw [k1.f 35 (by decide), px_u_at_ne (by decide)]
        have d31 : I54 103 31 = 0 := by rw [k1.f 31 (by decide), px_u_at_ne (by decide)]; exact h01
        have d71 : I54 103 71 = I1 103 30 := by rw [k1.f 71 (by decide), px_u_at]
        have d124 : I54 124 = I1 124 := by rw [k1.o 124 (by decide), px_u_ne (by decide)]
        have hN54 : 0 ≤ I54 103 35 ∧ I54 103 35 < 220 := by grind
        have hX54 : mSI I54 X (I54 103 35) := by rw [d35]; exact k1.S (hX.let0 f39 _)
        have k4 : mPF I1 I54 := (mPF.rfl'.u 71 _).trans k1.P
        have k9 := k3.b
        refine px_cVS (ci := 12) rfl q_X12_def_57 hg rfl trivial lk_12_346 nm_X12_emits (k_emits hg _ _ hN54) rfl rfl (px_lit hg rfl) rfl rfl rfl ⟨rfl, rfl⟩ ?_
        intro x61 I61 L61 h61
        obtain ⟨rfl, rfl, h61⟩ := h61
        have e39 := mE_f h61 (j := 39) (by decide)
        have e35 := mE_35 h61
        have e31 := mE_f h61 (j := 31) (by decide)
        have e28 := mE_f h61 (j := 28) (by decide)
        have e27 := mE_f h61 (j := 27) (by decide)
        have e26 := mE_f h61 (j := 26) (by decide)
        have eP := mE_P h61
        refine px_cVW (ci := 12) rfl q_X12_def_64 hg rfl trivial lk_12_350 nm_X12_opens (k_opens hg 1 (I54 103 35) (by unfold mTk at *; rw [mE_f h61 (j := 29) (by decide), mE_f h61 (j := 30) (by decide), e26, e27, e28]; exact k3) (by rw [e31]; exact d31) ⟨by rw [e35], hN54.1⟩ (by rw [e35, e39, e28]; grind) ⟨X, hX54.em h61 rfl⟩ (fun _ => ⟨by rw [e39]; exact d39, mE_122 h61, by rw [mE_f h61 (j := 71) (by decide), d71]; exact htl, by rw [mE_f h61 (j := 71) (by decide), d71, mE_b h61 (b := 124) (by decide) (by decide) (by decide), d124]; assumption⟩)) rfl rfl (px_lit hg rfl) rfl rfl rfl ⟨rfl, rfl⟩ ?_
        intro I68 L68 h68
        refine px_rvW rfl q_X12_def_71 rfl rfl rfl hg rfl trivial ⟨⟨rfl, rfl⟩, ?_⟩
        obtain ⟨rfl, g5, g6⟩ := h68
        exact ⟨rfl, (g4.trans (k4.trans eP)).trans g5, g6.imp id (fun q => ⟨q.1, by have := q.2; grind⟩)⟩
      · exact absurd c41 (by rw [h01]; decide)
    · refine px_cVW (ci := 12) rfl q_X12_def_32 hg rfl trivial lk_12_334 nm_X12_errs (k_errs hg _) rfl rfl (px_lit hg rfl) rfl rfl rfl ⟨rfl, rfl⟩ ?_
      intro I34 L34 h34
      obtain ⟨rfl, h34⟩ := h34
      have e9 := mErr h34 h01 (by decide)
      refine px_le rfl q_X12_def_37 hg rfl trivial (fun c41 => ?_) (fun c41 => ?_)
      · exact absurd c41 (by have := e9.2; grind)
      · refine px_rvW rfl q_X12_def_44 rfl rfl rfl hg rfl trivial ⟨⟨rfl, rfl⟩, ?_⟩
        exact ⟨rfl, g4.trans e9.1, Or.inl e9.2⟩
  · refine px_cVW (ci := 12) rfl q_X12_def_12 hg rfl trivial lk_12_334 nm_X12_errs (k_errs hg _) rfl rfl (px_lit hg rfl) rfl rfl rfl ⟨rfl, rfl⟩ ?_
    intro I14 L14 h14
    obtain ⟨rfl, h14⟩ := h14
    have e9 := mErr h14 h01 (by decide)
    refine px_le rfl q_X12_def_17 hg rfl trivial (fun c41 => ?_) (fun c41 => ?_)
    · exact absurd c41 (by have := e9.2; grind)
    · refine px_rvW rfl q_X12_def_44 rfl rfl rfl hg rfl trivial ⟨⟨rfl, rfl⟩, ?_⟩
      exact ⟨rfl, g4.trans e9.1, Or.inl e9.2⟩
