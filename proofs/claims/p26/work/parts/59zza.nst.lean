/-! the steps that are read, and the stretches of the reference's orders that come to them -/
abbrev zL := List (Int32 × Int32)
abbrev zG := (Int32 → zL) × (Int32 → zL) × (Int32 → Int32)
def gAd (g : Int32 → zL) (d : Int32) (zs : zL) : Int32 → zL := fun k => if k = d then g k ++ zs else g k
def gN (g : Int32 → zL) (d : Int32) : Int32 → zL := fun k => if k = d then [] else g k
def gLt (b : Int32 → zL) (l : Int32) (zs : zL) : Int32 → zL := fun k => if k = l then zs else b k
def gT (t : Int32 → Int32) (d x : Int32) : Int32 → Int32 := fun k => if k = d then x else t k
theorem gAd_at {g : Int32 → zL} {d : Int32} {zs : zL} : gAd g d zs d = g d ++ zs := if_pos rfl
theorem gAd_ne {g : Int32 → zL} {d k : Int32} {zs : zL} (h : k ≠ d) : gAd g d zs k = g k := if_neg h
theorem gN_at {g : Int32 → zL} {d : Int32} : gN g d d = [] := if_pos rfl
theorem gN_ne {g : Int32 → zL} {d k : Int32} (h : k ≠ d) : gN g d k = g k := if_neg h
theorem gAd_nil {g : Int32 → zL} {d : Int32} : gAd g d [] = g := funext fun k => by
  unfold gAd
  by_cases e : k = d
  · rw [if_pos e, List.append_nil]
  · rw [if_neg e]
def zgW (B : Nat → Int32) (n p : Nat) (d : Int32) (G : zG) : zG :=
  if tV B n p = 0 then (gN G.1 (d + 1), G.2.1, gT G.2.2 (d + 1) 1)
  else if tV B n p = 7 then (gAd G.1 d (G.2.1 (tV B n (tE B n p))), G.2)
  else if tV B n p = 5 ∨ tV B n p = 6 then (gAd G.1 d [(tV B n p, 0)], G.2)
  else if tV B n p = 8 then (gN G.1 (d + 1), G.2.1, gT G.2.2 (d + 1) (tV B n (tE B n p)))
  else (gAd G.1 d [(tV B n p, tV B n (tE B n p))], G.2)
def zgC (d o : Int32) (G : zG) : zG := if d = 1 ∧ ¬ o = -1 then (G.1, gLt G.2.1 o (G.1 1), G.2.2) else (gAd G.1 (d - 1) (rp (G.2.2 d).toNatClampNeg (G.1 d)), G.2)
/-- what one part adds -/
def zg (B : Nat → Int32) (n p : Nat) (d o : Int32) (G : zG) : zG := if tK B n p = 4 then zgC d o G else zgW B n p d G
def zgrun (B : Nat → Int32) (n : Nat) : Nat → zS → zG → zR × zG
  | 0, s, G => ((-1, 0, s), G)
  | f + 1, s, G => if (zIt B n s).1 = -1 then zgrun B n f (zIt B n s).2.2 (zg B n s.1 s.2.1 s.2.2.1 G) else (zIt B n s, G)
def ZG (B : Nat → Int32) (n : Nat) (s : zS) (G : zG) (r : zR) (H : zG) : Prop := ¬ r.1 = -1 ∧ ∃ f, zgrun B n f s G = (r, H)
theorem ZG.one {B : Nat → Int32} {n : Nat} {s : zS} {G : zG} (h : ¬ (zIt B n s).1 = -1) : ZG B n s G (zIt B n s) G := ⟨h, 1, if_neg h⟩
theorem ZG.step {B : Nat → Int32} {n : Nat} {s : zS} {G H : zG} {r : zR} (h : (zIt B n s).1 = -1) (hr : ZG B n (zIt B n s).2.2 (zg B n s.1 s.2.1 s.2.2.1 G) r H) : ZG B n s G r H := by
  obtain ⟨h1, f, h2⟩ := hr
  exact ⟨h1, f + 1, (if_pos h).trans h2⟩
theorem zgrun_more {B : Nat → Int32} {n : Nat} {r : zR} {H : zG} (hr : ¬ r.1 = -1) : ∀ (f : Nat) (s : zS) (G : zG), zgrun B n f s G = (r, H) → ∀ g, zgrun B n (f + g) s G = (r, H) := by
  intro f
  induction f with
  | zero => intro s G h g; exact absurd (show r.1 = -1 from (congrArg (fun z => z.1.1) h).symm) hr
  | succ f ih =>
    intro s G h g
    rw [show f + 1 + g = (f + g) + 1 by omega]
    unfold zgrun at h ⊢
    by_cases c : (zIt B n s).1 = -1
    · rw [if_pos c] at h ⊢
      exact ih _ _ h g
    · rw [if_neg c] at h ⊢
      exact h
theorem ZG.det {B : Nat → Int32} {n : Nat} {s : zS} {G H H' : zG} {r r' : zR} (h : ZG B n s G r H) (h' : ZG B n s G r' H') : r = r' ∧ H = H' := by
  obtain ⟨h1, f, h2⟩ := h
  obtain ⟨h3, g, h4⟩ := h'
  have a := zgrun_more h1 f s G h2 g
  have b := zgrun_more h3 g s G h4 f
  rw [Nat.add_comm] at b
  have e := a.symm.trans b
  exact ⟨congrArg Prod.fst e, congrArg Prod.snd e⟩
theorem rp_nil {ys : zL} {m : Nat} (h : 1 ≤ m) : rp m ys = [] ↔ ys = [] := by
  cases m with
  | zero => omega
  | succ m =>
    constructor
    · intro z
      have z2 : ys ++ rp m ys = [] := z
      exact (List.append_eq_nil_iff.mp z2).1
    · intro z
      subst z
      have : ∀ k, rp k ([] : zL) = [] := fun k => by
        induction k with
        | zero => rfl
        | succ k ih => show [] ++ rp k [] = []; rw [ih]; rfl
      exact this _
theorem mRx.nil {X : Int32 → Prop} {o v : Int32 → Int32} {s i : Int32} (h : 0 ≤ s) : mRx X o v s i i [] := fun P r0 _ _ _ _ => r0 s i h
theorem mRx.step {X : Int32 → Prop} {o v : Int32 → Int32} {s i j : Int32} {xs : zL} (h : mRx X o v s i j xs) (hX : X j) (h1 : 1 ≤ o j) (h2 : o j ≤ 6) : mRx X o v s i (j + 1) (xs ++ [(o j, v j)]) := fun P r0 r1 r2 r3 r4 => r1 s i j xs (h P r0 r1 r2 r3 r4) hX h1 h2
theorem mRx.skip {X : Int32 → Prop} {o v : Int32 → Int32} {s i j : Int32} {xs : zL} (h : mRx X o v s i j xs) (hX : X j) (h1 : o j = 23) : mRx X o v s i (v j) xs := fun P r0 r1 r2 r3 r4 => r2 s i j xs (h P r0 r1 r2 r3 r4) hX h1
theorem mRx.call {X : Int32 → Prop} {o v : Int32 → Int32} {s i j t e : Int32} {xs ys : zL} (h : mRx X o v s i j xs) (hX : X j) (h1 : o j = 7) (h2 : 0 ≤ t) (h3 : t < s) (hb : mRx X o v t (v j) e ys) (he : X e) (h4 : o e = 21) : mRx X o v s i (j + 1) (xs ++ ys) := fun P r0 r1 r2 r3 r4 => r3 s i j t e xs ys (h P r0 r1 r2 r3 r4) hX h1 h2 h3 (hb P r0 r1 r2 r3 r4) he h4
theorem mRx.rep {X : Int32 → Prop} {o v : Int32 → Int32} {s i j t e : Int32} {xs ys : zL} (h : mRx X o v s i j xs) (hX : X j) (h1 : o j = 8) (h2 : 0 ≤ t) (h3 : t < s) (hb : mRx X o v t (j + 1) e ys) (he : X e) (h4 : o e = 20) (h5 : v e = j + 1) (h6 : 1 ≤ v j ∧ v j ≤ 99) : mRx X o v s i (e + 1) (xs ++ rp (v j).toNatClampNeg ys) := fun P r0 r1 r2 r3 r4 => r4 s i j t e xs ys (h P r0 r1 r2 r3 r4) hX h1 h2 h3 (hb P r0 r1 r2 r3 r4) he h4 h5 h6
theorem mRx.cg {X X2 : Int32 → Prop} {o v o2 v2 : Int32 → Int32} {s i j : Int32} {zs : zL} (hc : ∀ j, X j → X2 j ∧ o2 j = o j ∧ v2 j = v j) (h : mRx X o v s i j zs) : mRx X2 o2 v2 s i j zs := by
  refine h (fun s i j zs => mRx X2 o2 v2 s i j zs) (fun s i h => mRx.nil h) (fun s i j xs hP hj h1 h2 => ?_) (fun s i j xs hP hj h1 => ?_) (fun s i j t e xs ys hP hj h1 h2 h3 hB he h4 => ?_) (fun s i j t e xs ys hP hj h1 h2 h3 hB he h4 h5 h6 => ?_)
  · obtain ⟨c1, c2, c3⟩ := hc j hj
    have z := hP.step c1 (by rw [c2]; exact h1) (by rw [c2]; exact h2)
    rw [c2, c3] at z
    exact z
  · obtain ⟨c1, c2, c3⟩ := hc j hj
    have z := hP.skip c1 (by rw [c2]; exact h1)
    rw [c3] at z
    exact z
  · obtain ⟨c1, c2, c3⟩ := hc j hj
    obtain ⟨d1, d2, d3⟩ := hc e he
    exact hP.call c1 (by rw [c2]; exact h1) h2 h3 (by rw [c3]; exact hB) d1 (by rw [d2]; exact h4)
  · obtain ⟨c1, c2, c3⟩ := hc j hj
    obtain ⟨d1, d2, d3⟩ := hc e he
    have z := hP.rep c1 (by rw [c2]; exact h1) h2 h3 hB d1 (by rw [d2]; exact h4) (by rw [d3]; exact h5) (by rw [c3]; exact h6)
    rw [c3] at z
    exact z
theorem mRx.up {X : Int32 → Prop} {o v : Int32 → Int32} {s i j : Int32} {zs : zL} (h : mRx X o v s i j zs) : ∀ {s2 : Int32}, s ≤ s2 → mRx X o v s2 i j zs := by
  refine h (fun s i j zs => ∀ {s2 : Int32}, s ≤ s2 → mRx X o v s2 i j zs) (fun s i h s2 hs => mRx.nil (Int32.le_trans h hs)) (fun s i j xs hP hj h1 h2 s2 hs => (hP hs).step hj h1 h2) (fun s i j xs hP hj h1 s2 hs => (hP hs).skip hj h1) (fun s i j t e xs ys hP hj h1 h2 h3 hB he h4 s2 hs => (hP hs).call hj h1 h2 (Int32.lt_of_lt_of_le h3 hs) (hB (Int32.le_refl t)) he h4) (fun s i j t e xs ys hP hj h1 h2 h3 hB he h4 h5 h6 s2 hs => (hP hs).rep hj h1 h2 (Int32.lt_of_lt_of_le h3 hs) (hB (Int32.le_refl t)) he h4 h5 h6)
/-- what has been read so far: open blocks and their places, letters, and their steps -/
def nSt (o v dA oD oA sb db : Int32 → Int32) (op lt : Int32) (X : Int32 → Prop) (fe : Int32) (g b : Int32 → zL) (t : Int32 → Int32) : Prop :=
  (0 ≤ op ∧ op ≤ 8) ∧ (0 ≤ fe ∧ fe ≤ 210) ∧ (∀ j, X j → 0 ≤ j ∧ j < fe) ∧
  (∀ q, 0 ≤ q → q < op → (0 ≤ oA q ∧ oA q < fe) ∧ ¬ X (oA q) ∧ (oD q = 1 → q = 0 ∧ o (oA q) = 23 ∧ (0 ≤ lt ∧ lt ≤ 7) ∧ dA lt < 0) ∧ (¬ oD q = 1 → v (oA q) = t (q + 1) ∧ 1 ≤ t (q + 1) ∧ t (q + 1) ≤ 99)) ∧
  (∀ p q, 0 ≤ p → p < q → q < op → oA p ≠ oA q) ∧
  (∀ q, 0 ≤ q → q ≤ op → (1 ≤ q → (sb q = 0 ∨ sb q = 1) ∧ (sb q = 0 ↔ g q = [])) ∧ mRx X o v (9 - q + 8 * mNd dA) (if q = 0 then 0 else oA (q - 1) + 1) (if q = op then fe else oA q) (g q)) ∧
  (∀ l, 0 ≤ l → l ≤ 7 → 0 ≤ dA l → (db l = 0 ↔ b l = []) ∧ ∃ e, X e ∧ o e = 21 ∧ mRx X o v (8 * mNd dA) (dA l) e (b l))
theorem nSt.emit {o v o2 v2 dA oD oA sb db : Int32 → Int32} {op lt fe : Int32} {X : Int32 → Prop} {g b : Int32 → zL} {t : Int32 → Int32} (h : nSt o v dA oD oA sb db op lt X fe g b t) (ho : ∀ j, 0 ≤ j → j < fe → o2 j = o j ∧ v2 j = v j) : nSt o2 v2 dA oD oA sb db op lt X fe g b t := by
  obtain ⟨h1, h2, h3, h4, h5, h6, h7⟩ := h
  have hc : ∀ j, X j → X j ∧ o2 j = o j ∧ v2 j = v j := fun j hj => ⟨hj, ho j (h3 j hj).1 (h3 j hj).2⟩
  refine ⟨h1, h2, h3, fun q q1 q2 => ?_, h5, fun q q1 q2 => ⟨(h6 q q1 q2).1, (h6 q q1 q2).2.cg hc⟩, fun l l1 l2 l3 => ?_⟩
  · obtain ⟨a1, a2, a3, a4⟩ := h4 q q1 q2
    exact ⟨a1, a2, fun hd => by rw [(ho _ a1.1 a1.2).1]; exact a3 hd, fun hd => by rw [(ho _ a1.1 a1.2).2]; exact a4 hd⟩
  · obtain ⟨e0, e, e1, e2, e3⟩ := h7 l l1 l2 l3
    exact ⟨e0, e, e1, by rw [(hc e e1).2.1]; exact e2, e3.cg hc⟩
theorem nSt.grow {o v dA oD oA sb sb2 db : Int32 → Int32} {op lt fe : Int32} {X : Int32 → Prop} {g g2 b : Int32 → zL} {t : Int32 → Int32} (h : nSt o v dA oD oA sb db op lt X fe g b t) (hf : fe < 210) (hg : ∀ q, q ≠ op → g2 q = g q) (hs : ∀ q, 0 ≤ q → q < op → sb2 q = sb q) (hs2 : (sb2 op = 0 ∨ sb2 op = 1) ∧ (sb2 op = 0 ↔ g2 op = [])) (hr : ∀ s i, 8 * mNd dA < s → mRx (fun j => X j ∨ j = fe) o v s i fe (g op) → mRx (fun j => X j ∨ j = fe) o v s i (fe + 1) (g2 op)) : nSt o v dA oD oA sb2 db op lt (fun j => X j ∨ j = fe) (fe + 1) g2 b t := by
  obtain ⟨h1, h2, h3, h4, h5, h6, h7⟩ := h
  have hc : ∀ j, X j → (X j ∨ j = fe) ∧ o j = o j ∧ v j = v j := fun j hj => ⟨Or.inl hj, rfl, rfl⟩
  have hn := mNd_in dA
  refine ⟨h1, ⟨by grind, by grind⟩, fun j hj => ?_, fun q q1 q2 => ?_, h5, fun q q1 q2 => ?_, fun l l1 l2 l3 => ?_⟩
  · rcases hj with hj | rfl
    · have := h3 j hj; grind
    · grind
  · obtain ⟨a1, a2, a3⟩ := h4 q q1 q2
    exact ⟨⟨a1.1, by grind⟩, fun hx => by rcases hx with hx | hx; exact a2 hx; grind, a3⟩
  · by_cases hq : q = op
    · have h8 := (h6 q q1 q2).2.cg hc
      rw [if_pos hq] at h8 ⊢
      rw [hq] at h8 ⊢
      exact ⟨fun _ => hs2, hr _ _ (by grind) h8⟩
    · have h8 := (h6 q q1 q2).2.cg hc
      rw [if_neg hq] at h8 ⊢
      rw [hg q hq, hs q q1 (by grind)]
      exact ⟨(h6 q q1 q2).1, h8⟩
  · obtain ⟨e0, e, e1, e2, e3⟩ := h7 l l1 l2 l3
    exact ⟨e0, e, Or.inl e1, e2, e3.cg hc⟩
theorem nSt.stp {o v dA oD oA sb sb2 db : Int32 → Int32} {op lt fe w x : Int32} {X : Int32 → Prop} {g b : Int32 → zL} {t : Int32 → Int32} (h : nSt o v dA oD oA sb db op lt X fe g b t) (hf : fe < 210) (h1 : 1 ≤ w ∧ w ≤ 6) (ho : o fe = w) (hv : v fe = x) (hs : ∀ q, 0 ≤ q → q < op → sb2 q = sb q) (hs2 : sb2 op = 1) : nSt o v dA oD oA sb2 db op lt (fun j => X j ∨ j = fe) (fe + 1) (gAd g op [(w, x)]) b t := by
  refine h.grow hf (fun q hq => gAd_ne hq) hs ⟨Or.inr hs2, fun z => absurd (hs2.symm.trans z) (by decide), fun z => ?_⟩ (fun s i _ hm => ?_)
  · rw [gAd_at] at z
    exact absurd (List.append_eq_nil_iff.mp z).2 (fun q => by cases q)
  · have z := hm.step (Or.inr rfl) (by rw [ho]; exact h1.1) (by rw [ho]; exact h1.2)
    rw [ho, hv] at z
    rw [gAd_at]
    exact z
theorem nSt.cal {o v dA oD oA sb sb2 db : Int32 → Int32} {op lt fe l : Int32} {X : Int32 → Prop} {g b : Int32 → zL} {t : Int32 → Int32} (h : nSt o v dA oD oA sb db op lt X fe g b t) (hf : fe < 210) (h1 : o fe = 7) (h2 : v fe = dA l) (hl : 0 ≤ l ∧ l ≤ 7) (hd : 0 ≤ dA l) (hb : ¬ db l = 0) (hs : ∀ q, 0 ≤ q → q < op → sb2 q = sb q) (hs2 : sb2 op = 1) : nSt o v dA oD oA sb2 db op lt (fun j => X j ∨ j = fe) (fe + 1) (gAd g op (b l)) b t := by
  obtain ⟨e0, e, e1, e2, e3⟩ := h.2.2.2.2.2.2 l hl.1 hl.2 hd
  have hn := mNd_in dA
  refine h.grow hf (fun q hq => gAd_ne hq) hs ⟨Or.inr hs2, fun z => absurd (hs2.symm.trans z) (by decide), fun z => ?_⟩ (fun s i hs hm => ?_)
  · rw [gAd_at] at z
    exact absurd (e0.mpr (List.append_eq_nil_iff.mp z).2) hb
  · rw [gAd_at]
    exact hm.call (Or.inr rfl) h1 (by grind) hs (by rw [h2]; exact e3.cg (fun j hj => ⟨Or.inl hj, rfl, rfl⟩)) (Or.inl e1) e2
theorem nSt.opn {o v dA oD oA oD2 oA2 sb sb2 db : Int32 → Int32} {op lt lt2 fe x : Int32} {X : Int32 → Prop} {g b : Int32 → zL} {t : Int32 → Int32} (h : nSt o v dA oD oA sb db op lt X fe g b t) (hf : fe < 210) (h8 : op < 8) (hD : ∀ q, 0 ≤ q → q < op → oD2 q = oD q ∧ oA2 q = oA q) (hA : oA2 op = fe) (hd : oD2 op = 1 → op = 0 ∧ o fe = 23 ∧ (0 ≤ lt2 ∧ lt2 ≤ 7) ∧ dA lt2 < 0) (hl : op ≠ 0 → lt2 = lt) (hv : ¬ oD2 op = 1 → v fe = x ∧ 1 ≤ x ∧ x ≤ 99) (hs : ∀ q, 0 ≤ q → q ≤ op → sb2 q = sb q) (hs2 : sb2 (op + 1) = 0) : nSt o v dA oD2 oA2 sb2 db (op + 1) lt2 X (fe + 1) (gN g (op + 1)) b (gT t (op + 1) x) := by
  obtain ⟨h1, h2, h3, h4, h5, h6, h7⟩ := h
  have hn := mNd_in dA
  refine ⟨⟨by grind, by grind⟩, ⟨by grind, by grind⟩, fun j hj => ?_, fun q q1 q2 => ?_, fun p q p1 p2 p3 => ?_, fun q q1 q2 => ?_, h7⟩
  · have := h3 j hj; grind
  · by_cases hq : q = op
    · subst hq
      rw [hA]
      have e1 : gT t (q + 1) x (q + 1) = x := if_pos rfl
      rw [e1]
      exact ⟨⟨h2.1, by grind⟩, fun hx => by have := h3 _ hx; grind, hd, hv⟩
    · have q3 : q < op := by grind
      obtain ⟨a1, a2, a3, a4⟩ := h4 q q1 q3
      have e1 : gT t (op + 1) x (q + 1) = t (q + 1) := if_neg (by grind)
      rw [(hD q q1 q3).2, (hD q q1 q3).1, e1]
      refine ⟨⟨a1.1, by grind⟩, a2, fun hd1 => ?_, a4⟩
      have hl2 := hl (by grind)
      subst hl2
      exact a3 hd1
  · by_cases hq : q = op
    · subst hq
      have a := h4 p p1 p2
      rw [hA, (hD p p1 p2).2]
      exact fun he => by grind
    · have q3 : q < op := by grind
      rw [(hD q (by grind) q3).2, (hD p p1 (by grind)).2]
      exact h5 p q p1 p2 q3
  · by_cases hq : q = op + 1
    · rw [if_pos hq, if_neg (by grind)]
      have e1 : q - 1 = op := by grind
      rw [e1, hA, hq, gN_at]
      exact ⟨fun _ => ⟨Or.inl hs2, fun _ => rfl, fun _ => hs2⟩, mRx.nil (by grind)⟩
    · rw [if_neg hq]
      have q3 : q ≤ op := by grind
      have h9 := h6 q q1 q3
      have e1 : (if q = 0 then 0 else oA2 (q - 1) + 1) = (if q = 0 then 0 else oA (q - 1) + 1) := by
        by_cases hq0 : q = 0
        · rw [if_pos hq0, if_pos hq0]
        · rw [if_neg hq0, if_neg hq0, (hD (q - 1) (by grind) (by grind)).2]
      have e2 : oA2 q = (if q = op then fe else oA q) := by
        by_cases hq2 : q = op
        · rw [if_pos hq2, hq2, hA]
        · rw [if_neg hq2, (hD q q1 (by grind)).2]
      rw [e1, e2, gN_ne hq, hs q q1 q3]
      exact h9
theorem nSt.clR {o v o2 v2 dA oD oA sb sb2 db : Int32 → Int32} {op lt fe w : Int32} {X : Int32 → Prop} {g b : Int32 → zL} {t : Int32 → Int32} (h : nSt o v dA oD oA sb db op lt X fe g b t) (hf : fe < 210) (h0 : 0 < op) (hw : w = oA (op - 1)) (hd : ¬ oD (op - 1) = 1) (ho : ∀ j, 0 ≤ j → j < fe → j ≠ w → o2 j = o j ∧ v2 j = v j) (h20 : o2 fe = 20) (hv : v2 fe = w + 1) (hk : (¬ sb op = 0 ∧ o2 w = 8 ∧ v2 w = v w) ∨ (sb op = 0 ∧ o2 w = 23 ∧ v2 w = fe + 1)) (hs : ∀ q, 0 ≤ q → q < op - 1 → sb2 q = sb q) (hs2 : (sb2 (op - 1) = 0 ∨ sb2 (op - 1) = 1) ∧ (sb2 (op - 1) = 0 ↔ sb (op - 1) = 0 ∧ sb op = 0)) : nSt o2 v2 dA oD oA sb2 db (op - 1) lt (fun j => (X j ∨ j = w) ∨ j = fe) (fe + 1) (gAd g (op - 1) (rp (t op).toNatClampNeg (g op))) b t := by
  obtain ⟨h1, h2, h3, h4, h5, h6, h7⟩ := h
  have hn := mNd_in dA
  have eop : op - 1 + 1 = op := by grind
  obtain ⟨w1, w2, -, w3⟩ := h4 (op - 1) (by grind) (by grind)
  replace w3 := w3 hd
  rw [← hw, eop] at w3
  rw [← hw] at w1 w2
  have hsb := (h6 op (by grind) (by grind)).1 (by grind)
  have t1 : 1 ≤ (t op).toNatClampNeg := by
    have := xnat (show 0 ≤ t op by have := w3.2.1; grind)
    have q := Int32.le_iff_toInt_le.mp w3.2.1
    rw [show (1 : Int32).toInt = 1 by decide] at q
    omega
  have hc : ∀ j, X j → ((X j ∨ j = w) ∨ j = fe) ∧ o2 j = o j ∧ v2 j = v j := fun j hj => ⟨Or.inl (Or.inl hj), ho j (h3 j hj).1 (h3 j hj).2 (fun e => w2 (e ▸ hj))⟩
  refine ⟨⟨by grind, by grind⟩, ⟨by grind, by grind⟩, fun j hj => ?_, fun q q1 q2 => ?_, fun p q p1 p2 p3 => h5 p q p1 p2 (by grind), fun q q1 q2 => ?_, fun l l1 l2 l3 => ?_⟩
  · rcases hj with (hj | rfl) | rfl
    · have := h3 j hj; grind
    · grind
    · grind
  · obtain ⟨a1, a2, a3, a5⟩ := h4 q q1 (by grind)
    have a4 : oA q ≠ w := by rw [hw]; exact h5 q (op - 1) q1 q2 (by grind)
    refine ⟨⟨a1.1, by grind⟩, fun hx => ?_, fun hd => by rw [(ho _ a1.1 a1.2 a4).1]; exact a3 hd, fun hd => by rw [(ho _ a1.1 a1.2 a4).2]; exact a5 hd⟩
    rcases hx with (hx | hx) | hx
    · exact a2 hx
    · exact a4 hx
    · grind
  · by_cases hq : q = op - 1
    · rw [if_pos hq]
      have h7 := h6 q q1 (by grind)
      have h8 := h7.2.cg hc
      rw [hq, if_neg (px_m1 op), ← hw] at h8
      rw [hq] at h7
      rw [hq, gAd_at]
      refine ⟨fun z => ⟨hs2.1, ?_⟩, ?_⟩
      · rw [hs2.2, (h7.1 z).2, hsb.2, List.append_eq_nil_iff, rp_nil t1]
      · rcases hk with ⟨hk1, hk2, hk3⟩ | ⟨hk1, hk2, hk3⟩
        · have h9 := (h6 op (by grind) (by grind)).2.cg hc
          rw [if_pos rfl, if_neg (px_m3 h0), ← hw] at h9
          have z := h8.rep (Or.inl (Or.inr rfl)) hk2 (t := 9 - op + 8 * mNd dA) (by grind) (by grind) h9 (Or.inr rfl) h20 hv (by rw [hk3, w3.1]; exact w3.2)
          rw [hk3, w3.1] at z
          exact z
        · have h9 := h8.skip (Or.inl (Or.inr rfl)) hk2
          rw [hk3] at h9
          rw [(rp_nil t1).mpr (hsb.2.mp hk1), List.append_nil]
          exact h9
    · rw [if_neg hq]
      have h7 := h6 q q1 (by grind)
      have h8 := h7.2.cg hc
      rw [if_neg (px_m2 q2 h0)] at h8
      rw [gAd_ne hq, hs q q1 (by grind)]
      exact ⟨h7.1, h8⟩
  · obtain ⟨e0, e, e1, e2, e3⟩ := h7 l l1 l2 l3
    exact ⟨e0, e, Or.inl (Or.inl e1), by rw [(hc e e1).2.1]; exact e2, e3.cg hc⟩
theorem nSt.clD {o v o2 v2 dA dA2 oD oA sb db db2 : Int32 → Int32} {op lt fe w : Int32} {X : Int32 → Prop} {g b : Int32 → zL} {t : Int32 → Int32} (h : nSt o v dA oD oA sb db op lt X fe g b t) (hf : fe < 210) (h0 : 0 < op) (hw : w = oA (op - 1)) (hd : oD (op - 1) = 1) (ho : ∀ j, 0 ≤ j → j < fe → o2 j = o j ∧ (j ≠ w → v2 j = v j)) (h21 : o2 fe = 21) (hv : v2 w = fe + 1) (hA : ∀ l, 0 ≤ l → l ≤ 7 → l ≠ lt → dA2 l = dA l ∧ db2 l = db l) (hA2 : dA2 lt = w + 1) (hB : db2 lt = 0 ↔ sb op = 0) : nSt o2 v2 dA2 oD oA sb db2 (op - 1) lt (fun j => (X j ∨ j = w) ∨ j = fe) (fe + 1) g (gLt b lt (g op)) t := by
  obtain ⟨h1, h2, h3, h4, h5, h6, h7⟩ := h
  obtain ⟨w1, w2, w3, -⟩ := h4 (op - 1) (by grind) (by grind)
  rw [← hw] at w1 w2 w3
  obtain ⟨w4, w5, w6, w7⟩ := w3 hd
  have hn := mNd_in dA
  have hn2 : mNd dA2 = mNd dA + 1 := mNd_up w6.1 w6.2 w7 (by rw [hA2]; grind) (fun l l1 l2 l3 => (hA l l1 l2 l3).1)
  have hn3 := mNd_in dA2
  have hop : op = 1 := by grind
  subst hop
  have hc : ∀ j, X j → ((X j ∨ j = w) ∨ j = fe) ∧ o2 j = o j ∧ v2 j = v j := fun j hj => ⟨Or.inl (Or.inl hj), (ho j (h3 j hj).1 (h3 j hj).2).1, (ho j (h3 j hj).1 (h3 j hj).2).2 (fun e => w2 (e ▸ hj))⟩
  have e0 : (1 : Int32) - 1 = 0 := by decide
  rw [e0] at hw ⊢
  refine ⟨⟨by decide, by decide⟩, ⟨by grind, by grind⟩, fun j hj => ?_, fun q q1 q2 => by grind, fun p q p1 p2 p3 => by grind, fun q q1 q2 => ?_, fun l l1 l2 l3 => ?_⟩
  · rcases hj with (hj | rfl) | rfl
    · have := h3 j hj; grind
    · grind
    · grind
  · have hq : q = 0 := by grind
    subst hq
    have h8 := (h6 0 (by decide) (by decide)).2.cg hc
    rw [if_pos rfl, if_neg (by decide), ← hw] at h8
    rw [if_pos rfl, if_pos rfl]
    have h9 := (h8.skip (Or.inl (Or.inr rfl)) (by rw [(ho w w1.1 w1.2).1]; exact w5)).up (s2 := 9 - 0 + 8 * mNd dA2) (by grind)
    rw [hv] at h9
    exact ⟨fun z => absurd z (by decide), h9⟩
  · by_cases hl : l = lt
    · subst hl
      have e1 : gLt b l (g 1) l = g 1 := if_pos rfl
      rw [e1]
      refine ⟨hB.trans ((h6 1 (by decide) (by decide)).1 (by decide)).2, fe, Or.inr rfl, h21, ?_⟩
      have h9 := (h6 1 (by decide) (by decide)).2.cg hc
      rw [if_pos rfl, if_neg (by decide), e0, ← hw] at h9
      rw [hA2]
      exact h9.up (by grind)
    · have e1 : gLt b lt (g 1) l = b l := if_neg hl
      rw [(hA l l1 l2 hl).1] at l3 ⊢
      rw [(hA l l1 l2 hl).2, e1]
      obtain ⟨e0, e, e1, e2, e3⟩ := h7 l l1 l2 l3
      exact ⟨e0, e, Or.inl (Or.inl e1), by rw [(hc e e1).2.1]; exact e2, (e3.cg hc).up (by grind)⟩
