/-! does what is there fit -/
noncomputable def jjN (G : Prop) (x : Int32) : Int32 := @ite Int32 G (Classical.propDecidable G) x (-1)
theorem jjN_t {G : Prop} {x : Int32} (h : G) : jjN G x = x := @if_pos G (Classical.propDecidable G) h Int32 x (-1)
theorem jjN_f {G : Prop} {x : Int32} (h : ¬ G) : jjN G x = -1 := @if_neg G (Classical.propDecidable G) h Int32 x (-1)
theorem jjN_c {G G2 : Prop} {x x2 : Int32} (h : G ↔ G2) (e : x = x2) : jjN G x = jjN G2 x2 := by rw [propext h, e]
def jE (P : Int32 → Prop) : Prop := ∃ x : Int32, (0 ≤ x ∧ x < 3) ∧ P x
noncomputable def jjI (G : Prop) (x y : Int32) : Int32 := @ite Int32 G (Classical.propDecidable G) x y
theorem jjI_t {G : Prop} {x y : Int32} (h : G) : jjI G x y = x := @if_pos G (Classical.propDecidable G) h Int32 x y
theorem jjI_f {G : Prop} {x y : Int32} (h : ¬ G) : jjI G x y = y := @if_neg G (Classical.propDecidable G) h Int32 x y
noncomputable def jF (fr ou : Int32 → Prop) : Int32 := jjI (jE fr) 2 (jjI (jE ou) 1 0)
theorem jE_c {P P2 : Int32 → Prop} (h : ∀ x : Int32, 0 ≤ x → x < 3 → (P x ↔ P2 x)) : jE P = jE P2 := propext ⟨fun ⟨x, a, b⟩ => ⟨x, a, (h x a.1 a.2).mp b⟩, fun ⟨x, a, b⟩ => ⟨x, a, (h x a.1 a.2).mpr b⟩⟩
theorem jF_c {fr ou fr2 ou2 : Int32 → Prop} (h1 : ∀ x : Int32, 0 ≤ x → x < 3 → (fr x ↔ fr2 x)) (h2 : ∀ x : Int32, 0 ≤ x → x < 3 → (ou x ↔ ou2 x)) : jF fr ou = jF fr2 ou2 := by
  unfold jF
  rw [jE_c h1, jE_c h2]
theorem jF_2 {fr ou : Int32 → Prop} {x : Int32} (h0 : 0 ≤ x) (h1 : x < 3) (h : fr x) : 2 = jF fr ou := (jjI_t ⟨x, ⟨h0, h1⟩, h⟩).symm
/-- one mark once something is so, the other till then -/
def jO (a b o k : Int32) (P : Int32 → Prop) : Prop := (o = a ∧ ∃ x : Int32, (0 ≤ x ∧ x < k) ∧ P x) ∨ (o = b ∧ ∀ x : Int32, 0 ≤ x → x < k → ¬ P x)
theorem jO.zero {a b : Int32} {P : Int32 → Prop} : jO a b b 0 P := Or.inr ⟨rfl, fun x h1 h2 => absurd (Int32.lt_of_le_of_lt h1 h2) (by decide)⟩
theorem jO.hit {a b k : Int32} {P : Int32 → Prop} (h0 : 0 ≤ k) (h1 : k < 3) (h : P k) : jO a b a (k + 1) P := Or.inl ⟨rfl, k, ⟨h0, by grind⟩, h⟩
theorem jO.stay {a b o k : Int32} {P : Int32 → Prop} (h0 : 0 ≤ k) (h1 : k < 3) (h : jO a b o k P) (ho : ¬ o = b) : jO a b a (k + 1) P := by
  rcases h with ⟨-, x, h3, h4⟩ | ⟨h3, -⟩
  · exact Or.inl ⟨rfl, x, ⟨h3.1, by grind⟩, h4⟩
  · exact absurd h3 ho
theorem no_up {k : Int32} {P : Int32 → Prop} (h0 : 0 ≤ k) (h1 : k < 3) (h : ∀ x : Int32, 0 ≤ x → x < k → ¬ P x) (hn : ¬ P k) : ∀ x : Int32, 0 ≤ x → x < k + 1 → ¬ P x := fun x x0 x1 => by
  by_cases e : x = k
  · rw [e]; exact hn
  · exact h x x0 (by grind)
theorem jO.on {a b o k : Int32} {P : Int32 → Prop} (h0 : 0 ≤ k) (h1 : k < 3) (h : jO a b o k P) (hn : ¬ P k) : jO a b o (k + 1) P := by
  rcases h with ⟨h3, x, h4, h5⟩ | ⟨h3, h4⟩
  · exact Or.inl ⟨h3, x, ⟨h4.1, by grind⟩, h5⟩
  · exact Or.inr ⟨h3, no_up h0 h1 h4 hn⟩
theorem jO.keep {a b o k : Int32} {P : Int32 → Prop} (h0 : 0 ≤ k) (h1 : k < 3) (h : jO a b o k P) (ho : ¬ o = a) (hn : ¬ P k) : jO a b b (k + 1) P := by
  rcases h with ⟨h3, -⟩ | ⟨-, h4⟩
  · exact absurd h3 ho
  · exact Or.inr ⟨rfl, no_up h0 h1 h4 hn⟩
theorem jF_v {fr ou : Int32 → Prop} {v : Int32} (h : ∀ x : Int32, 0 ≤ x → x < 3 → ¬ fr x) (hv : jO 1 0 v 3 ou) : v = jF fr ou := by
  unfold jF
  rw [jjI_f (fun ⟨x, a, b⟩ => h x a.1 a.2 b)]
  rcases hv with ⟨rfl, h2⟩ | ⟨rfl, h2⟩
  · exact (jjI_t h2).symm
  · exact (jjI_f (fun ⟨x, a, b⟩ => h2 x a.1 a.2 b)).symm
theorem jF_fin {fr ou : Int32 → Prop} {o i : Int32} (ho : jO 1 0 o 3 fr) (hi : jO 0 1 i 3 ou) : jF fr ou = if o = 0 then (if i = 0 then 1 else 0) else 2 := by
  rcases ho with ⟨rfl, h1⟩ | ⟨rfl, h1⟩
  · rw [if_neg (show ¬ (1 : Int32) = 0 by decide)]
    exact jjI_t h1
  · rw [if_pos rfl]
    rcases hi with ⟨rfl, h2⟩ | ⟨rfl, h2⟩
    · rw [if_pos rfl]
      exact (jF_v h1 (Or.inl ⟨rfl, h2⟩)).symm
    · rw [if_neg (show ¬ (1 : Int32) = 0 by decide)]
      exact (jF_v h1 (Or.inr ⟨rfl, h2⟩)).symm
