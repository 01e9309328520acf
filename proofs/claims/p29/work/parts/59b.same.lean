theorem x0_ag {o : Int32} (ho : -20 ≤ o ∧ o ≤ 20) : xAg (x0 61 o (-1) 0) (x0 64 o (-1) 0) ∧ xSu (x0 64 o (-1) 0) 20 ∧ True := by
  have a := Int32.le_iff_toInt_le.mp ho.1
  have b := Int32.le_iff_toInt_le.mp ho.2
  rw [show (-20 : Int32).toInt = -20 by decide] at a
  rw [show (20 : Int32).toInt = 20 by decide] at b
  have e1 : (o + 61).toInt = o.toInt + 61 := by rw [Int32.toInt_add, show (61 : Int32).toInt = 61 by decide, Int.bmod_eq_of_le (by omega) (by omega)]
  have e2 : (o + 64).toInt = o.toInt + 64 := by rw [Int32.toInt_add, show (64 : Int32).toInt = 64 by decide, Int.bmod_eq_of_le (by omega) (by omega)]
  have f1 : ((o + 61).toNatClampNeg : Int) = o.toInt + 61 := by rw [← e1]; show (((o + 61).toInt.toNat : Nat) : Int) = _; omega
  have f2 : ((o + 64).toNatClampNeg : Int) = o.toInt + 64 := by rw [← e2]; show (((o + 64).toInt.toNat : Nat) : Int) = _; omega
  refine ⟨fun j _ => ?_, fun j _ hj => ?_, trivial⟩
  · unfold x0
    by_cases q : j = (o + 61).toNatClampNeg
    · rw [if_pos q, if_pos (by omega)]
    · rw [if_neg q, if_neg (by omega)]
  · unfold x0
    rw [if_neg (by omega)]
theorem det_eq {I J : px_I} {a o h : Int32} (hW : mW J) (ha : 1 ≤ a ∧ a ≤ 40) (ho : -20 ≤ o ∧ o ≤ 20) (h0 : I 98 0 = J 137 0) (h1 : I 98 1 = J 137 1) (h2 : I 98 2 = J 137 2) (h3 : I 97 3 = J 103 59) (h4 : I 97 4 = J 103 60) (h5 : I 97 5 = J 103 61) : cAns I a o h = mAns J a o h := by
  unfold cAns mAns
  obtain ⟨n1, n2, -⟩ := x40 ha
  have hp : 0 ≤ J 103 60 ∧ J 103 60 ≤ 3 := by unfold mW at hW; grind
  have hw : 0 ≤ J 103 61 ∧ J 103 61 ≤ 20 := by unfold mW at hW; grind
  obtain ⟨-, -, w3⟩ := xW hw
  have ws : ∀ d, d < 3 → I 98 d = J 137 d := fun d hd => by
    match d, hd with
    | 0, _ => exact h0
    | 1, _ => exact h1
    | 2, _ => exact h2
  obtain ⟨x1, x2, -⟩ := x0_ag ho
  have ag := (xR_ag (hear := J 103 59) (h := h) (w := J 137) (n := a.toNatClampNeg) (a := 121) rfl hp x1 x2 a.toNatClampNeg n2).1
  rw [h3, h4, h5, xR_w ws]
  congr 1
  refine xB_cg _ (fun j hj => ?_)
  have q := ag (61 - (J 103 61).toNatClampNeg + j) (by omega)
  rw [show 61 - (J 103 61).toNatClampNeg + j + 3 = 64 - (J 103 61).toNatClampNeg + j by omega] at q
  exact q
