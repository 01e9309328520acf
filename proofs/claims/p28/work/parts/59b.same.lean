theorem sh_eq {I J : px_I} {a o h : Int32} (hW : mW J) (ha : 1 ≤ a ∧ a ≤ 12) (ho : -20 ≤ o ∧ o ≤ 20) (h0 : I 98 0 = J 137 0) (h1 : I 98 1 = J 137 1) (h2 : I 98 2 = J 137 2) (h3 : I 97 3 = J 103 59) (h4 : I 97 4 = J 103 60) (h5 : I 97 5 = J 103 61) : cShr I a o h = mSh J a o h := by
  unfold cShr mSh
  obtain ⟨n1, n2, -⟩ := x12 ha
  have hp : 0 ≤ J 103 60 ∧ J 103 60 ≤ 3 := by unfold mW at hW; grind
  obtain ⟨-, -, -, w4, w5⟩ := mWn_s hW
  have ws : ∀ d, d < 3 → cWn I d = mWn J d := fun d hd => by
    unfold cWn mWn
    match d, hd with
    | 0, _ => rw [h0]
    | 1, _ => rw [h1]
    | 2, _ => rw [h2]
  have q := yR_all (hear := J 103 59) (w := mWn J) (n := a.toNatClampNeg) hp ho w4 w5 a.toNatClampNeg n2
  rw [h3, h4, h5, yR_w ws, oF_three q.2.2.1 q.2.2.2, sm_three q.2.2.1 q.2.2.2, q.2.1]
