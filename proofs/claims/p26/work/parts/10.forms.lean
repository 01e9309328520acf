/-! contracts of a few forms, and their calls -/
/-- an int, nothing changed -/
def px_KP (M : px_M) (as : List Value) (n : Nat) (I : px_I) (L : px_L) (R : px_R) (post : Int32 → Prop) : Prop := px_K M as n I L R (fun r n' I' L' R' => n' = n ∧ R' = R ∧ ∃ x, r = some (.int x) ∧ I' = I ∧ L' = L ∧ post x)
/-- a long, nothing changed -/
def px_KQ (M : px_M) (as : List Value) (n : Nat) (I : px_I) (L : px_L) (R : px_R) (post : Int64 → Prop) : Prop := px_K M as n I L R (fun r n' I' L' R' => n' = n ∧ R' = R ∧ ∃ x, r = some (.long x) ∧ I' = I ∧ L' = L ∧ post x)
/-- an int, numbers changed -/
def px_KS (M : px_M) (as : List Value) (n : Nat) (I : px_I) (L : px_L) (R : px_R) (post : Int32 → px_I → px_L → Prop) : Prop := px_K M as n I L R (fun r n' I' L' R' => n' = n ∧ R' = R ∧ ∃ x, r = some (.int x) ∧ post x I' L')
/-- a long, numbers changed -/
def px_KT (M : px_M) (as : List Value) (n : Nat) (I : px_I) (L : px_L) (R : px_R) (post : Int64 → px_I → px_L → Prop) : Prop := px_K M as n I L R (fun r n' I' L' R' => n' = n ∧ R' = R ∧ ∃ x, r = some (.long x) ∧ post x I' L')
/-- nothing answered, numbers changed -/
def px_KV (M : px_M) (as : List Value) (n : Nat) (I : px_I) (L : px_L) (R : px_R) (post : px_I → px_L → Prop) : Prop := px_K M as n I L R (fun r n' I' L' R' => n' = n ∧ R' = R ∧ r = none ∧ post I' L')
theorem px_K.mono {M : px_M} {as : List Value} {n : Nat} {I : px_I} {L : px_L} {R : px_R} {Q Q2 : px_Q} (h : px_K M as n I L R Q) (h2 : ∀ r n I L R, Q r n I L R → Q2 r n I L R) : px_K M as n I L R Q2 := fun l base cst D cid =>
  MetFree.mono (h l base cst D cid) (fun _ _ h => h) (fun _ _ _ _ _ h => h) (fun a s o t _ hq => by
    obtain ⟨⟨⟨r, n', I', L', R', h1, h3, h4⟩, h5⟩, h6⟩ := hq
    exact ⟨⟨⟨r, n', I', L', R', h1, h2 _ _ _ _ _ h3, h4⟩, h5⟩, h6⟩)
theorem px_KP.S {M : px_M} {as : List Value} {n : Nat} {I : px_I} {L : px_L} {R : px_R} {post : Int32 → Prop} {post2 : Int32 → px_I → px_L → Prop} (h : px_KP M as n I L R post) (h2 : ∀ x, post x → post2 x I L) : px_KS M as n I L R post2 := px_K.mono h (fun r n' I' L' R' ⟨h3, h4, x, h5, h6, h7, h8⟩ => ⟨h3, h4, x, h5, by rw [h6, h7]; exact h2 x h8⟩)
theorem px_KS.mono {M : px_M} {as : List Value} {n : Nat} {I : px_I} {L : px_L} {R : px_R} {post post2 : Int32 → px_I → px_L → Prop} (h : px_KS M as n I L R post) (h2 : ∀ x I L, post x I L → post2 x I L) : px_KS M as n I L R post2 := px_K.mono h (fun r n' I' L' R' ⟨h3, h4, x, h5, h8⟩ => ⟨h3, h4, x, h5, h2 x _ _ h8⟩)
section PXF
variable {on n cu su pc pb idx k : Nat} {R : px_R} {M M1 : px_M} {Q : px_Q} {xs : List px_o} {ls ls' : px_Ls} {st st' : List Value} {I I' : px_I} {L L' : px_L} {P' : Prop} {As rest : List Value} {o ci : Nat}
/-- an object of that kind by its number, there for good -/
theorem px_lit {o ci : Nat} (hg : px_G n R) (h : px_ck px_nb o ci = true) : px_is n o ci := by
  obtain ⟨h1, h2, h3⟩ := px_ck_ok h
  exact ⟨h1, Nat.lt_of_lt_of_le h2 hg.1, h3⟩

theorem px_cVP {post : Int32 → Prop} (hon : M.1.cls = px_Rn on) (q : px_bk on M.2.2.1 M.2.1 pc xs = some pb ∧ px_tv M.2.1 pb idx = true) (hg : px_G n R) (he : px_ex px_nb n R xs ls st I L True = some (P', ls', st', I', L')) (hP : P')
    (lk : px_lV M.1.cls idx M1) (hnm : px_nm M1 k) (hk : px_KP M1 (.ref o :: As) n I' L' R post) (hs : st' = As.reverse ++ .ref o :: rest) (hn : Nat.beq As.length k = true) (ho : px_is n o ci) (hrc : M1.1.cls = px_Rn ci) (hci : Nat.blt ci 13 = true) (hrm : px_rk M M1 cu su rest = true) (hz : (px_room M1).cells = 0 ∧ (px_room M1).slots = 0)
    (kk : ∀ x : Int32, post x → px M cu su (pb + 3) ls' (.int x :: rest) n I' L' R Q) : px M cu su pc ls st n I L R Q := by
  refine px_b hon q.1 hg he hP (px_kV q.2 lk hnm hk hs hn ho hrc hci hrm ?_)
  intro r n2 I2 L2 R2 hq
  obtain ⟨rfl, rfl, x, rfl, rfl, rfl, hp⟩ := hq
  rw [hz.1, hz.2]
  exact kk x hp

theorem px_cVQ {post : Int64 → Prop} (hon : M.1.cls = px_Rn on) (q : px_bk on M.2.2.1 M.2.1 pc xs = some pb ∧ px_tv M.2.1 pb idx = true) (hg : px_G n R) (he : px_ex px_nb n R xs ls st I L True = some (P', ls', st', I', L')) (hP : P')
    (lk : px_lV M.1.cls idx M1) (hnm : px_nm M1 k) (hk : px_KQ M1 (.ref o :: As) n I' L' R post) (hs : st' = As.reverse ++ .ref o :: rest) (hn : Nat.beq As.length k = true) (ho : px_is n o ci) (hrc : M1.1.cls = px_Rn ci) (hci : Nat.blt ci 13 = true) (hrm : px_rk M M1 cu su rest = true) (hz : (px_room M1).cells = 0 ∧ (px_room M1).slots = 0)
    (kk : ∀ x : Int64, post x → px M cu su (pb + 3) ls' (.long x :: rest) n I' L' R Q) : px M cu su pc ls st n I L R Q := by
  refine px_b hon q.1 hg he hP (px_kV q.2 lk hnm hk hs hn ho hrc hci hrm ?_)
  intro r n2 I2 L2 R2 hq
  obtain ⟨rfl, rfl, x, rfl, rfl, rfl, hp⟩ := hq
  rw [hz.1, hz.2]
  exact kk x hp

theorem px_cVS {post : Int32 → px_I → px_L → Prop} (hon : M.1.cls = px_Rn on) (q : px_bk on M.2.2.1 M.2.1 pc xs = some pb ∧ px_tv M.2.1 pb idx = true) (hg : px_G n R) (he : px_ex px_nb n R xs ls st I L True = some (P', ls', st', I', L')) (hP : P')
    (lk : px_lV M.1.cls idx M1) (hnm : px_nm M1 k) (hk : px_KS M1 (.ref o :: As) n I' L' R post) (hs : st' = As.reverse ++ .ref o :: rest) (hn : Nat.beq As.length k = true) (ho : px_is n o ci) (hrc : M1.1.cls = px_Rn ci) (hci : Nat.blt ci 13 = true) (hrm : px_rk M M1 cu su rest = true) (hz : (px_room M1).cells = 0 ∧ (px_room M1).slots = 0)
    (kk : ∀ (x : Int32) (I2 : px_I) (L2 : px_L), post x I2 L2 → px M cu su (pb + 3) ls' (.int x :: rest) n I2 L2 R Q) : px M cu su pc ls st n I L R Q := by
  refine px_b hon q.1 hg he hP (px_kV q.2 lk hnm hk hs hn ho hrc hci hrm ?_)
  intro r n2 I2 L2 R2 hq
  obtain ⟨rfl, rfl, x, rfl, hp⟩ := hq
  rw [hz.1, hz.2]
  exact kk x I2 L2 hp

theorem px_cVT {post : Int64 → px_I → px_L → Prop} (hon : M.1.cls = px_Rn on) (q : px_bk on M.2.2.1 M.2.1 pc xs = some pb ∧ px_tv M.2.1 pb idx = true) (hg : px_G n R) (he : px_ex px_nb n R xs ls st I L True = some (P', ls', st', I', L')) (hP : P')
    (lk : px_lV M.1.cls idx M1) (hnm : px_nm M1 k) (hk : px_KT M1 (.ref o :: As) n I' L' R post) (hs : st' = As.reverse ++ .ref o :: rest) (hn : Nat.beq As.length k = true) (ho : px_is n o ci) (hrc : M1.1.cls = px_Rn ci) (hci : Nat.blt ci 13 = true) (hrm : px_rk M M1 cu su rest = true) (hz : (px_room M1).cells = 0 ∧ (px_room M1).slots = 0)
    (kk : ∀ (x : Int64) (I2 : px_I) (L2 : px_L), post x I2 L2 → px M cu su (pb + 3) ls' (.long x :: rest) n I2 L2 R Q) : px M cu su pc ls st n I L R Q := by
  refine px_b hon q.1 hg he hP (px_kV q.2 lk hnm hk hs hn ho hrc hci hrm ?_)
  intro r n2 I2 L2 R2 hq
  obtain ⟨rfl, rfl, x, rfl, hp⟩ := hq
  rw [hz.1, hz.2]
  exact kk x I2 L2 hp

theorem px_cVW {post : px_I → px_L → Prop} (hon : M.1.cls = px_Rn on) (q : px_bk on M.2.2.1 M.2.1 pc xs = some pb ∧ px_tv M.2.1 pb idx = true) (hg : px_G n R) (he : px_ex px_nb n R xs ls st I L True = some (P', ls', st', I', L')) (hP : P')
    (lk : px_lV M.1.cls idx M1) (hnm : px_nm M1 k) (hk : px_KV M1 (.ref o :: As) n I' L' R post) (hs : st' = As.reverse ++ .ref o :: rest) (hn : Nat.beq As.length k = true) (ho : px_is n o ci) (hrc : M1.1.cls = px_Rn ci) (hci : Nat.blt ci 13 = true) (hrm : px_rk M M1 cu su rest = true) (hz : (px_room M1).cells = 0 ∧ (px_room M1).slots = 0)
    (kk : ∀ (I2 : px_I) (L2 : px_L), post I2 L2 → px M cu su (pb + 3) ls' rest n I2 L2 R Q) : px M cu su pc ls st n I L R Q := by
  refine px_b hon q.1 hg he hP (px_kV q.2 lk hnm hk hs hn ho hrc hci hrm ?_)
  intro r n2 I2 L2 R2 hq
  obtain ⟨rfl, rfl, rfl, hp⟩ := hq
  rw [hz.1, hz.2]
  exact kk I2 L2 hp

theorem px_cSP {post : Int32 → Prop} (hon : M.1.cls = px_Rn on) (q : px_bk on M.2.2.1 M.2.1 pc xs = some pb ∧ px_tS M.2.1 pb idx = true) (hg : px_G n R) (he : px_ex px_nb n R xs ls st I L True = some (P', ls', st', I', L')) (hP : P')
    (lk : px_lS M.1.cls idx M1) (hnm : px_nm M1 k) (hk : px_KP M1 As n I' L' R post) (hs : st' = As.reverse ++ rest) (hn : Nat.beq As.length k = true) (hrm : px_rk M M1 cu su rest = true) (hz : (px_room M1).cells = 0 ∧ (px_room M1).slots = 0)
    (kk : ∀ x : Int32, post x → px M cu su (pb + 3) ls' (.int x :: rest) n I' L' R Q) : px M cu su pc ls st n I L R Q := by
  refine px_b hon q.1 hg he hP (px_kS q.2 lk hnm hk hs hn hrm ?_)
  intro r n2 I2 L2 R2 hq
  obtain ⟨rfl, rfl, x, rfl, rfl, rfl, hp⟩ := hq
  rw [hz.1, hz.2]
  exact kk x hp

theorem px_cSQ {post : Int64 → Prop} (hon : M.1.cls = px_Rn on) (q : px_bk on M.2.2.1 M.2.1 pc xs = some pb ∧ px_tS M.2.1 pb idx = true) (hg : px_G n R) (he : px_ex px_nb n R xs ls st I L True = some (P', ls', st', I', L')) (hP : P')
    (lk : px_lS M.1.cls idx M1) (hnm : px_nm M1 k) (hk : px_KQ M1 As n I' L' R post) (hs : st' = As.reverse ++ rest) (hn : Nat.beq As.length k = true) (hrm : px_rk M M1 cu su rest = true) (hz : (px_room M1).cells = 0 ∧ (px_room M1).slots = 0)
    (kk : ∀ x : Int64, post x → px M cu su (pb + 3) ls' (.long x :: rest) n I' L' R Q) : px M cu su pc ls st n I L R Q := by
  refine px_b hon q.1 hg he hP (px_kS q.2 lk hnm hk hs hn hrm ?_)
  intro r n2 I2 L2 R2 hq
  obtain ⟨rfl, rfl, x, rfl, rfl, rfl, hp⟩ := hq
  rw [hz.1, hz.2]
  exact kk x hp

theorem px_cSS {post : Int32 → px_I → px_L → Prop} (hon : M.1.cls = px_Rn on) (q : px_bk on M.2.2.1 M.2.1 pc xs = some pb ∧ px_tS M.2.1 pb idx = true) (hg : px_G n R) (he : px_ex px_nb n R xs ls st I L True = some (P', ls', st', I', L')) (hP : P')
    (lk : px_lS M.1.cls idx M1) (hnm : px_nm M1 k) (hk : px_KS M1 As n I' L' R post) (hs : st' = As.reverse ++ rest) (hn : Nat.beq As.length k = true) (hrm : px_rk M M1 cu su rest = true) (hz : (px_room M1).cells = 0 ∧ (px_room M1).slots = 0)
    (kk : ∀ (x : Int32) (I2 : px_I) (L2 : px_L), post x I2 L2 → px M cu su (pb + 3) ls' (.int x :: rest) n I2 L2 R Q) : px M cu su pc ls st n I L R Q := by
  refine px_b hon q.1 hg he hP (px_kS q.2 lk hnm hk hs hn hrm ?_)
  intro r n2 I2 L2 R2 hq
  obtain ⟨rfl, rfl, x, rfl, hp⟩ := hq
  rw [hz.1, hz.2]
  exact kk x I2 L2 hp

theorem px_cST {post : Int64 → px_I → px_L → Prop} (hon : M.1.cls = px_Rn on) (q : px_bk on M.2.2.1 M.2.1 pc xs = some pb ∧ px_tS M.2.1 pb idx = true) (hg : px_G n R) (he : px_ex px_nb n R xs ls st I L True = some (P', ls', st', I', L')) (hP : P')
    (lk : px_lS M.1.cls idx M1) (hnm : px_nm M1 k) (hk : px_KT M1 As n I' L' R post) (hs : st' = As.reverse ++ rest) (hn : Nat.beq As.length k = true) (hrm : px_rk M M1 cu su rest = true) (hz : (px_room M1).cells = 0 ∧ (px_room M1).slots = 0)
    (kk : ∀ (x : Int64) (I2 : px_I) (L2 : px_L), post x I2 L2 → px M cu su (pb + 3) ls' (.long x :: rest) n I2 L2 R Q) : px M cu su pc ls st n I L R Q := by
  refine px_b hon q.1 hg he hP (px_kS q.2 lk hnm hk hs hn hrm ?_)
  intro r n2 I2 L2 R2 hq
  obtain ⟨rfl, rfl, x, rfl, hp⟩ := hq
  rw [hz.1, hz.2]
  exact kk x I2 L2 hp

theorem px_cSW {post : px_I → px_L → Prop} (hon : M.1.cls = px_Rn on) (q : px_bk on M.2.2.1 M.2.1 pc xs = some pb ∧ px_tS M.2.1 pb idx = true) (hg : px_G n R) (he : px_ex px_nb n R xs ls st I L True = some (P', ls', st', I', L')) (hP : P')
    (lk : px_lS M.1.cls idx M1) (hnm : px_nm M1 k) (hk : px_KV M1 As n I' L' R post) (hs : st' = As.reverse ++ rest) (hn : Nat.beq As.length k = true) (hrm : px_rk M M1 cu su rest = true) (hz : (px_room M1).cells = 0 ∧ (px_room M1).slots = 0)
    (kk : ∀ (I2 : px_I) (L2 : px_L), post I2 L2 → px M cu su (pb + 3) ls' rest n I2 L2 R Q) : px M cu su pc ls st n I L R Q := by
  refine px_b hon q.1 hg he hP (px_kS q.2 lk hnm hk hs hn hrm ?_)
  intro r n2 I2 L2 R2 hq
  obtain ⟨rfl, rfl, rfl, hp⟩ := hq
  rw [hz.1, hz.2]
  exact kk I2 L2 hp

theorem px_cSNP {host : String} {post : Int32 → Prop} (hon : M.1.cls = px_Rn on) (q : px_bk on M.2.2.1 M.2.1 pc xs = some pb ∧ px_tS M.2.1 pb idx = true) (hg : px_G n R) (he : px_ex px_nb n R xs ls st I L True = some (P', ls', st', I', L')) (hP : P')
    (lk : px_lSN M.1.cls idx M1 host) (hnm : px_nm M1 k) (hk : px_KP M1 As n I' L' R post) (hs : st' = As.reverse ++ rest) (hn : Nat.beq As.length k = true) (hrm : px_rk M M1 cu su rest = true) (hz : (px_room M1).cells = 0 ∧ (px_room M1).slots = 0)
    (kk : ∀ x : Int32, post x → px M cu su (pb + 3) ls' (.int x :: rest) n I' L' R Q) : px M cu su pc ls st n I L R Q := by
  refine px_b hon q.1 hg he hP (px_kSN q.2 lk hnm hk hs hn hrm ?_)
  intro r n2 I2 L2 R2 hq
  obtain ⟨rfl, rfl, x, rfl, rfl, rfl, hp⟩ := hq
  rw [hz.1, hz.2]
  exact kk x hp

theorem px_cSNQ {host : String} {post : Int64 → Prop} (hon : M.1.cls = px_Rn on) (q : px_bk on M.2.2.1 M.2.1 pc xs = some pb ∧ px_tS M.2.1 pb idx = true) (hg : px_G n R) (he : px_ex px_nb n R xs ls st I L True = some (P', ls', st', I', L')) (hP : P')
    (lk : px_lSN M.1.cls idx M1 host) (hnm : px_nm M1 k) (hk : px_KQ M1 As n I' L' R post) (hs : st' = As.reverse ++ rest) (hn : Nat.beq As.length k = true) (hrm : px_rk M M1 cu su rest = true) (hz : (px_room M1).cells = 0 ∧ (px_room M1).slots = 0)
    (kk : ∀ x : Int64, post x → px M cu su (pb + 3) ls' (.long x :: rest) n I' L' R Q) : px M cu su pc ls st n I L R Q := by
  refine px_b hon q.1 hg he hP (px_kSN q.2 lk hnm hk hs hn hrm ?_)
  intro r n2 I2 L2 R2 hq
  obtain ⟨rfl, rfl, x, rfl, rfl, rfl, hp⟩ := hq
  rw [hz.1, hz.2]
  exact kk x hp

theorem px_cSNS {host : String} {post : Int32 → px_I → px_L → Prop} (hon : M.1.cls = px_Rn on) (q : px_bk on M.2.2.1 M.2.1 pc xs = some pb ∧ px_tS M.2.1 pb idx = true) (hg : px_G n R) (he : px_ex px_nb n R xs ls st I L True = some (P', ls', st', I', L')) (hP : P')
    (lk : px_lSN M.1.cls idx M1 host) (hnm : px_nm M1 k) (hk : px_KS M1 As n I' L' R post) (hs : st' = As.reverse ++ rest) (hn : Nat.beq As.length k = true) (hrm : px_rk M M1 cu su rest = true) (hz : (px_room M1).cells = 0 ∧ (px_room M1).slots = 0)
    (kk : ∀ (x : Int32) (I2 : px_I) (L2 : px_L), post x I2 L2 → px M cu su (pb + 3) ls' (.int x :: rest) n I2 L2 R Q) : px M cu su pc ls st n I L R Q := by
  refine px_b hon q.1 hg he hP (px_kSN q.2 lk hnm hk hs hn hrm ?_)
  intro r n2 I2 L2 R2 hq
  obtain ⟨rfl, rfl, x, rfl, hp⟩ := hq
  rw [hz.1, hz.2]
  exact kk x I2 L2 hp

theorem px_cSNT {host : String} {post : Int64 → px_I → px_L → Prop} (hon : M.1.cls = px_Rn on) (q : px_bk on M.2.2.1 M.2.1 pc xs = some pb ∧ px_tS M.2.1 pb idx = true) (hg : px_G n R) (he : px_ex px_nb n R xs ls st I L True = some (P', ls', st', I', L')) (hP : P')
    (lk : px_lSN M.1.cls idx M1 host) (hnm : px_nm M1 k) (hk : px_KT M1 As n I' L' R post) (hs : st' = As.reverse ++ rest) (hn : Nat.beq As.length k = true) (hrm : px_rk M M1 cu su rest = true) (hz : (px_room M1).cells = 0 ∧ (px_room M1).slots = 0)
    (kk : ∀ (x : Int64) (I2 : px_I) (L2 : px_L), post x I2 L2 → px M cu su (pb + 3) ls' (.long x :: rest) n I2 L2 R Q) : px M cu su pc ls st n I L R Q := by
  refine px_b hon q.1 hg he hP (px_kSN q.2 lk hnm hk hs hn hrm ?_)
  intro r n2 I2 L2 R2 hq
  obtain ⟨rfl, rfl, x, rfl, hp⟩ := hq
  rw [hz.1, hz.2]
  exact kk x I2 L2 hp

theorem px_cSNW {host : String} {post : px_I → px_L → Prop} (hon : M.1.cls = px_Rn on) (q : px_bk on M.2.2.1 M.2.1 pc xs = some pb ∧ px_tS M.2.1 pb idx = true) (hg : px_G n R) (he : px_ex px_nb n R xs ls st I L True = some (P', ls', st', I', L')) (hP : P')
    (lk : px_lSN M.1.cls idx M1 host) (hnm : px_nm M1 k) (hk : px_KV M1 As n I' L' R post) (hs : st' = As.reverse ++ rest) (hn : Nat.beq As.length k = true) (hrm : px_rk M M1 cu su rest = true) (hz : (px_room M1).cells = 0 ∧ (px_room M1).slots = 0)
    (kk : ∀ (I2 : px_I) (L2 : px_L), post I2 L2 → px M cu su (pb + 3) ls' rest n I2 L2 R Q) : px M cu su pc ls st n I L R Q := by
  refine px_b hon q.1 hg he hP (px_kSN q.2 lk hnm hk hs hn hrm ?_)
  intro r n2 I2 L2 R2 hq
  obtain ⟨rfl, rfl, rfl, hp⟩ := hq
  rw [hz.1, hz.2]
  exact kk I2 L2 hp

theorem px_riP {x : Int32} {n0 : Nat} {R0 : px_R} {I0 : px_I} {L0 : px_L} {post : Int32 → Prop} (hon : M.1.cls = px_Rn on) (q : px_bk on M.2.2.1 M.2.1 pc xs = some pb ∧ px_tr M.2.1 pb .ireturn = true) (hr : M.2.2.2.1 = some .int) (hcu : Nat.ble cu (px_room M).cells = true) (hsu : Nat.ble su (px_room M).slots = true) (hg : px_G n R) (he : px_ex px_nb n R xs ls st I L True = some (P', ls', [.int x], I', L')) (hP : P') (hq : (n = n0 ∧ R = R0 ∧ I' = I0 ∧ L' = L0) ∧ post x) : px M cu su pc ls st n I L R (fun r n' I' L' R' => n' = n0 ∧ R' = R0 ∧ ∃ x, r = some (.int x) ∧ I' = I0 ∧ L' = L0 ∧ post x) :=
  px_ri hon q hr hcu hsu hg he hP ⟨hq.1.1, hq.1.2.1, x, rfl, hq.1.2.2.1, hq.1.2.2.2, hq.2⟩
theorem px_rzP {x : Int32} {n0 : Nat} {R0 : px_R} {I0 : px_I} {L0 : px_L} {post : Int32 → Prop} (hon : M.1.cls = px_Rn on) (q : px_bk on M.2.2.1 M.2.1 pc xs = some pb ∧ px_tr M.2.1 pb .ireturn = true) (hr : M.2.2.2.1 = some .boolean) (hcu : Nat.ble cu (px_room M).cells = true) (hsu : Nat.ble su (px_room M).slots = true) (hg : px_G n R) (he : px_ex px_nb n R xs ls st I L True = some (P', ls', [.int x], I', L')) (hP : P') (hq : (n = n0 ∧ R = R0 ∧ I' = I0 ∧ L' = L0) ∧ (x = 0 ∨ x = 1) ∧ post x) : px M cu su pc ls st n I L R (fun r n' I' L' R' => n' = n0 ∧ R' = R0 ∧ ∃ x, r = some (.int x) ∧ I' = I0 ∧ L' = L0 ∧ post x) :=
  px_rz hon q hr hcu hsu hg he hP hq.2.1 ⟨hq.1.1, hq.1.2.1, x, rfl, hq.1.2.2.1, hq.1.2.2.2, hq.2.2⟩
theorem px_rlQ {x : Int64} {n0 : Nat} {R0 : px_R} {I0 : px_I} {L0 : px_L} {post : Int64 → Prop} (hon : M.1.cls = px_Rn on) (q : px_bk on M.2.2.1 M.2.1 pc xs = some pb ∧ px_tr M.2.1 pb .lreturn = true) (hr : M.2.2.2.1 = some .long) (hcu : Nat.ble cu (px_room M).cells = true) (hsu : Nat.ble su (px_room M).slots = true) (hg : px_G n R) (he : px_ex px_nb n R xs ls st I L True = some (P', ls', [.long x], I', L')) (hP : P') (hq : (n = n0 ∧ R = R0 ∧ I' = I0 ∧ L' = L0) ∧ post x) : px M cu su pc ls st n I L R (fun r n' I' L' R' => n' = n0 ∧ R' = R0 ∧ ∃ x, r = some (.long x) ∧ I' = I0 ∧ L' = L0 ∧ post x) :=
  px_rl hon q hr hcu hsu hg he hP ⟨hq.1.1, hq.1.2.1, x, rfl, hq.1.2.2.1, hq.1.2.2.2, hq.2⟩
theorem px_riS {x : Int32} {n0 : Nat} {R0 : px_R} {post : Int32 → px_I → px_L → Prop} (hon : M.1.cls = px_Rn on) (q : px_bk on M.2.2.1 M.2.1 pc xs = some pb ∧ px_tr M.2.1 pb .ireturn = true) (hr : M.2.2.2.1 = some .int) (hcu : Nat.ble cu (px_room M).cells = true) (hsu : Nat.ble su (px_room M).slots = true) (hg : px_G n R) (he : px_ex px_nb n R xs ls st I L True = some (P', ls', [.int x], I', L')) (hP : P') (hq : (n = n0 ∧ R = R0) ∧ post x I' L') : px M cu su pc ls st n I L R (fun r n' I' L' R' => n' = n0 ∧ R' = R0 ∧ ∃ x, r = some (.int x) ∧ post x I' L') :=
  px_ri hon q hr hcu hsu hg he hP ⟨hq.1.1, hq.1.2, x, rfl, hq.2⟩
theorem px_rzS {x : Int32} {n0 : Nat} {R0 : px_R} {post : Int32 → px_I → px_L → Prop} (hon : M.1.cls = px_Rn on) (q : px_bk on M.2.2.1 M.2.1 pc xs = some pb ∧ px_tr M.2.1 pb .ireturn = true) (hr : M.2.2.2.1 = some .boolean) (hcu : Nat.ble cu (px_room M).cells = true) (hsu : Nat.ble su (px_room M).slots = true) (hg : px_G n R) (he : px_ex px_nb n R xs ls st I L True = some (P', ls', [.int x], I', L')) (hP : P') (hq : (n = n0 ∧ R = R0) ∧ (x = 0 ∨ x = 1) ∧ post x I' L') : px M cu su pc ls st n I L R (fun r n' I' L' R' => n' = n0 ∧ R' = R0 ∧ ∃ x, r = some (.int x) ∧ post x I' L') :=
  px_rz hon q hr hcu hsu hg he hP hq.2.1 ⟨hq.1.1, hq.1.2, x, rfl, hq.2.2⟩
theorem px_rlT {x : Int64} {n0 : Nat} {R0 : px_R} {post : Int64 → px_I → px_L → Prop} (hon : M.1.cls = px_Rn on) (q : px_bk on M.2.2.1 M.2.1 pc xs = some pb ∧ px_tr M.2.1 pb .lreturn = true) (hr : M.2.2.2.1 = some .long) (hcu : Nat.ble cu (px_room M).cells = true) (hsu : Nat.ble su (px_room M).slots = true) (hg : px_G n R) (he : px_ex px_nb n R xs ls st I L True = some (P', ls', [.long x], I', L')) (hP : P') (hq : (n = n0 ∧ R = R0) ∧ post x I' L') : px M cu su pc ls st n I L R (fun r n' I' L' R' => n' = n0 ∧ R' = R0 ∧ ∃ x, r = some (.long x) ∧ post x I' L') :=
  px_rl hon q hr hcu hsu hg he hP ⟨hq.1.1, hq.1.2, x, rfl, hq.2⟩
theorem px_rvW {n0 : Nat} {R0 : px_R} {post : px_I → px_L → Prop} (hon : M.1.cls = px_Rn on) (q : px_bk on M.2.2.1 M.2.1 pc xs = some pb ∧ px_tr M.2.1 pb .return_ = true) (hr : M.2.2.2.1 = none) (hcu : Nat.ble cu (px_room M).cells = true) (hsu : Nat.ble su (px_room M).slots = true) (hg : px_G n R) (he : px_ex px_nb n R xs ls st I L True = some (P', ls', [], I', L')) (hP : P') (hq : (n = n0 ∧ R = R0) ∧ post I' L') : px M cu su pc ls st n I L R (fun r n' I' L' R' => n' = n0 ∧ R' = R0 ∧ r = none ∧ post I' L') :=
  px_rv hon q hr hcu hsu hg he hP ⟨hq.1.1, hq.1.2, rfl, hq.2⟩

end PXF