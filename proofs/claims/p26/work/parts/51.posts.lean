/-! what each call says, by name -/

def pb_days (x : Int32) (I : px_I) (L : px_L) : Int32 → px_I → px_L → Prop := (fun r I2 L2 => L2 = L ∧ (((1 ≤ x ∧ x ≤ 1000) ∧ I 32 10 + x ≤ 9999 ∧ r = I 32 10 + x ∧ I2 = px_u I 32 10 (I 32 10 + x)) ∨ (¬ ((1 ≤ x ∧ x ≤ 1000) ∧ I 32 10 + x ≤ 9999) ∧ r = -1 ∧ I2 = I)))

def pb_station (I : px_I) (L : px_L) : Int32 → px_I → px_L → Prop := (fun r I2 L2 => L2 = L ∧ ((I 33 7 < 24 ∧ r = I 33 7 ∧ I2 = px_u I 33 7 (I 33 7 + 1)) ∨ (¬ I 33 7 < 24 ∧ r = -1 ∧ I2 = I)))

def pb_sight (a f t lo hi : Int32) (I : px_I) (L : px_L) : Int32 → px_I → px_L → Prop := (fun r I2 L2 => L2 = L ∧ ((((0 ≤ a ∧ a ≤ 2) ∧ (-1000000 ≤ lo ∧ lo ≤ hi ∧ hi ≤ 1000000) ∧ (0 ≤ f ∧ f < I 33 7) ∧ (0 ≤ t ∧ t < I 33 7) ∧ f ≠ t ∧ I 33 8 < 80) ∧ r = I 33 8 ∧ I2 = px_u (px_u (px_u (px_u (px_u (px_u (px_u I 34 (I 33 8).toNatClampNeg a) 35 (I 33 8).toNatClampNeg f) 36 (I 33 8).toNatClampNeg t) 37 (I 33 8).toNatClampNeg lo) 38 (I 33 8).toNatClampNeg hi) 39 (I 33 8).toNatClampNeg (I 32 10)) 33 8 (I 33 8 + 1)) ∨ (¬ ((0 ≤ a ∧ a ≤ 2) ∧ (-1000000 ≤ lo ∧ lo ≤ hi ∧ hi ≤ 1000000) ∧ (0 ≤ f ∧ f < I 33 7) ∧ (0 ≤ t ∧ t < I 33 7) ∧ f ≠ t ∧ I 33 8 < 80) ∧ r = -1 ∧ I2 = I)))

def pb_closed (a k : Int32) (I : px_I) (L : px_L) : Int32 → px_I → px_L → Prop := (fun r I2 L2 => I2 = I ∧ cDL L L2)

def pb_span (a t k h : Int32) (I : px_I) (L : px_L) : Int32 → px_I → px_L → Prop := (fun r I2 L2 => I2 = I ∧ cDL L L2)

def pb_gap (a f t k h : Int32) (I : px_I) (L : px_L) : Int32 → px_I → px_L → Prop := (fun r I2 L2 => I2 = I ∧ cDL L L2)

def pb_blamed (a k i : Int32) (I : px_I) (L : px_L) : Int32 → px_I → px_L → Prop := (fun r I2 L2 => I2 = I ∧ cDL L L2)

def pb_reach (g lo hi sl fa w st : Int32) (I : px_I) (L : px_L) : Int32 → px_I → px_L → Prop := (fun r I2 L2 => L2 = L ∧ ((∃ G, (bG g G ∧ (st = -1 ∨ (0 ≤ st ∧ st < I 33 7)) ∧ cReachOk G I lo hi sl fa w) ∧ r = (if I G 13 = 0 then 1 else I G 13) ∧ I2 = cReach G I lo hi sl fa w st) ∨ (¬ (∃ G, bG g G ∧ (st = -1 ∨ (0 ≤ st ∧ st < I 33 7)) ∧ cReachOk G I lo hi sl fa w) ∧ r = -1 ∧ I2 = I)))

def pb_mouth (g st : Int32) (I : px_I) (L : px_L) : Int32 → px_I → px_L → Prop := (fun r I2 L2 => L2 = L ∧ ((∃ G, bG g G ∧ I2 = px_u I (G + 1) 0 st) ∨ I2 = I))

def pb_mark (g p f t : Int32) (I : px_I) (L : px_L) : Int32 → px_I → px_L → Prop := (fun r I2 L2 => L2 = L ∧ ((∃ G, (bG g G ∧ I 41 14 + I 55 14 < 40 ∧ (0 ≤ p ∧ p < I G 13) ∧ (0 ≤ f ∧ f ≤ t ∧ t ≤ 20000)) ∧ r = I 41 14 + I 55 14 + 1 ∧ I2 = cMark G I p f t) ∨ (¬ (∃ G, bG g G ∧ I 41 14 + I 55 14 < 40 ∧ (0 ≤ p ∧ p < I G 13) ∧ (0 ≤ f ∧ f ≤ t ∧ t ≤ 20000)) ∧ r = -1 ∧ I2 = I)))

def pb_when (g p h : Int32) (I : px_I) (L : px_L) : Int32 → px_I → px_L → Prop := (fun r I2 L2 => L2 = L ∧ bEI I I2)

def pb_between (g p q h : Int32) (I : px_I) (L : px_L) : Int32 → px_I → px_L → Prop := (fun r I2 L2 => L2 = L ∧ bEI I I2)

def pb_lamps (g p h lo hi : Int32) (I : px_I) (L : px_L) : Int32 → px_I → px_L → Prop := (fun y9 I2 L2 => I2 = I ∧ L2 = L ∧ ((fun r => (∃ G, (bG g G ∧ (1 ≤ p ∧ p < I G 13) ∧ (0 ≤ h ∧ h ≤ 9999) ∧ (1 ≤ lo ∧ lo ≤ hi ∧ hi ≤ 100000)) ∧ ((r = 1 ∧ cHo G I p h lo hi) ∨ (r = 0 ∧ ¬ cHo G I p h lo hi))) ∨ (¬ (∃ G, bG g G ∧ (1 ≤ p ∧ p < I G 13) ∧ (0 ≤ h ∧ h ≤ 9999) ∧ (1 ≤ lo ∧ lo ≤ hi ∧ hi ≤ 100000)) ∧ r = -1))) y9)

def pb_count (u lo hi : Int32) (I : px_I) (L : px_L) : Int32 → px_I → px_L → Prop := (fun r I2 L2 => L2 = L ∧ ((cCount I u lo hi ∧ r = I 69 0 + 1 ∧ I2 = px_u (px_u (px_u I 69 1 (cCf I u lo)) 69 2 (cCt I u hi)) 69 0 (I 69 0 + 1)) ∨ (¬ cCount I u lo hi ∧ r = -1 ∧ I2 = I)))

def pb_unit (h : Int32) (I : px_I) (L : px_L) : Int32 → px_I → px_L → Prop := (fun y9 I2 L2 => I2 = I ∧ L2 = L ∧ ((fun r => r = if I 69 0 = 0 then -1 else if ¬ h = 0 then I 69 2 else I 69 1)) y9)

def pb_feed (a b c d e : Int32) (I : px_I) (L : px_L) : Int32 → px_I → px_L → Prop := (fun r I2 L2 => L2 = L ∧ ((I 70 5 + 20 ≤ 400 ∧ r = I 70 5 + 20 ∧ I2 = cApp (cApp (cApp (cApp (cApp I a) b) c) d) e) ∨ (¬ I 70 5 + 20 ≤ 400 ∧ r = -1 ∧ I2 = I)))

def pb_end (x : Int32) (I : px_I) (L : px_L) : Int32 → px_I → px_L → Prop := (fun r I2 L2 => L2 = L ∧ (((0 ≤ x ∧ x ≤ I 70 5) ∧ r = x ∧ I2 = px_u I 70 5 x) ∨ (¬ (0 ≤ x ∧ x ≤ I 70 5) ∧ r = -1 ∧ I2 = I)))

def pb_way (i : Int32) (I : px_I) (L : px_L) : Int32 → px_I → px_L → Prop := (fun x I2 L2 => kWF I I2 ∧ (∀ b, b < 147 → L2 b = L b) ∧ I2 70 5 = (if 0 ≤ i ∧ i < 6 then 0 else I 70 5))

def pb_fault (x : Int32) (I : px_I) (L : px_L) : Int32 → px_I → px_L → Prop := (fun y9 I2 L2 => I2 = I ∧ L2 = L ∧ ((fun r => r = if x = 0 then I 76 14 else if x = 1 then I 76 15 else -1)) y9)

def pb_tools (a b c d e : Int32) (I : px_I) (L : px_L) : Int32 → px_I → px_L → Prop := (fun r I2 L2 => L2 = L ∧ ((((0 ≤ a ∧ a ≤ 1000) ∧ (0 ≤ b ∧ b ≤ 1000) ∧ (0 ≤ c ∧ c ≤ 1000) ∧ (0 ≤ d ∧ d ≤ 10000) ∧ (0 ≤ e ∧ e ≤ 1000)) ∧ r = 1 ∧ cKF (px_u (px_u (px_u (px_u (px_u I 86 3 a) 86 4 b) 86 5 c) 86 6 d) 86 7 e) I2) ∨ (¬ ((0 ≤ a ∧ a ≤ 1000) ∧ (0 ≤ b ∧ b ≤ 1000) ∧ (0 ≤ c ∧ c ≤ 1000) ∧ (0 ≤ d ∧ d ≤ 10000) ∧ (0 ≤ e ∧ e ≤ 1000)) ∧ r = 0 ∧ I2 = I)))

def pb_run (w h a : Int32) (I : px_I) (L : px_L) : Int32 → px_I → px_L → Prop := (fun r I2 L2 => bXI I I2 ∧ bXL L L2)

def pb_meeting (a f b t x h : Int32) (I : px_I) (L : px_L) : Int32 → px_I → px_L → Prop := (fun r I2 L2 => bXI I I2 ∧ bXL L L2)

def pb_there (a lo hi : Int32) (I : px_I) (L : px_L) : Int32 → px_I → px_L → Prop := (fun r I2 L2 => L2 = L ∧ ((((0 ≤ a ∧ a ≤ 2) ∧ (-1000000 ≤ lo ∧ lo ≤ hi ∧ hi ≤ 1000000)) ∧ r = 1 ∧ I2 = px_u (px_u I 93 a.toNatClampNeg lo) 94 a.toNatClampNeg hi) ∨ (¬ ((0 ≤ a ∧ a ≤ 2) ∧ (-1000000 ≤ lo ∧ lo ≤ hi ∧ hi ≤ 1000000)) ∧ r = 0 ∧ I2 = I)))

def pb_fits (a f b t : Int32) (I : px_I) (L : px_L) : Int32 → px_I → px_L → Prop := (fun r I2 L2 => bXI I I2 ∧ bXL L L2)

def pb_ways (a f b t x : Int32) (I : px_I) (L : px_L) : Int32 → px_I → px_L → Prop := (fun r I2 L2 => bXI I I2 ∧ bXL L L2)

def pb_seek (a b c d e f : Int32) (I : px_I) (L : px_L) : Int32 → px_I → px_L → Prop := (fun r I2 L2 => L2 = L ∧ ((((0 ≤ a ∧ a ≤ 9) ∧ (0 ≤ b ∧ b ≤ 9) ∧ (0 ≤ c ∧ c ≤ 9) ∧ a + b + c ≠ 0 ∧ (0 ≤ d ∧ d ≤ 40) ∧ (0 ≤ e ∧ e ≤ 3) ∧ (0 ≤ f ∧ f ≤ 20)) ∧ r = 1 ∧ I2 = px_u (px_u (px_u (px_u (px_u (px_u I 98 0 a) 98 1 b) 98 2 c) 97 3 d) 97 4 e) 97 5 f) ∨ (¬ ((0 ≤ a ∧ a ≤ 9) ∧ (0 ≤ b ∧ b ≤ 9) ∧ (0 ≤ c ∧ c ≤ 9) ∧ a + b + c ≠ 0 ∧ (0 ≤ d ∧ d ≤ 40) ∧ (0 ≤ e ∧ e ≤ 3) ∧ (0 ≤ f ∧ f ≤ 20)) ∧ r = 0 ∧ I2 = I)))

def pb_detour (a o h : Int32) (I : px_I) (L : px_L) : Int32 → px_I → px_L → Prop := (fun x I2 L2 => I2 = I ∧ cSL L L2)

def pb_table (c v : Int32) (I : px_I) (L : px_L) : Int32 → px_I → px_L → Prop := (fun r I2 L2 => L2 = L ∧ ((((0 ≤ c ∧ c ≤ 9) ∧ (0 ≤ v ∧ v ≤ 1000)) ∧ r = 1 ∧ I2 = px_u I 102 c.toNatClampNeg v) ∨ (¬ ((0 ≤ c ∧ c ≤ 9) ∧ (0 ≤ v ∧ v ≤ 1000)) ∧ r = 0 ∧ I2 = I)))

def pb_repair (g p y : Int32) (I : px_I) (L : px_L) : Int32 → px_I → px_L → Prop := (fun r I2 L2 => L2 = L ∧ ((∃ G, (bG g G ∧ I 41 15 + I 55 15 < 30 ∧ (1 ≤ p ∧ p < I G 13) ∧ (0 ≤ y ∧ y ≤ 5000) ∧ I G 15 < 30) ∧ r = I 41 15 + I 55 15 + 1 ∧ I2 = cRep G I p y (I 32 10)) ∨ (¬ (∃ G, bG g G ∧ I 41 15 + I 55 15 < 30 ∧ (1 ≤ p ∧ p < I G 13) ∧ (0 ≤ y ∧ y ≤ 5000) ∧ I G 15 < 30) ∧ r = -1 ∧ I2 = I)))

def pb_lime (v : Int32) (I : px_I) (L : px_L) : Int32 → px_I → px_L → Prop := (fun r I2 L2 => L2 = L ∧ (((0 ≤ v ∧ v ≤ 1000) ∧ r = 1 ∧ I2 = px_u I 101 2 v) ∨ (¬ (0 ≤ v ∧ v ≤ 1000) ∧ r = 0 ∧ I2 = I)))

def pb_flow (g y k h : Int32) (I : px_I) (L : px_L) : Int32 → px_I → px_L → Prop := (fun r I2 L2 => cLI I I2 ∧ cDL L L2)

def pb_narrow (g y k : Int32) (I : px_I) (L : px_L) : Int32 → px_I → px_L → Prop := (fun r I2 L2 => cLI I I2 ∧ cDL L L2)

def pb_about (w : Int32) (I : px_I) (L : px_L) : Int32 → px_I → px_L → Prop := (fun y9 I2 L2 => I2 = I ∧ L2 = L ∧ ((fun r => True)) y9)

def pk_days (x : Int32) (I : px_I) (L : px_L) : Int32 → px_I → px_L → Prop := (fun r I2 L2 => L2 = L ∧ ((1 ≤ x ∧ x ≤ 1000 ∧ I 103 0 + x ≤ 9999 ∧ r = I 103 0 + x ∧ I2 = px_u I 103 0 (I 103 0 + x)) ∨ (¬ (1 ≤ x ∧ x ≤ 1000 ∧ I 103 0 + x ≤ 9999) ∧ r = -1 ∧ I2 = I)))

def pk_station (I : px_I) (L : px_L) : Int32 → px_I → px_L → Prop := (fun r I2 L2 => L2 = L ∧ ((I 103 1 ≠ 24 ∧ r = I 103 1 ∧ I2 = px_u I 103 1 (I 103 1 + 1)) ∨ (I 103 1 = 24 ∧ r = -1 ∧ I2 = I)))

def pk_sight (a f t lo hi : Int32) (I : px_I) (L : px_L) : Int32 → px_I → px_L → Prop := (fun r I2 L2 => L2 = L ∧ ((((0 ≤ a ∧ a ≤ 2) ∧ (0 ≤ f ∧ f ≤ I 103 1 - 1) ∧ (0 ≤ t ∧ t ≤ I 103 1 - 1) ∧ f ≠ t ∧ (-1000000 ≤ lo ∧ lo ≤ 1000000) ∧ (lo ≤ hi ∧ hi ≤ 1000000) ∧ I 103 2 ≠ 80) ∧ r = I 103 2 ∧ I2 = px_u (px_u (px_u (px_u (px_u (px_u (px_u I 104 (I 103 2).toNatClampNeg a) 105 (I 103 2).toNatClampNeg f) 106 (I 103 2).toNatClampNeg t) 107 (I 103 2).toNatClampNeg lo) 108 (I 103 2).toNatClampNeg hi) 109 (I 103 2).toNatClampNeg (I 103 0)) 103 2 (I 103 2 + 1)) ∨
  (¬ ((0 ≤ a ∧ a ≤ 2) ∧ (0 ≤ f ∧ f ≤ I 103 1 - 1) ∧ (0 ≤ t ∧ t ≤ I 103 1 - 1) ∧ f ≠ t ∧ (-1000000 ≤ lo ∧ lo ≤ 1000000) ∧ (lo ≤ hi ∧ hi ≤ 1000000) ∧ I 103 2 ≠ 80) ∧ r = -1 ∧ I2 = I)))

def pk_closed (a k : Int32) (I : px_I) (L : px_L) : Int32 → px_I → px_L → Prop := (fun r I2 L2 => mDI I I2 ∧ mDL L L2)

def pk_span (a t k h : Int32) (I : px_I) (L : px_L) : Int32 → px_I → px_L → Prop := (fun r I2 L2 => mDI I I2 ∧ mDL L L2)

def pk_gap (a f t k h : Int32) (I : px_I) (L : px_L) : Int32 → px_I → px_L → Prop := (fun r I2 L2 => mDI I I2 ∧ mDL L L2)

def pk_blamed (a k i : Int32) (I : px_I) (L : px_L) : Int32 → px_I → px_L → Prop := (fun r I2 L2 => mDI I I2 ∧ mDL L L2)

def pk_reach (g lo hi sl fa w st : Int32) (I : px_I) (L : px_L) : Int32 → px_I → px_L → Prop := (fun r I2 L2 => L2 = L ∧ ((mReachOk I g lo hi sl fa w st ∧ r = mP0 I g ∧ I2 = mReach I g lo hi sl fa w st) ∨ (¬ mReachOk I g lo hi sl fa w st ∧ r = -1 ∧ I2 = I)))

def pk_mouth (g st : Int32) (I : px_I) (L : px_L) : Int32 → px_I → px_L → Prop := (fun r I2 L2 => L2 = L ∧ (((0 ≤ g ∧ g ≤ 1) ∧ (0 ≤ st ∧ st ≤ I 103 1 - 1) ∧ r = 1 ∧ I2 = px_u I 116 (20 * g).toNatClampNeg st) ∨ (¬ ((0 ≤ g ∧ g ≤ 1) ∧ (0 ≤ st ∧ st ≤ I 103 1 - 1)) ∧ r = 0 ∧ I2 = I)))

def pk_mark (g p f t : Int32) (I : px_I) (L : px_L) : Int32 → px_I → px_L → Prop := (fun r I2 L2 => L2 = L ∧ (((mPegOk I g p ∧ (0 ≤ f ∧ f ≤ 20000) ∧ (f ≤ t ∧ t ≤ 20000) ∧ I 103 16 ≠ 40) ∧ r = I 103 16 + 1 ∧ I2 = mMark I g p f t) ∨ (¬ (mPegOk I g p ∧ (0 ≤ f ∧ f ≤ 20000) ∧ (f ≤ t ∧ t ≤ 20000) ∧ I 103 16 ≠ 40) ∧ r = -1 ∧ I2 = I)))

def pk_when (g p h : Int32) (I : px_I) (L : px_L) : Int32 → px_I → px_L → Prop := (fun r I2 L2 => mDI I I2 ∧ mDL L L2)

def pk_between (g p t h : Int32) (I : px_I) (L : px_L) : Int32 → px_I → px_L → Prop := (fun r I2 L2 => mDI I I2 ∧ mDL L L2)

def pk_lamps (g p h lo hi : Int32) (I : px_I) (L : px_L) : Int32 → px_I → px_L → Prop := (fun y9 I2 L2 => I2 = I ∧ L2 = L ∧ ((fun r => True)) y9)

def pk_count (u lo hi : Int32) (I : px_I) (L : px_L) : Int32 → px_I → px_L → Prop := (fun r I2 L2 => (mCountOk I L u lo hi ∧ r = I 103 21 + 1 ∧ I2 = px_u I 103 21 (I 103 21 + 1) ∧ L2 = px_u (px_u L 103 22 (mLo I L u lo)) 103 23 (mHi I L u hi)) ∨ (¬ mCountOk I L u lo hi ∧ r = -1 ∧ I2 = I ∧ L2 = L))

def pk_unit (h : Int32) (I : px_I) (L : px_L) : Int32 → px_I → px_L → Prop := (fun y9 I2 L2 => I2 = I ∧ L2 = L ∧ ((fun r => r = if I 103 21 = 0 then -1 else if ¬ h = 0 then (L 103 23).toInt32 else (L 103 22).toInt32)) y9)

def pk_feed (a b c d e : Int32) (I : px_I) (L : px_L) : Int32 → px_I → px_L → Prop := (fun r I2 L2 => L2 = L ∧ ((I 103 25 + 20 ≤ 400 ∧ r = I 103 25 + 20 ∧ I2 = mPut (mPut (mPut (mPut (mPut I a) b) c) d) e) ∨ (¬ I 103 25 + 20 ≤ 400 ∧ r = -1 ∧ I2 = I)))

def pk_end (x : Int32) (I : px_I) (L : px_L) : Int32 → px_I → px_L → Prop := (fun r I2 L2 => L2 = L ∧ ((0 ≤ x ∧ x ≤ I 103 25 ∧ r = x ∧ I2 = px_u I 103 25 x) ∨ (¬ (0 ≤ x ∧ x ≤ I 103 25) ∧ r = -1 ∧ I2 = I)))

def pk_way (w : Int32) (I : px_I) (L : px_L) : Int32 → px_I → px_L → Prop := (fun r I2 L2 => L2 = L ∧ ((¬ (0 ≤ w ∧ w ≤ 5) ∧ r = -1 ∧ I2 = I) ∨ ((0 ≤ w ∧ w ≤ 5) ∧ mWayPost I I2 w)))

def pk_fault (x : Int32) (I : px_I) (L : px_L) : Int32 → px_I → px_L → Prop := (fun y9 I2 L2 => I2 = I ∧ L2 = L ∧ ((fun r => r = if x = 0 then I 103 33 else if x = 1 then I 103 34 else -1)) y9)

def pk_tools (a b c d e : Int32) (I : px_I) (L : px_L) : Int32 → px_I → px_L → Prop := (fun r I2 L2 => L2 = L ∧ ((((0 ≤ a ∧ a ≤ 1000) ∧ (0 ≤ b ∧ b ≤ 1000) ∧ (0 ≤ c ∧ c ≤ 1000) ∧ (0 ≤ d ∧ d ≤ 10000) ∧ (0 ≤ e ∧ e ≤ 1000)) ∧ r = 1 ∧ I2 = px_u (px_u (px_u (px_u (px_u I 103 47 a) 103 48 b) 103 49 c) 103 50 d) 103 51 e) ∨ (¬ ((0 ≤ a ∧ a ≤ 1000) ∧ (0 ≤ b ∧ b ≤ 1000) ∧ (0 ≤ c ∧ c ≤ 1000) ∧ (0 ≤ d ∧ d ≤ 10000) ∧ (0 ≤ e ∧ e ≤ 1000)) ∧ r = 0 ∧ I2 = I)))

def pk_run (w h a : Int32) (I : px_I) (L : px_L) : Int32 → px_I → px_L → Prop := (fun r I2 L2 => mXI I I2 ∧ mXL L L2)

def pk_meeting (a f b t x h : Int32) (I : px_I) (L : px_L) : Int32 → px_I → px_L → Prop := (fun r I2 L2 => mXI I I2 ∧ mXL L L2)

def pk_there (a lo hi : Int32) (I : px_I) (L : px_L) : Int32 → px_I → px_L → Prop := (fun r I2 L2 => L2 = L ∧ ((((0 ≤ a ∧ a ≤ 2) ∧ (-1000000 ≤ lo ∧ lo ≤ 1000000) ∧ (lo ≤ hi ∧ hi ≤ 1000000)) ∧ r = 1 ∧ I2 = px_u (px_u I 135 a.toNatClampNeg lo) 136 a.toNatClampNeg hi) ∨ (¬ ((0 ≤ a ∧ a ≤ 2) ∧ (-1000000 ≤ lo ∧ lo ≤ 1000000) ∧ (lo ≤ hi ∧ hi ≤ 1000000)) ∧ r = 0 ∧ I2 = I)))

def pk_fits (a f b t : Int32) (I : px_I) (L : px_L) : Int32 → px_I → px_L → Prop := (fun r I2 L2 => mXI I I2 ∧ mXL L L2)

def pk_ways (a f b t x : Int32) (I : px_I) (L : px_L) : Int32 → px_I → px_L → Prop := (fun r I2 L2 => mXI I I2 ∧ mXL L L2)

def pk_seek (a b c d e f : Int32) (I : px_I) (L : px_L) : Int32 → px_I → px_L → Prop := (fun r I2 L2 => L2 = L ∧ ((((0 ≤ a ∧ a ≤ 9) ∧ (0 ≤ b ∧ b ≤ 9) ∧ (0 ≤ c ∧ c ≤ 9) ∧ a + b + c ≠ 0 ∧ (0 ≤ d ∧ d ≤ 40) ∧ (0 ≤ e ∧ e ≤ 3) ∧ (0 ≤ f ∧ f ≤ 20)) ∧ r = 1 ∧ I2 = px_u (px_u (px_u (px_u (px_u (px_u I 137 0 a) 137 1 b) 137 2 c) 103 59 d) 103 60 e) 103 61 f) ∨ (¬ ((0 ≤ a ∧ a ≤ 9) ∧ (0 ≤ b ∧ b ≤ 9) ∧ (0 ≤ c ∧ c ≤ 9) ∧ a + b + c ≠ 0 ∧ (0 ≤ d ∧ d ≤ 40) ∧ (0 ≤ e ∧ e ≤ 3) ∧ (0 ≤ f ∧ f ≤ 20)) ∧ r = 0 ∧ I2 = I)))

def pk_detour (a o lo : Int32) (I : px_I) (L : px_L) : Int32 → px_I → px_L → Prop := (fun r I2 L2 => I2 = I ∧ mNL L L2)

def pk_table (c v : Int32) (I : px_I) (L : px_L) : Int32 → px_I → px_L → Prop := (fun r I2 L2 => L2 = L ∧ ((((0 ≤ c ∧ c ≤ 9) ∧ (0 ≤ v ∧ v ≤ 1000)) ∧ r = 1 ∧ I2 = px_u I 138 c.toNatClampNeg v) ∨ (¬ ((0 ≤ c ∧ c ≤ 9) ∧ (0 ≤ v ∧ v ≤ 1000)) ∧ r = 0 ∧ I2 = I)))

def pk_repair (g p y : Int32) (I : px_I) (L : px_L) : Int32 → px_I → px_L → Prop := (fun r I2 L2 => L2 = L ∧ (((mPegOk I g p ∧ p ≠ 0 ∧ (0 ≤ y ∧ y ≤ 5000) ∧ I 103 63 ≠ 30) ∧ r = I 103 63 + 1 ∧ I2 = px_u (px_u (px_u (px_u (px_u I 139 (I 103 63).toNatClampNeg g) 140 (I 103 63).toNatClampNeg p) 141 (I 103 63).toNatClampNeg y) 142 (I 103 63).toNatClampNeg (I 103 0)) 103 63 (I 103 63 + 1)) ∨ (¬ (mPegOk I g p ∧ p ≠ 0 ∧ (0 ≤ y ∧ y ≤ 5000) ∧ I 103 63 ≠ 30) ∧ r = -1 ∧ I2 = I)))

def pk_lime (v : Int32) (I : px_I) (L : px_L) : Int32 → px_I → px_L → Prop := (fun r I2 L2 => L2 = L ∧ ((0 ≤ v ∧ v ≤ 1000 ∧ r = 1 ∧ I2 = px_u I 103 68 v) ∨ (¬ (0 ≤ v ∧ v ≤ 1000) ∧ r = 0 ∧ I2 = I)))

def pk_flow (g y k h : Int32) (I : px_I) (L : px_L) : Int32 → px_I → px_L → Prop := (fun r I2 L2 => mDI I I2 ∧ mDL L L2)

def pk_narrow (g y k : Int32) (I : px_I) (L : px_L) : Int32 → px_I → px_L → Prop := (fun r I2 L2 => mDI I I2 ∧ mDL L L2)

def pk_about (w : Int32) (I : px_I) (L : px_L) : Int32 → px_I → px_L → Prop := (fun y9 I2 L2 => I2 = I ∧ L2 = L ∧ ((fun r => True)) y9)
