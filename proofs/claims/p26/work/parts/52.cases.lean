/-! one case after the other -/

theorem q_law_184 : px_bk 13 4 cL_law 184 [(.aload_n 1, (0, 0, 0, 0, 0), 0, 0)] = some 185 := by decide +kernel
theorem q_law_185 : px_bk 13 4 cL_law 185 [(.aload_n 0, (0, 0, 0, 0, 0), 0, 0), (.iload_n 3, (0, 0, 0, 0, 0), 0, 0), (.iconst 1, (0, 0, 0, 0, 0), 1, 0), (.iadd, (0, 0, 0, 0, 0), 0, 0)] = some 189 ∧ px_tia cL_law 189 = true := by decide +kernel
theorem q_law_190 : px_tv cL_law 190 13 = true := by decide +kernel
theorem q_law_193 : px_bk 13 4 cL_law 193 [(.pop, (0, 0, 0, 0, 0), 0, 0), (.aload_n 2, (0, 0, 0, 0, 0), 0, 0)] = some 195 := by decide +kernel
theorem q_law_195 : px_bk 13 4 cL_law 195 [(.aload_n 0, (0, 0, 0, 0, 0), 0, 0), (.iload_n 3, (0, 0, 0, 0, 0), 0, 0), (.iconst 1, (0, 0, 0, 0, 0), 1, 0), (.iadd, (0, 0, 0, 0, 0), 0, 0)] = some 199 ∧ px_tia cL_law 199 = true := by decide +kernel
theorem q_law_200 : px_tv cL_law 200 17 = true := by decide +kernel
theorem q_law_203 : px_bk 13 4 cL_law 203 [(.pop, (0, 0, 0, 0, 0), 0, 0), (.goto 1664, (0, 0, 0, 0, 0), 0, 0)] = some 1868 := by decide +kernel

set_option maxRecDepth 100000 in
theorem lc_days {N : Nat} {xs : Nat → Int32} {n cu su : Nat} {I : px_I} {L : px_L} {R : px_R} {Q : px_Q} {i : Int32} (hi : lwI N i) (hcu : cu ≤ 490000) (hsu : su ≤ 6900000) (hj : jJ n I R) (kk : ∀ (x : Int32) (n2 : Nat) I2 L2 R2 (y : Int32) I3 L3, jJ n2 I3 R2 → frB I I2 L L2 → kR R I2 R2 → pb_days (ag xs i 1) I L x I2 L2 → frK I2 I3 L2 L3 → pk_days (ag xs i 1) I2 L2 y I3 L3 → px (M_law N xs) (cu + 3) (su + 404) 1868 (lwL i) [] n2 I3 L3 R2 Q) : px (M_law N xs) cu su 184 (lwL i) [] n I L R Q := by
  have hg := hj.g
  refine px_b (on := 13) rfl q_law_184 hg rfl trivial ?_
  refine px_argC q_law_185 hg hi (by decide) ?_
  refine px_kB q_law_190 lk_13_13 nm_X11_days (jb_days hj _) rfl rfl hg rfl (rkL rfl rfl rfl rfl (by omega) (by omega) rfl) ?_
  intro x n2 I2 L2 R2 hj2 f1 fR p1
  have hg := hj2.g
  refine px_b (on := 13) rfl q_law_193 hg rfl trivial ?_
  refine px_argC q_law_195 hg hi (by decide) ?_
  refine px_kK q_law_200 lk_13_17 nm_X12_days (jk_days hj2 _) rfl rfl hg rfl (rkL rfl rfl rfl rfl (by show cu + 0 ≤ 500000; omega) (by show su + 0 ≤ 7000000; omega) rfl) ?_
  intro y I3 L3 hj3 f2 p2
  have hg := hj3.g
  refine px_b (on := 13) rfl q_law_203 hg rfl trivial ?_
  exact px_wid (cu2 := cu + 3) (su2 := su + 404) (by show cu + 0 + 0 ≤ cu + 3; omega) (by show su + 0 + 0 ≤ su + 404; omega) (kk x n2 I2 L2 R2 y I3 L3 hj3 f1 fR p1 f2 p2)

theorem q_law_207 : px_bk 13 4 cL_law 207 [(.aload_n 1, (0, 0, 0, 0, 0), 0, 0)] = some 208 := by decide +kernel
theorem q_law_208 : px_tv cL_law 208 18 = true := by decide +kernel
theorem q_law_211 : px_bk 13 4 cL_law 211 [(.pop, (0, 0, 0, 0, 0), 0, 0), (.aload_n 2, (0, 0, 0, 0, 0), 0, 0)] = some 213 := by decide +kernel
theorem q_law_213 : px_tv cL_law 213 22 = true := by decide +kernel
theorem q_law_216 : px_bk 13 4 cL_law 216 [(.pop, (0, 0, 0, 0, 0), 0, 0), (.goto 1651, (0, 0, 0, 0, 0), 0, 0)] = some 1868 := by decide +kernel

set_option maxRecDepth 100000 in
theorem lc_station {N : Nat} {xs : Nat → Int32} {n cu su : Nat} {I : px_I} {L : px_L} {R : px_R} {Q : px_Q} {i : Int32} (hi : lwI N i) (hcu : cu ≤ 490000) (hsu : su ≤ 6900000) (hj : jJ n I R) (kk : ∀ (x : Int32) (n2 : Nat) I2 L2 R2 (y : Int32) I3 L3, jJ n2 I3 R2 → frB I I2 L L2 → kR R I2 R2 → pb_station  I L x I2 L2 → frK I2 I3 L2 L3 → pk_station  I2 L2 y I3 L3 → px (M_law N xs) (cu + 3) (su + 404) 1868 (lwL i) [] n2 I3 L3 R2 Q) : px (M_law N xs) cu su 207 (lwL i) [] n I L R Q := by
  have hg := hj.g
  refine px_b (on := 13) rfl q_law_207 hg rfl trivial ?_
  refine px_kB q_law_208 lk_13_18 nm_X11_station (jb_station hj) rfl rfl hg rfl (rkL rfl rfl rfl rfl (by omega) (by omega) rfl) ?_
  intro x n2 I2 L2 R2 hj2 f1 fR p1
  have hg := hj2.g
  refine px_b (on := 13) rfl q_law_211 hg rfl trivial ?_
  refine px_kK q_law_213 lk_13_22 nm_X12_station (jk_station hj2) rfl rfl hg rfl (rkL rfl rfl rfl rfl (by show cu + 0 ≤ 500000; omega) (by show su + 0 ≤ 7000000; omega) rfl) ?_
  intro y I3 L3 hj3 f2 p2
  have hg := hj3.g
  refine px_b (on := 13) rfl q_law_216 hg rfl trivial ?_
  exact px_wid (cu2 := cu + 3) (su2 := su + 404) (by show cu + 0 + 0 ≤ cu + 3; omega) (by show su + 0 + 0 ≤ su + 404; omega) (kk x n2 I2 L2 R2 y I3 L3 hj3 f1 fR p1 f2 p2)

theorem q_law_220 : px_bk 13 4 cL_law 220 [(.aload_n 1, (0, 0, 0, 0, 0), 0, 0)] = some 221 := by decide +kernel
theorem q_law_221 : px_bk 13 4 cL_law 221 [(.aload_n 0, (0, 0, 0, 0, 0), 0, 0), (.iload_n 3, (0, 0, 0, 0, 0), 0, 0), (.iconst 1, (0, 0, 0, 0, 0), 1, 0), (.iadd, (0, 0, 0, 0, 0), 0, 0)] = some 225 ∧ px_tia cL_law 225 = true := by decide +kernel
theorem q_law_226 : px_bk 13 4 cL_law 226 [(.aload_n 0, (0, 0, 0, 0, 0), 0, 0), (.iload_n 3, (0, 0, 0, 0, 0), 0, 0), (.iconst 2, (0, 0, 0, 0, 0), 2, 0), (.iadd, (0, 0, 0, 0, 0), 0, 0)] = some 230 ∧ px_tia cL_law 230 = true := by decide +kernel
theorem q_law_231 : px_bk 13 4 cL_law 231 [(.aload_n 0, (0, 0, 0, 0, 0), 0, 0), (.iload_n 3, (0, 0, 0, 0, 0), 0, 0), (.iconst 3, (0, 0, 0, 0, 0), 3, 0), (.iadd, (0, 0, 0, 0, 0), 0, 0)] = some 235 ∧ px_tia cL_law 235 = true := by decide +kernel
theorem q_law_236 : px_bk 13 4 cL_law 236 [(.aload_n 0, (0, 0, 0, 0, 0), 0, 0), (.iload_n 3, (0, 0, 0, 0, 0), 0, 0), (.iconst 4, (0, 0, 0, 0, 0), 4, 0), (.iadd, (0, 0, 0, 0, 0), 0, 0)] = some 240 ∧ px_tia cL_law 240 = true := by decide +kernel
theorem q_law_241 : px_bk 13 4 cL_law 241 [(.aload_n 0, (0, 0, 0, 0, 0), 0, 0), (.iload_n 3, (0, 0, 0, 0, 0), 0, 0), (.iconst 5, (0, 0, 0, 0, 0), 5, 0), (.iadd, (0, 0, 0, 0, 0), 0, 0)] = some 245 ∧ px_tia cL_law 245 = true := by decide +kernel
theorem q_law_246 : px_tv cL_law 246 23 = true := by decide +kernel
theorem q_law_249 : px_bk 13 4 cL_law 249 [(.pop, (0, 0, 0, 0, 0), 0, 0), (.aload_n 2, (0, 0, 0, 0, 0), 0, 0)] = some 251 := by decide +kernel
theorem q_law_251 : px_bk 13 4 cL_law 251 [(.aload_n 0, (0, 0, 0, 0, 0), 0, 0), (.iload_n 3, (0, 0, 0, 0, 0), 0, 0), (.iconst 1, (0, 0, 0, 0, 0), 1, 0), (.iadd, (0, 0, 0, 0, 0), 0, 0)] = some 255 ∧ px_tia cL_law 255 = true := by decide +kernel
theorem q_law_256 : px_bk 13 4 cL_law 256 [(.aload_n 0, (0, 0, 0, 0, 0), 0, 0), (.iload_n 3, (0, 0, 0, 0, 0), 0, 0), (.iconst 2, (0, 0, 0, 0, 0), 2, 0), (.iadd, (0, 0, 0, 0, 0), 0, 0)] = some 260 ∧ px_tia cL_law 260 = true := by decide +kernel
theorem q_law_261 : px_bk 13 4 cL_law 261 [(.aload_n 0, (0, 0, 0, 0, 0), 0, 0), (.iload_n 3, (0, 0, 0, 0, 0), 0, 0), (.iconst 3, (0, 0, 0, 0, 0), 3, 0), (.iadd, (0, 0, 0, 0, 0), 0, 0)] = some 265 ∧ px_tia cL_law 265 = true := by decide +kernel
theorem q_law_266 : px_bk 13 4 cL_law 266 [(.aload_n 0, (0, 0, 0, 0, 0), 0, 0), (.iload_n 3, (0, 0, 0, 0, 0), 0, 0), (.iconst 4, (0, 0, 0, 0, 0), 4, 0), (.iadd, (0, 0, 0, 0, 0), 0, 0)] = some 270 ∧ px_tia cL_law 270 = true := by decide +kernel
theorem q_law_271 : px_bk 13 4 cL_law 271 [(.aload_n 0, (0, 0, 0, 0, 0), 0, 0), (.iload_n 3, (0, 0, 0, 0, 0), 0, 0), (.iconst 5, (0, 0, 0, 0, 0), 5, 0), (.iadd, (0, 0, 0, 0, 0), 0, 0)] = some 275 ∧ px_tia cL_law 275 = true := by decide +kernel
theorem q_law_276 : px_tv cL_law 276 27 = true := by decide +kernel
theorem q_law_279 : px_bk 13 4 cL_law 279 [(.pop, (0, 0, 0, 0, 0), 0, 0), (.goto 1588, (0, 0, 0, 0, 0), 0, 0)] = some 1868 := by decide +kernel

set_option maxRecDepth 100000 in
theorem lc_sight {N : Nat} {xs : Nat → Int32} {n cu su : Nat} {I : px_I} {L : px_L} {R : px_R} {Q : px_Q} {i : Int32} (hi : lwI N i) (hcu : cu ≤ 490000) (hsu : su ≤ 6900000) (hj : jJ n I R) (kk : ∀ (x : Int32) (n2 : Nat) I2 L2 R2 (y : Int32) I3 L3, jJ n2 I3 R2 → frB I I2 L L2 → kR R I2 R2 → pb_sight (ag xs i 1) (ag xs i 2) (ag xs i 3) (ag xs i 4) (ag xs i 5) I L x I2 L2 → frK I2 I3 L2 L3 → pk_sight (ag xs i 1) (ag xs i 2) (ag xs i 3) (ag xs i 4) (ag xs i 5) I2 L2 y I3 L3 → px (M_law N xs) (cu + 3) (su + 404) 1868 (lwL i) [] n2 I3 L3 R2 Q) : px (M_law N xs) cu su 220 (lwL i) [] n I L R Q := by
  have hg := hj.g
  refine px_b (on := 13) rfl q_law_220 hg rfl trivial ?_
  refine px_argC q_law_221 hg hi (by decide) ?_
  refine px_argC q_law_226 hg hi (by decide) ?_
  refine px_argC q_law_231 hg hi (by decide) ?_
  refine px_argC q_law_236 hg hi (by decide) ?_
  refine px_argC q_law_241 hg hi (by decide) ?_
  refine px_kB q_law_246 lk_13_23 nm_X11_sight (jb_sight hj _ _ _ _ _) rfl rfl hg rfl (rkL rfl rfl rfl rfl (by omega) (by omega) rfl) ?_
  intro x n2 I2 L2 R2 hj2 f1 fR p1
  have hg := hj2.g
  refine px_b (on := 13) rfl q_law_249 hg rfl trivial ?_
  refine px_argC q_law_251 hg hi (by decide) ?_
  refine px_argC q_law_256 hg hi (by decide) ?_
  refine px_argC q_law_261 hg hi (by decide) ?_
  refine px_argC q_law_266 hg hi (by decide) ?_
  refine px_argC q_law_271 hg hi (by decide) ?_
  refine px_kK q_law_276 lk_13_27 nm_X12_sight (jk_sight hj2 _ _ _ _ _) rfl rfl hg rfl (rkL rfl rfl rfl rfl (by show cu + 0 ≤ 500000; omega) (by show su + 0 ≤ 7000000; omega) rfl) ?_
  intro y I3 L3 hj3 f2 p2
  have hg := hj3.g
  refine px_b (on := 13) rfl q_law_279 hg rfl trivial ?_
  exact px_wid (cu2 := cu + 3) (su2 := su + 404) (by show cu + 0 + 0 ≤ cu + 3; omega) (by show su + 0 + 0 ≤ su + 404; omega) (kk x n2 I2 L2 R2 y I3 L3 hj3 f1 fR p1 f2 p2)

theorem q_law_283 : px_bk 13 4 cL_law 283 [(.aload_n 1, (0, 0, 0, 0, 0), 0, 0)] = some 284 := by decide +kernel
theorem q_law_284 : px_bk 13 4 cL_law 284 [(.aload_n 0, (0, 0, 0, 0, 0), 0, 0), (.iload_n 3, (0, 0, 0, 0, 0), 0, 0), (.iconst 1, (0, 0, 0, 0, 0), 1, 0), (.iadd, (0, 0, 0, 0, 0), 0, 0)] = some 288 ∧ px_tia cL_law 288 = true := by decide +kernel
theorem q_law_289 : px_bk 13 4 cL_law 289 [(.aload_n 0, (0, 0, 0, 0, 0), 0, 0), (.iload_n 3, (0, 0, 0, 0, 0), 0, 0), (.iconst 2, (0, 0, 0, 0, 0), 2, 0), (.iadd, (0, 0, 0, 0, 0), 0, 0)] = some 293 ∧ px_tia cL_law 293 = true := by decide +kernel
theorem q_law_294 : px_tv cL_law 294 28 = true := by decide +kernel
theorem q_law_297 : px_bk 13 4 cL_law 297 [(.pop, (0, 0, 0, 0, 0), 0, 0), (.aload_n 2, (0, 0, 0, 0, 0), 0, 0)] = some 299 := by decide +kernel
theorem q_law_299 : px_bk 13 4 cL_law 299 [(.aload_n 0, (0, 0, 0, 0, 0), 0, 0), (.iload_n 3, (0, 0, 0, 0, 0), 0, 0), (.iconst 1, (0, 0, 0, 0, 0), 1, 0), (.iadd, (0, 0, 0, 0, 0), 0, 0)] = some 303 ∧ px_tia cL_law 303 = true := by decide +kernel
theorem q_law_304 : px_bk 13 4 cL_law 304 [(.aload_n 0, (0, 0, 0, 0, 0), 0, 0), (.iload_n 3, (0, 0, 0, 0, 0), 0, 0), (.iconst 2, (0, 0, 0, 0, 0), 2, 0), (.iadd, (0, 0, 0, 0, 0), 0, 0)] = some 308 ∧ px_tia cL_law 308 = true := by decide +kernel
theorem q_law_309 : px_tv cL_law 309 32 = true := by decide +kernel
theorem q_law_312 : px_bk 13 4 cL_law 312 [(.pop, (0, 0, 0, 0, 0), 0, 0), (.goto 1555, (0, 0, 0, 0, 0), 0, 0)] = some 1868 := by decide +kernel

set_option maxRecDepth 100000 in
theorem lc_closed {N : Nat} {xs : Nat → Int32} {n cu su : Nat} {I : px_I} {L : px_L} {R : px_R} {Q : px_Q} {i : Int32} (hi : lwI N i) (hcu : cu ≤ 490000) (hsu : su ≤ 6900000) (hj : jJ n I R) (kk : ∀ (x : Int32) (n2 : Nat) I2 L2 R2 (y : Int32) I3 L3, jJ n2 I3 R2 → frB I I2 L L2 → kR R I2 R2 → pb_closed (ag xs i 1) (ag xs i 2) I L x I2 L2 → frK I2 I3 L2 L3 → pk_closed (ag xs i 1) (ag xs i 2) I2 L2 y I3 L3 → px (M_law N xs) (cu + 3) (su + 404) 1868 (lwL i) [] n2 I3 L3 R2 Q) : px (M_law N xs) cu su 283 (lwL i) [] n I L R Q := by
  have hg := hj.g
  refine px_b (on := 13) rfl q_law_283 hg rfl trivial ?_
  refine px_argC q_law_284 hg hi (by decide) ?_
  refine px_argC q_law_289 hg hi (by decide) ?_
  refine px_kB q_law_294 lk_13_28 nm_X11_closed (jb_closed hj _ _) rfl rfl hg rfl (rkL rfl rfl rfl rfl (by omega) (by omega) rfl) ?_
  intro x n2 I2 L2 R2 hj2 f1 fR p1
  have hg := hj2.g
  refine px_b (on := 13) rfl q_law_297 hg rfl trivial ?_
  refine px_argC q_law_299 hg hi (by decide) ?_
  refine px_argC q_law_304 hg hi (by decide) ?_
  refine px_kK q_law_309 lk_13_32 nm_X12_closed (jk_closed hj2 _ _) rfl rfl hg rfl (rkL rfl rfl rfl rfl (by show cu + 0 ≤ 500000; omega) (by show su + 0 ≤ 7000000; omega) rfl) ?_
  intro y I3 L3 hj3 f2 p2
  have hg := hj3.g
  refine px_b (on := 13) rfl q_law_312 hg rfl trivial ?_
  exact px_wid (cu2 := cu + 3) (su2 := su + 404) (by show cu + 0 + 0 ≤ cu + 3; omega) (by show su + 0 + 0 ≤ su + 404; omega) (kk x n2 I2 L2 R2 y I3 L3 hj3 f1 fR p1 f2 p2)

theorem q_law_316 : px_bk 13 4 cL_law 316 [(.aload_n 1, (0, 0, 0, 0, 0), 0, 0)] = some 317 := by decide +kernel
theorem q_law_317 : px_bk 13 4 cL_law 317 [(.aload_n 0, (0, 0, 0, 0, 0), 0, 0), (.iload_n 3, (0, 0, 0, 0, 0), 0, 0), (.iconst 1, (0, 0, 0, 0, 0), 1, 0), (.iadd, (0, 0, 0, 0, 0), 0, 0)] = some 321 ∧ px_tia cL_law 321 = true := by decide +kernel
theorem q_law_322 : px_bk 13 4 cL_law 322 [(.aload_n 0, (0, 0, 0, 0, 0), 0, 0), (.iload_n 3, (0, 0, 0, 0, 0), 0, 0), (.iconst 2, (0, 0, 0, 0, 0), 2, 0), (.iadd, (0, 0, 0, 0, 0), 0, 0)] = some 326 ∧ px_tia cL_law 326 = true := by decide +kernel
theorem q_law_327 : px_bk 13 4 cL_law 327 [(.aload_n 0, (0, 0, 0, 0, 0), 0, 0), (.iload_n 3, (0, 0, 0, 0, 0), 0, 0), (.iconst 3, (0, 0, 0, 0, 0), 3, 0), (.iadd, (0, 0, 0, 0, 0), 0, 0)] = some 331 ∧ px_tia cL_law 331 = true := by decide +kernel
theorem q_law_332 : px_bk 13 4 cL_law 332 [(.aload_n 0, (0, 0, 0, 0, 0), 0, 0), (.iload_n 3, (0, 0, 0, 0, 0), 0, 0), (.iconst 4, (0, 0, 0, 0, 0), 4, 0), (.iadd, (0, 0, 0, 0, 0), 0, 0)] = some 336 ∧ px_tia cL_law 336 = true := by decide +kernel
theorem q_law_337 : (px_bk 13 4 cL_law 337 [] = some 337 ∧ px_t1 cL_law 337 .eq 344 = true) ∧ px_bk 13 4 cL_law 344 [(.iconst 0, (0, 0, 0, 0, 0), 0, 0)] = some 345 ∧ px_bk 13 4 cL_law 340 [(.iconst 1, (0, 0, 0, 0, 0), 1, 0), (.goto 4, (0, 0, 0, 0, 0), 0, 0)] = some 345 := by decide +kernel
theorem q_law_345 : px_tv cL_law 345 33 = true := by decide +kernel
theorem q_law_348 : px_bk 13 4 cL_law 348 [(.pop, (0, 0, 0, 0, 0), 0, 0), (.aload_n 2, (0, 0, 0, 0, 0), 0, 0)] = some 350 := by decide +kernel
theorem q_law_350 : px_bk 13 4 cL_law 350 [(.aload_n 0, (0, 0, 0, 0, 0), 0, 0), (.iload_n 3, (0, 0, 0, 0, 0), 0, 0), (.iconst 1, (0, 0, 0, 0, 0), 1, 0), (.iadd, (0, 0, 0, 0, 0), 0, 0)] = some 354 ∧ px_tia cL_law 354 = true := by decide +kernel
theorem q_law_355 : px_bk 13 4 cL_law 355 [(.aload_n 0, (0, 0, 0, 0, 0), 0, 0), (.iload_n 3, (0, 0, 0, 0, 0), 0, 0), (.iconst 2, (0, 0, 0, 0, 0), 2, 0), (.iadd, (0, 0, 0, 0, 0), 0, 0)] = some 359 ∧ px_tia cL_law 359 = true := by decide +kernel
theorem q_law_360 : px_bk 13 4 cL_law 360 [(.aload_n 0, (0, 0, 0, 0, 0), 0, 0), (.iload_n 3, (0, 0, 0, 0, 0), 0, 0), (.iconst 3, (0, 0, 0, 0, 0), 3, 0), (.iadd, (0, 0, 0, 0, 0), 0, 0)] = some 364 ∧ px_tia cL_law 364 = true := by decide +kernel
theorem q_law_365 : px_bk 13 4 cL_law 365 [(.aload_n 0, (0, 0, 0, 0, 0), 0, 0), (.iload_n 3, (0, 0, 0, 0, 0), 0, 0), (.iconst 4, (0, 0, 0, 0, 0), 4, 0), (.iadd, (0, 0, 0, 0, 0), 0, 0)] = some 369 ∧ px_tia cL_law 369 = true := by decide +kernel
theorem q_law_370 : (px_bk 13 4 cL_law 370 [] = some 370 ∧ px_t1 cL_law 370 .eq 377 = true) ∧ px_bk 13 4 cL_law 377 [(.iconst 0, (0, 0, 0, 0, 0), 0, 0)] = some 378 ∧ px_bk 13 4 cL_law 373 [(.iconst 1, (0, 0, 0, 0, 0), 1, 0), (.goto 4, (0, 0, 0, 0, 0), 0, 0)] = some 378 := by decide +kernel
theorem q_law_378 : px_tv cL_law 378 37 = true := by decide +kernel
theorem q_law_381 : px_bk 13 4 cL_law 381 [(.pop, (0, 0, 0, 0, 0), 0, 0), (.goto 1486, (0, 0, 0, 0, 0), 0, 0)] = some 1868 := by decide +kernel

set_option maxRecDepth 100000 in
theorem lc_span {N : Nat} {xs : Nat → Int32} {n cu su : Nat} {I : px_I} {L : px_L} {R : px_R} {Q : px_Q} {i : Int32} (hi : lwI N i) (hcu : cu ≤ 490000) (hsu : su ≤ 6900000) (hj : jJ n I R) (kk : ∀ (x : Int32) (n2 : Nat) I2 L2 R2 (y : Int32) I3 L3, jJ n2 I3 R2 → frB I I2 L L2 → kR R I2 R2 → pb_span (ag xs i 1) (ag xs i 2) (ag xs i 3) (bo (ag xs i 4)) I L x I2 L2 → frK I2 I3 L2 L3 → pk_span (ag xs i 1) (ag xs i 2) (ag xs i 3) (bo (ag xs i 4)) I2 L2 y I3 L3 → px (M_law N xs) (cu + 3) (su + 404) 1868 (lwL i) [] n2 I3 L3 R2 Q) : px (M_law N xs) cu su 316 (lwL i) [] n I L R Q := by
  have hg := hj.g
  refine px_b (on := 13) rfl q_law_316 hg rfl trivial ?_
  refine px_argC q_law_317 hg hi (by decide) ?_
  refine px_argC q_law_322 hg hi (by decide) ?_
  refine px_argC q_law_327 hg hi (by decide) ?_
  refine px_argC q_law_332 hg hi (by decide) ?_
  refine px_boo q_law_337 rfl hg ?_
  refine px_kB q_law_345 lk_13_33 nm_X11_span (jb_span hj _ _ _ _) rfl rfl hg rfl (rkL rfl rfl rfl rfl (by omega) (by omega) rfl) ?_
  intro x n2 I2 L2 R2 hj2 f1 fR p1
  have hg := hj2.g
  refine px_b (on := 13) rfl q_law_348 hg rfl trivial ?_
  refine px_argC q_law_350 hg hi (by decide) ?_
  refine px_argC q_law_355 hg hi (by decide) ?_
  refine px_argC q_law_360 hg hi (by decide) ?_
  refine px_argC q_law_365 hg hi (by decide) ?_
  refine px_boo q_law_370 rfl hg ?_
  refine px_kK q_law_378 lk_13_37 nm_X12_span (jk_span hj2 _ _ _ _) rfl rfl hg rfl (rkL rfl rfl rfl rfl (by show cu + 0 ≤ 500000; omega) (by show su + 0 ≤ 7000000; omega) rfl) ?_
  intro y I3 L3 hj3 f2 p2
  have hg := hj3.g
  refine px_b (on := 13) rfl q_law_381 hg rfl trivial ?_
  exact px_wid (cu2 := cu + 3) (su2 := su + 404) (by show cu + 0 + 0 ≤ cu + 3; omega) (by show su + 0 + 0 ≤ su + 404; omega) (kk x n2 I2 L2 R2 y I3 L3 hj3 f1 fR p1 f2 p2)

theorem q_law_385 : px_bk 13 4 cL_law 385 [(.aload_n 1, (0, 0, 0, 0, 0), 0, 0)] = some 386 := by decide +kernel
theorem q_law_386 : px_bk 13 4 cL_law 386 [(.aload_n 0, (0, 0, 0, 0, 0), 0, 0), (.iload_n 3, (0, 0, 0, 0, 0), 0, 0), (.iconst 1, (0, 0, 0, 0, 0), 1, 0), (.iadd, (0, 0, 0, 0, 0), 0, 0)] = some 390 ∧ px_tia cL_law 390 = true := by decide +kernel
theorem q_law_391 : px_bk 13 4 cL_law 391 [(.aload_n 0, (0, 0, 0, 0, 0), 0, 0), (.iload_n 3, (0, 0, 0, 0, 0), 0, 0), (.iconst 2, (0, 0, 0, 0, 0), 2, 0), (.iadd, (0, 0, 0, 0, 0), 0, 0)] = some 395 ∧ px_tia cL_law 395 = true := by decide +kernel
theorem q_law_396 : px_bk 13 4 cL_law 396 [(.aload_n 0, (0, 0, 0, 0, 0), 0, 0), (.iload_n 3, (0, 0, 0, 0, 0), 0, 0), (.iconst 3, (0, 0, 0, 0, 0), 3, 0), (.iadd, (0, 0, 0, 0, 0), 0, 0)] = some 400 ∧ px_tia cL_law 400 = true := by decide +kernel
theorem q_law_401 : px_bk 13 4 cL_law 401 [(.aload_n 0, (0, 0, 0, 0, 0), 0, 0), (.iload_n 3, (0, 0, 0, 0, 0), 0, 0), (.iconst 4, (0, 0, 0, 0, 0), 4, 0), (.iadd, (0, 0, 0, 0, 0), 0, 0)] = some 405 ∧ px_tia cL_law 405 = true := by decide +kernel
theorem q_law_406 : px_bk 13 4 cL_law 406 [(.aload_n 0, (0, 0, 0, 0, 0), 0, 0), (.iload_n 3, (0, 0, 0, 0, 0), 0, 0), (.iconst 5, (0, 0, 0, 0, 0), 5, 0), (.iadd, (0, 0, 0, 0, 0), 0, 0)] = some 410 ∧ px_tia cL_law 410 = true := by decide +kernel
theorem q_law_411 : (px_bk 13 4 cL_law 411 [] = some 411 ∧ px_t1 cL_law 411 .eq 418 = true) ∧ px_bk 13 4 cL_law 418 [(.iconst 0, (0, 0, 0, 0, 0), 0, 0)] = some 419 ∧ px_bk 13 4 cL_law 414 [(.iconst 1, (0, 0, 0, 0, 0), 1, 0), (.goto 4, (0, 0, 0, 0, 0), 0, 0)] = some 419 := by decide +kernel
theorem q_law_419 : px_tv cL_law 419 38 = true := by decide +kernel
theorem q_law_422 : px_bk 13 4 cL_law 422 [(.pop, (0, 0, 0, 0, 0), 0, 0), (.aload_n 2, (0, 0, 0, 0, 0), 0, 0)] = some 424 := by decide +kernel
theorem q_law_424 : px_bk 13 4 cL_law 424 [(.aload_n 0, (0, 0, 0, 0, 0), 0, 0), (.iload_n 3, (0, 0, 0, 0, 0), 0, 0), (.iconst 1, (0, 0, 0, 0, 0), 1, 0), (.iadd, (0, 0, 0, 0, 0), 0, 0)] = some 428 ∧ px_tia cL_law 428 = true := by decide +kernel
theorem q_law_429 : px_bk 13 4 cL_law 429 [(.aload_n 0, (0, 0, 0, 0, 0), 0, 0), (.iload_n 3, (0, 0, 0, 0, 0), 0, 0), (.iconst 2, (0, 0, 0, 0, 0), 2, 0), (.iadd, (0, 0, 0, 0, 0), 0, 0)] = some 433 ∧ px_tia cL_law 433 = true := by decide +kernel
theorem q_law_434 : px_bk 13 4 cL_law 434 [(.aload_n 0, (0, 0, 0, 0, 0), 0, 0), (.iload_n 3, (0, 0, 0, 0, 0), 0, 0), (.iconst 3, (0, 0, 0, 0, 0), 3, 0), (.iadd, (0, 0, 0, 0, 0), 0, 0)] = some 438 ∧ px_tia cL_law 438 = true := by decide +kernel
theorem q_law_439 : px_bk 13 4 cL_law 439 [(.aload_n 0, (0, 0, 0, 0, 0), 0, 0), (.iload_n 3, (0, 0, 0, 0, 0), 0, 0), (.iconst 4, (0, 0, 0, 0, 0), 4, 0), (.iadd, (0, 0, 0, 0, 0), 0, 0)] = some 443 ∧ px_tia cL_law 443 = true := by decide +kernel
theorem q_law_444 : px_bk 13 4 cL_law 444 [(.aload_n 0, (0, 0, 0, 0, 0), 0, 0), (.iload_n 3, (0, 0, 0, 0, 0), 0, 0), (.iconst 5, (0, 0, 0, 0, 0), 5, 0), (.iadd, (0, 0, 0, 0, 0), 0, 0)] = some 448 ∧ px_tia cL_law 448 = true := by decide +kernel
theorem q_law_449 : (px_bk 13 4 cL_law 449 [] = some 449 ∧ px_t1 cL_law 449 .eq 456 = true) ∧ px_bk 13 4 cL_law 456 [(.iconst 0, (0, 0, 0, 0, 0), 0, 0)] = some 457 ∧ px_bk 13 4 cL_law 452 [(.iconst 1, (0, 0, 0, 0, 0), 1, 0), (.goto 4, (0, 0, 0, 0, 0), 0, 0)] = some 457 := by decide +kernel
theorem q_law_457 : px_tv cL_law 457 42 = true := by decide +kernel
theorem q_law_460 : px_bk 13 4 cL_law 460 [(.pop, (0, 0, 0, 0, 0), 0, 0), (.goto 1407, (0, 0, 0, 0, 0), 0, 0)] = some 1868 := by decide +kernel

set_option maxRecDepth 100000 in
theorem lc_gap {N : Nat} {xs : Nat → Int32} {n cu su : Nat} {I : px_I} {L : px_L} {R : px_R} {Q : px_Q} {i : Int32} (hi : lwI N i) (hcu : cu ≤ 490000) (hsu : su ≤ 6900000) (hj : jJ n I R) (kk : ∀ (x : Int32) (n2 : Nat) I2 L2 R2 (y : Int32) I3 L3, jJ n2 I3 R2 → frB I I2 L L2 → kR R I2 R2 → pb_gap (ag xs i 1) (ag xs i 2) (ag xs i 3) (ag xs i 4) (bo (ag xs i 5)) I L x I2 L2 → frK I2 I3 L2 L3 → pk_gap (ag xs i 1) (ag xs i 2) (ag xs i 3) (ag xs i 4) (bo (ag xs i 5)) I2 L2 y I3 L3 → px (M_law N xs) (cu + 3) (su + 404) 1868 (lwL i) [] n2 I3 L3 R2 Q) : px (M_law N xs) cu su 385 (lwL i) [] n I L R Q := by
  have hg := hj.g
  refine px_b (on := 13) rfl q_law_385 hg rfl trivial ?_
  refine px_argC q_law_386 hg hi (by decide) ?_
  refine px_argC q_law_391 hg hi (by decide) ?_
  refine px_argC q_law_396 hg hi (by decide) ?_
  refine px_argC q_law_401 hg hi (by decide) ?_
  refine px_argC q_law_406 hg hi (by decide) ?_
  refine px_boo q_law_411 rfl hg ?_
  refine px_kB q_law_419 lk_13_38 nm_X11_gap (jb_gap hj _ _ _ _ _) rfl rfl hg rfl (rkL rfl rfl rfl rfl (by omega) (by omega) rfl) ?_
  intro x n2 I2 L2 R2 hj2 f1 fR p1
  have hg := hj2.g
  refine px_b (on := 13) rfl q_law_422 hg rfl trivial ?_
  refine px_argC q_law_424 hg hi (by decide) ?_
  refine px_argC q_law_429 hg hi (by decide) ?_
  refine px_argC q_law_434 hg hi (by decide) ?_
  refine px_argC q_law_439 hg hi (by decide) ?_
  refine px_argC q_law_444 hg hi (by decide) ?_
  refine px_boo q_law_449 rfl hg ?_
  refine px_kK q_law_457 lk_13_42 nm_X12_gap (jk_gap hj2 _ _ _ _ _) rfl rfl hg rfl (rkL rfl rfl rfl rfl (by show cu + 0 ≤ 500000; omega) (by show su + 0 ≤ 7000000; omega) rfl) ?_
  intro y I3 L3 hj3 f2 p2
  have hg := hj3.g
  refine px_b (on := 13) rfl q_law_460 hg rfl trivial ?_
  exact px_wid (cu2 := cu + 3) (su2 := su + 404) (by show cu + 0 + 0 ≤ cu + 3; omega) (by show su + 0 + 0 ≤ su + 404; omega) (kk x n2 I2 L2 R2 y I3 L3 hj3 f1 fR p1 f2 p2)

theorem q_law_464 : px_bk 13 4 cL_law 464 [(.aload_n 1, (0, 0, 0, 0, 0), 0, 0)] = some 465 := by decide +kernel
theorem q_law_465 : px_bk 13 4 cL_law 465 [(.aload_n 0, (0, 0, 0, 0, 0), 0, 0), (.iload_n 3, (0, 0, 0, 0, 0), 0, 0), (.iconst 1, (0, 0, 0, 0, 0), 1, 0), (.iadd, (0, 0, 0, 0, 0), 0, 0)] = some 469 ∧ px_tia cL_law 469 = true := by decide +kernel
theorem q_law_470 : px_bk 13 4 cL_law 470 [(.aload_n 0, (0, 0, 0, 0, 0), 0, 0), (.iload_n 3, (0, 0, 0, 0, 0), 0, 0), (.iconst 2, (0, 0, 0, 0, 0), 2, 0), (.iadd, (0, 0, 0, 0, 0), 0, 0)] = some 474 ∧ px_tia cL_law 474 = true := by decide +kernel
theorem q_law_475 : px_bk 13 4 cL_law 475 [(.aload_n 0, (0, 0, 0, 0, 0), 0, 0), (.iload_n 3, (0, 0, 0, 0, 0), 0, 0), (.iconst 3, (0, 0, 0, 0, 0), 3, 0), (.iadd, (0, 0, 0, 0, 0), 0, 0)] = some 479 ∧ px_tia cL_law 479 = true := by decide +kernel
theorem q_law_480 : px_tv cL_law 480 43 = true := by decide +kernel
theorem q_law_483 : px_bk 13 4 cL_law 483 [(.pop, (0, 0, 0, 0, 0), 0, 0), (.aload_n 2, (0, 0, 0, 0, 0), 0, 0)] = some 485 := by decide +kernel
theorem q_law_485 : px_bk 13 4 cL_law 485 [(.aload_n 0, (0, 0, 0, 0, 0), 0, 0), (.iload_n 3, (0, 0, 0, 0, 0), 0, 0), (.iconst 1, (0, 0, 0, 0, 0), 1, 0), (.iadd, (0, 0, 0, 0, 0), 0, 0)] = some 489 ∧ px_tia cL_law 489 = true := by decide +kernel
theorem q_law_490 : px_bk 13 4 cL_law 490 [(.aload_n 0, (0, 0, 0, 0, 0), 0, 0), (.iload_n 3, (0, 0, 0, 0, 0), 0, 0), (.iconst 2, (0, 0, 0, 0, 0), 2, 0), (.iadd, (0, 0, 0, 0, 0), 0, 0)] = some 494 ∧ px_tia cL_law 494 = true := by decide +kernel
theorem q_law_495 : px_bk 13 4 cL_law 495 [(.aload_n 0, (0, 0, 0, 0, 0), 0, 0), (.iload_n 3, (0, 0, 0, 0, 0), 0, 0), (.iconst 3, (0, 0, 0, 0, 0), 3, 0), (.iadd, (0, 0, 0, 0, 0), 0, 0)] = some 499 ∧ px_tia cL_law 499 = true := by decide +kernel
theorem q_law_500 : px_tv cL_law 500 47 = true := by decide +kernel
theorem q_law_503 : px_bk 13 4 cL_law 503 [(.pop, (0, 0, 0, 0, 0), 0, 0), (.goto 1364, (0, 0, 0, 0, 0), 0, 0)] = some 1868 := by decide +kernel

set_option maxRecDepth 100000 in
theorem lc_blamed {N : Nat} {xs : Nat → Int32} {n cu su : Nat} {I : px_I} {L : px_L} {R : px_R} {Q : px_Q} {i : Int32} (hi : lwI N i) (hcu : cu ≤ 490000) (hsu : su ≤ 6900000) (hj : jJ n I R) (kk : ∀ (x : Int32) (n2 : Nat) I2 L2 R2 (y : Int32) I3 L3, jJ n2 I3 R2 → frB I I2 L L2 → kR R I2 R2 → pb_blamed (ag xs i 1) (ag xs i 2) (ag xs i 3) I L x I2 L2 → frK I2 I3 L2 L3 → pk_blamed (ag xs i 1) (ag xs i 2) (ag xs i 3) I2 L2 y I3 L3 → px (M_law N xs) (cu + 3) (su + 404) 1868 (lwL i) [] n2 I3 L3 R2 Q) : px (M_law N xs) cu su 464 (lwL i) [] n I L R Q := by
  have hg := hj.g
  refine px_b (on := 13) rfl q_law_464 hg rfl trivial ?_
  refine px_argC q_law_465 hg hi (by decide) ?_
  refine px_argC q_law_470 hg hi (by decide) ?_
  refine px_argC q_law_475 hg hi (by decide) ?_
  refine px_kB q_law_480 lk_13_43 nm_X11_blamed (jb_blamed hj _ _ _) rfl rfl hg rfl (rkL rfl rfl rfl rfl (by omega) (by omega) rfl) ?_
  intro x n2 I2 L2 R2 hj2 f1 fR p1
  have hg := hj2.g
  refine px_b (on := 13) rfl q_law_483 hg rfl trivial ?_
  refine px_argC q_law_485 hg hi (by decide) ?_
  refine px_argC q_law_490 hg hi (by decide) ?_
  refine px_argC q_law_495 hg hi (by decide) ?_
  refine px_kK q_law_500 lk_13_47 nm_X12_blamed (jk_blamed hj2 _ _ _) rfl rfl hg rfl (rkL rfl rfl rfl rfl (by show cu + 0 ≤ 500000; omega) (by show su + 0 ≤ 7000000; omega) rfl) ?_
  intro y I3 L3 hj3 f2 p2
  have hg := hj3.g
  refine px_b (on := 13) rfl q_law_503 hg rfl trivial ?_
  exact px_wid (cu2 := cu + 3) (su2 := su + 404) (by show cu + 0 + 0 ≤ cu + 3; omega) (by show su + 0 + 0 ≤ su + 404; omega) (kk x n2 I2 L2 R2 y I3 L3 hj3 f1 fR p1 f2 p2)

theorem q_law_507 : px_bk 13 4 cL_law 507 [(.aload_n 1, (0, 0, 0, 0, 0), 0, 0)] = some 508 := by decide +kernel
theorem q_law_508 : px_bk 13 4 cL_law 508 [(.aload_n 0, (0, 0, 0, 0, 0), 0, 0), (.iload_n 3, (0, 0, 0, 0, 0), 0, 0), (.iconst 1, (0, 0, 0, 0, 0), 1, 0), (.iadd, (0, 0, 0, 0, 0), 0, 0)] = some 512 ∧ px_tia cL_law 512 = true := by decide +kernel
theorem q_law_513 : px_bk 13 4 cL_law 513 [(.aload_n 0, (0, 0, 0, 0, 0), 0, 0), (.iload_n 3, (0, 0, 0, 0, 0), 0, 0), (.iconst 2, (0, 0, 0, 0, 0), 2, 0), (.iadd, (0, 0, 0, 0, 0), 0, 0)] = some 517 ∧ px_tia cL_law 517 = true := by decide +kernel
theorem q_law_518 : px_bk 13 4 cL_law 518 [(.aload_n 0, (0, 0, 0, 0, 0), 0, 0), (.iload_n 3, (0, 0, 0, 0, 0), 0, 0), (.iconst 3, (0, 0, 0, 0, 0), 3, 0), (.iadd, (0, 0, 0, 0, 0), 0, 0)] = some 522 ∧ px_tia cL_law 522 = true := by decide +kernel
theorem q_law_523 : px_bk 13 4 cL_law 523 [(.aload_n 0, (0, 0, 0, 0, 0), 0, 0), (.iload_n 3, (0, 0, 0, 0, 0), 0, 0), (.iconst 4, (0, 0, 0, 0, 0), 4, 0), (.iadd, (0, 0, 0, 0, 0), 0, 0)] = some 527 ∧ px_tia cL_law 527 = true := by decide +kernel
theorem q_law_528 : px_bk 13 4 cL_law 528 [(.aload_n 0, (0, 0, 0, 0, 0), 0, 0), (.iload_n 3, (0, 0, 0, 0, 0), 0, 0), (.iconst 5, (0, 0, 0, 0, 0), 5, 0), (.iadd, (0, 0, 0, 0, 0), 0, 0)] = some 532 ∧ px_tia cL_law 532 = true := by decide +kernel
theorem q_law_533 : px_bk 13 4 cL_law 533 [(.aload_n 0, (0, 0, 0, 0, 0), 0, 0), (.iload_n 3, (0, 0, 0, 0, 0), 0, 0), (.bipush 6, (0, 0, 0, 0, 0), 6, 0), (.iadd, (0, 0, 0, 0, 0), 0, 0)] = some 538 ∧ px_tia cL_law 538 = true := by decide +kernel
theorem q_law_539 : px_bk 13 4 cL_law 539 [(.aload_n 0, (0, 0, 0, 0, 0), 0, 0), (.iload_n 3, (0, 0, 0, 0, 0), 0, 0), (.bipush 7, (0, 0, 0, 0, 0), 7, 0), (.iadd, (0, 0, 0, 0, 0), 0, 0)] = some 544 ∧ px_tia cL_law 544 = true := by decide +kernel
theorem q_law_545 : px_tv cL_law 545 48 = true := by decide +kernel
theorem q_law_548 : px_bk 13 4 cL_law 548 [(.pop, (0, 0, 0, 0, 0), 0, 0), (.aload_n 2, (0, 0, 0, 0, 0), 0, 0)] = some 550 := by decide +kernel
theorem q_law_550 : px_bk 13 4 cL_law 550 [(.aload_n 0, (0, 0, 0, 0, 0), 0, 0), (.iload_n 3, (0, 0, 0, 0, 0), 0, 0), (.iconst 1, (0, 0, 0, 0, 0), 1, 0), (.iadd, (0, 0, 0, 0, 0), 0, 0)] = some 554 ∧ px_tia cL_law 554 = true := by decide +kernel
theorem q_law_555 : px_bk 13 4 cL_law 555 [(.aload_n 0, (0, 0, 0, 0, 0), 0, 0), (.iload_n 3, (0, 0, 0, 0, 0), 0, 0), (.iconst 2, (0, 0, 0, 0, 0), 2, 0), (.iadd, (0, 0, 0, 0, 0), 0, 0)] = some 559 ∧ px_tia cL_law 559 = true := by decide +kernel
theorem q_law_560 : px_bk 13 4 cL_law 560 [(.aload_n 0, (0, 0, 0, 0, 0), 0, 0), (.iload_n 3, (0, 0, 0, 0, 0), 0, 0), (.iconst 3, (0, 0, 0, 0, 0), 3, 0), (.iadd, (0, 0, 0, 0, 0), 0, 0)] = some 564 ∧ px_tia cL_law 564 = true := by decide +kernel
theorem q_law_565 : px_bk 13 4 cL_law 565 [(.aload_n 0, (0, 0, 0, 0, 0), 0, 0), (.iload_n 3, (0, 0, 0, 0, 0), 0, 0), (.iconst 4, (0, 0, 0, 0, 0), 4, 0), (.iadd, (0, 0, 0, 0, 0), 0, 0)] = some 569 ∧ px_tia cL_law 569 = true := by decide +kernel
theorem q_law_570 : px_bk 13 4 cL_law 570 [(.aload_n 0, (0, 0, 0, 0, 0), 0, 0), (.iload_n 3, (0, 0, 0, 0, 0), 0, 0), (.iconst 5, (0, 0, 0, 0, 0), 5, 0), (.iadd, (0, 0, 0, 0, 0), 0, 0)] = some 574 ∧ px_tia cL_law 574 = true := by decide +kernel
theorem q_law_575 : px_bk 13 4 cL_law 575 [(.aload_n 0, (0, 0, 0, 0, 0), 0, 0), (.iload_n 3, (0, 0, 0, 0, 0), 0, 0), (.bipush 6, (0, 0, 0, 0, 0), 6, 0), (.iadd, (0, 0, 0, 0, 0), 0, 0)] = some 580 ∧ px_tia cL_law 580 = true := by decide +kernel
theorem q_law_581 : px_bk 13 4 cL_law 581 [(.aload_n 0, (0, 0, 0, 0, 0), 0, 0), (.iload_n 3, (0, 0, 0, 0, 0), 0, 0), (.bipush 7, (0, 0, 0, 0, 0), 7, 0), (.iadd, (0, 0, 0, 0, 0), 0, 0)] = some 586 ∧ px_tia cL_law 586 = true := by decide +kernel
theorem q_law_587 : px_tv cL_law 587 52 = true := by decide +kernel
theorem q_law_590 : px_bk 13 4 cL_law 590 [(.pop, (0, 0, 0, 0, 0), 0, 0), (.goto 1277, (0, 0, 0, 0, 0), 0, 0)] = some 1868 := by decide +kernel

set_option maxRecDepth 100000 in
theorem lc_reach {N : Nat} {xs : Nat → Int32} {n cu su : Nat} {I : px_I} {L : px_L} {R : px_R} {Q : px_Q} {i : Int32} (hi : lwI N i) (hcu : cu ≤ 490000) (hsu : su ≤ 6900000) (hj : jJ n I R) (kk : ∀ (x : Int32) (n2 : Nat) I2 L2 R2 (y : Int32) I3 L3, jJ n2 I3 R2 → frB I I2 L L2 → kR R I2 R2 → pb_reach (ag xs i 1) (ag xs i 2) (ag xs i 3) (ag xs i 4) (ag xs i 5) (ag xs i 6) (ag xs i 7) I L x I2 L2 → frK I2 I3 L2 L3 → pk_reach (ag xs i 1) (ag xs i 2) (ag xs i 3) (ag xs i 4) (ag xs i 5) (ag xs i 6) (ag xs i 7) I2 L2 y I3 L3 → px (M_law N xs) (cu + 3) (su + 404) 1868 (lwL i) [] n2 I3 L3 R2 Q) : px (M_law N xs) cu su 507 (lwL i) [] n I L R Q := by
  have hg := hj.g
  refine px_b (on := 13) rfl q_law_507 hg rfl trivial ?_
  refine px_argC q_law_508 hg hi (by decide) ?_
  refine px_argC q_law_513 hg hi (by decide) ?_
  refine px_argC q_law_518 hg hi (by decide) ?_
  refine px_argC q_law_523 hg hi (by decide) ?_
  refine px_argC q_law_528 hg hi (by decide) ?_
  refine px_argB q_law_533 hg hi (by decide) ?_
  refine px_argB q_law_539 hg hi (by decide) ?_
  refine px_kB q_law_545 lk_13_48 nm_X11_reach (jb_reach hj _ _ _ _ _ _ _) rfl rfl hg rfl (rkL rfl rfl rfl rfl (by omega) (by omega) rfl) ?_
  intro x n2 I2 L2 R2 hj2 f1 fR p1
  have hg := hj2.g
  refine px_b (on := 13) rfl q_law_548 hg rfl trivial ?_
  refine px_argC q_law_550 hg hi (by decide) ?_
  refine px_argC q_law_555 hg hi (by decide) ?_
  refine px_argC q_law_560 hg hi (by decide) ?_
  refine px_argC q_law_565 hg hi (by decide) ?_
  refine px_argC q_law_570 hg hi (by decide) ?_
  refine px_argB q_law_575 hg hi (by decide) ?_
  refine px_argB q_law_581 hg hi (by decide) ?_
  refine px_kK q_law_587 lk_13_52 nm_X12_reach (jk_reach hj2 _ _ _ _ _ _ _) rfl rfl hg rfl (rkL rfl rfl rfl rfl (by show cu + 0 ≤ 500000; omega) (by show su + 0 ≤ 7000000; omega) rfl) ?_
  intro y I3 L3 hj3 f2 p2
  have hg := hj3.g
  refine px_b (on := 13) rfl q_law_590 hg rfl trivial ?_
  exact px_wid (cu2 := cu + 3) (su2 := su + 404) (by show cu + 0 + 0 ≤ cu + 3; omega) (by show su + 0 + 0 ≤ su + 404; omega) (kk x n2 I2 L2 R2 y I3 L3 hj3 f1 fR p1 f2 p2)

theorem q_law_594 : px_bk 13 4 cL_law 594 [(.aload_n 1, (0, 0, 0, 0, 0), 0, 0)] = some 595 := by decide +kernel
theorem q_law_595 : px_bk 13 4 cL_law 595 [(.aload_n 0, (0, 0, 0, 0, 0), 0, 0), (.iload_n 3, (0, 0, 0, 0, 0), 0, 0), (.iconst 1, (0, 0, 0, 0, 0), 1, 0), (.iadd, (0, 0, 0, 0, 0), 0, 0)] = some 599 ∧ px_tia cL_law 599 = true := by decide +kernel
theorem q_law_600 : px_bk 13 4 cL_law 600 [(.aload_n 0, (0, 0, 0, 0, 0), 0, 0), (.iload_n 3, (0, 0, 0, 0, 0), 0, 0), (.iconst 2, (0, 0, 0, 0, 0), 2, 0), (.iadd, (0, 0, 0, 0, 0), 0, 0)] = some 604 ∧ px_tia cL_law 604 = true := by decide +kernel
theorem q_law_605 : px_tv cL_law 605 53 = true := by decide +kernel
theorem q_law_608 : px_bk 13 4 cL_law 608 [(.pop, (0, 0, 0, 0, 0), 0, 0), (.aload_n 2, (0, 0, 0, 0, 0), 0, 0)] = some 610 := by decide +kernel
theorem q_law_610 : px_bk 13 4 cL_law 610 [(.aload_n 0, (0, 0, 0, 0, 0), 0, 0), (.iload_n 3, (0, 0, 0, 0, 0), 0, 0), (.iconst 1, (0, 0, 0, 0, 0), 1, 0), (.iadd, (0, 0, 0, 0, 0), 0, 0)] = some 614 ∧ px_tia cL_law 614 = true := by decide +kernel
theorem q_law_615 : px_bk 13 4 cL_law 615 [(.aload_n 0, (0, 0, 0, 0, 0), 0, 0), (.iload_n 3, (0, 0, 0, 0, 0), 0, 0), (.iconst 2, (0, 0, 0, 0, 0), 2, 0), (.iadd, (0, 0, 0, 0, 0), 0, 0)] = some 619 ∧ px_tia cL_law 619 = true := by decide +kernel
theorem q_law_620 : px_tv cL_law 620 57 = true := by decide +kernel
theorem q_law_623 : px_bk 13 4 cL_law 623 [(.pop, (0, 0, 0, 0, 0), 0, 0), (.goto 1244, (0, 0, 0, 0, 0), 0, 0)] = some 1868 := by decide +kernel

set_option maxRecDepth 100000 in
theorem lc_mouth {N : Nat} {xs : Nat → Int32} {n cu su : Nat} {I : px_I} {L : px_L} {R : px_R} {Q : px_Q} {i : Int32} (hi : lwI N i) (hcu : cu ≤ 490000) (hsu : su ≤ 6900000) (hj : jJ n I R) (kk : ∀ (x : Int32) (n2 : Nat) I2 L2 R2 (y : Int32) I3 L3, jJ n2 I3 R2 → frB I I2 L L2 → kR R I2 R2 → pb_mouth (ag xs i 1) (ag xs i 2) I L x I2 L2 → frK I2 I3 L2 L3 → pk_mouth (ag xs i 1) (ag xs i 2) I2 L2 y I3 L3 → px (M_law N xs) (cu + 3) (su + 404) 1868 (lwL i) [] n2 I3 L3 R2 Q) : px (M_law N xs) cu su 594 (lwL i) [] n I L R Q := by
  have hg := hj.g
  refine px_b (on := 13) rfl q_law_594 hg rfl trivial ?_
  refine px_argC q_law_595 hg hi (by decide) ?_
  refine px_argC q_law_600 hg hi (by decide) ?_
  refine px_kB q_law_605 lk_13_53 nm_X11_mouth (jb_mouth hj _ _) rfl rfl hg rfl (rkL rfl rfl rfl rfl (by omega) (by omega) rfl) ?_
  intro x n2 I2 L2 R2 hj2 f1 fR p1
  have hg := hj2.g
  refine px_b (on := 13) rfl q_law_608 hg rfl trivial ?_
  refine px_argC q_law_610 hg hi (by decide) ?_
  refine px_argC q_law_615 hg hi (by decide) ?_
  refine px_kK q_law_620 lk_13_57 nm_X12_mouth (jk_mouth hj2 _ _) rfl rfl hg rfl (rkL rfl rfl rfl rfl (by show cu + 0 ≤ 500000; omega) (by show su + 0 ≤ 7000000; omega) rfl) ?_
  intro y I3 L3 hj3 f2 p2
  have hg := hj3.g
  refine px_b (on := 13) rfl q_law_623 hg rfl trivial ?_
  exact px_wid (cu2 := cu + 3) (su2 := su + 404) (by show cu + 0 + 0 ≤ cu + 3; omega) (by show su + 0 + 0 ≤ su + 404; omega) (kk x n2 I2 L2 R2 y I3 L3 hj3 f1 fR p1 f2 p2)

theorem q_law_627 : px_bk 13 4 cL_law 627 [(.aload_n 1, (0, 0, 0, 0, 0), 0, 0)] = some 628 := by decide +kernel
theorem q_law_628 : px_bk 13 4 cL_law 628 [(.aload_n 0, (0, 0, 0, 0, 0), 0, 0), (.iload_n 3, (0, 0, 0, 0, 0), 0, 0), (.iconst 1, (0, 0, 0, 0, 0), 1, 0), (.iadd, (0, 0, 0, 0, 0), 0, 0)] = some 632 ∧ px_tia cL_law 632 = true := by decide +kernel
theorem q_law_633 : px_bk 13 4 cL_law 633 [(.aload_n 0, (0, 0, 0, 0, 0), 0, 0), (.iload_n 3, (0, 0, 0, 0, 0), 0, 0), (.iconst 2, (0, 0, 0, 0, 0), 2, 0), (.iadd, (0, 0, 0, 0, 0), 0, 0)] = some 637 ∧ px_tia cL_law 637 = true := by decide +kernel
theorem q_law_638 : px_bk 13 4 cL_law 638 [(.aload_n 0, (0, 0, 0, 0, 0), 0, 0), (.iload_n 3, (0, 0, 0, 0, 0), 0, 0), (.iconst 3, (0, 0, 0, 0, 0), 3, 0), (.iadd, (0, 0, 0, 0, 0), 0, 0)] = some 642 ∧ px_tia cL_law 642 = true := by decide +kernel
theorem q_law_643 : px_bk 13 4 cL_law 643 [(.aload_n 0, (0, 0, 0, 0, 0), 0, 0), (.iload_n 3, (0, 0, 0, 0, 0), 0, 0), (.iconst 4, (0, 0, 0, 0, 0), 4, 0), (.iadd, (0, 0, 0, 0, 0), 0, 0)] = some 647 ∧ px_tia cL_law 647 = true := by decide +kernel
theorem q_law_648 : px_tv cL_law 648 58 = true := by decide +kernel
theorem q_law_651 : px_bk 13 4 cL_law 651 [(.pop, (0, 0, 0, 0, 0), 0, 0), (.aload_n 2, (0, 0, 0, 0, 0), 0, 0)] = some 653 := by decide +kernel
theorem q_law_653 : px_bk 13 4 cL_law 653 [(.aload_n 0, (0, 0, 0, 0, 0), 0, 0), (.iload_n 3, (0, 0, 0, 0, 0), 0, 0), (.iconst 1, (0, 0, 0, 0, 0), 1, 0), (.iadd, (0, 0, 0, 0, 0), 0, 0)] = some 657 ∧ px_tia cL_law 657 = true := by decide +kernel
theorem q_law_658 : px_bk 13 4 cL_law 658 [(.aload_n 0, (0, 0, 0, 0, 0), 0, 0), (.iload_n 3, (0, 0, 0, 0, 0), 0, 0), (.iconst 2, (0, 0, 0, 0, 0), 2, 0), (.iadd, (0, 0, 0, 0, 0), 0, 0)] = some 662 ∧ px_tia cL_law 662 = true := by decide +kernel
theorem q_law_663 : px_bk 13 4 cL_law 663 [(.aload_n 0, (0, 0, 0, 0, 0), 0, 0), (.iload_n 3, (0, 0, 0, 0, 0), 0, 0), (.iconst 3, (0, 0, 0, 0, 0), 3, 0), (.iadd, (0, 0, 0, 0, 0), 0, 0)] = some 667 ∧ px_tia cL_law 667 = true := by decide +kernel
theorem q_law_668 : px_bk 13 4 cL_law 668 [(.aload_n 0, (0, 0, 0, 0, 0), 0, 0), (.iload_n 3, (0, 0, 0, 0, 0), 0, 0), (.iconst 4, (0, 0, 0, 0, 0), 4, 0), (.iadd, (0, 0, 0, 0, 0), 0, 0)] = some 672 ∧ px_tia cL_law 672 = true := by decide +kernel
theorem q_law_673 : px_tv cL_law 673 62 = true := by decide +kernel
theorem q_law_676 : px_bk 13 4 cL_law 676 [(.pop, (0, 0, 0, 0, 0), 0, 0), (.goto 1191, (0, 0, 0, 0, 0), 0, 0)] = some 1868 := by decide +kernel

set_option maxRecDepth 100000 in
theorem lc_mark {N : Nat} {xs : Nat → Int32} {n cu su : Nat} {I : px_I} {L : px_L} {R : px_R} {Q : px_Q} {i : Int32} (hi : lwI N i) (hcu : cu ≤ 490000) (hsu : su ≤ 6900000) (hj : jJ n I R) (kk : ∀ (x : Int32) (n2 : Nat) I2 L2 R2 (y : Int32) I3 L3, jJ n2 I3 R2 → frB I I2 L L2 → kR R I2 R2 → pb_mark (ag xs i 1) (ag xs i 2) (ag xs i 3) (ag xs i 4) I L x I2 L2 → frK I2 I3 L2 L3 → pk_mark (ag xs i 1) (ag xs i 2) (ag xs i 3) (ag xs i 4) I2 L2 y I3 L3 → px (M_law N xs) (cu + 3) (su + 404) 1868 (lwL i) [] n2 I3 L3 R2 Q) : px (M_law N xs) cu su 627 (lwL i) [] n I L R Q := by
  have hg := hj.g
  refine px_b (on := 13) rfl q_law_627 hg rfl trivial ?_
  refine px_argC q_law_628 hg hi (by decide) ?_
  refine px_argC q_law_633 hg hi (by decide) ?_
  refine px_argC q_law_638 hg hi (by decide) ?_
  refine px_argC q_law_643 hg hi (by decide) ?_
  refine px_kB q_law_648 lk_13_58 nm_X11_mark (jb_mark hj _ _ _ _) rfl rfl hg rfl (rkL rfl rfl rfl rfl (by omega) (by omega) rfl) ?_
  intro x n2 I2 L2 R2 hj2 f1 fR p1
  have hg := hj2.g
  refine px_b (on := 13) rfl q_law_651 hg rfl trivial ?_
  refine px_argC q_law_653 hg hi (by decide) ?_
  refine px_argC q_law_658 hg hi (by decide) ?_
  refine px_argC q_law_663 hg hi (by decide) ?_
  refine px_argC q_law_668 hg hi (by decide) ?_
  refine px_kK q_law_673 lk_13_62 nm_X12_mark (jk_mark hj2 _ _ _ _) rfl rfl hg rfl (rkL rfl rfl rfl rfl (by show cu + 0 ≤ 500000; omega) (by show su + 0 ≤ 7000000; omega) rfl) ?_
  intro y I3 L3 hj3 f2 p2
  have hg := hj3.g
  refine px_b (on := 13) rfl q_law_676 hg rfl trivial ?_
  exact px_wid (cu2 := cu + 3) (su2 := su + 404) (by show cu + 0 + 0 ≤ cu + 3; omega) (by show su + 0 + 0 ≤ su + 404; omega) (kk x n2 I2 L2 R2 y I3 L3 hj3 f1 fR p1 f2 p2)

theorem q_law_680 : px_bk 13 4 cL_law 680 [(.aload_n 1, (0, 0, 0, 0, 0), 0, 0)] = some 681 := by decide +kernel
theorem q_law_681 : px_bk 13 4 cL_law 681 [(.aload_n 0, (0, 0, 0, 0, 0), 0, 0), (.iload_n 3, (0, 0, 0, 0, 0), 0, 0), (.iconst 1, (0, 0, 0, 0, 0), 1, 0), (.iadd, (0, 0, 0, 0, 0), 0, 0)] = some 685 ∧ px_tia cL_law 685 = true := by decide +kernel
theorem q_law_686 : px_bk 13 4 cL_law 686 [(.aload_n 0, (0, 0, 0, 0, 0), 0, 0), (.iload_n 3, (0, 0, 0, 0, 0), 0, 0), (.iconst 2, (0, 0, 0, 0, 0), 2, 0), (.iadd, (0, 0, 0, 0, 0), 0, 0)] = some 690 ∧ px_tia cL_law 690 = true := by decide +kernel
theorem q_law_691 : px_bk 13 4 cL_law 691 [(.aload_n 0, (0, 0, 0, 0, 0), 0, 0), (.iload_n 3, (0, 0, 0, 0, 0), 0, 0), (.iconst 3, (0, 0, 0, 0, 0), 3, 0), (.iadd, (0, 0, 0, 0, 0), 0, 0)] = some 695 ∧ px_tia cL_law 695 = true := by decide +kernel
theorem q_law_696 : (px_bk 13 4 cL_law 696 [] = some 696 ∧ px_t1 cL_law 696 .eq 703 = true) ∧ px_bk 13 4 cL_law 703 [(.iconst 0, (0, 0, 0, 0, 0), 0, 0)] = some 704 ∧ px_bk 13 4 cL_law 699 [(.iconst 1, (0, 0, 0, 0, 0), 1, 0), (.goto 4, (0, 0, 0, 0, 0), 0, 0)] = some 704 := by decide +kernel
theorem q_law_704 : px_tv cL_law 704 63 = true := by decide +kernel
theorem q_law_707 : px_bk 13 4 cL_law 707 [(.pop, (0, 0, 0, 0, 0), 0, 0), (.aload_n 2, (0, 0, 0, 0, 0), 0, 0)] = some 709 := by decide +kernel
theorem q_law_709 : px_bk 13 4 cL_law 709 [(.aload_n 0, (0, 0, 0, 0, 0), 0, 0), (.iload_n 3, (0, 0, 0, 0, 0), 0, 0), (.iconst 1, (0, 0, 0, 0, 0), 1, 0), (.iadd, (0, 0, 0, 0, 0), 0, 0)] = some 713 ∧ px_tia cL_law 713 = true := by decide +kernel
theorem q_law_714 : px_bk 13 4 cL_law 714 [(.aload_n 0, (0, 0, 0, 0, 0), 0, 0), (.iload_n 3, (0, 0, 0, 0, 0), 0, 0), (.iconst 2, (0, 0, 0, 0, 0), 2, 0), (.iadd, (0, 0, 0, 0, 0), 0, 0)] = some 718 ∧ px_tia cL_law 718 = true := by decide +kernel
theorem q_law_719 : px_bk 13 4 cL_law 719 [(.aload_n 0, (0, 0, 0, 0, 0), 0, 0), (.iload_n 3, (0, 0, 0, 0, 0), 0, 0), (.iconst 3, (0, 0, 0, 0, 0), 3, 0), (.iadd, (0, 0, 0, 0, 0), 0, 0)] = some 723 ∧ px_tia cL_law 723 = true := by decide +kernel
theorem q_law_724 : (px_bk 13 4 cL_law 724 [] = some 724 ∧ px_t1 cL_law 724 .eq 731 = true) ∧ px_bk 13 4 cL_law 731 [(.iconst 0, (0, 0, 0, 0, 0), 0, 0)] = some 732 ∧ px_bk 13 4 cL_law 727 [(.iconst 1, (0, 0, 0, 0, 0), 1, 0), (.goto 4, (0, 0, 0, 0, 0), 0, 0)] = some 732 := by decide +kernel
theorem q_law_732 : px_tv cL_law 732 67 = true := by decide +kernel
theorem q_law_735 : px_bk 13 4 cL_law 735 [(.pop, (0, 0, 0, 0, 0), 0, 0), (.goto 1132, (0, 0, 0, 0, 0), 0, 0)] = some 1868 := by decide +kernel

set_option maxRecDepth 100000 in
theorem lc_when {N : Nat} {xs : Nat → Int32} {n cu su : Nat} {I : px_I} {L : px_L} {R : px_R} {Q : px_Q} {i : Int32} (hi : lwI N i) (hcu : cu ≤ 490000) (hsu : su ≤ 6900000) (hj : jJ n I R) (kk : ∀ (x : Int32) (n2 : Nat) I2 L2 R2 (y : Int32) I3 L3, jJ n2 I3 R2 → frB I I2 L L2 → kR R I2 R2 → pb_when (ag xs i 1) (ag xs i 2) (bo (ag xs i 3)) I L x I2 L2 → frK I2 I3 L2 L3 → pk_when (ag xs i 1) (ag xs i 2) (bo (ag xs i 3)) I2 L2 y I3 L3 → px (M_law N xs) (cu + 3) (su + 404) 1868 (lwL i) [] n2 I3 L3 R2 Q) : px (M_law N xs) cu su 680 (lwL i) [] n I L R Q := by
  have hg := hj.g
  refine px_b (on := 13) rfl q_law_680 hg rfl trivial ?_
  refine px_argC q_law_681 hg hi (by decide) ?_
  refine px_argC q_law_686 hg hi (by decide) ?_
  refine px_argC q_law_691 hg hi (by decide) ?_
  refine px_boo q_law_696 rfl hg ?_
  refine px_kB q_law_704 lk_13_63 nm_X11_when (jb_when hj _ _ _) rfl rfl hg rfl (rkL rfl rfl rfl rfl (by omega) (by omega) rfl) ?_
  intro x n2 I2 L2 R2 hj2 f1 fR p1
  have hg := hj2.g
  refine px_b (on := 13) rfl q_law_707 hg rfl trivial ?_
  refine px_argC q_law_709 hg hi (by decide) ?_
  refine px_argC q_law_714 hg hi (by decide) ?_
  refine px_argC q_law_719 hg hi (by decide) ?_
  refine px_boo q_law_724 rfl hg ?_
  refine px_kK q_law_732 lk_13_67 nm_X12_when (jk_when hj2 _ _ _) rfl rfl hg rfl (rkL rfl rfl rfl rfl (by show cu + 0 ≤ 500000; omega) (by show su + 0 ≤ 7000000; omega) rfl) ?_
  intro y I3 L3 hj3 f2 p2
  have hg := hj3.g
  refine px_b (on := 13) rfl q_law_735 hg rfl trivial ?_
  exact px_wid (cu2 := cu + 3) (su2 := su + 404) (by show cu + 0 + 0 ≤ cu + 3; omega) (by show su + 0 + 0 ≤ su + 404; omega) (kk x n2 I2 L2 R2 y I3 L3 hj3 f1 fR p1 f2 p2)

theorem q_law_739 : px_bk 13 4 cL_law 739 [(.aload_n 1, (0, 0, 0, 0, 0), 0, 0)] = some 740 := by decide +kernel
theorem q_law_740 : px_bk 13 4 cL_law 740 [(.aload_n 0, (0, 0, 0, 0, 0), 0, 0), (.iload_n 3, (0, 0, 0, 0, 0), 0, 0), (.iconst 1, (0, 0, 0, 0, 0), 1, 0), (.iadd, (0, 0, 0, 0, 0), 0, 0)] = some 744 ∧ px_tia cL_law 744 = true := by decide +kernel
theorem q_law_745 : px_bk 13 4 cL_law 745 [(.aload_n 0, (0, 0, 0, 0, 0), 0, 0), (.iload_n 3, (0, 0, 0, 0, 0), 0, 0), (.iconst 2, (0, 0, 0, 0, 0), 2, 0), (.iadd, (0, 0, 0, 0, 0), 0, 0)] = some 749 ∧ px_tia cL_law 749 = true := by decide +kernel
theorem q_law_750 : px_bk 13 4 cL_law 750 [(.aload_n 0, (0, 0, 0, 0, 0), 0, 0), (.iload_n 3, (0, 0, 0, 0, 0), 0, 0), (.iconst 3, (0, 0, 0, 0, 0), 3, 0), (.iadd, (0, 0, 0, 0, 0), 0, 0)] = some 754 ∧ px_tia cL_law 754 = true := by decide +kernel
theorem q_law_755 : px_bk 13 4 cL_law 755 [(.aload_n 0, (0, 0, 0, 0, 0), 0, 0), (.iload_n 3, (0, 0, 0, 0, 0), 0, 0), (.iconst 4, (0, 0, 0, 0, 0), 4, 0), (.iadd, (0, 0, 0, 0, 0), 0, 0)] = some 759 ∧ px_tia cL_law 759 = true := by decide +kernel
theorem q_law_760 : (px_bk 13 4 cL_law 760 [] = some 760 ∧ px_t1 cL_law 760 .eq 767 = true) ∧ px_bk 13 4 cL_law 767 [(.iconst 0, (0, 0, 0, 0, 0), 0, 0)] = some 768 ∧ px_bk 13 4 cL_law 763 [(.iconst 1, (0, 0, 0, 0, 0), 1, 0), (.goto 4, (0, 0, 0, 0, 0), 0, 0)] = some 768 := by decide +kernel
theorem q_law_768 : px_tv cL_law 768 68 = true := by decide +kernel
theorem q_law_771 : px_bk 13 4 cL_law 771 [(.pop, (0, 0, 0, 0, 0), 0, 0), (.aload_n 2, (0, 0, 0, 0, 0), 0, 0)] = some 773 := by decide +kernel
theorem q_law_773 : px_bk 13 4 cL_law 773 [(.aload_n 0, (0, 0, 0, 0, 0), 0, 0), (.iload_n 3, (0, 0, 0, 0, 0), 0, 0), (.iconst 1, (0, 0, 0, 0, 0), 1, 0), (.iadd, (0, 0, 0, 0, 0), 0, 0)] = some 777 ∧ px_tia cL_law 777 = true := by decide +kernel
theorem q_law_778 : px_bk 13 4 cL_law 778 [(.aload_n 0, (0, 0, 0, 0, 0), 0, 0), (.iload_n 3, (0, 0, 0, 0, 0), 0, 0), (.iconst 2, (0, 0, 0, 0, 0), 2, 0), (.iadd, (0, 0, 0, 0, 0), 0, 0)] = some 782 ∧ px_tia cL_law 782 = true := by decide +kernel
theorem q_law_783 : px_bk 13 4 cL_law 783 [(.aload_n 0, (0, 0, 0, 0, 0), 0, 0), (.iload_n 3, (0, 0, 0, 0, 0), 0, 0), (.iconst 3, (0, 0, 0, 0, 0), 3, 0), (.iadd, (0, 0, 0, 0, 0), 0, 0)] = some 787 ∧ px_tia cL_law 787 = true := by decide +kernel
theorem q_law_788 : px_bk 13 4 cL_law 788 [(.aload_n 0, (0, 0, 0, 0, 0), 0, 0), (.iload_n 3, (0, 0, 0, 0, 0), 0, 0), (.iconst 4, (0, 0, 0, 0, 0), 4, 0), (.iadd, (0, 0, 0, 0, 0), 0, 0)] = some 792 ∧ px_tia cL_law 792 = true := by decide +kernel
theorem q_law_793 : (px_bk 13 4 cL_law 793 [] = some 793 ∧ px_t1 cL_law 793 .eq 800 = true) ∧ px_bk 13 4 cL_law 800 [(.iconst 0, (0, 0, 0, 0, 0), 0, 0)] = some 801 ∧ px_bk 13 4 cL_law 796 [(.iconst 1, (0, 0, 0, 0, 0), 1, 0), (.goto 4, (0, 0, 0, 0, 0), 0, 0)] = some 801 := by decide +kernel
theorem q_law_801 : px_tv cL_law 801 71 = true := by decide +kernel
theorem q_law_804 : px_bk 13 4 cL_law 804 [(.pop, (0, 0, 0, 0, 0), 0, 0), (.goto 1063, (0, 0, 0, 0, 0), 0, 0)] = some 1868 := by decide +kernel

set_option maxRecDepth 100000 in
theorem lc_between {N : Nat} {xs : Nat → Int32} {n cu su : Nat} {I : px_I} {L : px_L} {R : px_R} {Q : px_Q} {i : Int32} (hi : lwI N i) (hcu : cu ≤ 490000) (hsu : su ≤ 6900000) (hj : jJ n I R) (kk : ∀ (x : Int32) (n2 : Nat) I2 L2 R2 (y : Int32) I3 L3, jJ n2 I3 R2 → frB I I2 L L2 → kR R I2 R2 → pb_between (ag xs i 1) (ag xs i 2) (ag xs i 3) (bo (ag xs i 4)) I L x I2 L2 → frK I2 I3 L2 L3 → pk_between (ag xs i 1) (ag xs i 2) (ag xs i 3) (bo (ag xs i 4)) I2 L2 y I3 L3 → px (M_law N xs) (cu + 3) (su + 404) 1868 (lwL i) [] n2 I3 L3 R2 Q) : px (M_law N xs) cu su 739 (lwL i) [] n I L R Q := by
  have hg := hj.g
  refine px_b (on := 13) rfl q_law_739 hg rfl trivial ?_
  refine px_argC q_law_740 hg hi (by decide) ?_
  refine px_argC q_law_745 hg hi (by decide) ?_
  refine px_argC q_law_750 hg hi (by decide) ?_
  refine px_argC q_law_755 hg hi (by decide) ?_
  refine px_boo q_law_760 rfl hg ?_
  refine px_kB q_law_768 lk_13_68 nm_X11_between (jb_between hj _ _ _ _) rfl rfl hg rfl (rkL rfl rfl rfl rfl (by omega) (by omega) rfl) ?_
  intro x n2 I2 L2 R2 hj2 f1 fR p1
  have hg := hj2.g
  refine px_b (on := 13) rfl q_law_771 hg rfl trivial ?_
  refine px_argC q_law_773 hg hi (by decide) ?_
  refine px_argC q_law_778 hg hi (by decide) ?_
  refine px_argC q_law_783 hg hi (by decide) ?_
  refine px_argC q_law_788 hg hi (by decide) ?_
  refine px_boo q_law_793 rfl hg ?_
  refine px_kK q_law_801 lk_13_71 nm_X12_between (jk_between hj2 _ _ _ _) rfl rfl hg rfl (rkL rfl rfl rfl rfl (by show cu + 0 ≤ 500000; omega) (by show su + 0 ≤ 7000000; omega) rfl) ?_
  intro y I3 L3 hj3 f2 p2
  have hg := hj3.g
  refine px_b (on := 13) rfl q_law_804 hg rfl trivial ?_
  exact px_wid (cu2 := cu + 3) (su2 := su + 404) (by show cu + 0 + 0 ≤ cu + 3; omega) (by show su + 0 + 0 ≤ su + 404; omega) (kk x n2 I2 L2 R2 y I3 L3 hj3 f1 fR p1 f2 p2)

theorem q_law_808 : px_bk 13 4 cL_law 808 [(.aload_n 1, (0, 0, 0, 0, 0), 0, 0)] = some 809 := by decide +kernel
theorem q_law_809 : px_bk 13 4 cL_law 809 [(.aload_n 0, (0, 0, 0, 0, 0), 0, 0), (.iload_n 3, (0, 0, 0, 0, 0), 0, 0), (.iconst 1, (0, 0, 0, 0, 0), 1, 0), (.iadd, (0, 0, 0, 0, 0), 0, 0)] = some 813 ∧ px_tia cL_law 813 = true := by decide +kernel
theorem q_law_814 : px_bk 13 4 cL_law 814 [(.aload_n 0, (0, 0, 0, 0, 0), 0, 0), (.iload_n 3, (0, 0, 0, 0, 0), 0, 0), (.iconst 2, (0, 0, 0, 0, 0), 2, 0), (.iadd, (0, 0, 0, 0, 0), 0, 0)] = some 818 ∧ px_tia cL_law 818 = true := by decide +kernel
theorem q_law_819 : px_bk 13 4 cL_law 819 [(.aload_n 0, (0, 0, 0, 0, 0), 0, 0), (.iload_n 3, (0, 0, 0, 0, 0), 0, 0), (.iconst 3, (0, 0, 0, 0, 0), 3, 0), (.iadd, (0, 0, 0, 0, 0), 0, 0)] = some 823 ∧ px_tia cL_law 823 = true := by decide +kernel
theorem q_law_824 : px_bk 13 4 cL_law 824 [(.aload_n 0, (0, 0, 0, 0, 0), 0, 0), (.iload_n 3, (0, 0, 0, 0, 0), 0, 0), (.iconst 4, (0, 0, 0, 0, 0), 4, 0), (.iadd, (0, 0, 0, 0, 0), 0, 0)] = some 828 ∧ px_tia cL_law 828 = true := by decide +kernel
theorem q_law_829 : px_bk 13 4 cL_law 829 [(.aload_n 0, (0, 0, 0, 0, 0), 0, 0), (.iload_n 3, (0, 0, 0, 0, 0), 0, 0), (.iconst 5, (0, 0, 0, 0, 0), 5, 0), (.iadd, (0, 0, 0, 0, 0), 0, 0)] = some 833 ∧ px_tia cL_law 833 = true := by decide +kernel
theorem q_law_834 : px_tv cL_law 834 72 = true := by decide +kernel
theorem q_law_837 : px_bk 13 4 cL_law 837 [(.pop, (0, 0, 0, 0, 0), 0, 0), (.aload_n 2, (0, 0, 0, 0, 0), 0, 0)] = some 839 := by decide +kernel
theorem q_law_839 : px_bk 13 4 cL_law 839 [(.aload_n 0, (0, 0, 0, 0, 0), 0, 0), (.iload_n 3, (0, 0, 0, 0, 0), 0, 0), (.iconst 1, (0, 0, 0, 0, 0), 1, 0), (.iadd, (0, 0, 0, 0, 0), 0, 0)] = some 843 ∧ px_tia cL_law 843 = true := by decide +kernel
theorem q_law_844 : px_bk 13 4 cL_law 844 [(.aload_n 0, (0, 0, 0, 0, 0), 0, 0), (.iload_n 3, (0, 0, 0, 0, 0), 0, 0), (.iconst 2, (0, 0, 0, 0, 0), 2, 0), (.iadd, (0, 0, 0, 0, 0), 0, 0)] = some 848 ∧ px_tia cL_law 848 = true := by decide +kernel
theorem q_law_849 : px_bk 13 4 cL_law 849 [(.aload_n 0, (0, 0, 0, 0, 0), 0, 0), (.iload_n 3, (0, 0, 0, 0, 0), 0, 0), (.iconst 3, (0, 0, 0, 0, 0), 3, 0), (.iadd, (0, 0, 0, 0, 0), 0, 0)] = some 853 ∧ px_tia cL_law 853 = true := by decide +kernel
theorem q_law_854 : px_bk 13 4 cL_law 854 [(.aload_n 0, (0, 0, 0, 0, 0), 0, 0), (.iload_n 3, (0, 0, 0, 0, 0), 0, 0), (.iconst 4, (0, 0, 0, 0, 0), 4, 0), (.iadd, (0, 0, 0, 0, 0), 0, 0)] = some 858 ∧ px_tia cL_law 858 = true := by decide +kernel
theorem q_law_859 : px_bk 13 4 cL_law 859 [(.aload_n 0, (0, 0, 0, 0, 0), 0, 0), (.iload_n 3, (0, 0, 0, 0, 0), 0, 0), (.iconst 5, (0, 0, 0, 0, 0), 5, 0), (.iadd, (0, 0, 0, 0, 0), 0, 0)] = some 863 ∧ px_tia cL_law 863 = true := by decide +kernel
theorem q_law_864 : px_tv cL_law 864 75 = true := by decide +kernel
theorem q_law_867 : px_bk 13 4 cL_law 867 [(.pop, (0, 0, 0, 0, 0), 0, 0), (.goto 1000, (0, 0, 0, 0, 0), 0, 0)] = some 1868 := by decide +kernel

set_option maxRecDepth 100000 in
theorem lc_lamps {N : Nat} {xs : Nat → Int32} {n cu su : Nat} {I : px_I} {L : px_L} {R : px_R} {Q : px_Q} {i : Int32} (hi : lwI N i) (hcu : cu ≤ 490000) (hsu : su ≤ 6900000) (hj : jJ n I R) (kk : ∀ (x : Int32) (n2 : Nat) I2 L2 R2 (y : Int32) I3 L3, jJ n2 I3 R2 → frB I I2 L L2 → kR R I2 R2 → pb_lamps (ag xs i 1) (ag xs i 2) (ag xs i 3) (ag xs i 4) (ag xs i 5) I L x I2 L2 → frK I2 I3 L2 L3 → pk_lamps (ag xs i 1) (ag xs i 2) (ag xs i 3) (ag xs i 4) (ag xs i 5) I2 L2 y I3 L3 → px (M_law N xs) (cu + 3) (su + 404) 1868 (lwL i) [] n2 I3 L3 R2 Q) : px (M_law N xs) cu su 808 (lwL i) [] n I L R Q := by
  have hg := hj.g
  refine px_b (on := 13) rfl q_law_808 hg rfl trivial ?_
  refine px_argC q_law_809 hg hi (by decide) ?_
  refine px_argC q_law_814 hg hi (by decide) ?_
  refine px_argC q_law_819 hg hi (by decide) ?_
  refine px_argC q_law_824 hg hi (by decide) ?_
  refine px_argC q_law_829 hg hi (by decide) ?_
  refine px_kB q_law_834 lk_13_72 nm_X11_lamps (jb_lamps hj _ _ _ _ _) rfl rfl hg rfl (rkL rfl rfl rfl rfl (by omega) (by omega) rfl) ?_
  intro x n2 I2 L2 R2 hj2 f1 fR p1
  have hg := hj2.g
  refine px_b (on := 13) rfl q_law_837 hg rfl trivial ?_
  refine px_argC q_law_839 hg hi (by decide) ?_
  refine px_argC q_law_844 hg hi (by decide) ?_
  refine px_argC q_law_849 hg hi (by decide) ?_
  refine px_argC q_law_854 hg hi (by decide) ?_
  refine px_argC q_law_859 hg hi (by decide) ?_
  refine px_kK q_law_864 lk_13_75 nm_X12_lamps (jk_lamps hj2 _ _ _ _ _) rfl rfl hg rfl (rkL rfl rfl rfl rfl (by show cu + 0 ≤ 500000; omega) (by show su + 0 ≤ 7000000; omega) rfl) ?_
  intro y I3 L3 hj3 f2 p2
  have hg := hj3.g
  refine px_b (on := 13) rfl q_law_867 hg rfl trivial ?_
  exact px_wid (cu2 := cu + 3) (su2 := su + 404) (by show cu + 0 + 0 ≤ cu + 3; omega) (by show su + 0 + 0 ≤ su + 404; omega) (kk x n2 I2 L2 R2 y I3 L3 hj3 f1 fR p1 f2 p2)

theorem q_law_871 : px_bk 13 4 cL_law 871 [(.aload_n 1, (0, 0, 0, 0, 0), 0, 0)] = some 872 := by decide +kernel
theorem q_law_872 : px_bk 13 4 cL_law 872 [(.aload_n 0, (0, 0, 0, 0, 0), 0, 0), (.iload_n 3, (0, 0, 0, 0, 0), 0, 0), (.iconst 1, (0, 0, 0, 0, 0), 1, 0), (.iadd, (0, 0, 0, 0, 0), 0, 0)] = some 876 ∧ px_tia cL_law 876 = true := by decide +kernel
theorem q_law_877 : px_bk 13 4 cL_law 877 [(.aload_n 0, (0, 0, 0, 0, 0), 0, 0), (.iload_n 3, (0, 0, 0, 0, 0), 0, 0), (.iconst 2, (0, 0, 0, 0, 0), 2, 0), (.iadd, (0, 0, 0, 0, 0), 0, 0)] = some 881 ∧ px_tia cL_law 881 = true := by decide +kernel
theorem q_law_882 : px_bk 13 4 cL_law 882 [(.aload_n 0, (0, 0, 0, 0, 0), 0, 0), (.iload_n 3, (0, 0, 0, 0, 0), 0, 0), (.iconst 3, (0, 0, 0, 0, 0), 3, 0), (.iadd, (0, 0, 0, 0, 0), 0, 0)] = some 886 ∧ px_tia cL_law 886 = true := by decide +kernel
theorem q_law_887 : px_tv cL_law 887 76 = true := by decide +kernel
theorem q_law_890 : px_bk 13 4 cL_law 890 [(.pop, (0, 0, 0, 0, 0), 0, 0), (.aload_n 2, (0, 0, 0, 0, 0), 0, 0)] = some 892 := by decide +kernel
theorem q_law_892 : px_bk 13 4 cL_law 892 [(.aload_n 0, (0, 0, 0, 0, 0), 0, 0), (.iload_n 3, (0, 0, 0, 0, 0), 0, 0), (.iconst 1, (0, 0, 0, 0, 0), 1, 0), (.iadd, (0, 0, 0, 0, 0), 0, 0)] = some 896 ∧ px_tia cL_law 896 = true := by decide +kernel
theorem q_law_897 : px_bk 13 4 cL_law 897 [(.aload_n 0, (0, 0, 0, 0, 0), 0, 0), (.iload_n 3, (0, 0, 0, 0, 0), 0, 0), (.iconst 2, (0, 0, 0, 0, 0), 2, 0), (.iadd, (0, 0, 0, 0, 0), 0, 0)] = some 901 ∧ px_tia cL_law 901 = true := by decide +kernel
theorem q_law_902 : px_bk 13 4 cL_law 902 [(.aload_n 0, (0, 0, 0, 0, 0), 0, 0), (.iload_n 3, (0, 0, 0, 0, 0), 0, 0), (.iconst 3, (0, 0, 0, 0, 0), 3, 0), (.iadd, (0, 0, 0, 0, 0), 0, 0)] = some 906 ∧ px_tia cL_law 906 = true := by decide +kernel
theorem q_law_907 : px_tv cL_law 907 79 = true := by decide +kernel
theorem q_law_910 : px_bk 13 4 cL_law 910 [(.pop, (0, 0, 0, 0, 0), 0, 0), (.goto 957, (0, 0, 0, 0, 0), 0, 0)] = some 1868 := by decide +kernel

set_option maxRecDepth 100000 in
theorem lc_count {N : Nat} {xs : Nat → Int32} {n cu su : Nat} {I : px_I} {L : px_L} {R : px_R} {Q : px_Q} {i : Int32} (hi : lwI N i) (hcu : cu ≤ 490000) (hsu : su ≤ 6900000) (hj : jJ n I R) (kk : ∀ (x : Int32) (n2 : Nat) I2 L2 R2 (y : Int32) I3 L3, jJ n2 I3 R2 → frB I I2 L L2 → kR R I2 R2 → pb_count (ag xs i 1) (ag xs i 2) (ag xs i 3) I L x I2 L2 → frK I2 I3 L2 L3 → pk_count (ag xs i 1) (ag xs i 2) (ag xs i 3) I2 L2 y I3 L3 → px (M_law N xs) (cu + 3) (su + 404) 1868 (lwL i) [] n2 I3 L3 R2 Q) : px (M_law N xs) cu su 871 (lwL i) [] n I L R Q := by
  have hg := hj.g
  refine px_b (on := 13) rfl q_law_871 hg rfl trivial ?_
  refine px_argC q_law_872 hg hi (by decide) ?_
  refine px_argC q_law_877 hg hi (by decide) ?_
  refine px_argC q_law_882 hg hi (by decide) ?_
  refine px_kB q_law_887 lk_13_76 nm_X11_count (jb_count hj _ _ _) rfl rfl hg rfl (rkL rfl rfl rfl rfl (by omega) (by omega) rfl) ?_
  intro x n2 I2 L2 R2 hj2 f1 fR p1
  have hg := hj2.g
  refine px_b (on := 13) rfl q_law_890 hg rfl trivial ?_
  refine px_argC q_law_892 hg hi (by decide) ?_
  refine px_argC q_law_897 hg hi (by decide) ?_
  refine px_argC q_law_902 hg hi (by decide) ?_
  refine px_kK q_law_907 lk_13_79 nm_X12_count (jk_count hj2 _ _ _) rfl rfl hg rfl (rkL rfl rfl rfl rfl (by show cu + 0 ≤ 500000; omega) (by show su + 0 ≤ 7000000; omega) rfl) ?_
  intro y I3 L3 hj3 f2 p2
  have hg := hj3.g
  refine px_b (on := 13) rfl q_law_910 hg rfl trivial ?_
  exact px_wid (cu2 := cu + 3) (su2 := su + 404) (by show cu + 0 + 0 ≤ cu + 3; omega) (by show su + 0 + 0 ≤ su + 404; omega) (kk x n2 I2 L2 R2 y I3 L3 hj3 f1 fR p1 f2 p2)

theorem q_law_914 : px_bk 13 4 cL_law 914 [(.aload_n 1, (0, 0, 0, 0, 0), 0, 0)] = some 915 := by decide +kernel
theorem q_law_915 : px_bk 13 4 cL_law 915 [(.aload_n 0, (0, 0, 0, 0, 0), 0, 0), (.iload_n 3, (0, 0, 0, 0, 0), 0, 0), (.iconst 1, (0, 0, 0, 0, 0), 1, 0), (.iadd, (0, 0, 0, 0, 0), 0, 0)] = some 919 ∧ px_tia cL_law 919 = true := by decide +kernel
theorem q_law_920 : (px_bk 13 4 cL_law 920 [] = some 920 ∧ px_t1 cL_law 920 .eq 927 = true) ∧ px_bk 13 4 cL_law 927 [(.iconst 0, (0, 0, 0, 0, 0), 0, 0)] = some 928 ∧ px_bk 13 4 cL_law 923 [(.iconst 1, (0, 0, 0, 0, 0), 1, 0), (.goto 4, (0, 0, 0, 0, 0), 0, 0)] = some 928 := by decide +kernel
theorem q_law_928 : px_tv cL_law 928 80 = true := by decide +kernel
theorem q_law_931 : px_bk 13 4 cL_law 931 [(.pop, (0, 0, 0, 0, 0), 0, 0), (.aload_n 2, (0, 0, 0, 0, 0), 0, 0)] = some 933 := by decide +kernel
theorem q_law_933 : px_bk 13 4 cL_law 933 [(.aload_n 0, (0, 0, 0, 0, 0), 0, 0), (.iload_n 3, (0, 0, 0, 0, 0), 0, 0), (.iconst 1, (0, 0, 0, 0, 0), 1, 0), (.iadd, (0, 0, 0, 0, 0), 0, 0)] = some 937 ∧ px_tia cL_law 937 = true := by decide +kernel
theorem q_law_938 : (px_bk 13 4 cL_law 938 [] = some 938 ∧ px_t1 cL_law 938 .eq 945 = true) ∧ px_bk 13 4 cL_law 945 [(.iconst 0, (0, 0, 0, 0, 0), 0, 0)] = some 946 ∧ px_bk 13 4 cL_law 941 [(.iconst 1, (0, 0, 0, 0, 0), 1, 0), (.goto 4, (0, 0, 0, 0, 0), 0, 0)] = some 946 := by decide +kernel
theorem q_law_946 : px_tv cL_law 946 84 = true := by decide +kernel
theorem q_law_949 : px_bk 13 4 cL_law 949 [(.pop, (0, 0, 0, 0, 0), 0, 0), (.goto 918, (0, 0, 0, 0, 0), 0, 0)] = some 1868 := by decide +kernel

set_option maxRecDepth 100000 in
theorem lc_unit {N : Nat} {xs : Nat → Int32} {n cu su : Nat} {I : px_I} {L : px_L} {R : px_R} {Q : px_Q} {i : Int32} (hi : lwI N i) (hcu : cu ≤ 490000) (hsu : su ≤ 6900000) (hj : jJ n I R) (kk : ∀ (x : Int32) (n2 : Nat) I2 L2 R2 (y : Int32) I3 L3, jJ n2 I3 R2 → frB I I2 L L2 → kR R I2 R2 → pb_unit (bo (ag xs i 1)) I L x I2 L2 → frK I2 I3 L2 L3 → pk_unit (bo (ag xs i 1)) I2 L2 y I3 L3 → px (M_law N xs) (cu + 3) (su + 404) 1868 (lwL i) [] n2 I3 L3 R2 Q) : px (M_law N xs) cu su 914 (lwL i) [] n I L R Q := by
  have hg := hj.g
  refine px_b (on := 13) rfl q_law_914 hg rfl trivial ?_
  refine px_argC q_law_915 hg hi (by decide) ?_
  refine px_boo q_law_920 rfl hg ?_
  refine px_kB q_law_928 lk_13_80 nm_X11_unit (jb_unit hj _) rfl rfl hg rfl (rkL rfl rfl rfl rfl (by omega) (by omega) rfl) ?_
  intro x n2 I2 L2 R2 hj2 f1 fR p1
  have hg := hj2.g
  refine px_b (on := 13) rfl q_law_931 hg rfl trivial ?_
  refine px_argC q_law_933 hg hi (by decide) ?_
  refine px_boo q_law_938 rfl hg ?_
  refine px_kK q_law_946 lk_13_84 nm_X12_unit (jk_unit hj2 _) rfl rfl hg rfl (rkL rfl rfl rfl rfl (by show cu + 0 ≤ 500000; omega) (by show su + 0 ≤ 7000000; omega) rfl) ?_
  intro y I3 L3 hj3 f2 p2
  have hg := hj3.g
  refine px_b (on := 13) rfl q_law_949 hg rfl trivial ?_
  exact px_wid (cu2 := cu + 3) (su2 := su + 404) (by show cu + 0 + 0 ≤ cu + 3; omega) (by show su + 0 + 0 ≤ su + 404; omega) (kk x n2 I2 L2 R2 y I3 L3 hj3 f1 fR p1 f2 p2)

theorem q_law_953 : px_bk 13 4 cL_law 953 [(.aload_n 1, (0, 0, 0, 0, 0), 0, 0)] = some 954 := by decide +kernel
theorem q_law_954 : px_bk 13 4 cL_law 954 [(.aload_n 0, (0, 0, 0, 0, 0), 0, 0), (.iload_n 3, (0, 0, 0, 0, 0), 0, 0), (.iconst 1, (0, 0, 0, 0, 0), 1, 0), (.iadd, (0, 0, 0, 0, 0), 0, 0)] = some 958 ∧ px_tia cL_law 958 = true := by decide +kernel
theorem q_law_959 : px_bk 13 4 cL_law 959 [(.aload_n 0, (0, 0, 0, 0, 0), 0, 0), (.iload_n 3, (0, 0, 0, 0, 0), 0, 0), (.iconst 2, (0, 0, 0, 0, 0), 2, 0), (.iadd, (0, 0, 0, 0, 0), 0, 0)] = some 963 ∧ px_tia cL_law 963 = true := by decide +kernel
theorem q_law_964 : px_bk 13 4 cL_law 964 [(.aload_n 0, (0, 0, 0, 0, 0), 0, 0), (.iload_n 3, (0, 0, 0, 0, 0), 0, 0), (.iconst 3, (0, 0, 0, 0, 0), 3, 0), (.iadd, (0, 0, 0, 0, 0), 0, 0)] = some 968 ∧ px_tia cL_law 968 = true := by decide +kernel
theorem q_law_969 : px_bk 13 4 cL_law 969 [(.aload_n 0, (0, 0, 0, 0, 0), 0, 0), (.iload_n 3, (0, 0, 0, 0, 0), 0, 0), (.iconst 4, (0, 0, 0, 0, 0), 4, 0), (.iadd, (0, 0, 0, 0, 0), 0, 0)] = some 973 ∧ px_tia cL_law 973 = true := by decide +kernel
theorem q_law_974 : px_bk 13 4 cL_law 974 [(.aload_n 0, (0, 0, 0, 0, 0), 0, 0), (.iload_n 3, (0, 0, 0, 0, 0), 0, 0), (.iconst 5, (0, 0, 0, 0, 0), 5, 0), (.iadd, (0, 0, 0, 0, 0), 0, 0)] = some 978 ∧ px_tia cL_law 978 = true := by decide +kernel
theorem q_law_979 : px_tv cL_law 979 85 = true := by decide +kernel
theorem q_law_982 : px_bk 13 4 cL_law 982 [(.pop, (0, 0, 0, 0, 0), 0, 0), (.aload_n 2, (0, 0, 0, 0, 0), 0, 0)] = some 984 := by decide +kernel
theorem q_law_984 : px_bk 13 4 cL_law 984 [(.aload_n 0, (0, 0, 0, 0, 0), 0, 0), (.iload_n 3, (0, 0, 0, 0, 0), 0, 0), (.iconst 1, (0, 0, 0, 0, 0), 1, 0), (.iadd, (0, 0, 0, 0, 0), 0, 0)] = some 988 ∧ px_tia cL_law 988 = true := by decide +kernel
theorem q_law_989 : px_bk 13 4 cL_law 989 [(.aload_n 0, (0, 0, 0, 0, 0), 0, 0), (.iload_n 3, (0, 0, 0, 0, 0), 0, 0), (.iconst 2, (0, 0, 0, 0, 0), 2, 0), (.iadd, (0, 0, 0, 0, 0), 0, 0)] = some 993 ∧ px_tia cL_law 993 = true := by decide +kernel
theorem q_law_994 : px_bk 13 4 cL_law 994 [(.aload_n 0, (0, 0, 0, 0, 0), 0, 0), (.iload_n 3, (0, 0, 0, 0, 0), 0, 0), (.iconst 3, (0, 0, 0, 0, 0), 3, 0), (.iadd, (0, 0, 0, 0, 0), 0, 0)] = some 998 ∧ px_tia cL_law 998 = true := by decide +kernel
theorem q_law_999 : px_bk 13 4 cL_law 999 [(.aload_n 0, (0, 0, 0, 0, 0), 0, 0), (.iload_n 3, (0, 0, 0, 0, 0), 0, 0), (.iconst 4, (0, 0, 0, 0, 0), 4, 0), (.iadd, (0, 0, 0, 0, 0), 0, 0)] = some 1003 ∧ px_tia cL_law 1003 = true := by decide +kernel
theorem q_law_1004 : px_bk 13 4 cL_law 1004 [(.aload_n 0, (0, 0, 0, 0, 0), 0, 0), (.iload_n 3, (0, 0, 0, 0, 0), 0, 0), (.iconst 5, (0, 0, 0, 0, 0), 5, 0), (.iadd, (0, 0, 0, 0, 0), 0, 0)] = some 1008 ∧ px_tia cL_law 1008 = true := by decide +kernel
theorem q_law_1009 : px_tv cL_law 1009 88 = true := by decide +kernel
theorem q_law_1012 : px_bk 13 4 cL_law 1012 [(.pop, (0, 0, 0, 0, 0), 0, 0), (.goto 855, (0, 0, 0, 0, 0), 0, 0)] = some 1868 := by decide +kernel

set_option maxRecDepth 100000 in
theorem lc_feed {N : Nat} {xs : Nat → Int32} {n cu su : Nat} {I : px_I} {L : px_L} {R : px_R} {Q : px_Q} {i : Int32} (hi : lwI N i) (hcu : cu ≤ 490000) (hsu : su ≤ 6900000) (hj : jJ n I R) (kk : ∀ (x : Int32) (n2 : Nat) I2 L2 R2 (y : Int32) I3 L3, jJ n2 I3 R2 → frB I I2 L L2 → kR R I2 R2 → pb_feed (ag xs i 1) (ag xs i 2) (ag xs i 3) (ag xs i 4) (ag xs i 5) I L x I2 L2 → frK I2 I3 L2 L3 → pk_feed (ag xs i 1) (ag xs i 2) (ag xs i 3) (ag xs i 4) (ag xs i 5) I2 L2 y I3 L3 → px (M_law N xs) (cu + 3) (su + 404) 1868 (lwL i) [] n2 I3 L3 R2 Q) : px (M_law N xs) cu su 953 (lwL i) [] n I L R Q := by
  have hg := hj.g
  refine px_b (on := 13) rfl q_law_953 hg rfl trivial ?_
  refine px_argC q_law_954 hg hi (by decide) ?_
  refine px_argC q_law_959 hg hi (by decide) ?_
  refine px_argC q_law_964 hg hi (by decide) ?_
  refine px_argC q_law_969 hg hi (by decide) ?_
  refine px_argC q_law_974 hg hi (by decide) ?_
  refine px_kB q_law_979 lk_13_85 nm_X11_feed (jb_feed hj _ _ _ _ _) rfl rfl hg rfl (rkL rfl rfl rfl rfl (by omega) (by omega) rfl) ?_
  intro x n2 I2 L2 R2 hj2 f1 fR p1
  have hg := hj2.g
  refine px_b (on := 13) rfl q_law_982 hg rfl trivial ?_
  refine px_argC q_law_984 hg hi (by decide) ?_
  refine px_argC q_law_989 hg hi (by decide) ?_
  refine px_argC q_law_994 hg hi (by decide) ?_
  refine px_argC q_law_999 hg hi (by decide) ?_
  refine px_argC q_law_1004 hg hi (by decide) ?_
  refine px_kK q_law_1009 lk_13_88 nm_X12_feed (jk_feed hj2 _ _ _ _ _) rfl rfl hg rfl (rkL rfl rfl rfl rfl (by show cu + 0 ≤ 500000; omega) (by show su + 0 ≤ 7000000; omega) rfl) ?_
  intro y I3 L3 hj3 f2 p2
  have hg := hj3.g
  refine px_b (on := 13) rfl q_law_1012 hg rfl trivial ?_
  exact px_wid (cu2 := cu + 3) (su2 := su + 404) (by show cu + 0 + 0 ≤ cu + 3; omega) (by show su + 0 + 0 ≤ su + 404; omega) (kk x n2 I2 L2 R2 y I3 L3 hj3 f1 fR p1 f2 p2)

theorem q_law_1016 : px_bk 13 4 cL_law 1016 [(.aload_n 1, (0, 0, 0, 0, 0), 0, 0)] = some 1017 := by decide +kernel
theorem q_law_1017 : px_bk 13 4 cL_law 1017 [(.aload_n 0, (0, 0, 0, 0, 0), 0, 0), (.iload_n 3, (0, 0, 0, 0, 0), 0, 0), (.iconst 1, (0, 0, 0, 0, 0), 1, 0), (.iadd, (0, 0, 0, 0, 0), 0, 0)] = some 1021 ∧ px_tia cL_law 1021 = true := by decide +kernel
theorem q_law_1022 : px_tv cL_law 1022 89 = true := by decide +kernel
theorem q_law_1025 : px_bk 13 4 cL_law 1025 [(.pop, (0, 0, 0, 0, 0), 0, 0), (.aload_n 2, (0, 0, 0, 0, 0), 0, 0)] = some 1027 := by decide +kernel
theorem q_law_1027 : px_bk 13 4 cL_law 1027 [(.aload_n 0, (0, 0, 0, 0, 0), 0, 0), (.iload_n 3, (0, 0, 0, 0, 0), 0, 0), (.iconst 1, (0, 0, 0, 0, 0), 1, 0), (.iadd, (0, 0, 0, 0, 0), 0, 0)] = some 1031 ∧ px_tia cL_law 1031 = true := by decide +kernel
theorem q_law_1032 : px_tv cL_law 1032 92 = true := by decide +kernel
theorem q_law_1035 : px_bk 13 4 cL_law 1035 [(.pop, (0, 0, 0, 0, 0), 0, 0), (.goto 832, (0, 0, 0, 0, 0), 0, 0)] = some 1868 := by decide +kernel

set_option maxRecDepth 100000 in
theorem lc_end {N : Nat} {xs : Nat → Int32} {n cu su : Nat} {I : px_I} {L : px_L} {R : px_R} {Q : px_Q} {i : Int32} (hi : lwI N i) (hcu : cu ≤ 490000) (hsu : su ≤ 6900000) (hj : jJ n I R) (kk : ∀ (x : Int32) (n2 : Nat) I2 L2 R2 (y : Int32) I3 L3, jJ n2 I3 R2 → frB I I2 L L2 → kR R I2 R2 → pb_end (ag xs i 1) I L x I2 L2 → frK I2 I3 L2 L3 → pk_end (ag xs i 1) I2 L2 y I3 L3 → px (M_law N xs) (cu + 3) (su + 404) 1868 (lwL i) [] n2 I3 L3 R2 Q) : px (M_law N xs) cu su 1016 (lwL i) [] n I L R Q := by
  have hg := hj.g
  refine px_b (on := 13) rfl q_law_1016 hg rfl trivial ?_
  refine px_argC q_law_1017 hg hi (by decide) ?_
  refine px_kB q_law_1022 lk_13_89 nm_X11_end (jb_end hj _) rfl rfl hg rfl (rkL rfl rfl rfl rfl (by omega) (by omega) rfl) ?_
  intro x n2 I2 L2 R2 hj2 f1 fR p1
  have hg := hj2.g
  refine px_b (on := 13) rfl q_law_1025 hg rfl trivial ?_
  refine px_argC q_law_1027 hg hi (by decide) ?_
  refine px_kK q_law_1032 lk_13_92 nm_X12_end (jk_end hj2 _) rfl rfl hg rfl (rkL rfl rfl rfl rfl (by show cu + 0 ≤ 500000; omega) (by show su + 0 ≤ 7000000; omega) rfl) ?_
  intro y I3 L3 hj3 f2 p2
  have hg := hj3.g
  refine px_b (on := 13) rfl q_law_1035 hg rfl trivial ?_
  exact px_wid (cu2 := cu + 3) (su2 := su + 404) (by show cu + 0 + 0 ≤ cu + 3; omega) (by show su + 0 + 0 ≤ su + 404; omega) (kk x n2 I2 L2 R2 y I3 L3 hj3 f1 fR p1 f2 p2)

theorem q_law_1039 : px_bk 13 4 cL_law 1039 [(.aload_n 1, (0, 0, 0, 0, 0), 0, 0)] = some 1040 := by decide +kernel
theorem q_law_1040 : px_bk 13 4 cL_law 1040 [(.aload_n 0, (0, 0, 0, 0, 0), 0, 0), (.iload_n 3, (0, 0, 0, 0, 0), 0, 0), (.iconst 1, (0, 0, 0, 0, 0), 1, 0), (.iadd, (0, 0, 0, 0, 0), 0, 0)] = some 1044 ∧ px_tia cL_law 1044 = true := by decide +kernel
theorem q_law_1045 : px_tv cL_law 1045 93 = true := by decide +kernel
theorem q_law_1048 : px_bk 13 4 cL_law 1048 [(.pop, (0, 0, 0, 0, 0), 0, 0), (.aload_n 2, (0, 0, 0, 0, 0), 0, 0)] = some 1050 := by decide +kernel
theorem q_law_1050 : px_bk 13 4 cL_law 1050 [(.aload_n 0, (0, 0, 0, 0, 0), 0, 0), (.iload_n 3, (0, 0, 0, 0, 0), 0, 0), (.iconst 1, (0, 0, 0, 0, 0), 1, 0), (.iadd, (0, 0, 0, 0, 0), 0, 0)] = some 1054 ∧ px_tia cL_law 1054 = true := by decide +kernel
theorem q_law_1055 : px_tv cL_law 1055 96 = true := by decide +kernel
theorem q_law_1058 : px_bk 13 4 cL_law 1058 [(.pop, (0, 0, 0, 0, 0), 0, 0), (.goto 809, (0, 0, 0, 0, 0), 0, 0)] = some 1868 := by decide +kernel

set_option maxRecDepth 100000 in
theorem lc_way {N : Nat} {xs : Nat → Int32} {n cu su : Nat} {I : px_I} {L : px_L} {R : px_R} {Q : px_Q} {i : Int32} (hi : lwI N i) (hcu : cu ≤ 490000) (hsu : su ≤ 6900000) (hj : jJ n I R) (kk : ∀ (x : Int32) (n2 : Nat) I2 L2 R2 (y : Int32) I3 L3, jJ n2 I3 R2 → frB I I2 L L2 → True → pb_way (ag xs i 1) I L x I2 L2 → frK I2 I3 L2 L3 → pk_way (ag xs i 1) I2 L2 y I3 L3 → px (M_law N xs) (cu + 3) (su + 404) 1868 (lwL i) [] n2 I3 L3 R2 Q) : px (M_law N xs) cu su 1039 (lwL i) [] n I L R Q := by
  have hg := hj.g
  refine px_b (on := 13) rfl q_law_1039 hg rfl trivial ?_
  refine px_argC q_law_1040 hg hi (by decide) ?_
  refine px_kB q_law_1045 lk_13_93 nm_X11_way (jb_way hj _) rfl rfl hg rfl (rkL rfl rfl rfl rfl (by omega) (by omega) rfl) ?_
  intro x n2 I2 L2 R2 hj2 f1 fR p1
  have hg := hj2.g
  refine px_b (on := 13) rfl q_law_1048 hg rfl trivial ?_
  refine px_argC q_law_1050 hg hi (by decide) ?_
  refine px_kK q_law_1055 lk_13_96 nm_X12_way (jk_way hj2 _) rfl rfl hg rfl (rkL rfl rfl rfl rfl (by show cu + 3 ≤ 500000; omega) (by show su + 404 ≤ 7000000; omega) rfl) ?_
  intro y I3 L3 hj3 f2 p2
  have hg := hj3.g
  refine px_b (on := 13) rfl q_law_1058 hg rfl trivial ?_
  exact px_wid (cu2 := cu + 3) (su2 := su + 404) (by show cu + 3 + 0 ≤ cu + 3; omega) (by show su + 404 + 0 ≤ su + 404; omega) (kk x n2 I2 L2 R2 y I3 L3 hj3 f1 fR p1 f2 p2)

theorem q_law_1062 : px_bk 13 4 cL_law 1062 [(.aload_n 1, (0, 0, 0, 0, 0), 0, 0)] = some 1063 := by decide +kernel
theorem q_law_1063 : px_bk 13 4 cL_law 1063 [(.aload_n 0, (0, 0, 0, 0, 0), 0, 0), (.iload_n 3, (0, 0, 0, 0, 0), 0, 0), (.iconst 1, (0, 0, 0, 0, 0), 1, 0), (.iadd, (0, 0, 0, 0, 0), 0, 0)] = some 1067 ∧ px_tia cL_law 1067 = true := by decide +kernel
theorem q_law_1068 : px_tv cL_law 1068 97 = true := by decide +kernel
theorem q_law_1071 : px_bk 13 4 cL_law 1071 [(.pop, (0, 0, 0, 0, 0), 0, 0), (.aload_n 2, (0, 0, 0, 0, 0), 0, 0)] = some 1073 := by decide +kernel
theorem q_law_1073 : px_bk 13 4 cL_law 1073 [(.aload_n 0, (0, 0, 0, 0, 0), 0, 0), (.iload_n 3, (0, 0, 0, 0, 0), 0, 0), (.iconst 1, (0, 0, 0, 0, 0), 1, 0), (.iadd, (0, 0, 0, 0, 0), 0, 0)] = some 1077 ∧ px_tia cL_law 1077 = true := by decide +kernel
theorem q_law_1078 : px_tv cL_law 1078 100 = true := by decide +kernel
theorem q_law_1081 : px_bk 13 4 cL_law 1081 [(.pop, (0, 0, 0, 0, 0), 0, 0), (.goto 786, (0, 0, 0, 0, 0), 0, 0)] = some 1868 := by decide +kernel

set_option maxRecDepth 100000 in
theorem lc_fault {N : Nat} {xs : Nat → Int32} {n cu su : Nat} {I : px_I} {L : px_L} {R : px_R} {Q : px_Q} {i : Int32} (hi : lwI N i) (hcu : cu ≤ 490000) (hsu : su ≤ 6900000) (hj : jJ n I R) (kk : ∀ (x : Int32) (n2 : Nat) I2 L2 R2 (y : Int32) I3 L3, jJ n2 I3 R2 → frB I I2 L L2 → kR R I2 R2 → pb_fault (ag xs i 1) I L x I2 L2 → frK I2 I3 L2 L3 → pk_fault (ag xs i 1) I2 L2 y I3 L3 → px (M_law N xs) (cu + 3) (su + 404) 1868 (lwL i) [] n2 I3 L3 R2 Q) : px (M_law N xs) cu su 1062 (lwL i) [] n I L R Q := by
  have hg := hj.g
  refine px_b (on := 13) rfl q_law_1062 hg rfl trivial ?_
  refine px_argC q_law_1063 hg hi (by decide) ?_
  refine px_kB q_law_1068 lk_13_97 nm_X11_fault (jb_fault hj _) rfl rfl hg rfl (rkL rfl rfl rfl rfl (by omega) (by omega) rfl) ?_
  intro x n2 I2 L2 R2 hj2 f1 fR p1
  have hg := hj2.g
  refine px_b (on := 13) rfl q_law_1071 hg rfl trivial ?_
  refine px_argC q_law_1073 hg hi (by decide) ?_
  refine px_kK q_law_1078 lk_13_100 nm_X12_fault (jk_fault hj2 _) rfl rfl hg rfl (rkL rfl rfl rfl rfl (by show cu + 0 ≤ 500000; omega) (by show su + 0 ≤ 7000000; omega) rfl) ?_
  intro y I3 L3 hj3 f2 p2
  have hg := hj3.g
  refine px_b (on := 13) rfl q_law_1081 hg rfl trivial ?_
  exact px_wid (cu2 := cu + 3) (su2 := su + 404) (by show cu + 0 + 0 ≤ cu + 3; omega) (by show su + 0 + 0 ≤ su + 404; omega) (kk x n2 I2 L2 R2 y I3 L3 hj3 f1 fR p1 f2 p2)

theorem q_law_1085 : px_bk 13 4 cL_law 1085 [(.aload_n 1, (0, 0, 0, 0, 0), 0, 0)] = some 1086 := by decide +kernel
theorem q_law_1086 : px_bk 13 4 cL_law 1086 [(.aload_n 0, (0, 0, 0, 0, 0), 0, 0), (.iload_n 3, (0, 0, 0, 0, 0), 0, 0), (.iconst 1, (0, 0, 0, 0, 0), 1, 0), (.iadd, (0, 0, 0, 0, 0), 0, 0)] = some 1090 ∧ px_tia cL_law 1090 = true := by decide +kernel
theorem q_law_1091 : px_bk 13 4 cL_law 1091 [(.aload_n 0, (0, 0, 0, 0, 0), 0, 0), (.iload_n 3, (0, 0, 0, 0, 0), 0, 0), (.iconst 2, (0, 0, 0, 0, 0), 2, 0), (.iadd, (0, 0, 0, 0, 0), 0, 0)] = some 1095 ∧ px_tia cL_law 1095 = true := by decide +kernel
theorem q_law_1096 : px_bk 13 4 cL_law 1096 [(.aload_n 0, (0, 0, 0, 0, 0), 0, 0), (.iload_n 3, (0, 0, 0, 0, 0), 0, 0), (.iconst 3, (0, 0, 0, 0, 0), 3, 0), (.iadd, (0, 0, 0, 0, 0), 0, 0)] = some 1100 ∧ px_tia cL_law 1100 = true := by decide +kernel
theorem q_law_1101 : px_bk 13 4 cL_law 1101 [(.aload_n 0, (0, 0, 0, 0, 0), 0, 0), (.iload_n 3, (0, 0, 0, 0, 0), 0, 0), (.iconst 4, (0, 0, 0, 0, 0), 4, 0), (.iadd, (0, 0, 0, 0, 0), 0, 0)] = some 1105 ∧ px_tia cL_law 1105 = true := by decide +kernel
theorem q_law_1106 : px_bk 13 4 cL_law 1106 [(.aload_n 0, (0, 0, 0, 0, 0), 0, 0), (.iload_n 3, (0, 0, 0, 0, 0), 0, 0), (.iconst 5, (0, 0, 0, 0, 0), 5, 0), (.iadd, (0, 0, 0, 0, 0), 0, 0)] = some 1110 ∧ px_tia cL_law 1110 = true := by decide +kernel
theorem q_law_1111 : px_tv cL_law 1111 101 = true := by decide +kernel
theorem q_law_1114 : px_bk 13 4 cL_law 1114 [(.pop, (0, 0, 0, 0, 0), 0, 0), (.aload_n 2, (0, 0, 0, 0, 0), 0, 0)] = some 1116 := by decide +kernel
theorem q_law_1116 : px_bk 13 4 cL_law 1116 [(.aload_n 0, (0, 0, 0, 0, 0), 0, 0), (.iload_n 3, (0, 0, 0, 0, 0), 0, 0), (.iconst 1, (0, 0, 0, 0, 0), 1, 0), (.iadd, (0, 0, 0, 0, 0), 0, 0)] = some 1120 ∧ px_tia cL_law 1120 = true := by decide +kernel
theorem q_law_1121 : px_bk 13 4 cL_law 1121 [(.aload_n 0, (0, 0, 0, 0, 0), 0, 0), (.iload_n 3, (0, 0, 0, 0, 0), 0, 0), (.iconst 2, (0, 0, 0, 0, 0), 2, 0), (.iadd, (0, 0, 0, 0, 0), 0, 0)] = some 1125 ∧ px_tia cL_law 1125 = true := by decide +kernel
theorem q_law_1126 : px_bk 13 4 cL_law 1126 [(.aload_n 0, (0, 0, 0, 0, 0), 0, 0), (.iload_n 3, (0, 0, 0, 0, 0), 0, 0), (.iconst 3, (0, 0, 0, 0, 0), 3, 0), (.iadd, (0, 0, 0, 0, 0), 0, 0)] = some 1130 ∧ px_tia cL_law 1130 = true := by decide +kernel
theorem q_law_1131 : px_bk 13 4 cL_law 1131 [(.aload_n 0, (0, 0, 0, 0, 0), 0, 0), (.iload_n 3, (0, 0, 0, 0, 0), 0, 0), (.iconst 4, (0, 0, 0, 0, 0), 4, 0), (.iadd, (0, 0, 0, 0, 0), 0, 0)] = some 1135 ∧ px_tia cL_law 1135 = true := by decide +kernel
theorem q_law_1136 : px_bk 13 4 cL_law 1136 [(.aload_n 0, (0, 0, 0, 0, 0), 0, 0), (.iload_n 3, (0, 0, 0, 0, 0), 0, 0), (.iconst 5, (0, 0, 0, 0, 0), 5, 0), (.iadd, (0, 0, 0, 0, 0), 0, 0)] = some 1140 ∧ px_tia cL_law 1140 = true := by decide +kernel
theorem q_law_1141 : px_tv cL_law 1141 105 = true := by decide +kernel
theorem q_law_1144 : px_bk 13 4 cL_law 1144 [(.pop, (0, 0, 0, 0, 0), 0, 0), (.goto 723, (0, 0, 0, 0, 0), 0, 0)] = some 1868 := by decide +kernel

set_option maxRecDepth 100000 in
theorem lc_tools {N : Nat} {xs : Nat → Int32} {n cu su : Nat} {I : px_I} {L : px_L} {R : px_R} {Q : px_Q} {i : Int32} (hi : lwI N i) (hcu : cu ≤ 490000) (hsu : su ≤ 6900000) (hj : jJ n I R) (kk : ∀ (x : Int32) (n2 : Nat) I2 L2 R2 (y : Int32) I3 L3, jJ n2 I3 R2 → frB I I2 L L2 → kR R I2 R2 → pb_tools (ag xs i 1) (ag xs i 2) (ag xs i 3) (ag xs i 4) (ag xs i 5) I L x I2 L2 → frK I2 I3 L2 L3 → pk_tools (ag xs i 1) (ag xs i 2) (ag xs i 3) (ag xs i 4) (ag xs i 5) I2 L2 y I3 L3 → px (M_law N xs) (cu + 3) (su + 404) 1868 (lwL i) [] n2 I3 L3 R2 Q) : px (M_law N xs) cu su 1085 (lwL i) [] n I L R Q := by
  have hg := hj.g
  refine px_b (on := 13) rfl q_law_1085 hg rfl trivial ?_
  refine px_argC q_law_1086 hg hi (by decide) ?_
  refine px_argC q_law_1091 hg hi (by decide) ?_
  refine px_argC q_law_1096 hg hi (by decide) ?_
  refine px_argC q_law_1101 hg hi (by decide) ?_
  refine px_argC q_law_1106 hg hi (by decide) ?_
  refine px_kB q_law_1111 lk_13_101 nm_X11_tools (jb_tools hj _ _ _ _ _) rfl rfl hg rfl (rkL rfl rfl rfl rfl (by omega) (by omega) rfl) ?_
  intro x n2 I2 L2 R2 hj2 f1 fR p1
  have hg := hj2.g
  refine px_b (on := 13) rfl q_law_1114 hg rfl trivial ?_
  refine px_argC q_law_1116 hg hi (by decide) ?_
  refine px_argC q_law_1121 hg hi (by decide) ?_
  refine px_argC q_law_1126 hg hi (by decide) ?_
  refine px_argC q_law_1131 hg hi (by decide) ?_
  refine px_argC q_law_1136 hg hi (by decide) ?_
  refine px_kK q_law_1141 lk_13_105 nm_X12_tools (jk_tools hj2 _ _ _ _ _) rfl rfl hg rfl (rkL rfl rfl rfl rfl (by show cu + 0 ≤ 500000; omega) (by show su + 0 ≤ 7000000; omega) rfl) ?_
  intro y I3 L3 hj3 f2 p2
  have hg := hj3.g
  refine px_b (on := 13) rfl q_law_1144 hg rfl trivial ?_
  exact px_wid (cu2 := cu + 3) (su2 := su + 404) (by show cu + 0 + 0 ≤ cu + 3; omega) (by show su + 0 + 0 ≤ su + 404; omega) (kk x n2 I2 L2 R2 y I3 L3 hj3 f1 fR p1 f2 p2)

theorem q_law_1148 : px_bk 13 4 cL_law 1148 [(.aload_n 1, (0, 0, 0, 0, 0), 0, 0)] = some 1149 := by decide +kernel
theorem q_law_1149 : px_bk 13 4 cL_law 1149 [(.aload_n 0, (0, 0, 0, 0, 0), 0, 0), (.iload_n 3, (0, 0, 0, 0, 0), 0, 0), (.iconst 1, (0, 0, 0, 0, 0), 1, 0), (.iadd, (0, 0, 0, 0, 0), 0, 0)] = some 1153 ∧ px_tia cL_law 1153 = true := by decide +kernel
theorem q_law_1154 : px_bk 13 4 cL_law 1154 [(.aload_n 0, (0, 0, 0, 0, 0), 0, 0), (.iload_n 3, (0, 0, 0, 0, 0), 0, 0), (.iconst 2, (0, 0, 0, 0, 0), 2, 0), (.iadd, (0, 0, 0, 0, 0), 0, 0)] = some 1158 ∧ px_tia cL_law 1158 = true := by decide +kernel
theorem q_law_1159 : px_bk 13 4 cL_law 1159 [(.aload_n 0, (0, 0, 0, 0, 0), 0, 0), (.iload_n 3, (0, 0, 0, 0, 0), 0, 0), (.iconst 3, (0, 0, 0, 0, 0), 3, 0), (.iadd, (0, 0, 0, 0, 0), 0, 0)] = some 1163 ∧ px_tia cL_law 1163 = true := by decide +kernel
theorem q_law_1164 : px_tv cL_law 1164 106 = true := by decide +kernel
theorem q_law_1167 : px_bk 13 4 cL_law 1167 [(.pop, (0, 0, 0, 0, 0), 0, 0), (.aload_n 2, (0, 0, 0, 0, 0), 0, 0)] = some 1169 := by decide +kernel
theorem q_law_1169 : px_bk 13 4 cL_law 1169 [(.aload_n 0, (0, 0, 0, 0, 0), 0, 0), (.iload_n 3, (0, 0, 0, 0, 0), 0, 0), (.iconst 1, (0, 0, 0, 0, 0), 1, 0), (.iadd, (0, 0, 0, 0, 0), 0, 0)] = some 1173 ∧ px_tia cL_law 1173 = true := by decide +kernel
theorem q_law_1174 : px_bk 13 4 cL_law 1174 [(.aload_n 0, (0, 0, 0, 0, 0), 0, 0), (.iload_n 3, (0, 0, 0, 0, 0), 0, 0), (.iconst 2, (0, 0, 0, 0, 0), 2, 0), (.iadd, (0, 0, 0, 0, 0), 0, 0)] = some 1178 ∧ px_tia cL_law 1178 = true := by decide +kernel
theorem q_law_1179 : px_bk 13 4 cL_law 1179 [(.aload_n 0, (0, 0, 0, 0, 0), 0, 0), (.iload_n 3, (0, 0, 0, 0, 0), 0, 0), (.iconst 3, (0, 0, 0, 0, 0), 3, 0), (.iadd, (0, 0, 0, 0, 0), 0, 0)] = some 1183 ∧ px_tia cL_law 1183 = true := by decide +kernel
theorem q_law_1184 : px_tv cL_law 1184 109 = true := by decide +kernel
theorem q_law_1187 : px_bk 13 4 cL_law 1187 [(.pop, (0, 0, 0, 0, 0), 0, 0), (.goto 680, (0, 0, 0, 0, 0), 0, 0)] = some 1868 := by decide +kernel

set_option maxRecDepth 100000 in
theorem lc_run {N : Nat} {xs : Nat → Int32} {n cu su : Nat} {I : px_I} {L : px_L} {R : px_R} {Q : px_Q} {i : Int32} (hi : lwI N i) (hcu : cu ≤ 490000) (hsu : su ≤ 6900000) (hj : jJ n I R) (kk : ∀ (x : Int32) (n2 : Nat) I2 L2 R2 (y : Int32) I3 L3, jJ n2 I3 R2 → frB I I2 L L2 → kR R I2 R2 → pb_run (ag xs i 1) (ag xs i 2) (ag xs i 3) I L x I2 L2 → frK I2 I3 L2 L3 → pk_run (ag xs i 1) (ag xs i 2) (ag xs i 3) I2 L2 y I3 L3 → px (M_law N xs) (cu + 3) (su + 404) 1868 (lwL i) [] n2 I3 L3 R2 Q) : px (M_law N xs) cu su 1148 (lwL i) [] n I L R Q := by
  have hg := hj.g
  refine px_b (on := 13) rfl q_law_1148 hg rfl trivial ?_
  refine px_argC q_law_1149 hg hi (by decide) ?_
  refine px_argC q_law_1154 hg hi (by decide) ?_
  refine px_argC q_law_1159 hg hi (by decide) ?_
  refine px_kB q_law_1164 lk_13_106 nm_X11_run (jb_run hj _ _ _) rfl rfl hg rfl (rkL rfl rfl rfl rfl (by omega) (by omega) rfl) ?_
  intro x n2 I2 L2 R2 hj2 f1 fR p1
  have hg := hj2.g
  refine px_b (on := 13) rfl q_law_1167 hg rfl trivial ?_
  refine px_argC q_law_1169 hg hi (by decide) ?_
  refine px_argC q_law_1174 hg hi (by decide) ?_
  refine px_argC q_law_1179 hg hi (by decide) ?_
  refine px_kK q_law_1184 lk_13_109 nm_X12_run (jk_run hj2 _ _ _) rfl rfl hg rfl (rkL rfl rfl rfl rfl (by show cu + 0 ≤ 500000; omega) (by show su + 0 ≤ 7000000; omega) rfl) ?_
  intro y I3 L3 hj3 f2 p2
  have hg := hj3.g
  refine px_b (on := 13) rfl q_law_1187 hg rfl trivial ?_
  exact px_wid (cu2 := cu + 3) (su2 := su + 404) (by show cu + 0 + 0 ≤ cu + 3; omega) (by show su + 0 + 0 ≤ su + 404; omega) (kk x n2 I2 L2 R2 y I3 L3 hj3 f1 fR p1 f2 p2)

theorem q_law_1191 : px_bk 13 4 cL_law 1191 [(.aload_n 1, (0, 0, 0, 0, 0), 0, 0)] = some 1192 := by decide +kernel
theorem q_law_1192 : px_bk 13 4 cL_law 1192 [(.aload_n 0, (0, 0, 0, 0, 0), 0, 0), (.iload_n 3, (0, 0, 0, 0, 0), 0, 0), (.iconst 1, (0, 0, 0, 0, 0), 1, 0), (.iadd, (0, 0, 0, 0, 0), 0, 0)] = some 1196 ∧ px_tia cL_law 1196 = true := by decide +kernel
theorem q_law_1197 : px_bk 13 4 cL_law 1197 [(.aload_n 0, (0, 0, 0, 0, 0), 0, 0), (.iload_n 3, (0, 0, 0, 0, 0), 0, 0), (.iconst 2, (0, 0, 0, 0, 0), 2, 0), (.iadd, (0, 0, 0, 0, 0), 0, 0)] = some 1201 ∧ px_tia cL_law 1201 = true := by decide +kernel
theorem q_law_1202 : px_bk 13 4 cL_law 1202 [(.aload_n 0, (0, 0, 0, 0, 0), 0, 0), (.iload_n 3, (0, 0, 0, 0, 0), 0, 0), (.iconst 3, (0, 0, 0, 0, 0), 3, 0), (.iadd, (0, 0, 0, 0, 0), 0, 0)] = some 1206 ∧ px_tia cL_law 1206 = true := by decide +kernel
theorem q_law_1207 : px_bk 13 4 cL_law 1207 [(.aload_n 0, (0, 0, 0, 0, 0), 0, 0), (.iload_n 3, (0, 0, 0, 0, 0), 0, 0), (.iconst 4, (0, 0, 0, 0, 0), 4, 0), (.iadd, (0, 0, 0, 0, 0), 0, 0)] = some 1211 ∧ px_tia cL_law 1211 = true := by decide +kernel
theorem q_law_1212 : px_bk 13 4 cL_law 1212 [(.aload_n 0, (0, 0, 0, 0, 0), 0, 0), (.iload_n 3, (0, 0, 0, 0, 0), 0, 0), (.iconst 5, (0, 0, 0, 0, 0), 5, 0), (.iadd, (0, 0, 0, 0, 0), 0, 0)] = some 1216 ∧ px_tia cL_law 1216 = true := by decide +kernel
theorem q_law_1217 : px_bk 13 4 cL_law 1217 [(.aload_n 0, (0, 0, 0, 0, 0), 0, 0), (.iload_n 3, (0, 0, 0, 0, 0), 0, 0), (.bipush 6, (0, 0, 0, 0, 0), 6, 0), (.iadd, (0, 0, 0, 0, 0), 0, 0)] = some 1222 ∧ px_tia cL_law 1222 = true := by decide +kernel
theorem q_law_1223 : (px_bk 13 4 cL_law 1223 [] = some 1223 ∧ px_t1 cL_law 1223 .eq 1230 = true) ∧ px_bk 13 4 cL_law 1230 [(.iconst 0, (0, 0, 0, 0, 0), 0, 0)] = some 1231 ∧ px_bk 13 4 cL_law 1226 [(.iconst 1, (0, 0, 0, 0, 0), 1, 0), (.goto 4, (0, 0, 0, 0, 0), 0, 0)] = some 1231 := by decide +kernel
theorem q_law_1231 : px_tv cL_law 1231 110 = true := by decide +kernel
theorem q_law_1234 : px_bk 13 4 cL_law 1234 [(.pop, (0, 0, 0, 0, 0), 0, 0), (.aload_n 2, (0, 0, 0, 0, 0), 0, 0)] = some 1236 := by decide +kernel
theorem q_law_1236 : px_bk 13 4 cL_law 1236 [(.aload_n 0, (0, 0, 0, 0, 0), 0, 0), (.iload_n 3, (0, 0, 0, 0, 0), 0, 0), (.iconst 1, (0, 0, 0, 0, 0), 1, 0), (.iadd, (0, 0, 0, 0, 0), 0, 0)] = some 1240 ∧ px_tia cL_law 1240 = true := by decide +kernel
theorem q_law_1241 : px_bk 13 4 cL_law 1241 [(.aload_n 0, (0, 0, 0, 0, 0), 0, 0), (.iload_n 3, (0, 0, 0, 0, 0), 0, 0), (.iconst 2, (0, 0, 0, 0, 0), 2, 0), (.iadd, (0, 0, 0, 0, 0), 0, 0)] = some 1245 ∧ px_tia cL_law 1245 = true := by decide +kernel
theorem q_law_1246 : px_bk 13 4 cL_law 1246 [(.aload_n 0, (0, 0, 0, 0, 0), 0, 0), (.iload_n 3, (0, 0, 0, 0, 0), 0, 0), (.iconst 3, (0, 0, 0, 0, 0), 3, 0), (.iadd, (0, 0, 0, 0, 0), 0, 0)] = some 1250 ∧ px_tia cL_law 1250 = true := by decide +kernel
theorem q_law_1251 : px_bk 13 4 cL_law 1251 [(.aload_n 0, (0, 0, 0, 0, 0), 0, 0), (.iload_n 3, (0, 0, 0, 0, 0), 0, 0), (.iconst 4, (0, 0, 0, 0, 0), 4, 0), (.iadd, (0, 0, 0, 0, 0), 0, 0)] = some 1255 ∧ px_tia cL_law 1255 = true := by decide +kernel
theorem q_law_1256 : px_bk 13 4 cL_law 1256 [(.aload_n 0, (0, 0, 0, 0, 0), 0, 0), (.iload_n 3, (0, 0, 0, 0, 0), 0, 0), (.iconst 5, (0, 0, 0, 0, 0), 5, 0), (.iadd, (0, 0, 0, 0, 0), 0, 0)] = some 1260 ∧ px_tia cL_law 1260 = true := by decide +kernel
theorem q_law_1261 : px_bk 13 4 cL_law 1261 [(.aload_n 0, (0, 0, 0, 0, 0), 0, 0), (.iload_n 3, (0, 0, 0, 0, 0), 0, 0), (.bipush 6, (0, 0, 0, 0, 0), 6, 0), (.iadd, (0, 0, 0, 0, 0), 0, 0)] = some 1266 ∧ px_tia cL_law 1266 = true := by decide +kernel
theorem q_law_1267 : (px_bk 13 4 cL_law 1267 [] = some 1267 ∧ px_t1 cL_law 1267 .eq 1274 = true) ∧ px_bk 13 4 cL_law 1274 [(.iconst 0, (0, 0, 0, 0, 0), 0, 0)] = some 1275 ∧ px_bk 13 4 cL_law 1270 [(.iconst 1, (0, 0, 0, 0, 0), 1, 0), (.goto 4, (0, 0, 0, 0, 0), 0, 0)] = some 1275 := by decide +kernel
theorem q_law_1275 : px_tv cL_law 1275 114 = true := by decide +kernel
theorem q_law_1278 : px_bk 13 4 cL_law 1278 [(.pop, (0, 0, 0, 0, 0), 0, 0), (.goto 589, (0, 0, 0, 0, 0), 0, 0)] = some 1868 := by decide +kernel

set_option maxRecDepth 100000 in
theorem lc_meeting {N : Nat} {xs : Nat → Int32} {n cu su : Nat} {I : px_I} {L : px_L} {R : px_R} {Q : px_Q} {i : Int32} (hi : lwI N i) (hcu : cu ≤ 490000) (hsu : su ≤ 6900000) (hj : jJ n I R) (kk : ∀ (x : Int32) (n2 : Nat) I2 L2 R2 (y : Int32) I3 L3, jJ n2 I3 R2 → frB I I2 L L2 → kR R I2 R2 → pb_meeting (ag xs i 1) (ag xs i 2) (ag xs i 3) (ag xs i 4) (ag xs i 5) (bo (ag xs i 6)) I L x I2 L2 → frK I2 I3 L2 L3 → pk_meeting (ag xs i 1) (ag xs i 2) (ag xs i 3) (ag xs i 4) (ag xs i 5) (bo (ag xs i 6)) I2 L2 y I3 L3 → px (M_law N xs) (cu + 3) (su + 404) 1868 (lwL i) [] n2 I3 L3 R2 Q) : px (M_law N xs) cu su 1191 (lwL i) [] n I L R Q := by
  have hg := hj.g
  refine px_b (on := 13) rfl q_law_1191 hg rfl trivial ?_
  refine px_argC q_law_1192 hg hi (by decide) ?_
  refine px_argC q_law_1197 hg hi (by decide) ?_
  refine px_argC q_law_1202 hg hi (by decide) ?_
  refine px_argC q_law_1207 hg hi (by decide) ?_
  refine px_argC q_law_1212 hg hi (by decide) ?_
  refine px_argB q_law_1217 hg hi (by decide) ?_
  refine px_boo q_law_1223 rfl hg ?_
  refine px_kB q_law_1231 lk_13_110 nm_X11_meeting (jb_meeting hj _ _ _ _ _ _) rfl rfl hg rfl (rkL rfl rfl rfl rfl (by omega) (by omega) rfl) ?_
  intro x n2 I2 L2 R2 hj2 f1 fR p1
  have hg := hj2.g
  refine px_b (on := 13) rfl q_law_1234 hg rfl trivial ?_
  refine px_argC q_law_1236 hg hi (by decide) ?_
  refine px_argC q_law_1241 hg hi (by decide) ?_
  refine px_argC q_law_1246 hg hi (by decide) ?_
  refine px_argC q_law_1251 hg hi (by decide) ?_
  refine px_argC q_law_1256 hg hi (by decide) ?_
  refine px_argB q_law_1261 hg hi (by decide) ?_
  refine px_boo q_law_1267 rfl hg ?_
  refine px_kK q_law_1275 lk_13_114 nm_X12_meeting (jk_meeting hj2 _ _ _ _ _ _) rfl rfl hg rfl (rkL rfl rfl rfl rfl (by show cu + 0 ≤ 500000; omega) (by show su + 0 ≤ 7000000; omega) rfl) ?_
  intro y I3 L3 hj3 f2 p2
  have hg := hj3.g
  refine px_b (on := 13) rfl q_law_1278 hg rfl trivial ?_
  exact px_wid (cu2 := cu + 3) (su2 := su + 404) (by show cu + 0 + 0 ≤ cu + 3; omega) (by show su + 0 + 0 ≤ su + 404; omega) (kk x n2 I2 L2 R2 y I3 L3 hj3 f1 fR p1 f2 p2)

theorem q_law_1282 : px_bk 13 4 cL_law 1282 [(.aload_n 1, (0, 0, 0, 0, 0), 0, 0)] = some 1283 := by decide +kernel
theorem q_law_1283 : px_bk 13 4 cL_law 1283 [(.aload_n 0, (0, 0, 0, 0, 0), 0, 0), (.iload_n 3, (0, 0, 0, 0, 0), 0, 0), (.iconst 1, (0, 0, 0, 0, 0), 1, 0), (.iadd, (0, 0, 0, 0, 0), 0, 0)] = some 1287 ∧ px_tia cL_law 1287 = true := by decide +kernel
theorem q_law_1288 : px_bk 13 4 cL_law 1288 [(.aload_n 0, (0, 0, 0, 0, 0), 0, 0), (.iload_n 3, (0, 0, 0, 0, 0), 0, 0), (.iconst 2, (0, 0, 0, 0, 0), 2, 0), (.iadd, (0, 0, 0, 0, 0), 0, 0)] = some 1292 ∧ px_tia cL_law 1292 = true := by decide +kernel
theorem q_law_1293 : px_bk 13 4 cL_law 1293 [(.aload_n 0, (0, 0, 0, 0, 0), 0, 0), (.iload_n 3, (0, 0, 0, 0, 0), 0, 0), (.iconst 3, (0, 0, 0, 0, 0), 3, 0), (.iadd, (0, 0, 0, 0, 0), 0, 0)] = some 1297 ∧ px_tia cL_law 1297 = true := by decide +kernel
theorem q_law_1298 : px_tv cL_law 1298 115 = true := by decide +kernel
theorem q_law_1301 : px_bk 13 4 cL_law 1301 [(.pop, (0, 0, 0, 0, 0), 0, 0), (.aload_n 2, (0, 0, 0, 0, 0), 0, 0)] = some 1303 := by decide +kernel
theorem q_law_1303 : px_bk 13 4 cL_law 1303 [(.aload_n 0, (0, 0, 0, 0, 0), 0, 0), (.iload_n 3, (0, 0, 0, 0, 0), 0, 0), (.iconst 1, (0, 0, 0, 0, 0), 1, 0), (.iadd, (0, 0, 0, 0, 0), 0, 0)] = some 1307 ∧ px_tia cL_law 1307 = true := by decide +kernel
theorem q_law_1308 : px_bk 13 4 cL_law 1308 [(.aload_n 0, (0, 0, 0, 0, 0), 0, 0), (.iload_n 3, (0, 0, 0, 0, 0), 0, 0), (.iconst 2, (0, 0, 0, 0, 0), 2, 0), (.iadd, (0, 0, 0, 0, 0), 0, 0)] = some 1312 ∧ px_tia cL_law 1312 = true := by decide +kernel
theorem q_law_1313 : px_bk 13 4 cL_law 1313 [(.aload_n 0, (0, 0, 0, 0, 0), 0, 0), (.iload_n 3, (0, 0, 0, 0, 0), 0, 0), (.iconst 3, (0, 0, 0, 0, 0), 3, 0), (.iadd, (0, 0, 0, 0, 0), 0, 0)] = some 1317 ∧ px_tia cL_law 1317 = true := by decide +kernel
theorem q_law_1318 : px_tv cL_law 1318 119 = true := by decide +kernel
theorem q_law_1321 : px_bk 13 4 cL_law 1321 [(.pop, (0, 0, 0, 0, 0), 0, 0), (.goto 546, (0, 0, 0, 0, 0), 0, 0)] = some 1868 := by decide +kernel

set_option maxRecDepth 100000 in
theorem lc_there {N : Nat} {xs : Nat → Int32} {n cu su : Nat} {I : px_I} {L : px_L} {R : px_R} {Q : px_Q} {i : Int32} (hi : lwI N i) (hcu : cu ≤ 490000) (hsu : su ≤ 6900000) (hj : jJ n I R) (kk : ∀ (x : Int32) (n2 : Nat) I2 L2 R2 (y : Int32) I3 L3, jJ n2 I3 R2 → frB I I2 L L2 → kR R I2 R2 → pb_there (ag xs i 1) (ag xs i 2) (ag xs i 3) I L x I2 L2 → frK I2 I3 L2 L3 → pk_there (ag xs i 1) (ag xs i 2) (ag xs i 3) I2 L2 y I3 L3 → px (M_law N xs) (cu + 3) (su + 404) 1868 (lwL i) [] n2 I3 L3 R2 Q) : px (M_law N xs) cu su 1282 (lwL i) [] n I L R Q := by
  have hg := hj.g
  refine px_b (on := 13) rfl q_law_1282 hg rfl trivial ?_
  refine px_argC q_law_1283 hg hi (by decide) ?_
  refine px_argC q_law_1288 hg hi (by decide) ?_
  refine px_argC q_law_1293 hg hi (by decide) ?_
  refine px_kB q_law_1298 lk_13_115 nm_X11_there (jb_there hj _ _ _) rfl rfl hg rfl (rkL rfl rfl rfl rfl (by omega) (by omega) rfl) ?_
  intro x n2 I2 L2 R2 hj2 f1 fR p1
  have hg := hj2.g
  refine px_b (on := 13) rfl q_law_1301 hg rfl trivial ?_
  refine px_argC q_law_1303 hg hi (by decide) ?_
  refine px_argC q_law_1308 hg hi (by decide) ?_
  refine px_argC q_law_1313 hg hi (by decide) ?_
  refine px_kK q_law_1318 lk_13_119 nm_X12_there (jk_there hj2 _ _ _) rfl rfl hg rfl (rkL rfl rfl rfl rfl (by show cu + 0 ≤ 500000; omega) (by show su + 0 ≤ 7000000; omega) rfl) ?_
  intro y I3 L3 hj3 f2 p2
  have hg := hj3.g
  refine px_b (on := 13) rfl q_law_1321 hg rfl trivial ?_
  exact px_wid (cu2 := cu + 3) (su2 := su + 404) (by show cu + 0 + 0 ≤ cu + 3; omega) (by show su + 0 + 0 ≤ su + 404; omega) (kk x n2 I2 L2 R2 y I3 L3 hj3 f1 fR p1 f2 p2)

theorem q_law_1325 : px_bk 13 4 cL_law 1325 [(.aload_n 1, (0, 0, 0, 0, 0), 0, 0)] = some 1326 := by decide +kernel
theorem q_law_1326 : px_bk 13 4 cL_law 1326 [(.aload_n 0, (0, 0, 0, 0, 0), 0, 0), (.iload_n 3, (0, 0, 0, 0, 0), 0, 0), (.iconst 1, (0, 0, 0, 0, 0), 1, 0), (.iadd, (0, 0, 0, 0, 0), 0, 0)] = some 1330 ∧ px_tia cL_law 1330 = true := by decide +kernel
theorem q_law_1331 : px_bk 13 4 cL_law 1331 [(.aload_n 0, (0, 0, 0, 0, 0), 0, 0), (.iload_n 3, (0, 0, 0, 0, 0), 0, 0), (.iconst 2, (0, 0, 0, 0, 0), 2, 0), (.iadd, (0, 0, 0, 0, 0), 0, 0)] = some 1335 ∧ px_tia cL_law 1335 = true := by decide +kernel
theorem q_law_1336 : px_bk 13 4 cL_law 1336 [(.aload_n 0, (0, 0, 0, 0, 0), 0, 0), (.iload_n 3, (0, 0, 0, 0, 0), 0, 0), (.iconst 3, (0, 0, 0, 0, 0), 3, 0), (.iadd, (0, 0, 0, 0, 0), 0, 0)] = some 1340 ∧ px_tia cL_law 1340 = true := by decide +kernel
theorem q_law_1341 : px_bk 13 4 cL_law 1341 [(.aload_n 0, (0, 0, 0, 0, 0), 0, 0), (.iload_n 3, (0, 0, 0, 0, 0), 0, 0), (.iconst 4, (0, 0, 0, 0, 0), 4, 0), (.iadd, (0, 0, 0, 0, 0), 0, 0)] = some 1345 ∧ px_tia cL_law 1345 = true := by decide +kernel
theorem q_law_1346 : px_tv cL_law 1346 120 = true := by decide +kernel
theorem q_law_1349 : px_bk 13 4 cL_law 1349 [(.pop, (0, 0, 0, 0, 0), 0, 0), (.aload_n 2, (0, 0, 0, 0, 0), 0, 0)] = some 1351 := by decide +kernel
theorem q_law_1351 : px_bk 13 4 cL_law 1351 [(.aload_n 0, (0, 0, 0, 0, 0), 0, 0), (.iload_n 3, (0, 0, 0, 0, 0), 0, 0), (.iconst 1, (0, 0, 0, 0, 0), 1, 0), (.iadd, (0, 0, 0, 0, 0), 0, 0)] = some 1355 ∧ px_tia cL_law 1355 = true := by decide +kernel
theorem q_law_1356 : px_bk 13 4 cL_law 1356 [(.aload_n 0, (0, 0, 0, 0, 0), 0, 0), (.iload_n 3, (0, 0, 0, 0, 0), 0, 0), (.iconst 2, (0, 0, 0, 0, 0), 2, 0), (.iadd, (0, 0, 0, 0, 0), 0, 0)] = some 1360 ∧ px_tia cL_law 1360 = true := by decide +kernel
theorem q_law_1361 : px_bk 13 4 cL_law 1361 [(.aload_n 0, (0, 0, 0, 0, 0), 0, 0), (.iload_n 3, (0, 0, 0, 0, 0), 0, 0), (.iconst 3, (0, 0, 0, 0, 0), 3, 0), (.iadd, (0, 0, 0, 0, 0), 0, 0)] = some 1365 ∧ px_tia cL_law 1365 = true := by decide +kernel
theorem q_law_1366 : px_bk 13 4 cL_law 1366 [(.aload_n 0, (0, 0, 0, 0, 0), 0, 0), (.iload_n 3, (0, 0, 0, 0, 0), 0, 0), (.iconst 4, (0, 0, 0, 0, 0), 4, 0), (.iadd, (0, 0, 0, 0, 0), 0, 0)] = some 1370 ∧ px_tia cL_law 1370 = true := by decide +kernel
theorem q_law_1371 : px_tv cL_law 1371 123 = true := by decide +kernel
theorem q_law_1374 : px_bk 13 4 cL_law 1374 [(.pop, (0, 0, 0, 0, 0), 0, 0), (.goto 493, (0, 0, 0, 0, 0), 0, 0)] = some 1868 := by decide +kernel

set_option maxRecDepth 100000 in
theorem lc_fits {N : Nat} {xs : Nat → Int32} {n cu su : Nat} {I : px_I} {L : px_L} {R : px_R} {Q : px_Q} {i : Int32} (hi : lwI N i) (hcu : cu ≤ 490000) (hsu : su ≤ 6900000) (hj : jJ n I R) (kk : ∀ (x : Int32) (n2 : Nat) I2 L2 R2 (y : Int32) I3 L3, jJ n2 I3 R2 → frB I I2 L L2 → kR R I2 R2 → pb_fits (ag xs i 1) (ag xs i 2) (ag xs i 3) (ag xs i 4) I L x I2 L2 → frK I2 I3 L2 L3 → pk_fits (ag xs i 1) (ag xs i 2) (ag xs i 3) (ag xs i 4) I2 L2 y I3 L3 → px (M_law N xs) (cu + 3) (su + 404) 1868 (lwL i) [] n2 I3 L3 R2 Q) : px (M_law N xs) cu su 1325 (lwL i) [] n I L R Q := by
  have hg := hj.g
  refine px_b (on := 13) rfl q_law_1325 hg rfl trivial ?_
  refine px_argC q_law_1326 hg hi (by decide) ?_
  refine px_argC q_law_1331 hg hi (by decide) ?_
  refine px_argC q_law_1336 hg hi (by decide) ?_
  refine px_argC q_law_1341 hg hi (by decide) ?_
  refine px_kB q_law_1346 lk_13_120 nm_X11_fits (jb_fits hj _ _ _ _) rfl rfl hg rfl (rkL rfl rfl rfl rfl (by omega) (by omega) rfl) ?_
  intro x n2 I2 L2 R2 hj2 f1 fR p1
  have hg := hj2.g
  refine px_b (on := 13) rfl q_law_1349 hg rfl trivial ?_
  refine px_argC q_law_1351 hg hi (by decide) ?_
  refine px_argC q_law_1356 hg hi (by decide) ?_
  refine px_argC q_law_1361 hg hi (by decide) ?_
  refine px_argC q_law_1366 hg hi (by decide) ?_
  refine px_kK q_law_1371 lk_13_123 nm_X12_fits (jk_fits hj2 _ _ _ _) rfl rfl hg rfl (rkL rfl rfl rfl rfl (by show cu + 0 ≤ 500000; omega) (by show su + 0 ≤ 7000000; omega) rfl) ?_
  intro y I3 L3 hj3 f2 p2
  have hg := hj3.g
  refine px_b (on := 13) rfl q_law_1374 hg rfl trivial ?_
  exact px_wid (cu2 := cu + 3) (su2 := su + 404) (by show cu + 0 + 0 ≤ cu + 3; omega) (by show su + 0 + 0 ≤ su + 404; omega) (kk x n2 I2 L2 R2 y I3 L3 hj3 f1 fR p1 f2 p2)

theorem q_law_1378 : px_bk 13 4 cL_law 1378 [(.aload_n 1, (0, 0, 0, 0, 0), 0, 0)] = some 1379 := by decide +kernel
theorem q_law_1379 : px_bk 13 4 cL_law 1379 [(.aload_n 0, (0, 0, 0, 0, 0), 0, 0), (.iload_n 3, (0, 0, 0, 0, 0), 0, 0), (.iconst 1, (0, 0, 0, 0, 0), 1, 0), (.iadd, (0, 0, 0, 0, 0), 0, 0)] = some 1383 ∧ px_tia cL_law 1383 = true := by decide +kernel
theorem q_law_1384 : px_bk 13 4 cL_law 1384 [(.aload_n 0, (0, 0, 0, 0, 0), 0, 0), (.iload_n 3, (0, 0, 0, 0, 0), 0, 0), (.iconst 2, (0, 0, 0, 0, 0), 2, 0), (.iadd, (0, 0, 0, 0, 0), 0, 0)] = some 1388 ∧ px_tia cL_law 1388 = true := by decide +kernel
theorem q_law_1389 : px_bk 13 4 cL_law 1389 [(.aload_n 0, (0, 0, 0, 0, 0), 0, 0), (.iload_n 3, (0, 0, 0, 0, 0), 0, 0), (.iconst 3, (0, 0, 0, 0, 0), 3, 0), (.iadd, (0, 0, 0, 0, 0), 0, 0)] = some 1393 ∧ px_tia cL_law 1393 = true := by decide +kernel
theorem q_law_1394 : px_bk 13 4 cL_law 1394 [(.aload_n 0, (0, 0, 0, 0, 0), 0, 0), (.iload_n 3, (0, 0, 0, 0, 0), 0, 0), (.iconst 4, (0, 0, 0, 0, 0), 4, 0), (.iadd, (0, 0, 0, 0, 0), 0, 0)] = some 1398 ∧ px_tia cL_law 1398 = true := by decide +kernel
theorem q_law_1399 : px_bk 13 4 cL_law 1399 [(.aload_n 0, (0, 0, 0, 0, 0), 0, 0), (.iload_n 3, (0, 0, 0, 0, 0), 0, 0), (.iconst 5, (0, 0, 0, 0, 0), 5, 0), (.iadd, (0, 0, 0, 0, 0), 0, 0)] = some 1403 ∧ px_tia cL_law 1403 = true := by decide +kernel
theorem q_law_1404 : px_tv cL_law 1404 124 = true := by decide +kernel
theorem q_law_1407 : px_bk 13 4 cL_law 1407 [(.aload_n 2, (0, 0, 0, 0, 0), 0, 0)] = some 1408 := by decide +kernel
theorem q_law_1408 : px_bk 13 4 cL_law 1408 [(.aload_n 0, (0, 0, 0, 0, 0), 0, 0), (.iload_n 3, (0, 0, 0, 0, 0), 0, 0), (.iconst 1, (0, 0, 0, 0, 0), 1, 0), (.iadd, (0, 0, 0, 0, 0), 0, 0)] = some 1412 ∧ px_tia cL_law 1412 = true := by decide +kernel
theorem q_law_1413 : px_bk 13 4 cL_law 1413 [(.aload_n 0, (0, 0, 0, 0, 0), 0, 0), (.iload_n 3, (0, 0, 0, 0, 0), 0, 0), (.iconst 2, (0, 0, 0, 0, 0), 2, 0), (.iadd, (0, 0, 0, 0, 0), 0, 0)] = some 1417 ∧ px_tia cL_law 1417 = true := by decide +kernel
theorem q_law_1418 : px_bk 13 4 cL_law 1418 [(.aload_n 0, (0, 0, 0, 0, 0), 0, 0), (.iload_n 3, (0, 0, 0, 0, 0), 0, 0), (.iconst 3, (0, 0, 0, 0, 0), 3, 0), (.iadd, (0, 0, 0, 0, 0), 0, 0)] = some 1422 ∧ px_tia cL_law 1422 = true := by decide +kernel
theorem q_law_1423 : px_bk 13 4 cL_law 1423 [(.aload_n 0, (0, 0, 0, 0, 0), 0, 0), (.iload_n 3, (0, 0, 0, 0, 0), 0, 0), (.iconst 4, (0, 0, 0, 0, 0), 4, 0), (.iadd, (0, 0, 0, 0, 0), 0, 0)] = some 1427 ∧ px_tia cL_law 1427 = true := by decide +kernel
theorem q_law_1428 : px_bk 13 4 cL_law 1428 [(.aload_n 0, (0, 0, 0, 0, 0), 0, 0), (.iload_n 3, (0, 0, 0, 0, 0), 0, 0), (.iconst 5, (0, 0, 0, 0, 0), 5, 0), (.iadd, (0, 0, 0, 0, 0), 0, 0)] = some 1432 ∧ px_tia cL_law 1432 = true := by decide +kernel
theorem q_law_1433 : px_tv cL_law 1433 127 = true := by decide +kernel
theorem q_law_1436 : px_bk 13 4 cL_law 1436 [] = some 1436 ∧ px_t2 cL_law 1436 .eq 1868 = true := by decide +kernel

set_option maxRecDepth 100000 in
theorem lc_ways {N : Nat} {xs : Nat → Int32} {n cu su : Nat} {I : px_I} {L : px_L} {R : px_R} {Q : px_Q} {i : Int32} (hi : lwI N i) (hcu : cu ≤ 490000) (hsu : su ≤ 6900000) (hj : jJ n I R) (he : ∀ (x : Int32) (n2 : Nat) I2 L2 (y : Int32) I3 L3, frB I I2 L L2 → pb_ways (ag xs i 1) (ag xs i 2) (ag xs i 3) (ag xs i 4) (ag xs i 5) I L x I2 L2 → frK I2 I3 L2 L3 → pk_ways (ag xs i 1) (ag xs i 2) (ag xs i 3) (ag xs i 4) (ag xs i 5) I2 L2 y I3 L3 → x = y) (kk : ∀ (x : Int32) (n2 : Nat) I2 L2 R2 (y : Int32) I3 L3, jJ n2 I3 R2 → frB I I2 L L2 → kR R I2 R2 → pb_ways (ag xs i 1) (ag xs i 2) (ag xs i 3) (ag xs i 4) (ag xs i 5) I L x I2 L2 → frK I2 I3 L2 L3 → pk_ways (ag xs i 1) (ag xs i 2) (ag xs i 3) (ag xs i 4) (ag xs i 5) I2 L2 y I3 L3 → px (M_law N xs) (cu + 3) (su + 404) 1868 (lwL i) [] n2 I3 L3 R2 Q) : px (M_law N xs) cu su 1378 (lwL i) [] n I L R Q := by
  have hg := hj.g
  refine px_b (on := 13) rfl q_law_1378 hg rfl trivial ?_
  refine px_argC q_law_1379 hg hi (by decide) ?_
  refine px_argC q_law_1384 hg hi (by decide) ?_
  refine px_argC q_law_1389 hg hi (by decide) ?_
  refine px_argC q_law_1394 hg hi (by decide) ?_
  refine px_argC q_law_1399 hg hi (by decide) ?_
  refine px_kB q_law_1404 lk_13_124 nm_X11_ways (jb_ways hj _ _ _ _ _) rfl rfl hg rfl (rkL rfl rfl rfl rfl (by omega) (by omega) rfl) ?_
  intro x n2 I2 L2 R2 hj2 f1 fR p1
  have hg := hj2.g
  refine px_b (on := 13) rfl q_law_1407 hg rfl trivial ?_
  refine px_argC q_law_1408 hg hi (by decide) ?_
  refine px_argC q_law_1413 hg hi (by decide) ?_
  refine px_argC q_law_1418 hg hi (by decide) ?_
  refine px_argC q_law_1423 hg hi (by decide) ?_
  refine px_argC q_law_1428 hg hi (by decide) ?_
  refine px_kK q_law_1433 lk_13_127 nm_X12_ways (jk_ways hj2 _ _ _ _ _) rfl rfl hg rfl (rkL rfl rfl rfl rfl (by show cu + 0 ≤ 500000; omega) (by show su + 0 ≤ 7000000; omega) rfl) ?_
  intro y I3 L3 hj3 f2 p2
  have hg := hj3.g
  refine px_ieq (on := 13) rfl q_law_1436 hg rfl trivial (fun c => ?_) (fun c => ?_)
  · exact px_wid (cu2 := cu + 3) (su2 := su + 404) (by show cu + 0 + 0 ≤ cu + 3; omega) (by show su + 0 + 0 ≤ su + 404; omega) (kk x n2 I2 L2 R2 y I3 L3 hj3 f1 fR p1 f2 p2)
  · exact absurd (he x n2 I2 L2 y I3 L3 f1 p1 f2 p2) c

theorem q_law_1441 : px_bk 13 4 cL_law 1441 [(.aload_n 1, (0, 0, 0, 0, 0), 0, 0)] = some 1442 := by decide +kernel
theorem q_law_1442 : px_bk 13 4 cL_law 1442 [(.aload_n 0, (0, 0, 0, 0, 0), 0, 0), (.iload_n 3, (0, 0, 0, 0, 0), 0, 0), (.iconst 1, (0, 0, 0, 0, 0), 1, 0), (.iadd, (0, 0, 0, 0, 0), 0, 0)] = some 1446 ∧ px_tia cL_law 1446 = true := by decide +kernel
theorem q_law_1447 : px_bk 13 4 cL_law 1447 [(.aload_n 0, (0, 0, 0, 0, 0), 0, 0), (.iload_n 3, (0, 0, 0, 0, 0), 0, 0), (.iconst 2, (0, 0, 0, 0, 0), 2, 0), (.iadd, (0, 0, 0, 0, 0), 0, 0)] = some 1451 ∧ px_tia cL_law 1451 = true := by decide +kernel
theorem q_law_1452 : px_bk 13 4 cL_law 1452 [(.aload_n 0, (0, 0, 0, 0, 0), 0, 0), (.iload_n 3, (0, 0, 0, 0, 0), 0, 0), (.iconst 3, (0, 0, 0, 0, 0), 3, 0), (.iadd, (0, 0, 0, 0, 0), 0, 0)] = some 1456 ∧ px_tia cL_law 1456 = true := by decide +kernel
theorem q_law_1457 : px_bk 13 4 cL_law 1457 [(.aload_n 0, (0, 0, 0, 0, 0), 0, 0), (.iload_n 3, (0, 0, 0, 0, 0), 0, 0), (.iconst 4, (0, 0, 0, 0, 0), 4, 0), (.iadd, (0, 0, 0, 0, 0), 0, 0)] = some 1461 ∧ px_tia cL_law 1461 = true := by decide +kernel
theorem q_law_1462 : px_bk 13 4 cL_law 1462 [(.aload_n 0, (0, 0, 0, 0, 0), 0, 0), (.iload_n 3, (0, 0, 0, 0, 0), 0, 0), (.iconst 5, (0, 0, 0, 0, 0), 5, 0), (.iadd, (0, 0, 0, 0, 0), 0, 0)] = some 1466 ∧ px_tia cL_law 1466 = true := by decide +kernel
theorem q_law_1467 : px_bk 13 4 cL_law 1467 [(.aload_n 0, (0, 0, 0, 0, 0), 0, 0), (.iload_n 3, (0, 0, 0, 0, 0), 0, 0), (.bipush 6, (0, 0, 0, 0, 0), 6, 0), (.iadd, (0, 0, 0, 0, 0), 0, 0)] = some 1472 ∧ px_tia cL_law 1472 = true := by decide +kernel
theorem q_law_1473 : px_tv cL_law 1473 128 = true := by decide +kernel
theorem q_law_1476 : px_bk 13 4 cL_law 1476 [(.pop, (0, 0, 0, 0, 0), 0, 0), (.aload_n 2, (0, 0, 0, 0, 0), 0, 0)] = some 1478 := by decide +kernel
theorem q_law_1478 : px_bk 13 4 cL_law 1478 [(.aload_n 0, (0, 0, 0, 0, 0), 0, 0), (.iload_n 3, (0, 0, 0, 0, 0), 0, 0), (.iconst 1, (0, 0, 0, 0, 0), 1, 0), (.iadd, (0, 0, 0, 0, 0), 0, 0)] = some 1482 ∧ px_tia cL_law 1482 = true := by decide +kernel
theorem q_law_1483 : px_bk 13 4 cL_law 1483 [(.aload_n 0, (0, 0, 0, 0, 0), 0, 0), (.iload_n 3, (0, 0, 0, 0, 0), 0, 0), (.iconst 2, (0, 0, 0, 0, 0), 2, 0), (.iadd, (0, 0, 0, 0, 0), 0, 0)] = some 1487 ∧ px_tia cL_law 1487 = true := by decide +kernel
theorem q_law_1488 : px_bk 13 4 cL_law 1488 [(.aload_n 0, (0, 0, 0, 0, 0), 0, 0), (.iload_n 3, (0, 0, 0, 0, 0), 0, 0), (.iconst 3, (0, 0, 0, 0, 0), 3, 0), (.iadd, (0, 0, 0, 0, 0), 0, 0)] = some 1492 ∧ px_tia cL_law 1492 = true := by decide +kernel
theorem q_law_1493 : px_bk 13 4 cL_law 1493 [(.aload_n 0, (0, 0, 0, 0, 0), 0, 0), (.iload_n 3, (0, 0, 0, 0, 0), 0, 0), (.iconst 4, (0, 0, 0, 0, 0), 4, 0), (.iadd, (0, 0, 0, 0, 0), 0, 0)] = some 1497 ∧ px_tia cL_law 1497 = true := by decide +kernel
theorem q_law_1498 : px_bk 13 4 cL_law 1498 [(.aload_n 0, (0, 0, 0, 0, 0), 0, 0), (.iload_n 3, (0, 0, 0, 0, 0), 0, 0), (.iconst 5, (0, 0, 0, 0, 0), 5, 0), (.iadd, (0, 0, 0, 0, 0), 0, 0)] = some 1502 ∧ px_tia cL_law 1502 = true := by decide +kernel
theorem q_law_1503 : px_bk 13 4 cL_law 1503 [(.aload_n 0, (0, 0, 0, 0, 0), 0, 0), (.iload_n 3, (0, 0, 0, 0, 0), 0, 0), (.bipush 6, (0, 0, 0, 0, 0), 6, 0), (.iadd, (0, 0, 0, 0, 0), 0, 0)] = some 1508 ∧ px_tia cL_law 1508 = true := by decide +kernel
theorem q_law_1509 : px_tv cL_law 1509 132 = true := by decide +kernel
theorem q_law_1512 : px_bk 13 4 cL_law 1512 [(.pop, (0, 0, 0, 0, 0), 0, 0), (.goto 355, (0, 0, 0, 0, 0), 0, 0)] = some 1868 := by decide +kernel

set_option maxRecDepth 100000 in
theorem lc_seek {N : Nat} {xs : Nat → Int32} {n cu su : Nat} {I : px_I} {L : px_L} {R : px_R} {Q : px_Q} {i : Int32} (hi : lwI N i) (hcu : cu ≤ 490000) (hsu : su ≤ 6900000) (hj : jJ n I R) (kk : ∀ (x : Int32) (n2 : Nat) I2 L2 R2 (y : Int32) I3 L3, jJ n2 I3 R2 → frB I I2 L L2 → kR R I2 R2 → pb_seek (ag xs i 1) (ag xs i 2) (ag xs i 3) (ag xs i 4) (ag xs i 5) (ag xs i 6) I L x I2 L2 → frK I2 I3 L2 L3 → pk_seek (ag xs i 1) (ag xs i 2) (ag xs i 3) (ag xs i 4) (ag xs i 5) (ag xs i 6) I2 L2 y I3 L3 → px (M_law N xs) (cu + 3) (su + 404) 1868 (lwL i) [] n2 I3 L3 R2 Q) : px (M_law N xs) cu su 1441 (lwL i) [] n I L R Q := by
  have hg := hj.g
  refine px_b (on := 13) rfl q_law_1441 hg rfl trivial ?_
  refine px_argC q_law_1442 hg hi (by decide) ?_
  refine px_argC q_law_1447 hg hi (by decide) ?_
  refine px_argC q_law_1452 hg hi (by decide) ?_
  refine px_argC q_law_1457 hg hi (by decide) ?_
  refine px_argC q_law_1462 hg hi (by decide) ?_
  refine px_argB q_law_1467 hg hi (by decide) ?_
  refine px_kB q_law_1473 lk_13_128 nm_X11_seek (jb_seek hj _ _ _ _ _ _) rfl rfl hg rfl (rkL rfl rfl rfl rfl (by omega) (by omega) rfl) ?_
  intro x n2 I2 L2 R2 hj2 f1 fR p1
  have hg := hj2.g
  refine px_b (on := 13) rfl q_law_1476 hg rfl trivial ?_
  refine px_argC q_law_1478 hg hi (by decide) ?_
  refine px_argC q_law_1483 hg hi (by decide) ?_
  refine px_argC q_law_1488 hg hi (by decide) ?_
  refine px_argC q_law_1493 hg hi (by decide) ?_
  refine px_argC q_law_1498 hg hi (by decide) ?_
  refine px_argB q_law_1503 hg hi (by decide) ?_
  refine px_kK q_law_1509 lk_13_132 nm_X12_seek (jk_seek hj2 _ _ _ _ _ _) rfl rfl hg rfl (rkL rfl rfl rfl rfl (by show cu + 0 ≤ 500000; omega) (by show su + 0 ≤ 7000000; omega) rfl) ?_
  intro y I3 L3 hj3 f2 p2
  have hg := hj3.g
  refine px_b (on := 13) rfl q_law_1512 hg rfl trivial ?_
  exact px_wid (cu2 := cu + 3) (su2 := su + 404) (by show cu + 0 + 0 ≤ cu + 3; omega) (by show su + 0 + 0 ≤ su + 404; omega) (kk x n2 I2 L2 R2 y I3 L3 hj3 f1 fR p1 f2 p2)

theorem q_law_1516 : px_bk 13 4 cL_law 1516 [(.aload_n 1, (0, 0, 0, 0, 0), 0, 0)] = some 1517 := by decide +kernel
theorem q_law_1517 : px_bk 13 4 cL_law 1517 [(.aload_n 0, (0, 0, 0, 0, 0), 0, 0), (.iload_n 3, (0, 0, 0, 0, 0), 0, 0), (.iconst 1, (0, 0, 0, 0, 0), 1, 0), (.iadd, (0, 0, 0, 0, 0), 0, 0)] = some 1521 ∧ px_tia cL_law 1521 = true := by decide +kernel
theorem q_law_1522 : px_bk 13 4 cL_law 1522 [(.aload_n 0, (0, 0, 0, 0, 0), 0, 0), (.iload_n 3, (0, 0, 0, 0, 0), 0, 0), (.iconst 2, (0, 0, 0, 0, 0), 2, 0), (.iadd, (0, 0, 0, 0, 0), 0, 0)] = some 1526 ∧ px_tia cL_law 1526 = true := by decide +kernel
theorem q_law_1527 : px_bk 13 4 cL_law 1527 [(.aload_n 0, (0, 0, 0, 0, 0), 0, 0), (.iload_n 3, (0, 0, 0, 0, 0), 0, 0), (.iconst 3, (0, 0, 0, 0, 0), 3, 0), (.iadd, (0, 0, 0, 0, 0), 0, 0)] = some 1531 ∧ px_tia cL_law 1531 = true := by decide +kernel
theorem q_law_1532 : (px_bk 13 4 cL_law 1532 [] = some 1532 ∧ px_t1 cL_law 1532 .eq 1539 = true) ∧ px_bk 13 4 cL_law 1539 [(.iconst 0, (0, 0, 0, 0, 0), 0, 0)] = some 1540 ∧ px_bk 13 4 cL_law 1535 [(.iconst 1, (0, 0, 0, 0, 0), 1, 0), (.goto 4, (0, 0, 0, 0, 0), 0, 0)] = some 1540 := by decide +kernel
theorem q_law_1540 : px_tv cL_law 1540 133 = true := by decide +kernel
theorem q_law_1543 : px_bk 13 4 cL_law 1543 [(.pop2, (0, 0, 0, 0, 0), 0, 0), (.aload_n 2, (0, 0, 0, 0, 0), 0, 0)] = some 1545 := by decide +kernel
theorem q_law_1545 : px_bk 13 4 cL_law 1545 [(.aload_n 0, (0, 0, 0, 0, 0), 0, 0), (.iload_n 3, (0, 0, 0, 0, 0), 0, 0), (.iconst 1, (0, 0, 0, 0, 0), 1, 0), (.iadd, (0, 0, 0, 0, 0), 0, 0)] = some 1549 ∧ px_tia cL_law 1549 = true := by decide +kernel
theorem q_law_1550 : px_bk 13 4 cL_law 1550 [(.aload_n 0, (0, 0, 0, 0, 0), 0, 0), (.iload_n 3, (0, 0, 0, 0, 0), 0, 0), (.iconst 2, (0, 0, 0, 0, 0), 2, 0), (.iadd, (0, 0, 0, 0, 0), 0, 0)] = some 1554 ∧ px_tia cL_law 1554 = true := by decide +kernel
theorem q_law_1555 : px_bk 13 4 cL_law 1555 [(.aload_n 0, (0, 0, 0, 0, 0), 0, 0), (.iload_n 3, (0, 0, 0, 0, 0), 0, 0), (.iconst 3, (0, 0, 0, 0, 0), 3, 0), (.iadd, (0, 0, 0, 0, 0), 0, 0)] = some 1559 ∧ px_tia cL_law 1559 = true := by decide +kernel
theorem q_law_1560 : (px_bk 13 4 cL_law 1560 [] = some 1560 ∧ px_t1 cL_law 1560 .eq 1567 = true) ∧ px_bk 13 4 cL_law 1567 [(.iconst 0, (0, 0, 0, 0, 0), 0, 0)] = some 1568 ∧ px_bk 13 4 cL_law 1563 [(.iconst 1, (0, 0, 0, 0, 0), 1, 0), (.goto 4, (0, 0, 0, 0, 0), 0, 0)] = some 1568 := by decide +kernel
theorem q_law_1568 : px_tv cL_law 1568 137 = true := by decide +kernel
theorem q_law_1571 : px_bk 13 4 cL_law 1571 [(.pop2, (0, 0, 0, 0, 0), 0, 0), (.goto 296, (0, 0, 0, 0, 0), 0, 0)] = some 1868 := by decide +kernel

set_option maxRecDepth 100000 in
theorem lc_chance {N : Nat} {xs : Nat → Int32} {n cu su : Nat} {I : px_I} {L : px_L} {R : px_R} {Q : px_Q} {i : Int32} (hi : lwI N i) (hcu : cu ≤ 490000) (hsu : su ≤ 6900000) (hj : jJ n I R) (kk : ∀ (x : Int64) (n2 : Nat) I2 L2 R2 (y : Int64) I3 L3, jJ n2 I3 R2 → frB I I2 L L2 → kR R I2 R2 → I2 = I ∧ cSL L L2 → frK I2 I3 L2 L3 → I3 = I2 ∧ mNL L2 L3 → px (M_law N xs) (cu + 3) (su + 404) 1868 (lwL i) [] n2 I3 L3 R2 Q) : px (M_law N xs) cu su 1516 (lwL i) [] n I L R Q := by
  have hg := hj.g
  refine px_b (on := 13) rfl q_law_1516 hg rfl trivial ?_
  refine px_argC q_law_1517 hg hi (by decide) ?_
  refine px_argC q_law_1522 hg hi (by decide) ?_
  refine px_argC q_law_1527 hg hi (by decide) ?_
  refine px_boo q_law_1532 rfl hg ?_
  refine px_kV (ci := 11) q_law_1540 lk_13_133 nm_X11_chance (jb_chance hj _ _ _) rfl rfl (px_lit hg rfl) rfl rfl (rkL rfl rfl rfl rfl (by omega) (by omega) rfl) (fun r9 n2 I2 L2 R2 h9 => ?_)
  obtain ⟨x, rfl, hj2, -, f1, fR, p1⟩ := h9
  have hg := hj2.g
  refine px_b (on := 13) rfl q_law_1543 hg rfl trivial ?_
  refine px_argC q_law_1545 hg hi (by decide) ?_
  refine px_argC q_law_1550 hg hi (by decide) ?_
  refine px_argC q_law_1555 hg hi (by decide) ?_
  refine px_boo q_law_1560 rfl hg ?_
  refine px_kV (ci := 12) q_law_1568 lk_13_137 nm_X12_chance (jk_chance hj2 _ _ _) rfl rfl (px_lit hg rfl) rfl rfl (rkL rfl rfl rfl rfl (by show cu + 0 ≤ 500000; omega) (by show su + 0 ≤ 7000000; omega) rfl) (fun r9 n3 I3 L3 R3 h9 => ?_)
  obtain ⟨y, rfl, hn, hR, hj3, f2, p2⟩ := h9
  rw [hn, hR]
  have hg := hj3.g
  refine px_b (on := 13) rfl q_law_1571 hg rfl trivial ?_
  exact px_wid (cu2 := cu + 3) (su2 := su + 404) (by show cu + 0 + 0 ≤ cu + 3; omega) (by show su + 0 + 0 ≤ su + 404; omega) (kk x n2 I2 L2 R2 y I3 L3 hj3 f1 fR p1 f2 p2)

theorem q_law_1575 : px_bk 13 4 cL_law 1575 [(.aload_n 1, (0, 0, 0, 0, 0), 0, 0)] = some 1576 := by decide +kernel
theorem q_law_1576 : px_bk 13 4 cL_law 1576 [(.aload_n 0, (0, 0, 0, 0, 0), 0, 0), (.iload_n 3, (0, 0, 0, 0, 0), 0, 0), (.iconst 1, (0, 0, 0, 0, 0), 1, 0), (.iadd, (0, 0, 0, 0, 0), 0, 0)] = some 1580 ∧ px_tia cL_law 1580 = true := by decide +kernel
theorem q_law_1581 : px_bk 13 4 cL_law 1581 [(.aload_n 0, (0, 0, 0, 0, 0), 0, 0), (.iload_n 3, (0, 0, 0, 0, 0), 0, 0), (.iconst 2, (0, 0, 0, 0, 0), 2, 0), (.iadd, (0, 0, 0, 0, 0), 0, 0)] = some 1585 ∧ px_tia cL_law 1585 = true := by decide +kernel
theorem q_law_1586 : px_bk 13 4 cL_law 1586 [(.aload_n 0, (0, 0, 0, 0, 0), 0, 0), (.iload_n 3, (0, 0, 0, 0, 0), 0, 0), (.iconst 3, (0, 0, 0, 0, 0), 3, 0), (.iadd, (0, 0, 0, 0, 0), 0, 0)] = some 1590 ∧ px_tia cL_law 1590 = true := by decide +kernel
theorem q_law_1591 : (px_bk 13 4 cL_law 1591 [] = some 1591 ∧ px_t1 cL_law 1591 .eq 1598 = true) ∧ px_bk 13 4 cL_law 1598 [(.iconst 0, (0, 0, 0, 0, 0), 0, 0)] = some 1599 ∧ px_bk 13 4 cL_law 1594 [(.iconst 1, (0, 0, 0, 0, 0), 1, 0), (.goto 4, (0, 0, 0, 0, 0), 0, 0)] = some 1599 := by decide +kernel
theorem q_law_1599 : px_tv cL_law 1599 138 = true := by decide +kernel
theorem q_law_1602 : px_bk 13 4 cL_law 1602 [(.pop, (0, 0, 0, 0, 0), 0, 0), (.aload_n 2, (0, 0, 0, 0, 0), 0, 0)] = some 1604 := by decide +kernel
theorem q_law_1604 : px_bk 13 4 cL_law 1604 [(.aload_n 0, (0, 0, 0, 0, 0), 0, 0), (.iload_n 3, (0, 0, 0, 0, 0), 0, 0), (.iconst 1, (0, 0, 0, 0, 0), 1, 0), (.iadd, (0, 0, 0, 0, 0), 0, 0)] = some 1608 ∧ px_tia cL_law 1608 = true := by decide +kernel
theorem q_law_1609 : px_bk 13 4 cL_law 1609 [(.aload_n 0, (0, 0, 0, 0, 0), 0, 0), (.iload_n 3, (0, 0, 0, 0, 0), 0, 0), (.iconst 2, (0, 0, 0, 0, 0), 2, 0), (.iadd, (0, 0, 0, 0, 0), 0, 0)] = some 1613 ∧ px_tia cL_law 1613 = true := by decide +kernel
theorem q_law_1614 : px_bk 13 4 cL_law 1614 [(.aload_n 0, (0, 0, 0, 0, 0), 0, 0), (.iload_n 3, (0, 0, 0, 0, 0), 0, 0), (.iconst 3, (0, 0, 0, 0, 0), 3, 0), (.iadd, (0, 0, 0, 0, 0), 0, 0)] = some 1618 ∧ px_tia cL_law 1618 = true := by decide +kernel
theorem q_law_1619 : (px_bk 13 4 cL_law 1619 [] = some 1619 ∧ px_t1 cL_law 1619 .eq 1626 = true) ∧ px_bk 13 4 cL_law 1626 [(.iconst 0, (0, 0, 0, 0, 0), 0, 0)] = some 1627 ∧ px_bk 13 4 cL_law 1622 [(.iconst 1, (0, 0, 0, 0, 0), 1, 0), (.goto 4, (0, 0, 0, 0, 0), 0, 0)] = some 1627 := by decide +kernel
theorem q_law_1627 : px_tv cL_law 1627 141 = true := by decide +kernel
theorem q_law_1630 : px_bk 13 4 cL_law 1630 [(.pop, (0, 0, 0, 0, 0), 0, 0), (.goto 237, (0, 0, 0, 0, 0), 0, 0)] = some 1868 := by decide +kernel

set_option maxRecDepth 100000 in
theorem lc_detour {N : Nat} {xs : Nat → Int32} {n cu su : Nat} {I : px_I} {L : px_L} {R : px_R} {Q : px_Q} {i : Int32} (hi : lwI N i) (hcu : cu ≤ 490000) (hsu : su ≤ 6900000) (hj : jJ n I R) (kk : ∀ (x : Int32) (n2 : Nat) I2 L2 R2 (y : Int32) I3 L3, jJ n2 I3 R2 → frB I I2 L L2 → kR R I2 R2 → pb_detour (ag xs i 1) (ag xs i 2) (bo (ag xs i 3)) I L x I2 L2 → frK I2 I3 L2 L3 → pk_detour (ag xs i 1) (ag xs i 2) (bo (ag xs i 3)) I2 L2 y I3 L3 → px (M_law N xs) (cu + 3) (su + 404) 1868 (lwL i) [] n2 I3 L3 R2 Q) : px (M_law N xs) cu su 1575 (lwL i) [] n I L R Q := by
  have hg := hj.g
  refine px_b (on := 13) rfl q_law_1575 hg rfl trivial ?_
  refine px_argC q_law_1576 hg hi (by decide) ?_
  refine px_argC q_law_1581 hg hi (by decide) ?_
  refine px_argC q_law_1586 hg hi (by decide) ?_
  refine px_boo q_law_1591 rfl hg ?_
  refine px_kB q_law_1599 lk_13_138 nm_X11_detour (jb_detour hj _ _ _) rfl rfl hg rfl (rkL rfl rfl rfl rfl (by omega) (by omega) rfl) ?_
  intro x n2 I2 L2 R2 hj2 f1 fR p1
  have hg := hj2.g
  refine px_b (on := 13) rfl q_law_1602 hg rfl trivial ?_
  refine px_argC q_law_1604 hg hi (by decide) ?_
  refine px_argC q_law_1609 hg hi (by decide) ?_
  refine px_argC q_law_1614 hg hi (by decide) ?_
  refine px_boo q_law_1619 rfl hg ?_
  refine px_kK q_law_1627 lk_13_141 nm_X12_detour (jk_detour hj2 _ _ _) rfl rfl hg rfl (rkL rfl rfl rfl rfl (by show cu + 0 ≤ 500000; omega) (by show su + 0 ≤ 7000000; omega) rfl) ?_
  intro y I3 L3 hj3 f2 p2
  have hg := hj3.g
  refine px_b (on := 13) rfl q_law_1630 hg rfl trivial ?_
  exact px_wid (cu2 := cu + 3) (su2 := su + 404) (by show cu + 0 + 0 ≤ cu + 3; omega) (by show su + 0 + 0 ≤ su + 404; omega) (kk x n2 I2 L2 R2 y I3 L3 hj3 f1 fR p1 f2 p2)

theorem q_law_1634 : px_bk 13 4 cL_law 1634 [(.aload_n 1, (0, 0, 0, 0, 0), 0, 0)] = some 1635 := by decide +kernel
theorem q_law_1635 : px_bk 13 4 cL_law 1635 [(.aload_n 0, (0, 0, 0, 0, 0), 0, 0), (.iload_n 3, (0, 0, 0, 0, 0), 0, 0), (.iconst 1, (0, 0, 0, 0, 0), 1, 0), (.iadd, (0, 0, 0, 0, 0), 0, 0)] = some 1639 ∧ px_tia cL_law 1639 = true := by decide +kernel
theorem q_law_1640 : px_bk 13 4 cL_law 1640 [(.aload_n 0, (0, 0, 0, 0, 0), 0, 0), (.iload_n 3, (0, 0, 0, 0, 0), 0, 0), (.iconst 2, (0, 0, 0, 0, 0), 2, 0), (.iadd, (0, 0, 0, 0, 0), 0, 0)] = some 1644 ∧ px_tia cL_law 1644 = true := by decide +kernel
theorem q_law_1645 : px_tv cL_law 1645 142 = true := by decide +kernel
theorem q_law_1648 : px_bk 13 4 cL_law 1648 [(.pop, (0, 0, 0, 0, 0), 0, 0), (.aload_n 2, (0, 0, 0, 0, 0), 0, 0)] = some 1650 := by decide +kernel
theorem q_law_1650 : px_bk 13 4 cL_law 1650 [(.aload_n 0, (0, 0, 0, 0, 0), 0, 0), (.iload_n 3, (0, 0, 0, 0, 0), 0, 0), (.iconst 1, (0, 0, 0, 0, 0), 1, 0), (.iadd, (0, 0, 0, 0, 0), 0, 0)] = some 1654 ∧ px_tia cL_law 1654 = true := by decide +kernel
theorem q_law_1655 : px_bk 13 4 cL_law 1655 [(.aload_n 0, (0, 0, 0, 0, 0), 0, 0), (.iload_n 3, (0, 0, 0, 0, 0), 0, 0), (.iconst 2, (0, 0, 0, 0, 0), 2, 0), (.iadd, (0, 0, 0, 0, 0), 0, 0)] = some 1659 ∧ px_tia cL_law 1659 = true := by decide +kernel
theorem q_law_1660 : px_tv cL_law 1660 145 = true := by decide +kernel
theorem q_law_1663 : px_bk 13 4 cL_law 1663 [(.pop, (0, 0, 0, 0, 0), 0, 0), (.goto 204, (0, 0, 0, 0, 0), 0, 0)] = some 1868 := by decide +kernel

set_option maxRecDepth 100000 in
theorem lc_table {N : Nat} {xs : Nat → Int32} {n cu su : Nat} {I : px_I} {L : px_L} {R : px_R} {Q : px_Q} {i : Int32} (hi : lwI N i) (hcu : cu ≤ 490000) (hsu : su ≤ 6900000) (hj : jJ n I R) (kk : ∀ (x : Int32) (n2 : Nat) I2 L2 R2 (y : Int32) I3 L3, jJ n2 I3 R2 → frB I I2 L L2 → kR R I2 R2 → pb_table (ag xs i 1) (ag xs i 2) I L x I2 L2 → frK I2 I3 L2 L3 → pk_table (ag xs i 1) (ag xs i 2) I2 L2 y I3 L3 → px (M_law N xs) (cu + 3) (su + 404) 1868 (lwL i) [] n2 I3 L3 R2 Q) : px (M_law N xs) cu su 1634 (lwL i) [] n I L R Q := by
  have hg := hj.g
  refine px_b (on := 13) rfl q_law_1634 hg rfl trivial ?_
  refine px_argC q_law_1635 hg hi (by decide) ?_
  refine px_argC q_law_1640 hg hi (by decide) ?_
  refine px_kB q_law_1645 lk_13_142 nm_X11_table (jb_table hj _ _) rfl rfl hg rfl (rkL rfl rfl rfl rfl (by omega) (by omega) rfl) ?_
  intro x n2 I2 L2 R2 hj2 f1 fR p1
  have hg := hj2.g
  refine px_b (on := 13) rfl q_law_1648 hg rfl trivial ?_
  refine px_argC q_law_1650 hg hi (by decide) ?_
  refine px_argC q_law_1655 hg hi (by decide) ?_
  refine px_kK q_law_1660 lk_13_145 nm_X12_table (jk_table hj2 _ _) rfl rfl hg rfl (rkL rfl rfl rfl rfl (by show cu + 0 ≤ 500000; omega) (by show su + 0 ≤ 7000000; omega) rfl) ?_
  intro y I3 L3 hj3 f2 p2
  have hg := hj3.g
  refine px_b (on := 13) rfl q_law_1663 hg rfl trivial ?_
  exact px_wid (cu2 := cu + 3) (su2 := su + 404) (by show cu + 0 + 0 ≤ cu + 3; omega) (by show su + 0 + 0 ≤ su + 404; omega) (kk x n2 I2 L2 R2 y I3 L3 hj3 f1 fR p1 f2 p2)

theorem q_law_1667 : px_bk 13 4 cL_law 1667 [(.aload_n 1, (0, 0, 0, 0, 0), 0, 0)] = some 1668 := by decide +kernel
theorem q_law_1668 : px_bk 13 4 cL_law 1668 [(.aload_n 0, (0, 0, 0, 0, 0), 0, 0), (.iload_n 3, (0, 0, 0, 0, 0), 0, 0), (.iconst 1, (0, 0, 0, 0, 0), 1, 0), (.iadd, (0, 0, 0, 0, 0), 0, 0)] = some 1672 ∧ px_tia cL_law 1672 = true := by decide +kernel
theorem q_law_1673 : px_bk 13 4 cL_law 1673 [(.aload_n 0, (0, 0, 0, 0, 0), 0, 0), (.iload_n 3, (0, 0, 0, 0, 0), 0, 0), (.iconst 2, (0, 0, 0, 0, 0), 2, 0), (.iadd, (0, 0, 0, 0, 0), 0, 0)] = some 1677 ∧ px_tia cL_law 1677 = true := by decide +kernel
theorem q_law_1678 : px_bk 13 4 cL_law 1678 [(.aload_n 0, (0, 0, 0, 0, 0), 0, 0), (.iload_n 3, (0, 0, 0, 0, 0), 0, 0), (.iconst 3, (0, 0, 0, 0, 0), 3, 0), (.iadd, (0, 0, 0, 0, 0), 0, 0)] = some 1682 ∧ px_tia cL_law 1682 = true := by decide +kernel
theorem q_law_1683 : px_tv cL_law 1683 146 = true := by decide +kernel
theorem q_law_1686 : px_bk 13 4 cL_law 1686 [(.pop, (0, 0, 0, 0, 0), 0, 0), (.aload_n 2, (0, 0, 0, 0, 0), 0, 0)] = some 1688 := by decide +kernel
theorem q_law_1688 : px_bk 13 4 cL_law 1688 [(.aload_n 0, (0, 0, 0, 0, 0), 0, 0), (.iload_n 3, (0, 0, 0, 0, 0), 0, 0), (.iconst 1, (0, 0, 0, 0, 0), 1, 0), (.iadd, (0, 0, 0, 0, 0), 0, 0)] = some 1692 ∧ px_tia cL_law 1692 = true := by decide +kernel
theorem q_law_1693 : px_bk 13 4 cL_law 1693 [(.aload_n 0, (0, 0, 0, 0, 0), 0, 0), (.iload_n 3, (0, 0, 0, 0, 0), 0, 0), (.iconst 2, (0, 0, 0, 0, 0), 2, 0), (.iadd, (0, 0, 0, 0, 0), 0, 0)] = some 1697 ∧ px_tia cL_law 1697 = true := by decide +kernel
theorem q_law_1698 : px_bk 13 4 cL_law 1698 [(.aload_n 0, (0, 0, 0, 0, 0), 0, 0), (.iload_n 3, (0, 0, 0, 0, 0), 0, 0), (.iconst 3, (0, 0, 0, 0, 0), 3, 0), (.iadd, (0, 0, 0, 0, 0), 0, 0)] = some 1702 ∧ px_tia cL_law 1702 = true := by decide +kernel
theorem q_law_1703 : px_tv cL_law 1703 149 = true := by decide +kernel
theorem q_law_1706 : px_bk 13 4 cL_law 1706 [(.pop, (0, 0, 0, 0, 0), 0, 0), (.goto 161, (0, 0, 0, 0, 0), 0, 0)] = some 1868 := by decide +kernel

set_option maxRecDepth 100000 in
theorem lc_repair {N : Nat} {xs : Nat → Int32} {n cu su : Nat} {I : px_I} {L : px_L} {R : px_R} {Q : px_Q} {i : Int32} (hi : lwI N i) (hcu : cu ≤ 490000) (hsu : su ≤ 6900000) (hj : jJ n I R) (kk : ∀ (x : Int32) (n2 : Nat) I2 L2 R2 (y : Int32) I3 L3, jJ n2 I3 R2 → frB I I2 L L2 → kR R I2 R2 → pb_repair (ag xs i 1) (ag xs i 2) (ag xs i 3) I L x I2 L2 → frK I2 I3 L2 L3 → pk_repair (ag xs i 1) (ag xs i 2) (ag xs i 3) I2 L2 y I3 L3 → px (M_law N xs) (cu + 3) (su + 404) 1868 (lwL i) [] n2 I3 L3 R2 Q) : px (M_law N xs) cu su 1667 (lwL i) [] n I L R Q := by
  have hg := hj.g
  refine px_b (on := 13) rfl q_law_1667 hg rfl trivial ?_
  refine px_argC q_law_1668 hg hi (by decide) ?_
  refine px_argC q_law_1673 hg hi (by decide) ?_
  refine px_argC q_law_1678 hg hi (by decide) ?_
  refine px_kB q_law_1683 lk_13_146 nm_X11_repair (jb_repair hj _ _ _) rfl rfl hg rfl (rkL rfl rfl rfl rfl (by omega) (by omega) rfl) ?_
  intro x n2 I2 L2 R2 hj2 f1 fR p1
  have hg := hj2.g
  refine px_b (on := 13) rfl q_law_1686 hg rfl trivial ?_
  refine px_argC q_law_1688 hg hi (by decide) ?_
  refine px_argC q_law_1693 hg hi (by decide) ?_
  refine px_argC q_law_1698 hg hi (by decide) ?_
  refine px_kK q_law_1703 lk_13_149 nm_X12_repair (jk_repair hj2 _ _ _) rfl rfl hg rfl (rkL rfl rfl rfl rfl (by show cu + 0 ≤ 500000; omega) (by show su + 0 ≤ 7000000; omega) rfl) ?_
  intro y I3 L3 hj3 f2 p2
  have hg := hj3.g
  refine px_b (on := 13) rfl q_law_1706 hg rfl trivial ?_
  exact px_wid (cu2 := cu + 3) (su2 := su + 404) (by show cu + 0 + 0 ≤ cu + 3; omega) (by show su + 0 + 0 ≤ su + 404; omega) (kk x n2 I2 L2 R2 y I3 L3 hj3 f1 fR p1 f2 p2)

theorem q_law_1710 : px_bk 13 4 cL_law 1710 [(.aload_n 1, (0, 0, 0, 0, 0), 0, 0)] = some 1711 := by decide +kernel
theorem q_law_1711 : px_bk 13 4 cL_law 1711 [(.aload_n 0, (0, 0, 0, 0, 0), 0, 0), (.iload_n 3, (0, 0, 0, 0, 0), 0, 0), (.iconst 1, (0, 0, 0, 0, 0), 1, 0), (.iadd, (0, 0, 0, 0, 0), 0, 0)] = some 1715 ∧ px_tia cL_law 1715 = true := by decide +kernel
theorem q_law_1716 : px_tv cL_law 1716 150 = true := by decide +kernel
theorem q_law_1719 : px_bk 13 4 cL_law 1719 [(.pop, (0, 0, 0, 0, 0), 0, 0), (.aload_n 2, (0, 0, 0, 0, 0), 0, 0)] = some 1721 := by decide +kernel
theorem q_law_1721 : px_bk 13 4 cL_law 1721 [(.aload_n 0, (0, 0, 0, 0, 0), 0, 0), (.iload_n 3, (0, 0, 0, 0, 0), 0, 0), (.iconst 1, (0, 0, 0, 0, 0), 1, 0), (.iadd, (0, 0, 0, 0, 0), 0, 0)] = some 1725 ∧ px_tia cL_law 1725 = true := by decide +kernel
theorem q_law_1726 : px_tv cL_law 1726 154 = true := by decide +kernel
theorem q_law_1729 : px_bk 13 4 cL_law 1729 [(.pop, (0, 0, 0, 0, 0), 0, 0), (.goto 138, (0, 0, 0, 0, 0), 0, 0)] = some 1868 := by decide +kernel

set_option maxRecDepth 100000 in
theorem lc_lime {N : Nat} {xs : Nat → Int32} {n cu su : Nat} {I : px_I} {L : px_L} {R : px_R} {Q : px_Q} {i : Int32} (hi : lwI N i) (hcu : cu ≤ 490000) (hsu : su ≤ 6900000) (hj : jJ n I R) (kk : ∀ (x : Int32) (n2 : Nat) I2 L2 R2 (y : Int32) I3 L3, jJ n2 I3 R2 → frB I I2 L L2 → kR R I2 R2 → pb_lime (ag xs i 1) I L x I2 L2 → frK I2 I3 L2 L3 → pk_lime (ag xs i 1) I2 L2 y I3 L3 → px (M_law N xs) (cu + 3) (su + 404) 1868 (lwL i) [] n2 I3 L3 R2 Q) : px (M_law N xs) cu su 1710 (lwL i) [] n I L R Q := by
  have hg := hj.g
  refine px_b (on := 13) rfl q_law_1710 hg rfl trivial ?_
  refine px_argC q_law_1711 hg hi (by decide) ?_
  refine px_kB q_law_1716 lk_13_150 nm_X11_lime (jb_lime hj _) rfl rfl hg rfl (rkL rfl rfl rfl rfl (by omega) (by omega) rfl) ?_
  intro x n2 I2 L2 R2 hj2 f1 fR p1
  have hg := hj2.g
  refine px_b (on := 13) rfl q_law_1719 hg rfl trivial ?_
  refine px_argC q_law_1721 hg hi (by decide) ?_
  refine px_kK q_law_1726 lk_13_154 nm_X12_lime (jk_lime hj2 _) rfl rfl hg rfl (rkL rfl rfl rfl rfl (by show cu + 0 ≤ 500000; omega) (by show su + 0 ≤ 7000000; omega) rfl) ?_
  intro y I3 L3 hj3 f2 p2
  have hg := hj3.g
  refine px_b (on := 13) rfl q_law_1729 hg rfl trivial ?_
  exact px_wid (cu2 := cu + 3) (su2 := su + 404) (by show cu + 0 + 0 ≤ cu + 3; omega) (by show su + 0 + 0 ≤ su + 404; omega) (kk x n2 I2 L2 R2 y I3 L3 hj3 f1 fR p1 f2 p2)

theorem q_law_1733 : px_bk 13 4 cL_law 1733 [(.aload_n 1, (0, 0, 0, 0, 0), 0, 0)] = some 1734 := by decide +kernel
theorem q_law_1734 : px_bk 13 4 cL_law 1734 [(.aload_n 0, (0, 0, 0, 0, 0), 0, 0), (.iload_n 3, (0, 0, 0, 0, 0), 0, 0), (.iconst 1, (0, 0, 0, 0, 0), 1, 0), (.iadd, (0, 0, 0, 0, 0), 0, 0)] = some 1738 ∧ px_tia cL_law 1738 = true := by decide +kernel
theorem q_law_1739 : px_bk 13 4 cL_law 1739 [(.aload_n 0, (0, 0, 0, 0, 0), 0, 0), (.iload_n 3, (0, 0, 0, 0, 0), 0, 0), (.iconst 2, (0, 0, 0, 0, 0), 2, 0), (.iadd, (0, 0, 0, 0, 0), 0, 0)] = some 1743 ∧ px_tia cL_law 1743 = true := by decide +kernel
theorem q_law_1744 : px_bk 13 4 cL_law 1744 [(.aload_n 0, (0, 0, 0, 0, 0), 0, 0), (.iload_n 3, (0, 0, 0, 0, 0), 0, 0), (.iconst 3, (0, 0, 0, 0, 0), 3, 0), (.iadd, (0, 0, 0, 0, 0), 0, 0)] = some 1748 ∧ px_tia cL_law 1748 = true := by decide +kernel
theorem q_law_1749 : px_bk 13 4 cL_law 1749 [(.aload_n 0, (0, 0, 0, 0, 0), 0, 0), (.iload_n 3, (0, 0, 0, 0, 0), 0, 0), (.iconst 4, (0, 0, 0, 0, 0), 4, 0), (.iadd, (0, 0, 0, 0, 0), 0, 0)] = some 1753 ∧ px_tia cL_law 1753 = true := by decide +kernel
theorem q_law_1754 : (px_bk 13 4 cL_law 1754 [] = some 1754 ∧ px_t1 cL_law 1754 .eq 1761 = true) ∧ px_bk 13 4 cL_law 1761 [(.iconst 0, (0, 0, 0, 0, 0), 0, 0)] = some 1762 ∧ px_bk 13 4 cL_law 1757 [(.iconst 1, (0, 0, 0, 0, 0), 1, 0), (.goto 4, (0, 0, 0, 0, 0), 0, 0)] = some 1762 := by decide +kernel
theorem q_law_1762 : px_tv cL_law 1762 155 = true := by decide +kernel
theorem q_law_1765 : px_bk 13 4 cL_law 1765 [(.pop, (0, 0, 0, 0, 0), 0, 0), (.aload_n 2, (0, 0, 0, 0, 0), 0, 0)] = some 1767 := by decide +kernel
theorem q_law_1767 : px_bk 13 4 cL_law 1767 [(.aload_n 0, (0, 0, 0, 0, 0), 0, 0), (.iload_n 3, (0, 0, 0, 0, 0), 0, 0), (.iconst 1, (0, 0, 0, 0, 0), 1, 0), (.iadd, (0, 0, 0, 0, 0), 0, 0)] = some 1771 ∧ px_tia cL_law 1771 = true := by decide +kernel
theorem q_law_1772 : px_bk 13 4 cL_law 1772 [(.aload_n 0, (0, 0, 0, 0, 0), 0, 0), (.iload_n 3, (0, 0, 0, 0, 0), 0, 0), (.iconst 2, (0, 0, 0, 0, 0), 2, 0), (.iadd, (0, 0, 0, 0, 0), 0, 0)] = some 1776 ∧ px_tia cL_law 1776 = true := by decide +kernel
theorem q_law_1777 : px_bk 13 4 cL_law 1777 [(.aload_n 0, (0, 0, 0, 0, 0), 0, 0), (.iload_n 3, (0, 0, 0, 0, 0), 0, 0), (.iconst 3, (0, 0, 0, 0, 0), 3, 0), (.iadd, (0, 0, 0, 0, 0), 0, 0)] = some 1781 ∧ px_tia cL_law 1781 = true := by decide +kernel
theorem q_law_1782 : px_bk 13 4 cL_law 1782 [(.aload_n 0, (0, 0, 0, 0, 0), 0, 0), (.iload_n 3, (0, 0, 0, 0, 0), 0, 0), (.iconst 4, (0, 0, 0, 0, 0), 4, 0), (.iadd, (0, 0, 0, 0, 0), 0, 0)] = some 1786 ∧ px_tia cL_law 1786 = true := by decide +kernel
theorem q_law_1787 : (px_bk 13 4 cL_law 1787 [] = some 1787 ∧ px_t1 cL_law 1787 .eq 1794 = true) ∧ px_bk 13 4 cL_law 1794 [(.iconst 0, (0, 0, 0, 0, 0), 0, 0)] = some 1795 ∧ px_bk 13 4 cL_law 1790 [(.iconst 1, (0, 0, 0, 0, 0), 1, 0), (.goto 4, (0, 0, 0, 0, 0), 0, 0)] = some 1795 := by decide +kernel
theorem q_law_1795 : px_tv cL_law 1795 158 = true := by decide +kernel
theorem q_law_1798 : px_bk 13 4 cL_law 1798 [(.pop, (0, 0, 0, 0, 0), 0, 0), (.goto 69, (0, 0, 0, 0, 0), 0, 0)] = some 1868 := by decide +kernel

set_option maxRecDepth 100000 in
theorem lc_flow {N : Nat} {xs : Nat → Int32} {n cu su : Nat} {I : px_I} {L : px_L} {R : px_R} {Q : px_Q} {i : Int32} (hi : lwI N i) (hcu : cu ≤ 490000) (hsu : su ≤ 6900000) (hj : jJ n I R) (kk : ∀ (x : Int32) (n2 : Nat) I2 L2 R2 (y : Int32) I3 L3, jJ n2 I3 R2 → frB I I2 L L2 → kR R I2 R2 → pb_flow (ag xs i 1) (ag xs i 2) (ag xs i 3) (bo (ag xs i 4)) I L x I2 L2 → frK I2 I3 L2 L3 → pk_flow (ag xs i 1) (ag xs i 2) (ag xs i 3) (bo (ag xs i 4)) I2 L2 y I3 L3 → px (M_law N xs) (cu + 3) (su + 404) 1868 (lwL i) [] n2 I3 L3 R2 Q) : px (M_law N xs) cu su 1733 (lwL i) [] n I L R Q := by
  have hg := hj.g
  refine px_b (on := 13) rfl q_law_1733 hg rfl trivial ?_
  refine px_argC q_law_1734 hg hi (by decide) ?_
  refine px_argC q_law_1739 hg hi (by decide) ?_
  refine px_argC q_law_1744 hg hi (by decide) ?_
  refine px_argC q_law_1749 hg hi (by decide) ?_
  refine px_boo q_law_1754 rfl hg ?_
  refine px_kB q_law_1762 lk_13_155 nm_X11_flow (jb_flow hj _ _ _ _) rfl rfl hg rfl (rkL rfl rfl rfl rfl (by omega) (by omega) rfl) ?_
  intro x n2 I2 L2 R2 hj2 f1 fR p1
  have hg := hj2.g
  refine px_b (on := 13) rfl q_law_1765 hg rfl trivial ?_
  refine px_argC q_law_1767 hg hi (by decide) ?_
  refine px_argC q_law_1772 hg hi (by decide) ?_
  refine px_argC q_law_1777 hg hi (by decide) ?_
  refine px_argC q_law_1782 hg hi (by decide) ?_
  refine px_boo q_law_1787 rfl hg ?_
  refine px_kK q_law_1795 lk_13_158 nm_X12_flow (jk_flow hj2 _ _ _ _) rfl rfl hg rfl (rkL rfl rfl rfl rfl (by show cu + 0 ≤ 500000; omega) (by show su + 0 ≤ 7000000; omega) rfl) ?_
  intro y I3 L3 hj3 f2 p2
  have hg := hj3.g
  refine px_b (on := 13) rfl q_law_1798 hg rfl trivial ?_
  exact px_wid (cu2 := cu + 3) (su2 := su + 404) (by show cu + 0 + 0 ≤ cu + 3; omega) (by show su + 0 + 0 ≤ su + 404; omega) (kk x n2 I2 L2 R2 y I3 L3 hj3 f1 fR p1 f2 p2)

theorem q_law_1802 : px_bk 13 4 cL_law 1802 [(.aload_n 1, (0, 0, 0, 0, 0), 0, 0)] = some 1803 := by decide +kernel
theorem q_law_1803 : px_bk 13 4 cL_law 1803 [(.aload_n 0, (0, 0, 0, 0, 0), 0, 0), (.iload_n 3, (0, 0, 0, 0, 0), 0, 0), (.iconst 1, (0, 0, 0, 0, 0), 1, 0), (.iadd, (0, 0, 0, 0, 0), 0, 0)] = some 1807 ∧ px_tia cL_law 1807 = true := by decide +kernel
theorem q_law_1808 : px_bk 13 4 cL_law 1808 [(.aload_n 0, (0, 0, 0, 0, 0), 0, 0), (.iload_n 3, (0, 0, 0, 0, 0), 0, 0), (.iconst 2, (0, 0, 0, 0, 0), 2, 0), (.iadd, (0, 0, 0, 0, 0), 0, 0)] = some 1812 ∧ px_tia cL_law 1812 = true := by decide +kernel
theorem q_law_1813 : px_bk 13 4 cL_law 1813 [(.aload_n 0, (0, 0, 0, 0, 0), 0, 0), (.iload_n 3, (0, 0, 0, 0, 0), 0, 0), (.iconst 3, (0, 0, 0, 0, 0), 3, 0), (.iadd, (0, 0, 0, 0, 0), 0, 0)] = some 1817 ∧ px_tia cL_law 1817 = true := by decide +kernel
theorem q_law_1818 : px_tv cL_law 1818 159 = true := by decide +kernel
theorem q_law_1821 : px_bk 13 4 cL_law 1821 [(.pop, (0, 0, 0, 0, 0), 0, 0), (.aload_n 2, (0, 0, 0, 0, 0), 0, 0)] = some 1823 := by decide +kernel
theorem q_law_1823 : px_bk 13 4 cL_law 1823 [(.aload_n 0, (0, 0, 0, 0, 0), 0, 0), (.iload_n 3, (0, 0, 0, 0, 0), 0, 0), (.iconst 1, (0, 0, 0, 0, 0), 1, 0), (.iadd, (0, 0, 0, 0, 0), 0, 0)] = some 1827 ∧ px_tia cL_law 1827 = true := by decide +kernel
theorem q_law_1828 : px_bk 13 4 cL_law 1828 [(.aload_n 0, (0, 0, 0, 0, 0), 0, 0), (.iload_n 3, (0, 0, 0, 0, 0), 0, 0), (.iconst 2, (0, 0, 0, 0, 0), 2, 0), (.iadd, (0, 0, 0, 0, 0), 0, 0)] = some 1832 ∧ px_tia cL_law 1832 = true := by decide +kernel
theorem q_law_1833 : px_bk 13 4 cL_law 1833 [(.aload_n 0, (0, 0, 0, 0, 0), 0, 0), (.iload_n 3, (0, 0, 0, 0, 0), 0, 0), (.iconst 3, (0, 0, 0, 0, 0), 3, 0), (.iadd, (0, 0, 0, 0, 0), 0, 0)] = some 1837 ∧ px_tia cL_law 1837 = true := by decide +kernel
theorem q_law_1838 : px_tv cL_law 1838 162 = true := by decide +kernel
theorem q_law_1841 : px_bk 13 4 cL_law 1841 [(.pop, (0, 0, 0, 0, 0), 0, 0), (.goto 26, (0, 0, 0, 0, 0), 0, 0)] = some 1868 := by decide +kernel

set_option maxRecDepth 100000 in
theorem lc_narrow {N : Nat} {xs : Nat → Int32} {n cu su : Nat} {I : px_I} {L : px_L} {R : px_R} {Q : px_Q} {i : Int32} (hi : lwI N i) (hcu : cu ≤ 490000) (hsu : su ≤ 6900000) (hj : jJ n I R) (kk : ∀ (x : Int32) (n2 : Nat) I2 L2 R2 (y : Int32) I3 L3, jJ n2 I3 R2 → frB I I2 L L2 → kR R I2 R2 → pb_narrow (ag xs i 1) (ag xs i 2) (ag xs i 3) I L x I2 L2 → frK I2 I3 L2 L3 → pk_narrow (ag xs i 1) (ag xs i 2) (ag xs i 3) I2 L2 y I3 L3 → px (M_law N xs) (cu + 3) (su + 404) 1868 (lwL i) [] n2 I3 L3 R2 Q) : px (M_law N xs) cu su 1802 (lwL i) [] n I L R Q := by
  have hg := hj.g
  refine px_b (on := 13) rfl q_law_1802 hg rfl trivial ?_
  refine px_argC q_law_1803 hg hi (by decide) ?_
  refine px_argC q_law_1808 hg hi (by decide) ?_
  refine px_argC q_law_1813 hg hi (by decide) ?_
  refine px_kB q_law_1818 lk_13_159 nm_X11_narrow (jb_narrow hj _ _ _) rfl rfl hg rfl (rkL rfl rfl rfl rfl (by omega) (by omega) rfl) ?_
  intro x n2 I2 L2 R2 hj2 f1 fR p1
  have hg := hj2.g
  refine px_b (on := 13) rfl q_law_1821 hg rfl trivial ?_
  refine px_argC q_law_1823 hg hi (by decide) ?_
  refine px_argC q_law_1828 hg hi (by decide) ?_
  refine px_argC q_law_1833 hg hi (by decide) ?_
  refine px_kK q_law_1838 lk_13_162 nm_X12_narrow (jk_narrow hj2 _ _ _) rfl rfl hg rfl (rkL rfl rfl rfl rfl (by show cu + 0 ≤ 500000; omega) (by show su + 0 ≤ 7000000; omega) rfl) ?_
  intro y I3 L3 hj3 f2 p2
  have hg := hj3.g
  refine px_b (on := 13) rfl q_law_1841 hg rfl trivial ?_
  exact px_wid (cu2 := cu + 3) (su2 := su + 404) (by show cu + 0 + 0 ≤ cu + 3; omega) (by show su + 0 + 0 ≤ su + 404; omega) (kk x n2 I2 L2 R2 y I3 L3 hj3 f1 fR p1 f2 p2)

theorem q_law_1845 : px_bk 13 4 cL_law 1845 [(.aload_n 1, (0, 0, 0, 0, 0), 0, 0)] = some 1846 := by decide +kernel
theorem q_law_1846 : px_bk 13 4 cL_law 1846 [(.aload_n 0, (0, 0, 0, 0, 0), 0, 0), (.iload_n 3, (0, 0, 0, 0, 0), 0, 0), (.iconst 1, (0, 0, 0, 0, 0), 1, 0), (.iadd, (0, 0, 0, 0, 0), 0, 0)] = some 1850 ∧ px_tia cL_law 1850 = true := by decide +kernel
theorem q_law_1851 : px_tv cL_law 1851 163 = true := by decide +kernel
theorem q_law_1854 : px_bk 13 4 cL_law 1854 [(.pop, (0, 0, 0, 0, 0), 0, 0), (.aload_n 2, (0, 0, 0, 0, 0), 0, 0)] = some 1856 := by decide +kernel
theorem q_law_1856 : px_bk 13 4 cL_law 1856 [(.aload_n 0, (0, 0, 0, 0, 0), 0, 0), (.iload_n 3, (0, 0, 0, 0, 0), 0, 0), (.iconst 1, (0, 0, 0, 0, 0), 1, 0), (.iadd, (0, 0, 0, 0, 0), 0, 0)] = some 1860 ∧ px_tia cL_law 1860 = true := by decide +kernel
theorem q_law_1861 : px_tv cL_law 1861 166 = true := by decide +kernel
theorem q_law_1864 : px_bk 13 4 cL_law 1864 [(.pop, (0, 0, 0, 0, 0), 0, 0), (.goto 3, (0, 0, 0, 0, 0), 0, 0)] = some 1868 := by decide +kernel

set_option maxRecDepth 100000 in
theorem lc_about {N : Nat} {xs : Nat → Int32} {n cu su : Nat} {I : px_I} {L : px_L} {R : px_R} {Q : px_Q} {i : Int32} (hi : lwI N i) (hcu : cu ≤ 490000) (hsu : su ≤ 6900000) (hj : jJ n I R) (kk : ∀ (x : Int32) (n2 : Nat) I2 L2 R2 (y : Int32) I3 L3, jJ n2 I3 R2 → frB I I2 L L2 → kR R I2 R2 → pb_about (ag xs i 1) I L x I2 L2 → frK I2 I3 L2 L3 → pk_about (ag xs i 1) I2 L2 y I3 L3 → px (M_law N xs) (cu + 3) (su + 404) 1868 (lwL i) [] n2 I3 L3 R2 Q) : px (M_law N xs) cu su 1845 (lwL i) [] n I L R Q := by
  have hg := hj.g
  refine px_b (on := 13) rfl q_law_1845 hg rfl trivial ?_
  refine px_argC q_law_1846 hg hi (by decide) ?_
  refine px_kB q_law_1851 lk_13_163 nm_X11_about (jb_about hj _) rfl rfl hg rfl (rkL rfl rfl rfl rfl (by omega) (by omega) rfl) ?_
  intro x n2 I2 L2 R2 hj2 f1 fR p1
  have hg := hj2.g
  refine px_b (on := 13) rfl q_law_1854 hg rfl trivial ?_
  refine px_argC q_law_1856 hg hi (by decide) ?_
  refine px_kK q_law_1861 lk_13_166 nm_X12_about (jk_about hj2 _) rfl rfl hg rfl (rkL rfl rfl rfl rfl (by show cu + 0 ≤ 500000; omega) (by show su + 0 ≤ 7000000; omega) rfl) ?_
  intro y I3 L3 hj3 f2 p2
  have hg := hj3.g
  refine px_b (on := 13) rfl q_law_1864 hg rfl trivial ?_
  exact px_wid (cu2 := cu + 3) (su2 := su + 404) (by show cu + 0 + 0 ≤ cu + 3; omega) (by show su + 0 + 0 ≤ su + 404; omega) (kk x n2 I2 L2 R2 y I3 L3 hj3 f1 fR p1 f2 p2)
