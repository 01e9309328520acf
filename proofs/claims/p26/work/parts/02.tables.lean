/-! the words that every method is given; what the numbers 32.. stand for; which instruction links what -/
def px_T : List Cond := lw_tbl.filter goodWord
abbrev px_Rn (ci : Nat) : String := [RX0, RX1, RX2, RX3, RX4, RX5, RX6, RX7, RX8, RX9, RX10, RX11, RX12, RL, RJ9, RJ0, RJ1, RJ3].getD ci RX0
abbrev px_Tf (ci : Nat) : u_T := (vwCl.getD ci (RX0, TX0, 4)).2.1
abbrev px_Nf (ci : Nat) : Nat := (vwCl.getD ci (RX0, TX0, 4)).2.2
def px_ty (ci : Nat) : Nat → FieldType := [tyX0, tyX1, tyX2, tyX3, tyX4, tyX5, tyX6, tyX7, tyX8, tyX9, tyX10, tyX11, tyX12].getD ci tyX0
def px_fc : FieldType → Nat
  | .int => 0
  | .long => 1
  | .boolean => 3
  | _ => 2
def px_ft (ci k : Nat) : Nat := px_fc (px_ty ci k)
def px_nth {α : Type} : List α → Nat → α → α
  | [], _, d => d
  | a :: _, 0, _ => a
  | _ :: l, k + 1, d => px_nth l k d
def px_shL : List (List (Nat × Nat × Int32)) := [
  [(0, 0, 0), (0, 0, 0), (0, 0, 0), (0, 0, 0), (0, 0, 0), (0, 0, 0), (0, 0, 0), (0, 0, 0), (0, 0, 0), (0, 0, 0), (0, 0, 0), (0, 0, 0), (0, 0, 0), (0, 0, 0), (0, 0, 0), (0, 0, 0)],
  [(0, 0, 0), (0, 0, 0), (0, 0, 0), (0, 0, 0), (0, 0, 0), (0, 0, 0), (0, 0, 0), (0, 0, 0), (0, 0, 0), (0, 0, 0), (0, 0, 0), (0, 0, 0), (0, 0, 0), (0, 0, 0), (0, 0, 0), (0, 0, 0)],
  [(11, 11, 11), (7, 9, 9), (20, 80, 80), (20, 80, 80), (20, 80, 80), (20, 80, 80), (20, 80, 80), (20, 80, 80), (21, 24, 24), (1, 16, 16), (20, 20, 20), (20, 20, 20), (20, 20, 20), (20, 20, 20), (20, 20, 20), (20, 20, 20)],
  [(20, 20, 20), (20, 20, 20), (20, 20, 20), (20, 20, 20), (20, 30, 30), (20, 30, 30), (20, 30, 30), (1, 16, 16), (20, 20, 20), (20, 20, 20), (20, 20, 20), (20, 20, 20), (20, 20, 20), (20, 20, 20), (20, 20, 20), (20, 20, 20)],
  [(20, 20, 20), (20, 20, 20), (20, 30, 30), (20, 30, 30), (20, 30, 30), (2, 3, 3), (8, 7, 7), (20, 400, 400), (20, 401, 401), (20, 401, 401), (20, 401, 401), (20, 401, 401), (4, 16, 16), (10, 4, 4), (20, 200, 200), (20, 200, 200)],
  [(20, 9, 9), (20, 9, 9), (20, 9, 9), (20, 8, 8), (20, 8, 8), (5, 4, 4), (9, 18, 18), (20, 80, 80), (20, 80, 80), (24, 6, 6), (23, 96, 96), (20, 864, 864), (3, 6, 6), (20, 3, 3), (20, 3, 3), (20, 3, 3)],
  [(20, 3, 3), (6, 6, 6), (20, 3, 3), (21, 123, 123), (21, 123, 123), (0, 4, 4), (20, 10, 10), (12, 77, 77), (20, 80, 80), (20, 80, 80), (20, 80, 80), (20, 80, 80), (20, 80, 80), (20, 80, 80), (20, 2, 2), (20, 40, 40)],
  [(20, 40, 40), (20, 40, 40), (20, 40, 40), (20, 40, 40), (20, 40, 40), (20, 40, 40), (20, 40, 40), (20, 40, 40), (20, 40, 40), (22, 400, 400), (20, 220, 220), (20, 220, 220), (20, 8, 8), (20, 9, 9), (20, 9, 9), (23, 10, 10)],
  [(23, 8, 8), (20, 6, 6), (20, 1320, 1320), (20, 1320, 1320), (21, 9, 9), (20, 90, 90), (20, 90, 90), (20, 3, 3), (20, 3, 3), (20, 3, 3), (20, 10, 10), (20, 30, 30), (20, 30, 30), (20, 30, 30), (20, 30, 30), (21, 576, 576)],
  [(21, 6, 6), (21, 129, 129), (21, 129, 129), (10, 4, 4), (20, 200, 200), (20, 200, 200), (10, 4, 4), (20, 200, 200), (20, 200, 200), (10, 4, 4), (20, 200, 200), (20, 200, 200), (10, 4, 4), (20, 200, 200), (20, 200, 200), (10, 4, 4)]]
/-- of a number: what it is (0 .. 12 an object of that kind, 20 ints, 21 longs, 22 bytes, 23 booleans, 24 Ways), how many places -/
def px_sh (k : Nat) : Nat × Nat × Int32 := px_nth (px_nth px_shL (k / 16) []) (k % 16) (bif Nat.beq ((k - 147) % 3) 0 then (10, 4, 4) else (20, 200, 200))
abbrev px_nb : Nat := 147
def px_tgL : List (List Nat) := [
  [33, 41, 55, 69, 70, 76, 85, 92, 97, 101],
  [34, 35, 36, 37, 38, 39, 40],
  [],
  [],
  [],
  [],
  [],
  [],
  [],
  [42, 43, 44, 45, 46, 47, 48, 49, 50, 51, 52, 53, 54],
  [],
  [],
  [],
  [],
  [],
  [],
  [],
  [],
  [],
  [],
  [],
  [],
  [],
  [56, 57, 58, 59, 60, 61, 62, 63, 64, 65, 66, 67, 68],
  [],
  [],
  [],
  [],
  [],
  [],
  [],
  [],
  [],
  [],
  [],
  [],
  [],
  [],
  [71, 72, 73, 74, 75],
  [],
  [],
  [],
  [],
  [],
  [70, 0, 80, 81, 82, 83, 84],
  [],
  [],
  [],
  [],
  [],
  [],
  [],
  [],
  [86, 89, 90, 91],
  [87, 88],
  [],
  [],
  [],
  [],
  [],
  [33, 85, 93, 94, 95, 96],
  [],
  [],
  [],
  [],
  [98],
  [],
  [],
  [],
  [33, 102],
  [],
  [0, 0, 0, 104, 105, 106, 107, 108, 109, 110, 111, 112, 113, 114, 115, 116, 0, 117, 118, 119, 120, 0, 0, 0, 121, 0, 0, 0, 0, 0, 0, 0, 0, 0, 0, 0, 122, 123, 124, 0, 125, 126, 127, 128, 129, 130, 131, 0, 0, 0, 0, 0, 132, 0, 133, 134, 135, 136, 137, 0, 0, 0, 138, 0, 139, 140, 141, 142, 0, 143, 0, 0, 0, 144, 0, 145, 146],
  [],
  [],
  [],
  [],
  [],
  [],
  [],
  [],
  [],
  [],
  [],
  [],
  [],
  [],
  [],
  [],
  [],
  [],
  [],
  [],
  [],
  [],
  [],
  [],
  [],
  [],
  [],
  [],
  [],
  [],
  [],
  [],
  [],
  [],
  [],
  [],
  [],
  [],
  [],
  [],
  [],
  [],
  []]
/-- what an object holds for good in a field (0: nothing) -/
def px_tg (o k : Nat) : Nat := px_nth (px_nth px_tgL (o - 32) []) k 0
def px_tf : List (Nat × Nat × Nat × Nat) := [
  (0, 11, 0, 1),
  (0, 15, 0, 2),
  (0, 19, 0, 3),
  (0, 22, 0, 0),
  (0, 30, 1, 13),
  (0, 43, 1, 0),
  (0, 46, 1, 1),
  (0, 49, 1, 2),
  (0, 71, 1, 5),
  (1, 11, 1, 0),
  (1, 15, 1, 1),
  (1, 18, 1, 2),
  (1, 21, 1, 3),
  (1, 24, 1, 4),
  (1, 27, 1, 5),
  (1, 30, 1, 6),
  (1, 33, 1, 7),
  (1, 36, 1, 8),
  (1, 39, 1, 9),
  (1, 42, 1, 10),
  (1, 45, 1, 11),
  (1, 48, 1, 12),
  (1, 51, 1, 13),
  (1, 55, 1, 14),
  (1, 58, 1, 15),
  (2, 9, 2, 0),
  (2, 15, 2, 1),
  (2, 19, 2, 2),
  (3, 9, 3, 2),
  (3, 15, 3, 3),
  (3, 18, 3, 4),
  (3, 21, 3, 5),
  (3, 24, 3, 0),
  (3, 28, 3, 1),
  (4, 12, 4, 1),
  (4, 18, 4, 2),
  (4, 22, 4, 3),
  (4, 25, 4, 4),
  (4, 28, 4, 5),
  (4, 31, 4, 6),
  (4, 34, 4, 7),
  (4, 38, 4, 8),
  (4, 41, 4, 9),
  (4, 46, 4, 10),
  (4, 49, 4, 11),
  (4, 52, 4, 12),
  (4, 55, 4, 13),
  (4, 58, 4, 14),
  (4, 61, 4, 15),
  (4, 64, 4, 0),
  (4, 74, 8, 6),
  (4, 90, 10, 3),
  (4, 93, 10, 2),
  (4, 165, 10, 1),
  (4, 178, 8, 3),
  (4, 184, 8, 1),
  (4, 186, 8, 2),
  (4, 188, 8, 4),
  (5, 12, 5, 0),
  (5, 20, 5, 1),
  (5, 24, 5, 2),
  (5, 28, 5, 3),
  (5, 48, 9, 17),
  (5, 53, 9, 8),
  (5, 57, 9, 9),
  (5, 60, 9, 10),
  (5, 63, 9, 11),
  (5, 66, 9, 12),
  (5, 69, 9, 13),
  (5, 72, 9, 14),
  (5, 75, 9, 15),
  (5, 79, 9, 16),
  (6, 11, 6, 0),
  (6, 15, 6, 1),
  (6, 19, 6, 2),
  (6, 22, 6, 3),
  (6, 26, 6, 4),
  (6, 29, 6, 5),
  (7, 11, 7, 0),
  (7, 15, 7, 1),
  (7, 18, 7, 2),
  (7, 21, 7, 3),
  (7, 24, 7, 4),
  (7, 27, 7, 5),
  (7, 30, 7, 6),
  (7, 34, 7, 7),
  (7, 38, 7, 8),
  (8, 9, 8, 0),
  (8, 13, 8, 1),
  (8, 16, 8, 2),
  (8, 19, 8, 3),
  (8, 22, 8, 4),
  (8, 25, 8, 5),
  (8, 29, 8, 6),
  (9, 9, 9, 0),
  (9, 13, 9, 1),
  (9, 16, 9, 2),
  (9, 20, 9, 3),
  (9, 23, 9, 4),
  (9, 26, 9, 5),
  (9, 29, 9, 6),
  (9, 32, 9, 7),
  (9, 35, 9, 8),
  (9, 39, 9, 9),
  (9, 42, 9, 10),
  (9, 45, 9, 11),
  (9, 48, 9, 12),
  (9, 51, 9, 13),
  (9, 54, 9, 14),
  (9, 57, 9, 15),
  (9, 60, 9, 16),
  (9, 63, 9, 17),
  (9, 71, 10, 3),
  (9, 75, 10, 2),
  (9, 84, 10, 0),
  (9, 87, 10, 1),
  (10, 11, 10, 0),
  (10, 15, 10, 1),
  (10, 18, 10, 2),
  (10, 22, 10, 3),
  (11, 10, 11, 0),
  (11, 19, 11, 1),
  (11, 23, 11, 2),
  (11, 29, 11, 3),
  (11, 36, 11, 4),
  (11, 45, 11, 5),
  (11, 52, 11, 6),
  (11, 61, 11, 7),
  (11, 68, 11, 8),
  (11, 77, 11, 9),
  (11, 81, 11, 10),
  (11, 162, 2, 0),
  (11, 165, 2, 2),
  (11, 168, 2, 1),
  (11, 178, 8, 5),
  (11, 188, 4, 1),
  (11, 196, 4, 13),
  (11, 199, 4, 14),
  (11, 202, 4, 15),
  (11, 205, 5, 0),
  (11, 272, 0, 2),
  (11, 279, 0, 3),
  (11, 282, 7, 7),
  (11, 285, 7, 8),
  (11, 288, 1, 13),
  (11, 298, 1, 14),
  (11, 300, 1, 15),
  (12, 7, 12, 1),
  (12, 13, 12, 3),
  (12, 17, 12, 4),
  (12, 20, 12, 5),
  (12, 23, 12, 6),
  (12, 26, 12, 7),
  (12, 29, 12, 8),
  (12, 32, 12, 9),
  (12, 35, 12, 10),
  (12, 38, 12, 11),
  (12, 41, 12, 12),
  (12, 44, 12, 13),
  (12, 47, 12, 14),
  (12, 50, 12, 15),
  (12, 53, 12, 17),
  (12, 56, 12, 18),
  (12, 59, 12, 19),
  (12, 62, 12, 20),
  (12, 65, 12, 24),
  (12, 69, 12, 33),
  (12, 72, 12, 34),
  (12, 75, 12, 36),
  (12, 78, 12, 37),
  (12, 81, 12, 38),
  (12, 84, 12, 40),
  (12, 87, 12, 41),
  (12, 90, 12, 42),
  (12, 94, 12, 43),
  (12, 97, 12, 44),
  (12, 100, 12, 45),
  (12, 103, 12, 46),
  (12, 106, 12, 47),
  (12, 109, 12, 48),
  (12, 112, 12, 49),
  (12, 115, 12, 50),
  (12, 118, 12, 51),
  (12, 121, 12, 52),
  (12, 125, 12, 54),
  (12, 128, 12, 55),
  (12, 131, 12, 56),
  (12, 134, 12, 57),
  (12, 137, 12, 58),
  (12, 140, 12, 62),
  (12, 143, 12, 64),
  (12, 146, 12, 65),
  (12, 149, 12, 66),
  (12, 152, 12, 67),
  (12, 155, 12, 69),
  (12, 158, 12, 73),
  (12, 161, 12, 75),
  (12, 164, 12, 76),
  (12, 177, 12, 0),
  (12, 191, 12, 2),
  (12, 194, 12, 70),
  (12, 239, 12, 16),
  (12, 249, 12, 21),
  (12, 252, 12, 22),
  (12, 256, 12, 23),
  (12, 259, 12, 25),
  (12, 291, 12, 27),
  (12, 294, 12, 26),
  (12, 297, 12, 28),
  (12, 300, 12, 29),
  (12, 310, 12, 30),
  (12, 322, 12, 31),
  (12, 325, 12, 32),
  (12, 328, 12, 35),
  (12, 337, 12, 39),
  (12, 343, 12, 71),
  (12, 354, 12, 72),
  (12, 396, 12, 53),
  (12, 418, 12, 74),
  (12, 450, 12, 59),
  (12, 453, 12, 60),
  (12, 456, 12, 61),
  (12, 469, 12, 63),
  (12, 472, 12, 68)]
def px_tc : List (Nat × Nat × Int32) := [(11, 97, -1000000), (11, 98, 1000000), (11, 120, -2000000000), (11, 155, 100000), (0, 58, -2000000000), (1, 61, 1000000), (2, 18, 2000000000), (2, 26, 2000000), (3, 42, -2000000000), (4, 110, 100000), (5, 52, -2000000000), (7, 45, -2000000000), (8, 57, 1000000), (9, 74, 1000000), (12, 218, -2000000000), (12, 321, 999999), (12, 357, 100000)]
def px_tl : List (Nat × Nat × Int64) := [(11, 253, -1), (0, 59, 1000), (0, 82, 9), (0, 84, 2), (6, 55, -1), (7, 50, 1000000000000), (9, 132, 9), (9, 134, 10), (9, 136, 999), (9, 138, 1000), (9, 143, 100000000), (12, 171, 2), (12, 173, 9999), (12, 175, 1000), (12, 187, -1000000), (12, 189, 1000000), (12, 197, 1000000000000), (12, 227, 10000), (12, 229, 100), (12, 231, 5000), (12, 237, 20000), (12, 245, 100000), (12, 247, 2000000), (12, 265, 97), (12, 267, 122), (12, 269, 65), (12, 271, 90), (12, 273, 149862), (12, 275, 11705253), (12, 277, 13851822), (12, 279, 13278437), (12, 281, 10099500), (12, 283, 866261428), (12, 285, 817809779), (12, 287, 2351), (12, 289, 54320584820), (12, 306, 64), (12, 308, 104), (12, 317, 48), (12, 319, 57), (12, 364, 5), (12, 379, 10), (12, 390, 16), (12, 392, 100000000), (12, 394, -100000000), (12, 409, 15), (12, 411, 8), (12, 416, 95), (12, 422, -2000000000), (12, 442, 9), (12, 444, 40), (12, 446, 3), (12, 448, 20), (12, 459, 12), (12, 461, -20), (12, 463, -1), (12, 495, 29)]
def px_fw (e : Nat × Nat × Nat × Nat) : Cond := .fieldLink (px_Rn e.1) e.2.1 (px_Tf e.2.2.1 e.2.2.2).1 (px_Tf e.2.2.1 e.2.2.2).2.1 (px_Tf e.2.2.1 e.2.2.2).2.2.1
theorem px_i1 (i : Nat) {w : Cond} (h : tables_1_1[i]? = some w) (g : goodWord w = true) : w ∈ px_T := List.mem_filter.mpr ⟨List.mem_append_right _ (List.mem_append_left _ (List.mem_of_getElem? h)), g⟩
theorem px_i2 (i : Nat) {w : Cond} (h : tables_1_2[i]? = some w) (g : goodWord w = true) : w ∈ px_T := List.mem_filter.mpr ⟨List.mem_append_right _ (List.mem_append_right _ (List.mem_append_left _ (List.mem_of_getElem? h))), g⟩
theorem px_i3 (i : Nat) {w : Cond} (h : tables_1_3[i]? = some w) (g : goodWord w = true) : w ∈ px_T := List.mem_filter.mpr ⟨List.mem_append_right _ (List.mem_append_right _ (List.mem_append_right _ (List.mem_append_left _ (List.mem_of_getElem? h)))), g⟩
theorem px_i4 (i : Nat) {w : Cond} (h : tables_1_4[i]? = some w) (g : goodWord w = true) : w ∈ px_T := List.mem_filter.mpr ⟨List.mem_append_right _ (List.mem_append_right _ (List.mem_append_right _ (List.mem_append_right _ (List.mem_append_left _ (List.mem_of_getElem? h))))), g⟩
theorem px_i5 (i : Nat) {w : Cond} (h : tables_1_5[i]? = some w) (g : goodWord w = true) : w ∈ px_T := List.mem_filter.mpr ⟨List.mem_append_right _ (List.mem_append_right _ (List.mem_append_right _ (List.mem_append_right _ (List.mem_append_right _ (List.mem_append_left _ (List.mem_of_getElem? h)))))), g⟩
theorem px_i6 (i : Nat) {w : Cond} (h : tables_1_6[i]? = some w) (g : goodWord w = true) : w ∈ px_T := List.mem_filter.mpr ⟨List.mem_append_right _ (List.mem_append_right _ (List.mem_append_right _ (List.mem_append_right _ (List.mem_append_right _ (List.mem_append_right _ (List.mem_append_left _ (List.mem_of_getElem? h))))))), g⟩
theorem px_i7 (i : Nat) {w : Cond} (h : tables_1_7[i]? = some w) (g : goodWord w = true) : w ∈ px_T := List.mem_filter.mpr ⟨List.mem_append_right _ (List.mem_append_right _ (List.mem_append_right _ (List.mem_append_right _ (List.mem_append_right _ (List.mem_append_right _ (List.mem_append_right _ (List.mem_append_left _ (List.mem_of_getElem? h)))))))), g⟩
theorem px_i8 (i : Nat) {w : Cond} (h : tables_1_8[i]? = some w) (g : goodWord w = true) : w ∈ px_T := List.mem_filter.mpr ⟨List.mem_append_right _ (List.mem_append_right _ (List.mem_append_right _ (List.mem_append_right _ (List.mem_append_right _ (List.mem_append_right _ (List.mem_append_right _ (List.mem_append_right _ (List.mem_of_getElem? h)))))))), g⟩
set_option maxRecDepth 100000 in
theorem px_tf_in_0 : ∀ e ∈ (px_tf.drop 0).take 20, px_fw e ∈ px_T := List.forall_mem_cons.mpr ⟨px_i2 178 rfl rfl, List.forall_mem_cons.mpr ⟨px_i2 179 rfl rfl, List.forall_mem_cons.mpr ⟨px_i2 181 rfl rfl, List.forall_mem_cons.mpr ⟨px_i2 177 rfl rfl, List.forall_mem_cons.mpr ⟨px_i1 89 rfl rfl, List.forall_mem_cons.mpr ⟨px_i1 72 rfl rfl, List.forall_mem_cons.mpr ⟨px_i1 74 rfl rfl, List.forall_mem_cons.mpr ⟨px_i1 76 rfl rfl, List.forall_mem_cons.mpr ⟨px_i1 80 rfl rfl, List.forall_mem_cons.mpr ⟨px_i1 71 rfl rfl, List.forall_mem_cons.mpr ⟨px_i1 73 rfl rfl, List.forall_mem_cons.mpr ⟨px_i1 75 rfl rfl, List.forall_mem_cons.mpr ⟨px_i1 77 rfl rfl, List.forall_mem_cons.mpr ⟨px_i1 78 rfl rfl, List.forall_mem_cons.mpr ⟨px_i1 79 rfl rfl, List.forall_mem_cons.mpr ⟨px_i1 81 rfl rfl, List.forall_mem_cons.mpr ⟨px_i1 82 rfl rfl, List.forall_mem_cons.mpr ⟨px_i1 83 rfl rfl, List.forall_mem_cons.mpr ⟨px_i1 84 rfl rfl, List.forall_mem_cons.mpr ⟨px_i1 85 rfl rfl, fun _ h => absurd h List.not_mem_nil⟩⟩⟩⟩⟩⟩⟩⟩⟩⟩⟩⟩⟩⟩⟩⟩⟩⟩⟩⟩
set_option maxRecDepth 100000 in
theorem px_tf_in_1 : ∀ e ∈ (px_tf.drop 20).take 20, px_fw e ∈ px_T := List.forall_mem_cons.mpr ⟨px_i1 86 rfl rfl, List.forall_mem_cons.mpr ⟨px_i1 87 rfl rfl, List.forall_mem_cons.mpr ⟨px_i1 88 rfl rfl, List.forall_mem_cons.mpr ⟨px_i1 91 rfl rfl, List.forall_mem_cons.mpr ⟨px_i1 93 rfl rfl, List.forall_mem_cons.mpr ⟨px_i1 135 rfl rfl, List.forall_mem_cons.mpr ⟨px_i1 137 rfl rfl, List.forall_mem_cons.mpr ⟨px_i1 139 rfl rfl, List.forall_mem_cons.mpr ⟨px_i2 129 rfl rfl, List.forall_mem_cons.mpr ⟨px_i2 130 rfl rfl, List.forall_mem_cons.mpr ⟨px_i2 131 rfl rfl, List.forall_mem_cons.mpr ⟨px_i2 132 rfl rfl, List.forall_mem_cons.mpr ⟨px_i2 127 rfl rfl, List.forall_mem_cons.mpr ⟨px_i2 128 rfl rfl, List.forall_mem_cons.mpr ⟨px_i1 215 rfl rfl, List.forall_mem_cons.mpr ⟨px_i1 217 rfl rfl, List.forall_mem_cons.mpr ⟨px_i1 218 rfl rfl, List.forall_mem_cons.mpr ⟨px_i1 219 rfl rfl, List.forall_mem_cons.mpr ⟨px_i1 220 rfl rfl, List.forall_mem_cons.mpr ⟨px_i1 221 rfl rfl, fun _ h => absurd h List.not_mem_nil⟩⟩⟩⟩⟩⟩⟩⟩⟩⟩⟩⟩⟩⟩⟩⟩⟩⟩⟩⟩
set_option maxRecDepth 100000 in
theorem px_tf_in_2 : ∀ e ∈ (px_tf.drop 40).take 20, px_fw e ∈ px_T := List.forall_mem_cons.mpr ⟨px_i1 222 rfl rfl, List.forall_mem_cons.mpr ⟨px_i1 223 rfl rfl, List.forall_mem_cons.mpr ⟨px_i1 224 rfl rfl, List.forall_mem_cons.mpr ⟨px_i1 225 rfl rfl, List.forall_mem_cons.mpr ⟨px_i1 226 rfl rfl, List.forall_mem_cons.mpr ⟨px_i1 227 rfl rfl, List.forall_mem_cons.mpr ⟨px_i1 228 rfl rfl, List.forall_mem_cons.mpr ⟨px_i1 230 rfl rfl, List.forall_mem_cons.mpr ⟨px_i1 232 rfl rfl, List.forall_mem_cons.mpr ⟨px_i1 214 rfl rfl, List.forall_mem_cons.mpr ⟨px_i1 166 rfl rfl, List.forall_mem_cons.mpr ⟨px_i1 203 rfl rfl, List.forall_mem_cons.mpr ⟨px_i1 200 rfl rfl, List.forall_mem_cons.mpr ⟨px_i1 198 rfl rfl, List.forall_mem_cons.mpr ⟨px_i1 160 rfl rfl, List.forall_mem_cons.mpr ⟨px_i1 156 rfl rfl, List.forall_mem_cons.mpr ⟨px_i1 158 rfl rfl, List.forall_mem_cons.mpr ⟨px_i1 162 rfl rfl, List.forall_mem_cons.mpr ⟨px_i2 106 rfl rfl, List.forall_mem_cons.mpr ⟨px_i2 108 rfl rfl, fun _ h => absurd h List.not_mem_nil⟩⟩⟩⟩⟩⟩⟩⟩⟩⟩⟩⟩⟩⟩⟩⟩⟩⟩⟩⟩
set_option maxRecDepth 100000 in
theorem px_tf_in_3 : ∀ e ∈ (px_tf.drop 60).take 20, px_fw e ∈ px_T := List.forall_mem_cons.mpr ⟨px_i2 109 rfl rfl, List.forall_mem_cons.mpr ⟨px_i2 110 rfl rfl, List.forall_mem_cons.mpr ⟨px_i2 66 rfl rfl, List.forall_mem_cons.mpr ⟨px_i2 48 rfl rfl, List.forall_mem_cons.mpr ⟨px_i2 50 rfl rfl, List.forall_mem_cons.mpr ⟨px_i2 52 rfl rfl, List.forall_mem_cons.mpr ⟨px_i2 54 rfl rfl, List.forall_mem_cons.mpr ⟨px_i2 56 rfl rfl, List.forall_mem_cons.mpr ⟨px_i2 58 rfl rfl, List.forall_mem_cons.mpr ⟨px_i2 60 rfl rfl, List.forall_mem_cons.mpr ⟨px_i2 62 rfl rfl, List.forall_mem_cons.mpr ⟨px_i2 64 rfl rfl, List.forall_mem_cons.mpr ⟨px_i2 152 rfl rfl, List.forall_mem_cons.mpr ⟨px_i2 153 rfl rfl, List.forall_mem_cons.mpr ⟨px_i2 154 rfl rfl, List.forall_mem_cons.mpr ⟨px_i2 155 rfl rfl, List.forall_mem_cons.mpr ⟨px_i2 156 rfl rfl, List.forall_mem_cons.mpr ⟨px_i2 157 rfl rfl, List.forall_mem_cons.mpr ⟨px_i1 33 rfl rfl, List.forall_mem_cons.mpr ⟨px_i1 34 rfl rfl, fun _ h => absurd h List.not_mem_nil⟩⟩⟩⟩⟩⟩⟩⟩⟩⟩⟩⟩⟩⟩⟩⟩⟩⟩⟩⟩
set_option maxRecDepth 100000 in
theorem px_tf_in_4 : ∀ e ∈ (px_tf.drop 80).take 20, px_fw e ∈ px_T := List.forall_mem_cons.mpr ⟨px_i1 35 rfl rfl, List.forall_mem_cons.mpr ⟨px_i1 36 rfl rfl, List.forall_mem_cons.mpr ⟨px_i1 37 rfl rfl, List.forall_mem_cons.mpr ⟨px_i1 38 rfl rfl, List.forall_mem_cons.mpr ⟨px_i1 39 rfl rfl, List.forall_mem_cons.mpr ⟨px_i1 40 rfl rfl, List.forall_mem_cons.mpr ⟨px_i1 42 rfl rfl, List.forall_mem_cons.mpr ⟨px_i1 154 rfl rfl, List.forall_mem_cons.mpr ⟨px_i1 155 rfl rfl, List.forall_mem_cons.mpr ⟨px_i1 157 rfl rfl, List.forall_mem_cons.mpr ⟨px_i1 159 rfl rfl, List.forall_mem_cons.mpr ⟨px_i1 161 rfl rfl, List.forall_mem_cons.mpr ⟨px_i1 163 rfl rfl, List.forall_mem_cons.mpr ⟨px_i1 165 rfl rfl, List.forall_mem_cons.mpr ⟨px_i2 39 rfl rfl, List.forall_mem_cons.mpr ⟨px_i2 40 rfl rfl, List.forall_mem_cons.mpr ⟨px_i2 41 rfl rfl, List.forall_mem_cons.mpr ⟨px_i2 42 rfl rfl, List.forall_mem_cons.mpr ⟨px_i2 43 rfl rfl, List.forall_mem_cons.mpr ⟨px_i2 44 rfl rfl, fun _ h => absurd h List.not_mem_nil⟩⟩⟩⟩⟩⟩⟩⟩⟩⟩⟩⟩⟩⟩⟩⟩⟩⟩⟩⟩
set_option maxRecDepth 100000 in
theorem px_tf_in_5 : ∀ e ∈ (px_tf.drop 100).take 20, px_fw e ∈ px_T := List.forall_mem_cons.mpr ⟨px_i2 45 rfl rfl, List.forall_mem_cons.mpr ⟨px_i2 46 rfl rfl, List.forall_mem_cons.mpr ⟨px_i2 47 rfl rfl, List.forall_mem_cons.mpr ⟨px_i2 49 rfl rfl, List.forall_mem_cons.mpr ⟨px_i2 51 rfl rfl, List.forall_mem_cons.mpr ⟨px_i2 53 rfl rfl, List.forall_mem_cons.mpr ⟨px_i2 55 rfl rfl, List.forall_mem_cons.mpr ⟨px_i2 57 rfl rfl, List.forall_mem_cons.mpr ⟨px_i2 59 rfl rfl, List.forall_mem_cons.mpr ⟨px_i2 61 rfl rfl, List.forall_mem_cons.mpr ⟨px_i2 63 rfl rfl, List.forall_mem_cons.mpr ⟨px_i2 65 rfl rfl, List.forall_mem_cons.mpr ⟨px_i1 204 rfl rfl, List.forall_mem_cons.mpr ⟨px_i1 201 rfl rfl, List.forall_mem_cons.mpr ⟨px_i1 195 rfl rfl, List.forall_mem_cons.mpr ⟨px_i1 197 rfl rfl, List.forall_mem_cons.mpr ⟨px_i1 194 rfl rfl, List.forall_mem_cons.mpr ⟨px_i1 196 rfl rfl, List.forall_mem_cons.mpr ⟨px_i1 199 rfl rfl, List.forall_mem_cons.mpr ⟨px_i1 202 rfl rfl, fun _ h => absurd h List.not_mem_nil⟩⟩⟩⟩⟩⟩⟩⟩⟩⟩⟩⟩⟩⟩⟩⟩⟩⟩⟩⟩
set_option maxRecDepth 100000 in
theorem px_tf_in_6 : ∀ e ∈ (px_tf.drop 120).take 20, px_fw e ∈ px_T := List.forall_mem_cons.mpr ⟨px_i2 192 rfl rfl, List.forall_mem_cons.mpr ⟨px_i2 193 rfl rfl, List.forall_mem_cons.mpr ⟨px_i2 194 rfl rfl, List.forall_mem_cons.mpr ⟨px_i2 195 rfl rfl, List.forall_mem_cons.mpr ⟨px_i2 196 rfl rfl, List.forall_mem_cons.mpr ⟨px_i2 197 rfl rfl, List.forall_mem_cons.mpr ⟨px_i2 198 rfl rfl, List.forall_mem_cons.mpr ⟨px_i2 199 rfl rfl, List.forall_mem_cons.mpr ⟨px_i2 200 rfl rfl, List.forall_mem_cons.mpr ⟨px_i2 201 rfl rfl, List.forall_mem_cons.mpr ⟨px_i2 202 rfl rfl, List.forall_mem_cons.mpr ⟨px_i1 136 rfl rfl, List.forall_mem_cons.mpr ⟨px_i1 140 rfl rfl, List.forall_mem_cons.mpr ⟨px_i1 138 rfl rfl, List.forall_mem_cons.mpr ⟨px_i1 164 rfl rfl, List.forall_mem_cons.mpr ⟨px_i1 216 rfl rfl, List.forall_mem_cons.mpr ⟨px_i1 229 rfl rfl, List.forall_mem_cons.mpr ⟨px_i1 231 rfl rfl, List.forall_mem_cons.mpr ⟨px_i1 233 rfl rfl, List.forall_mem_cons.mpr ⟨px_i2 107 rfl rfl, fun _ h => absurd h List.not_mem_nil⟩⟩⟩⟩⟩⟩⟩⟩⟩⟩⟩⟩⟩⟩⟩⟩⟩⟩⟩⟩
set_option maxRecDepth 100000 in
theorem px_tf_in_7 : ∀ e ∈ (px_tf.drop 140).take 20, px_fw e ∈ px_T := List.forall_mem_cons.mpr ⟨px_i2 180 rfl rfl, List.forall_mem_cons.mpr ⟨px_i2 182 rfl rfl, List.forall_mem_cons.mpr ⟨px_i1 41 rfl rfl, List.forall_mem_cons.mpr ⟨px_i1 43 rfl rfl, List.forall_mem_cons.mpr ⟨px_i1 90 rfl rfl, List.forall_mem_cons.mpr ⟨px_i1 92 rfl rfl, List.forall_mem_cons.mpr ⟨px_i1 94 rfl rfl, List.forall_mem_cons.mpr ⟨px_i5 185 rfl rfl, List.forall_mem_cons.mpr ⟨px_i5 187 rfl rfl, List.forall_mem_cons.mpr ⟨px_i5 188 rfl rfl, List.forall_mem_cons.mpr ⟨px_i5 189 rfl rfl, List.forall_mem_cons.mpr ⟨px_i5 190 rfl rfl, List.forall_mem_cons.mpr ⟨px_i5 191 rfl rfl, List.forall_mem_cons.mpr ⟨px_i5 192 rfl rfl, List.forall_mem_cons.mpr ⟨px_i5 193 rfl rfl, List.forall_mem_cons.mpr ⟨px_i5 194 rfl rfl, List.forall_mem_cons.mpr ⟨px_i5 195 rfl rfl, List.forall_mem_cons.mpr ⟨px_i5 196 rfl rfl, List.forall_mem_cons.mpr ⟨px_i5 197 rfl rfl, List.forall_mem_cons.mpr ⟨px_i5 198 rfl rfl, fun _ h => absurd h List.not_mem_nil⟩⟩⟩⟩⟩⟩⟩⟩⟩⟩⟩⟩⟩⟩⟩⟩⟩⟩⟩⟩
set_option maxRecDepth 100000 in
theorem px_tf_in_8 : ∀ e ∈ (px_tf.drop 160).take 20, px_fw e ∈ px_T := List.forall_mem_cons.mpr ⟨px_i5 199 rfl rfl, List.forall_mem_cons.mpr ⟨px_i5 201 rfl rfl, List.forall_mem_cons.mpr ⟨px_i5 202 rfl rfl, List.forall_mem_cons.mpr ⟨px_i5 203 rfl rfl, List.forall_mem_cons.mpr ⟨px_i5 204 rfl rfl, List.forall_mem_cons.mpr ⟨px_i5 208 rfl rfl, List.forall_mem_cons.mpr ⟨px_i5 217 rfl rfl, List.forall_mem_cons.mpr ⟨px_i5 218 rfl rfl, List.forall_mem_cons.mpr ⟨px_i5 220 rfl rfl, List.forall_mem_cons.mpr ⟨px_i5 221 rfl rfl, List.forall_mem_cons.mpr ⟨px_i5 222 rfl rfl, List.forall_mem_cons.mpr ⟨px_i5 224 rfl rfl, List.forall_mem_cons.mpr ⟨px_i5 225 rfl rfl, List.forall_mem_cons.mpr ⟨px_i5 226 rfl rfl, List.forall_mem_cons.mpr ⟨px_i5 227 rfl rfl, List.forall_mem_cons.mpr ⟨px_i5 228 rfl rfl, List.forall_mem_cons.mpr ⟨px_i5 229 rfl rfl, List.forall_mem_cons.mpr ⟨px_i5 230 rfl rfl, List.forall_mem_cons.mpr ⟨px_i5 231 rfl rfl, List.forall_mem_cons.mpr ⟨px_i5 232 rfl rfl, fun _ h => absurd h List.not_mem_nil⟩⟩⟩⟩⟩⟩⟩⟩⟩⟩⟩⟩⟩⟩⟩⟩⟩⟩⟩⟩
set_option maxRecDepth 100000 in
theorem px_tf_in_9 : ∀ e ∈ (px_tf.drop 180).take 20, px_fw e ∈ px_T := List.forall_mem_cons.mpr ⟨px_i5 233 rfl rfl, List.forall_mem_cons.mpr ⟨px_i5 234 rfl rfl, List.forall_mem_cons.mpr ⟨px_i5 235 rfl rfl, List.forall_mem_cons.mpr ⟨px_i5 236 rfl rfl, List.forall_mem_cons.mpr ⟨px_i5 238 rfl rfl, List.forall_mem_cons.mpr ⟨px_i5 239 rfl rfl, List.forall_mem_cons.mpr ⟨px_i6 0 rfl rfl, List.forall_mem_cons.mpr ⟨px_i6 1 rfl rfl, List.forall_mem_cons.mpr ⟨px_i6 2 rfl rfl, List.forall_mem_cons.mpr ⟨px_i6 6 rfl rfl, List.forall_mem_cons.mpr ⟨px_i6 8 rfl rfl, List.forall_mem_cons.mpr ⟨px_i6 9 rfl rfl, List.forall_mem_cons.mpr ⟨px_i6 10 rfl rfl, List.forall_mem_cons.mpr ⟨px_i6 11 rfl rfl, List.forall_mem_cons.mpr ⟨px_i6 13 rfl rfl, List.forall_mem_cons.mpr ⟨px_i6 17 rfl rfl, List.forall_mem_cons.mpr ⟨px_i6 19 rfl rfl, List.forall_mem_cons.mpr ⟨px_i6 20 rfl rfl, List.forall_mem_cons.mpr ⟨px_i5 184 rfl rfl, List.forall_mem_cons.mpr ⟨px_i5 186 rfl rfl, fun _ h => absurd h List.not_mem_nil⟩⟩⟩⟩⟩⟩⟩⟩⟩⟩⟩⟩⟩⟩⟩⟩⟩⟩⟩⟩
set_option maxRecDepth 100000 in
theorem px_tf_in_10 : ∀ e ∈ (px_tf.drop 200).take 20, px_fw e ∈ px_T := List.forall_mem_cons.mpr ⟨px_i6 14 rfl rfl, List.forall_mem_cons.mpr ⟨px_i5 200 rfl rfl, List.forall_mem_cons.mpr ⟨px_i5 205 rfl rfl, List.forall_mem_cons.mpr ⟨px_i5 206 rfl rfl, List.forall_mem_cons.mpr ⟨px_i5 207 rfl rfl, List.forall_mem_cons.mpr ⟨px_i5 209 rfl rfl, List.forall_mem_cons.mpr ⟨px_i5 211 rfl rfl, List.forall_mem_cons.mpr ⟨px_i5 210 rfl rfl, List.forall_mem_cons.mpr ⟨px_i5 212 rfl rfl, List.forall_mem_cons.mpr ⟨px_i5 213 rfl rfl, List.forall_mem_cons.mpr ⟨px_i5 214 rfl rfl, List.forall_mem_cons.mpr ⟨px_i5 215 rfl rfl, List.forall_mem_cons.mpr ⟨px_i5 216 rfl rfl, List.forall_mem_cons.mpr ⟨px_i5 219 rfl rfl, List.forall_mem_cons.mpr ⟨px_i5 223 rfl rfl, List.forall_mem_cons.mpr ⟨px_i6 15 rfl rfl, List.forall_mem_cons.mpr ⟨px_i6 16 rfl rfl, List.forall_mem_cons.mpr ⟨px_i5 237 rfl rfl, List.forall_mem_cons.mpr ⟨px_i6 18 rfl rfl, List.forall_mem_cons.mpr ⟨px_i6 3 rfl rfl, fun _ h => absurd h List.not_mem_nil⟩⟩⟩⟩⟩⟩⟩⟩⟩⟩⟩⟩⟩⟩⟩⟩⟩⟩⟩⟩
set_option maxRecDepth 100000 in
theorem px_tf_in_11 : ∀ e ∈ (px_tf.drop 220).take 20, px_fw e ∈ px_T := List.forall_mem_cons.mpr ⟨px_i6 4 rfl rfl, List.forall_mem_cons.mpr ⟨px_i6 5 rfl rfl, List.forall_mem_cons.mpr ⟨px_i6 7 rfl rfl, List.forall_mem_cons.mpr ⟨px_i6 12 rfl rfl, fun _ h => absurd h List.not_mem_nil⟩⟩⟩⟩
theorem px_dt {α : Type} {P : α → Prop} (l : List α) (i : Nat) (h : ∀ e ∈ (l.drop i).take 20, P e) (h2 : ∀ e ∈ l.drop (i + 20), P e) : ∀ e ∈ l.drop i, P e := by
  intro e he
  rw [← List.take_append_drop 20 (l.drop i), List.mem_append, List.drop_drop] at he
  exact he.elim (h e) (h2 e)
set_option maxRecDepth 100000 in
theorem px_tf_in : ∀ e ∈ px_tf, px_fw e ∈ px_T := (px_dt _ 0 px_tf_in_0 (px_dt _ 20 px_tf_in_1 (px_dt _ 40 px_tf_in_2 (px_dt _ 60 px_tf_in_3 (px_dt _ 80 px_tf_in_4 (px_dt _ 100 px_tf_in_5 (px_dt _ 120 px_tf_in_6 (px_dt _ 140 px_tf_in_7 (px_dt _ 160 px_tf_in_8 (px_dt _ 180 px_tf_in_9 (px_dt _ 200 px_tf_in_10 (px_dt _ 220 px_tf_in_11 (fun e he => absurd he (by rw [List.drop_eq_nil_of_le (Nat.le_of_ble_eq_true rfl)]; exact List.not_mem_nil))))))))))))))
theorem px_tf_lt : ∀ e ∈ px_tf, e.2.2.1 < 13 ∧ e.2.2.2 < px_Nf e.2.2.1 := by decide +kernel
set_option maxRecDepth 100000 in
theorem px_tc_in_0 : ∀ e ∈ (px_tc.drop 0).take 20, Cond.constant (px_Rn e.1) e.2.1 e.2.2 ∈ px_T := List.forall_mem_cons.mpr ⟨px_i3 8 rfl rfl, List.forall_mem_cons.mpr ⟨px_i3 9 rfl rfl, List.forall_mem_cons.mpr ⟨px_i3 53 rfl rfl, List.forall_mem_cons.mpr ⟨px_i3 147 rfl rfl, List.forall_mem_cons.mpr ⟨px_i5 146 rfl rfl, List.forall_mem_cons.mpr ⟨px_i3 82 rfl rfl, List.forall_mem_cons.mpr ⟨px_i1 134 rfl rfl, List.forall_mem_cons.mpr ⟨px_i3 162 rfl rfl, List.forall_mem_cons.mpr ⟨px_i5 7 rfl rfl, List.forall_mem_cons.mpr ⟨px_i4 85 rfl rfl, List.forall_mem_cons.mpr ⟨px_i4 223 rfl rfl, List.forall_mem_cons.mpr ⟨px_i3 59 rfl rfl, List.forall_mem_cons.mpr ⟨px_i3 222 rfl rfl, List.forall_mem_cons.mpr ⟨px_i4 171 rfl rfl, List.forall_mem_cons.mpr ⟨px_i6 231 rfl rfl, List.forall_mem_cons.mpr ⟨px_i7 95 rfl rfl, List.forall_mem_cons.mpr ⟨px_i7 132 rfl rfl, fun _ h => absurd h List.not_mem_nil⟩⟩⟩⟩⟩⟩⟩⟩⟩⟩⟩⟩⟩⟩⟩⟩⟩
set_option maxRecDepth 100000 in
theorem px_tc_in : ∀ e ∈ px_tc, Cond.constant (px_Rn e.1) e.2.1 e.2.2 ∈ px_T := (px_dt _ 0 px_tc_in_0 (fun e he => absurd he (by rw [List.drop_eq_nil_of_le (Nat.le_of_ble_eq_true rfl)]; exact List.not_mem_nil)))
set_option maxRecDepth 100000 in
theorem px_tl_in_0 : ∀ e ∈ (px_tl.drop 0).take 20, Cond.constantLong (px_Rn e.1) e.2.1 e.2.2 ∈ px_T := List.forall_mem_cons.mpr ⟨px_i5 52 rfl rfl, List.forall_mem_cons.mpr ⟨px_i5 147 rfl rfl, List.forall_mem_cons.mpr ⟨px_i5 159 rfl rfl, List.forall_mem_cons.mpr ⟨px_i5 160 rfl rfl, List.forall_mem_cons.mpr ⟨px_i5 87 rfl rfl, List.forall_mem_cons.mpr ⟨px_i3 32 rfl rfl, List.forall_mem_cons.mpr ⟨px_i4 204 rfl rfl, List.forall_mem_cons.mpr ⟨px_i4 205 rfl rfl, List.forall_mem_cons.mpr ⟨px_i4 206 rfl rfl, List.forall_mem_cons.mpr ⟨px_i4 207 rfl rfl, List.forall_mem_cons.mpr ⟨px_i4 218 rfl rfl, List.forall_mem_cons.mpr ⟨px_i6 195 rfl rfl, List.forall_mem_cons.mpr ⟨px_i6 209 rfl rfl, List.forall_mem_cons.mpr ⟨px_i6 180 rfl rfl, List.forall_mem_cons.mpr ⟨px_i6 200 rfl rfl, List.forall_mem_cons.mpr ⟨px_i6 201 rfl rfl, List.forall_mem_cons.mpr ⟨px_i6 218 rfl rfl, List.forall_mem_cons.mpr ⟨px_i7 9 rfl rfl, List.forall_mem_cons.mpr ⟨px_i7 10 rfl rfl, List.forall_mem_cons.mpr ⟨px_i7 11 rfl rfl, fun _ h => absurd h List.not_mem_nil⟩⟩⟩⟩⟩⟩⟩⟩⟩⟩⟩⟩⟩⟩⟩⟩⟩⟩⟩⟩
set_option maxRecDepth 100000 in
theorem px_tl_in_1 : ∀ e ∈ (px_tl.drop 20).take 20, Cond.constantLong (px_Rn e.1) e.2.1 e.2.2 ∈ px_T := List.forall_mem_cons.mpr ⟨px_i7 24 rfl rfl, List.forall_mem_cons.mpr ⟨px_i7 41 rfl rfl, List.forall_mem_cons.mpr ⟨px_i7 46 rfl rfl, List.forall_mem_cons.mpr ⟨px_i7 75 rfl rfl, List.forall_mem_cons.mpr ⟨px_i7 76 rfl rfl, List.forall_mem_cons.mpr ⟨px_i7 77 rfl rfl, List.forall_mem_cons.mpr ⟨px_i7 78 rfl rfl, List.forall_mem_cons.mpr ⟨px_i7 84 rfl rfl, List.forall_mem_cons.mpr ⟨px_i7 85 rfl rfl, List.forall_mem_cons.mpr ⟨px_i7 86 rfl rfl, List.forall_mem_cons.mpr ⟨px_i7 87 rfl rfl, List.forall_mem_cons.mpr ⟨px_i7 88 rfl rfl, List.forall_mem_cons.mpr ⟨px_i7 89 rfl rfl, List.forall_mem_cons.mpr ⟨px_i7 90 rfl rfl, List.forall_mem_cons.mpr ⟨px_i7 91 rfl rfl, List.forall_mem_cons.mpr ⟨px_i7 92 rfl rfl, List.forall_mem_cons.mpr ⟨px_i7 79 rfl rfl, List.forall_mem_cons.mpr ⟨px_i7 80 rfl rfl, List.forall_mem_cons.mpr ⟨px_i7 93 rfl rfl, List.forall_mem_cons.mpr ⟨px_i7 94 rfl rfl, fun _ h => absurd h List.not_mem_nil⟩⟩⟩⟩⟩⟩⟩⟩⟩⟩⟩⟩⟩⟩⟩⟩⟩⟩⟩⟩
set_option maxRecDepth 100000 in
theorem px_tl_in_2 : ∀ e ∈ (px_tl.drop 40).take 20, Cond.constantLong (px_Rn e.1) e.2.1 e.2.2 ∈ px_T := List.forall_mem_cons.mpr ⟨px_i7 67 rfl rfl, List.forall_mem_cons.mpr ⟨px_i7 166 rfl rfl, List.forall_mem_cons.mpr ⟨px_i7 173 rfl rfl, List.forall_mem_cons.mpr ⟨px_i7 178 rfl rfl, List.forall_mem_cons.mpr ⟨px_i7 179 rfl rfl, List.forall_mem_cons.mpr ⟨px_i7 149 rfl rfl, List.forall_mem_cons.mpr ⟨px_i7 150 rfl rfl, List.forall_mem_cons.mpr ⟨px_i7 191 rfl rfl, List.forall_mem_cons.mpr ⟨px_i7 200 rfl rfl, List.forall_mem_cons.mpr ⟨px_i7 218 rfl rfl, List.forall_mem_cons.mpr ⟨px_i7 219 rfl rfl, List.forall_mem_cons.mpr ⟨px_i7 220 rfl rfl, List.forall_mem_cons.mpr ⟨px_i7 221 rfl rfl, List.forall_mem_cons.mpr ⟨px_i7 226 rfl rfl, List.forall_mem_cons.mpr ⟨px_i7 227 rfl rfl, List.forall_mem_cons.mpr ⟨px_i7 228 rfl rfl, List.forall_mem_cons.mpr ⟨px_i8 44 rfl rfl, fun _ h => absurd h List.not_mem_nil⟩⟩⟩⟩⟩⟩⟩⟩⟩⟩⟩⟩⟩⟩⟩⟩⟩
set_option maxRecDepth 100000 in
theorem px_tl_in : ∀ e ∈ px_tl, Cond.constantLong (px_Rn e.1) e.2.1 e.2.2 ∈ px_T := (px_dt _ 0 px_tl_in_0 (px_dt _ 20 px_tl_in_1 (px_dt _ 40 px_tl_in_2 (fun e he => absurd he (by rw [List.drop_eq_nil_of_le (Nat.le_of_ble_eq_true rfl)]; exact List.not_mem_nil)))))
theorem px_li_0 : ∀ k, k < 4 → u_lay RX0 TX0 k ∈ px_T := fun k h => match k, h with
  | 0, _ => px_i2 183 rfl rfl
  | 1, _ => px_i2 185 rfl rfl
  | 2, _ => px_i2 187 rfl rfl
  | 3, _ => px_i2 189 rfl rfl
  | k + 4, h => absurd h (by omega)
theorem px_li_1 : ∀ k, k < 16 → u_lay RX1 TX1 k ∈ px_T := fun k h => match k, h with
  | 0, _ => px_i1 95 rfl rfl
  | 1, _ => px_i1 97 rfl rfl
  | 2, _ => px_i1 99 rfl rfl
  | 3, _ => px_i1 101 rfl rfl
  | 4, _ => px_i1 103 rfl rfl
  | 5, _ => px_i1 105 rfl rfl
  | 6, _ => px_i1 107 rfl rfl
  | 7, _ => px_i1 109 rfl rfl
  | 8, _ => px_i1 111 rfl rfl
  | 9, _ => px_i1 113 rfl rfl
  | 10, _ => px_i1 115 rfl rfl
  | 11, _ => px_i1 117 rfl rfl
  | 12, _ => px_i1 119 rfl rfl
  | 13, _ => px_i1 121 rfl rfl
  | 14, _ => px_i1 123 rfl rfl
  | 15, _ => px_i1 125 rfl rfl
  | k + 16, h => absurd h (by omega)
theorem px_li_2 : ∀ k, k < 3 → u_lay RX2 TX2 k ∈ px_T := fun k h => match k, h with
  | 0, _ => px_i1 141 rfl rfl
  | 1, _ => px_i1 143 rfl rfl
  | 2, _ => px_i1 145 rfl rfl
  | k + 3, h => absurd h (by omega)
theorem px_li_3 : ∀ k, k < 6 → u_lay RX3 TX3 k ∈ px_T := fun k h => match k, h with
  | 0, _ => px_i2 133 rfl rfl
  | 1, _ => px_i2 135 rfl rfl
  | 2, _ => px_i2 137 rfl rfl
  | 3, _ => px_i2 139 rfl rfl
  | 4, _ => px_i2 141 rfl rfl
  | 5, _ => px_i2 143 rfl rfl
  | k + 6, h => absurd h (by omega)
theorem px_li_4 : ∀ k, k < 16 → u_lay RX4 TX4 k ∈ px_T := fun k h => match k, h with
  | 0, _ => px_i1 234 rfl rfl
  | 1, _ => px_i1 236 rfl rfl
  | 2, _ => px_i1 238 rfl rfl
  | 3, _ => px_i2 0 rfl rfl
  | 4, _ => px_i2 2 rfl rfl
  | 5, _ => px_i2 4 rfl rfl
  | 6, _ => px_i2 6 rfl rfl
  | 7, _ => px_i2 8 rfl rfl
  | 8, _ => px_i2 10 rfl rfl
  | 9, _ => px_i2 12 rfl rfl
  | 10, _ => px_i2 14 rfl rfl
  | 11, _ => px_i2 16 rfl rfl
  | 12, _ => px_i2 18 rfl rfl
  | 13, _ => px_i2 20 rfl rfl
  | 14, _ => px_i2 22 rfl rfl
  | 15, _ => px_i2 24 rfl rfl
  | k + 16, h => absurd h (by omega)
theorem px_li_5 : ∀ k, k < 4 → u_lay RX5 TX5 k ∈ px_T := fun k h => match k, h with
  | 0, _ => px_i2 111 rfl rfl
  | 1, _ => px_i2 113 rfl rfl
  | 2, _ => px_i2 115 rfl rfl
  | 3, _ => px_i2 117 rfl rfl
  | k + 4, h => absurd h (by omega)
theorem px_li_6 : ∀ k, k < 6 → u_lay RX6 TX6 k ∈ px_T := fun k h => match k, h with
  | 0, _ => px_i2 158 rfl rfl
  | 1, _ => px_i2 160 rfl rfl
  | 2, _ => px_i2 162 rfl rfl
  | 3, _ => px_i2 164 rfl rfl
  | 4, _ => px_i2 166 rfl rfl
  | 5, _ => px_i2 168 rfl rfl
  | k + 6, h => absurd h (by omega)
theorem px_li_7 : ∀ k, k < 9 → u_lay RX7 TX7 k ∈ px_T := fun k h => match k, h with
  | 0, _ => px_i1 44 rfl rfl
  | 1, _ => px_i1 46 rfl rfl
  | 2, _ => px_i1 48 rfl rfl
  | 3, _ => px_i1 50 rfl rfl
  | 4, _ => px_i1 52 rfl rfl
  | 5, _ => px_i1 54 rfl rfl
  | 6, _ => px_i1 56 rfl rfl
  | 7, _ => px_i1 58 rfl rfl
  | 8, _ => px_i1 60 rfl rfl
  | k + 9, h => absurd h (by omega)
theorem px_li_8 : ∀ k, k < 7 → u_lay RX8 TX8 k ∈ px_T := fun k h => match k, h with
  | 0, _ => px_i1 167 rfl rfl
  | 1, _ => px_i1 169 rfl rfl
  | 2, _ => px_i1 171 rfl rfl
  | 3, _ => px_i1 173 rfl rfl
  | 4, _ => px_i1 175 rfl rfl
  | 5, _ => px_i1 177 rfl rfl
  | 6, _ => px_i1 179 rfl rfl
  | k + 7, h => absurd h (by omega)
theorem px_li_9 : ∀ k, k < 18 → u_lay RX9 TX9 k ∈ px_T := fun k h => match k, h with
  | 0, _ => px_i2 67 rfl rfl
  | 1, _ => px_i2 69 rfl rfl
  | 2, _ => px_i2 71 rfl rfl
  | 3, _ => px_i2 73 rfl rfl
  | 4, _ => px_i2 75 rfl rfl
  | 5, _ => px_i2 77 rfl rfl
  | 6, _ => px_i2 79 rfl rfl
  | 7, _ => px_i2 81 rfl rfl
  | 8, _ => px_i2 83 rfl rfl
  | 9, _ => px_i2 85 rfl rfl
  | 10, _ => px_i2 87 rfl rfl
  | 11, _ => px_i2 89 rfl rfl
  | 12, _ => px_i2 91 rfl rfl
  | 13, _ => px_i2 93 rfl rfl
  | 14, _ => px_i2 95 rfl rfl
  | 15, _ => px_i2 97 rfl rfl
  | 16, _ => px_i2 99 rfl rfl
  | 17, _ => px_i2 101 rfl rfl
  | k + 18, h => absurd h (by omega)
theorem px_li_10 : ∀ k, k < 4 → u_lay RX10 TX10 k ∈ px_T := fun k h => match k, h with
  | 0, _ => px_i1 205 rfl rfl
  | 1, _ => px_i1 207 rfl rfl
  | 2, _ => px_i1 209 rfl rfl
  | 3, _ => px_i1 211 rfl rfl
  | k + 4, h => absurd h (by omega)
theorem px_li_11 : ∀ k, k < 11 → u_lay RX11 TX11 k ∈ px_T := fun k h => match k, h with
  | 0, _ => px_i2 203 rfl rfl
  | 1, _ => px_i2 205 rfl rfl
  | 2, _ => px_i2 207 rfl rfl
  | 3, _ => px_i2 209 rfl rfl
  | 4, _ => px_i2 211 rfl rfl
  | 5, _ => px_i2 213 rfl rfl
  | 6, _ => px_i2 215 rfl rfl
  | 7, _ => px_i2 217 rfl rfl
  | 8, _ => px_i2 219 rfl rfl
  | 9, _ => px_i2 221 rfl rfl
  | 10, _ => px_i2 223 rfl rfl
  | k + 11, h => absurd h (by omega)
theorem px_li_12 : ∀ k, k < 77 → u_lay RX12 TX12 k ∈ px_T := fun k h => match k, h with
  | 0, _ => px_i6 21 rfl rfl
  | 1, _ => px_i6 23 rfl rfl
  | 2, _ => px_i6 25 rfl rfl
  | 3, _ => px_i6 27 rfl rfl
  | 4, _ => px_i6 29 rfl rfl
  | 5, _ => px_i6 31 rfl rfl
  | 6, _ => px_i6 33 rfl rfl
  | 7, _ => px_i6 35 rfl rfl
  | 8, _ => px_i6 37 rfl rfl
  | 9, _ => px_i6 39 rfl rfl
  | 10, _ => px_i6 41 rfl rfl
  | 11, _ => px_i6 43 rfl rfl
  | 12, _ => px_i6 45 rfl rfl
  | 13, _ => px_i6 47 rfl rfl
  | 14, _ => px_i6 49 rfl rfl
  | 15, _ => px_i6 51 rfl rfl
  | 16, _ => px_i6 53 rfl rfl
  | 17, _ => px_i6 55 rfl rfl
  | 18, _ => px_i6 57 rfl rfl
  | 19, _ => px_i6 59 rfl rfl
  | 20, _ => px_i6 61 rfl rfl
  | 21, _ => px_i6 63 rfl rfl
  | 22, _ => px_i6 65 rfl rfl
  | 23, _ => px_i6 67 rfl rfl
  | 24, _ => px_i6 69 rfl rfl
  | 25, _ => px_i6 71 rfl rfl
  | 26, _ => px_i6 73 rfl rfl
  | 27, _ => px_i6 75 rfl rfl
  | 28, _ => px_i6 77 rfl rfl
  | 29, _ => px_i6 79 rfl rfl
  | 30, _ => px_i6 81 rfl rfl
  | 31, _ => px_i6 83 rfl rfl
  | 32, _ => px_i6 85 rfl rfl
  | 33, _ => px_i6 87 rfl rfl
  | 34, _ => px_i6 89 rfl rfl
  | 35, _ => px_i6 91 rfl rfl
  | 36, _ => px_i6 93 rfl rfl
  | 37, _ => px_i6 95 rfl rfl
  | 38, _ => px_i6 97 rfl rfl
  | 39, _ => px_i6 99 rfl rfl
  | 40, _ => px_i6 101 rfl rfl
  | 41, _ => px_i6 103 rfl rfl
  | 42, _ => px_i6 105 rfl rfl
  | 43, _ => px_i6 107 rfl rfl
  | 44, _ => px_i6 109 rfl rfl
  | 45, _ => px_i6 111 rfl rfl
  | 46, _ => px_i6 113 rfl rfl
  | 47, _ => px_i6 115 rfl rfl
  | 48, _ => px_i6 117 rfl rfl
  | 49, _ => px_i6 119 rfl rfl
  | 50, _ => px_i6 121 rfl rfl
  | 51, _ => px_i6 123 rfl rfl
  | 52, _ => px_i6 125 rfl rfl
  | 53, _ => px_i6 127 rfl rfl
  | 54, _ => px_i6 129 rfl rfl
  | 55, _ => px_i6 131 rfl rfl
  | 56, _ => px_i6 133 rfl rfl
  | 57, _ => px_i6 135 rfl rfl
  | 58, _ => px_i6 137 rfl rfl
  | 59, _ => px_i6 139 rfl rfl
  | 60, _ => px_i6 141 rfl rfl
  | 61, _ => px_i6 143 rfl rfl
  | 62, _ => px_i6 145 rfl rfl
  | 63, _ => px_i6 147 rfl rfl
  | 64, _ => px_i6 149 rfl rfl
  | 65, _ => px_i6 151 rfl rfl
  | 66, _ => px_i6 153 rfl rfl
  | 67, _ => px_i6 155 rfl rfl
  | 68, _ => px_i6 157 rfl rfl
  | 69, _ => px_i6 159 rfl rfl
  | 70, _ => px_i6 161 rfl rfl
  | 71, _ => px_i6 163 rfl rfl
  | 72, _ => px_i6 165 rfl rfl
  | 73, _ => px_i6 167 rfl rfl
  | 74, _ => px_i6 169 rfl rfl
  | 75, _ => px_i6 171 rfl rfl
  | 76, _ => px_i6 173 rfl rfl
  | k + 77, h => absurd h (by omega)
theorem px_cl_in : ∀ ci, ci < 13 → ∀ w ∈ u_ws (px_Rn ci) (px_Tf ci) (px_Nf ci), w ∈ px_T := by
  intro ci h w hw
  obtain ⟨k, hk, rfl⟩ := List.mem_map.mp hw
  have hk := List.mem_range.mp hk
  match ci, h with
  | 0, _ => exact px_li_0 k hk
  | 1, _ => exact px_li_1 k hk
  | 2, _ => exact px_li_2 k hk
  | 3, _ => exact px_li_3 k hk
  | 4, _ => exact px_li_4 k hk
  | 5, _ => exact px_li_5 k hk
  | 6, _ => exact px_li_6 k hk
  | 7, _ => exact px_li_7 k hk
  | 8, _ => exact px_li_8 k hk
  | 9, _ => exact px_li_9 k hk
  | 10, _ => exact px_li_10 k hk
  | 11, _ => exact px_li_11 k hk
  | 12, _ => exact px_li_12 k hk
  | n + 13, h => exact absurd h (by omega)
theorem px_cl_ty : ∀ ci, ci < 13 → ∀ k, k < px_Nf ci → parseFieldDescriptor (px_Tf ci k).2.2.1 = some (px_ty ci k) := by decide +kernel
theorem px_cl_nm : ∀ ci, ci < 13 → ∀ a, a < px_Nf ci → ∀ b, b < px_Nf ci → a ≠ b → (px_Tf ci a).2.1 ≠ (px_Tf ci b).2.1 := by decide +kernel
theorem px_cl_at : ∀ ci, ci < 13 → vwCl[ci]? = some (px_Rn ci, px_Tf ci, px_Nf ci) := by
  intro ci h
  match ci, h with
  | 0, _ => rfl
  | 1, _ => rfl
  | 2, _ => rfl
  | 3, _ => rfl
  | 4, _ => rfl
  | 5, _ => rfl
  | 6, _ => rfl
  | 7, _ => rfl
  | 8, _ => rfl
  | 9, _ => rfl
  | 10, _ => rfl
  | 11, _ => rfl
  | 12, _ => rfl
  | n + 13, h => exact absurd h (by omega)
def px_tn : List (String × Nat × Nat) := [("TunnelBook", 7, 7), ("TunnelBook", 16, 1), ("TunnelBook", 26, 2), ("TunnelBook", 33, 8), ("TunnelBook", 40, 4), ("TunnelBook", 49, 5), ("TunnelBook", 56, 3), ("TunnelBook", 65, 6), ("TunnelBook", 72, 0), ("TunnelBook$Reader", 9, 10), ("TunnelBook$Runs", 9, 9), ("TunnelBook$Runs", 18, 10), ("TunnelBookLaw", 7, 11), ("TunnelBookLaw", 10, 12)]
set_option maxRecDepth 100000 in
theorem px_tn_in_0 : ∀ e ∈ (px_tn.drop 0).take 20, Cond.classLink e.1 e.2.1 (px_Rn e.2.2) ∈ px_T := List.forall_mem_cons.mpr ⟨px_i1 27 rfl rfl, List.forall_mem_cons.mpr ⟨px_i1 65 rfl rfl, List.forall_mem_cons.mpr ⟨px_i1 128 rfl rfl, List.forall_mem_cons.mpr ⟨px_i1 148 rfl rfl, List.forall_mem_cons.mpr ⟨px_i1 182 rfl rfl, List.forall_mem_cons.mpr ⟨px_i2 27 rfl rfl, List.forall_mem_cons.mpr ⟨px_i2 121 rfl rfl, List.forall_mem_cons.mpr ⟨px_i2 146 rfl rfl, List.forall_mem_cons.mpr ⟨px_i2 171 rfl rfl, List.forall_mem_cons.mpr ⟨px_i1 188 rfl rfl, List.forall_mem_cons.mpr ⟨px_i2 33 rfl rfl, List.forall_mem_cons.mpr ⟨px_i2 104 rfl rfl, List.forall_mem_cons.mpr ⟨px_i1 19 rfl rfl, List.forall_mem_cons.mpr ⟨px_i5 178 rfl rfl, fun _ h => absurd h List.not_mem_nil⟩⟩⟩⟩⟩⟩⟩⟩⟩⟩⟩⟩⟩⟩
set_option maxRecDepth 100000 in
theorem px_tn_in : ∀ e ∈ px_tn, Cond.classLink e.1 e.2.1 (px_Rn e.2.2) ∈ px_T := (px_dt _ 0 px_tn_in_0 (fun e he => absurd he (by rw [List.drop_eq_nil_of_le (Nat.le_of_ble_eq_true rfl)]; exact List.not_mem_nil)))
theorem px_tn_lt : ∀ e ∈ px_tn, e.2.2 < 13 := by decide +kernel
theorem px_in_ok : ∀ ci, ci < 13 → Cond.instantiable (px_Rn ci) (px_Nf ci) ∈ px_T ∧ Cond.initialized (px_Rn ci) ∈ px_T := by
  intro ci h
  match ci, h with
  | 0, _ => exact ⟨px_i2 172 rfl rfl, px_i1 12 rfl rfl⟩
  | 1, _ => exact ⟨px_i1 66 rfl rfl, px_i1 3 rfl rfl⟩
  | 2, _ => exact ⟨px_i1 129 rfl rfl, px_i1 4 rfl rfl⟩
  | 3, _ => exact ⟨px_i2 122 rfl rfl, px_i1 10 rfl rfl⟩
  | 4, _ => exact ⟨px_i1 183 rfl rfl, px_i1 6 rfl rfl⟩
  | 5, _ => exact ⟨px_i2 28 rfl rfl, px_i1 8 rfl rfl⟩
  | 6, _ => exact ⟨px_i2 147 rfl rfl, px_i1 11 rfl rfl⟩
  | 7, _ => exact ⟨px_i1 28 rfl rfl, px_i1 2 rfl rfl⟩
  | 8, _ => exact ⟨px_i1 149 rfl rfl, px_i1 5 rfl rfl⟩
  | 9, _ => exact ⟨px_i2 34 rfl rfl, px_i1 9 rfl rfl⟩
  | 10, _ => exact ⟨px_i1 189 rfl rfl, px_i1 7 rfl rfl⟩
  | 11, _ => exact ⟨px_i1 20 rfl rfl, px_i1 1 rfl rfl⟩
  | 12, _ => exact ⟨px_i5 179 rfl rfl, px_i1 13 rfl rfl⟩
  | n + 13, h => exact absurd h (by omega)
theorem px_ac_int : Cond.arrayClass .int ∈ px_T := px_i1 63 rfl rfl
theorem px_ac_long : Cond.arrayClass .long ∈ px_T := px_i1 64 rfl rfl
theorem px_ac_byte : Cond.arrayClass .byte ∈ px_T := px_i4 131 rfl rfl
theorem px_ac_boolean : Cond.arrayClass .boolean ∈ px_T := px_i2 120 rfl rfl
def px_nest : List (String × Nat × MethodName × String) := [(RX11, 9, yX7_init, "TunnelBook"), (RX11, 18, yX1_init, "TunnelBook"), (RX11, 28, yX2_init, "TunnelBook"), (RX11, 35, yX8_init, "TunnelBook"), (RX11, 51, yX5_init, "TunnelBook"), (RX11, 67, yX6_init, "TunnelBook"), (RX0, 26, yX11_within, "TunnelBook"), (RX1, 62, yX11_ordered, "TunnelBook"), (RX1, 66, yX11_within, "TunnelBook"), (RX2, 22, yX11_within, "TunnelBook"), (RX2, 27, yX11_ordered, "TunnelBook"), (RX3, 32, yX11_isAxis, "TunnelBook"), (RX4, 11, yX10_init, "TunnelBook"), (RX4, 158, yX11_within, "TunnelBook"), (RX5, 11, yX9_init, "TunnelBook"), (RX5, 39, yX10_init, "TunnelBook"), (RX5, 82, yX11_within, "TunnelBook"), (RX8, 51, yX11_within, "TunnelBook"), (RX9, 78, yX11_within, "TunnelBook")]
