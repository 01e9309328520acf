/-! the words that every method is given; what the numbers 32.. stand for; which instruction links what -/
def px_T : List Cond := lw_tbl.filter goodWord
abbrev px_Rn (ci : Nat) : String := (vwCl.getD ci (RX0, TX0, 4)).1
abbrev px_Tf (ci : Nat) : u_T := (vwCl.getD ci (RX0, TX0, 4)).2.1
abbrev px_Nf (ci : Nat) : Nat := (vwCl.getD ci (RX0, TX0, 4)).2.2
def px_ty (ci : Nat) : Nat → FieldType := [tyX0, tyX1, tyX2, tyX3, tyX4, tyX5, tyX6, tyX7, tyX8, tyX9, tyX10, tyX11, tyX12].getD ci tyX0
def px_fc : FieldType → Nat
  | .int => 0
  | .long => 1
  | .boolean => 3
  | _ => 2
def px_ft (ci k : Nat) : Nat := px_fc (px_ty ci k)
def px_nth {α : Type} : List α → Nat → α → α
  | [], _, d => d
  | a :: _, 0, _ => a
  | _ :: l, k + 1, d => px_nth l k d
def px_shL : List (List (Nat × Nat × Int32)) := [
  [(0, 0, 0), (0, 0, 0), (0, 0, 0), (0, 0, 0), (0, 0, 0), (0, 0, 0), (0, 0, 0), (0, 0, 0), (0, 0, 0), (0, 0, 0), (0, 0, 0), (0, 0, 0), (0, 0, 0), (0, 0, 0), (0, 0, 0), (0, 0, 0)],
  [(0, 0, 0), (0, 0, 0), (0, 0, 0), (0, 0, 0), (0, 0, 0), (0, 0, 0), (0, 0, 0), (0, 0, 0), (0, 0, 0), (0, 0, 0), (0, 0, 0), (0, 0, 0), (0, 0, 0), (0, 0, 0), (0, 0, 0), (0, 0, 0)],
  [(11, 11, 11), (7, 9, 9), (20, 80, 80), (20, 80, 80), (20, 80, 80), (20, 80, 80), (20, 80, 80), (20, 80, 80), (21, 24, 24), (1, 16, 16), (20, 20, 20), (20, 20, 20), (20, 20, 20), (20, 20, 20), (20, 20, 20), (20, 20, 20)],
  [(20, 20, 20), (20, 20, 20), (20, 20, 20), (20, 20, 20), (20, 30, 30), (20, 30, 30), (20, 30, 30), (1, 16, 16), (20, 20, 20), (20, 20, 20), (20, 20, 20), (20, 20, 20), (20, 20, 20), (20, 20, 20), (20, 20, 20), (20, 20, 20)],
  [(20, 20, 20), (20, 20, 20), (20, 30, 30), (20, 30, 30), (20, 30, 30), (2, 3, 3), (8, 7, 7), (20, 400, 400), (20, 401, 401), (20, 401, 401), (20, 401, 401), (20, 401, 401), (4, 16, 16), (10, 4, 4), (20, 200, 200), (20, 200, 200)],
  [(20, 9, 9), (20, 9, 9), (20, 9, 9), (20, 8, 8), (20, 8, 8), (5, 4, 4), (9, 18, 18), (20, 80, 80), (20, 80, 80), (24, 6, 6), (23, 96, 96), (20, 864, 864), (3, 6, 6), (20, 3, 3), (20, 3, 3), (20, 3, 3)],
  [(20, 3, 3), (6, 6, 6), (20, 3, 3), (21, 123, 123), (21, 123, 123), (0, 4, 4), (20, 10, 10), (12, 77, 77), (20, 80, 80), (20, 80, 80), (20, 80, 80), (20, 80, 80), (20, 80, 80), (20, 80, 80), (20, 2, 2), (20, 40, 40)],
  [(20, 40, 40), (20, 40, 40), (20, 40, 40), (20, 40, 40), (20, 40, 40), (20, 40, 40), (20, 40, 40), (20, 40, 40), (20, 40, 40), (22, 400, 400), (20, 220, 220), (20, 220, 220), (20, 8, 8), (20, 9, 9), (20, 9, 9), (23, 10, 10)],
  [(23, 8, 8), (20, 6, 6), (20, 1320, 1320), (20, 1320, 1320), (21, 9, 9), (20, 90, 90), (20, 90, 90), (20, 3, 3), (20, 3, 3), (20, 3, 3), (20, 10, 10), (20, 30, 30), (20, 30, 30), (20, 30, 30), (20, 30, 30), (21, 576, 576)],
  [(21, 6, 6), (21, 129, 129), (21, 129, 129), (10, 4, 4), (20, 200, 200), (20, 200, 200), (10, 4, 4), (20, 200, 200), (20, 200, 200), (10, 4, 4), (20, 200, 200), (20, 200, 200), (10, 4, 4), (20, 200, 200), (20, 200, 200), (10, 4, 4)]]
/-- of a number: what it is (0 .. 12 an object of that kind, 20 ints, 21 longs, 22 bytes, 23 booleans, 24 Ways), how many places -/
def px_sh (k : Nat) : Nat × Nat × Int32 := px_nth (px_nth px_shL (k / 16) []) (k % 16) (bif Nat.beq ((k - 147) % 3) 0 then (10, 4, 4) else (20, 200, 200))
abbrev px_nb : Nat := 147
def px_tgL : List (List Nat) := [
  [33, 41, 55, 69, 70, 76, 85, 92, 97, 101],
  [34, 35, 36, 37, 38, 39, 40],
  [],
  [],
  [],
  [],
  [],
  [],
  [],
  [42, 43, 44, 45, 46, 47, 48, 49, 50, 51, 52, 53, 54],
  [],
  [],
  [],
  [],
  [],
  [],
  [],
  [],
  [],
  [],
  [],
  [],
  [],
  [56, 57, 58, 59, 60, 61, 62, 63, 64, 65, 66, 67, 68],
  [],
  [],
  [],
  [],
  [],
  [],
  [],
  [],
  [],
  [],
  [],
  [],
  [],
  [],
  [71, 72, 73, 74, 75],
  [],
  [],
  [],
  [],
  [],
  [70, 0, 80, 81, 82, 83, 84],
  [],
  [],
  [],
  [],
  [],
  [],
  [],
  [],
  [86, 89, 90, 91],
  [87, 88],
  [],
  [],
  [],
  [],
  [],
  [33, 85, 93, 94, 95, 96],
  [],
  [],
  [],
  [],
  [98],
  [],
  [],
  [],
  [33, 102],
  [],
  [0, 0, 0, 104, 105, 106, 107, 108, 109, 110, 111, 112, 113, 114, 115, 116, 0, 117, 118, 119, 120, 0, 0, 0, 121, 0, 0, 0, 0, 0, 0, 0, 0, 0, 0, 0, 122, 123, 124, 0, 125, 126, 127, 128, 129, 130, 131, 0, 0, 0, 0, 0, 132, 0, 133, 134, 135, 136, 137, 0, 0, 0, 138, 0, 139, 140, 141, 142, 0, 143, 0, 0, 0, 144, 0, 145, 146],
  [],
  [],
  [],
  [],
  [],
  [],
  [],
  [],
  [],
  [],
  [],
  [],
  [],
  [],
  [],
  [],
  [],
  [],
  [],
  [],
  [],
  [],
  [],
  [],
  [],
  [],
  [],
  [],
  [],
  [],
  [],
  [],
  [],
  [],
  [],
  [],
  [],
  [],
  [],
  [],
  [],
  [],
  []]
/-- what an object holds for good in a field (0: nothing) -/
def px_tg (o k : Nat) : Nat := px_nth (px_nth px_tgL (o - 32) []) k 0
def px_tf : List (String × Nat × Nat × Nat) := [
  ("TunnelBook", 10, 11, 0),
  ("TunnelBook", 19, 11, 1),
  ("TunnelBook", 23, 11, 2),
  ("TunnelBook", 29, 11, 3),
  ("TunnelBook", 36, 11, 4),
  ("TunnelBook", 45, 11, 5),
  ("TunnelBook", 52, 11, 6),
  ("TunnelBook", 61, 11, 7),
  ("TunnelBook", 68, 11, 8),
  ("TunnelBook", 77, 11, 9),
  ("TunnelBook", 81, 11, 10),
  ("TunnelBook", 162, 2, 0),
  ("TunnelBook", 165, 2, 2),
  ("TunnelBook", 168, 2, 1),
  ("TunnelBook", 178, 8, 5),
  ("TunnelBook", 188, 4, 1),
  ("TunnelBook", 196, 4, 13),
  ("TunnelBook", 199, 4, 14),
  ("TunnelBook", 202, 4, 15),
  ("TunnelBook", 205, 5, 0),
  ("TunnelBook", 272, 0, 2),
  ("TunnelBook", 279, 0, 3),
  ("TunnelBook", 282, 7, 7),
  ("TunnelBook", 285, 7, 8),
  ("TunnelBook", 288, 1, 13),
  ("TunnelBook", 298, 1, 14),
  ("TunnelBook", 300, 1, 15),
  ("TunnelBook$Channel", 11, 0, 1),
  ("TunnelBook$Channel", 15, 0, 2),
  ("TunnelBook$Channel", 19, 0, 3),
  ("TunnelBook$Channel", 22, 0, 0),
  ("TunnelBook$Channel", 30, 1, 13),
  ("TunnelBook$Channel", 43, 1, 0),
  ("TunnelBook$Channel", 46, 1, 1),
  ("TunnelBook$Channel", 49, 1, 2),
  ("TunnelBook$Channel", 71, 1, 5),
  ("TunnelBook$Gallery", 11, 1, 0),
  ("TunnelBook$Gallery", 15, 1, 1),
  ("TunnelBook$Gallery", 18, 1, 2),
  ("TunnelBook$Gallery", 21, 1, 3),
  ("TunnelBook$Gallery", 24, 1, 4),
  ("TunnelBook$Gallery", 27, 1, 5),
  ("TunnelBook$Gallery", 30, 1, 6),
  ("TunnelBook$Gallery", 33, 1, 7),
  ("TunnelBook$Gallery", 36, 1, 8),
  ("TunnelBook$Gallery", 39, 1, 9),
  ("TunnelBook$Gallery", 42, 1, 10),
  ("TunnelBook$Gallery", 45, 1, 11),
  ("TunnelBook$Gallery", 48, 1, 12),
  ("TunnelBook$Gallery", 51, 1, 13),
  ("TunnelBook$Gallery", 55, 1, 14),
  ("TunnelBook$Gallery", 58, 1, 15),
  ("TunnelBook$Measure", 9, 2, 0),
  ("TunnelBook$Measure", 15, 2, 1),
  ("TunnelBook$Measure", 19, 2, 2),
  ("TunnelBook$Meetings", 9, 3, 2),
  ("TunnelBook$Meetings", 15, 3, 3),
  ("TunnelBook$Meetings", 18, 3, 4),
  ("TunnelBook$Meetings", 21, 3, 5),
  ("TunnelBook$Meetings", 24, 3, 0),
  ("TunnelBook$Meetings", 28, 3, 1),
  ("TunnelBook$Reader", 12, 4, 1),
  ("TunnelBook$Reader", 18, 4, 2),
  ("TunnelBook$Reader", 22, 4, 3),
  ("TunnelBook$Reader", 25, 4, 4),
  ("TunnelBook$Reader", 28, 4, 5),
  ("TunnelBook$Reader", 31, 4, 6),
  ("TunnelBook$Reader", 34, 4, 7),
  ("TunnelBook$Reader", 38, 4, 8),
  ("TunnelBook$Reader", 41, 4, 9),
  ("TunnelBook$Reader", 46, 4, 10),
  ("TunnelBook$Reader", 49, 4, 11),
  ("TunnelBook$Reader", 52, 4, 12),
  ("TunnelBook$Reader", 55, 4, 13),
  ("TunnelBook$Reader", 58, 4, 14),
  ("TunnelBook$Reader", 61, 4, 15),
  ("TunnelBook$Reader", 64, 4, 0),
  ("TunnelBook$Reader", 74, 8, 6),
  ("TunnelBook$Reader", 90, 10, 3),
  ("TunnelBook$Reader", 93, 10, 2),
  ("TunnelBook$Reader", 165, 10, 1),
  ("TunnelBook$Reader", 178, 8, 3),
  ("TunnelBook$Reader", 184, 8, 1),
  ("TunnelBook$Reader", 186, 8, 2),
  ("TunnelBook$Reader", 188, 8, 4),
  ("TunnelBook$Runs", 12, 5, 0),
  ("TunnelBook$Runs", 20, 5, 1),
  ("TunnelBook$Runs", 24, 5, 2),
  ("TunnelBook$Runs", 28, 5, 3),
  ("TunnelBook$Runs", 48, 9, 17),
  ("TunnelBook$Runs", 53, 9, 8),
  ("TunnelBook$Runs", 57, 9, 9),
  ("TunnelBook$Runs", 60, 9, 10),
  ("TunnelBook$Runs", 63, 9, 11),
  ("TunnelBook$Runs", 66, 9, 12),
  ("TunnelBook$Runs", 69, 9, 13),
  ("TunnelBook$Runs", 72, 9, 14),
  ("TunnelBook$Runs", 75, 9, 15),
  ("TunnelBook$Runs", 79, 9, 16),
  ("TunnelBook$Search", 11, 6, 0),
  ("TunnelBook$Search", 15, 6, 1),
  ("TunnelBook$Search", 19, 6, 2),
  ("TunnelBook$Search", 22, 6, 3),
  ("TunnelBook$Search", 26, 6, 4),
  ("TunnelBook$Search", 29, 6, 5),
  ("TunnelBook$Survey", 11, 7, 0),
  ("TunnelBook$Survey", 15, 7, 1),
  ("TunnelBook$Survey", 18, 7, 2),
  ("TunnelBook$Survey", 21, 7, 3),
  ("TunnelBook$Survey", 24, 7, 4),
  ("TunnelBook$Survey", 27, 7, 5),
  ("TunnelBook$Survey", 30, 7, 6),
  ("TunnelBook$Survey", 34, 7, 7),
  ("TunnelBook$Survey", 38, 7, 8),
  ("TunnelBook$Tape", 9, 8, 0),
  ("TunnelBook$Tape", 13, 8, 1),
  ("TunnelBook$Tape", 16, 8, 2),
  ("TunnelBook$Tape", 19, 8, 3),
  ("TunnelBook$Tape", 22, 8, 4),
  ("TunnelBook$Tape", 25, 8, 5),
  ("TunnelBook$Tape", 29, 8, 6),
  ("TunnelBook$Walk", 9, 9, 0),
  ("TunnelBook$Walk", 13, 9, 1),
  ("TunnelBook$Walk", 16, 9, 2),
  ("TunnelBook$Walk", 20, 9, 3),
  ("TunnelBook$Walk", 23, 9, 4),
  ("TunnelBook$Walk", 26, 9, 5),
  ("TunnelBook$Walk", 29, 9, 6),
  ("TunnelBook$Walk", 32, 9, 7),
  ("TunnelBook$Walk", 35, 9, 8),
  ("TunnelBook$Walk", 39, 9, 9),
  ("TunnelBook$Walk", 42, 9, 10),
  ("TunnelBook$Walk", 45, 9, 11),
  ("TunnelBook$Walk", 48, 9, 12),
  ("TunnelBook$Walk", 51, 9, 13),
  ("TunnelBook$Walk", 54, 9, 14),
  ("TunnelBook$Walk", 57, 9, 15),
  ("TunnelBook$Walk", 60, 9, 16),
  ("TunnelBook$Walk", 63, 9, 17),
  ("TunnelBook$Walk", 71, 10, 3),
  ("TunnelBook$Walk", 75, 10, 2),
  ("TunnelBook$Walk", 84, 10, 0),
  ("TunnelBook$Walk", 87, 10, 1),
  ("TunnelBook$Way", 11, 10, 0),
  ("TunnelBook$Way", 15, 10, 1),
  ("TunnelBook$Way", 18, 10, 2),
  ("TunnelBook$Way", 22, 10, 3),
  ("TunnelBookModel", 7, 12, 1),
  ("TunnelBookModel", 13, 12, 3),
  ("TunnelBookModel", 17, 12, 4),
  ("TunnelBookModel", 20, 12, 5),
  ("TunnelBookModel", 23, 12, 6),
  ("TunnelBookModel", 26, 12, 7),
  ("TunnelBookModel", 29, 12, 8),
  ("TunnelBookModel", 32, 12, 9),
  ("TunnelBookModel", 35, 12, 10),
  ("TunnelBookModel", 38, 12, 11),
  ("TunnelBookModel", 41, 12, 12),
  ("TunnelBookModel", 44, 12, 13),
  ("TunnelBookModel", 47, 12, 14),
  ("TunnelBookModel", 50, 12, 15),
  ("TunnelBookModel", 53, 12, 17),
  ("TunnelBookModel", 56, 12, 18),
  ("TunnelBookModel", 59, 12, 19),
  ("TunnelBookModel", 62, 12, 20),
  ("TunnelBookModel", 65, 12, 24),
  ("TunnelBookModel", 69, 12, 33),
  ("TunnelBookModel", 72, 12, 34),
  ("TunnelBookModel", 75, 12, 36),
  ("TunnelBookModel", 78, 12, 37),
  ("TunnelBookModel", 81, 12, 38),
  ("TunnelBookModel", 84, 12, 40),
  ("TunnelBookModel", 87, 12, 41),
  ("TunnelBookModel", 90, 12, 42),
  ("TunnelBookModel", 94, 12, 43),
  ("TunnelBookModel", 97, 12, 44),
  ("TunnelBookModel", 100, 12, 45),
  ("TunnelBookModel", 103, 12, 46),
  ("TunnelBookModel", 106, 12, 47),
  ("TunnelBookModel", 109, 12, 48),
  ("TunnelBookModel", 112, 12, 49),
  ("TunnelBookModel", 115, 12, 50),
  ("TunnelBookModel", 118, 12, 51),
  ("TunnelBookModel", 121, 12, 52),
  ("TunnelBookModel", 125, 12, 54),
  ("TunnelBookModel", 128, 12, 55),
  ("TunnelBookModel", 131, 12, 56),
  ("TunnelBookModel", 134, 12, 57),
  ("TunnelBookModel", 137, 12, 58),
  ("TunnelBookModel", 140, 12, 62),
  ("TunnelBookModel", 143, 12, 64),
  ("TunnelBookModel", 146, 12, 65),
  ("TunnelBookModel", 149, 12, 66),
  ("TunnelBookModel", 152, 12, 67),
  ("TunnelBookModel", 155, 12, 69),
  ("TunnelBookModel", 158, 12, 73),
  ("TunnelBookModel", 161, 12, 75),
  ("TunnelBookModel", 164, 12, 76),
  ("TunnelBookModel", 177, 12, 0),
  ("TunnelBookModel", 191, 12, 2),
  ("TunnelBookModel", 194, 12, 70),
  ("TunnelBookModel", 239, 12, 16),
  ("TunnelBookModel", 249, 12, 21),
  ("TunnelBookModel", 252, 12, 22),
  ("TunnelBookModel", 256, 12, 23),
  ("TunnelBookModel", 259, 12, 25),
  ("TunnelBookModel", 291, 12, 27),
  ("TunnelBookModel", 294, 12, 26),
  ("TunnelBookModel", 297, 12, 28),
  ("TunnelBookModel", 300, 12, 29),
  ("TunnelBookModel", 310, 12, 30),
  ("TunnelBookModel", 322, 12, 31),
  ("TunnelBookModel", 325, 12, 32),
  ("TunnelBookModel", 328, 12, 35),
  ("TunnelBookModel", 337, 12, 39),
  ("TunnelBookModel", 343, 12, 71),
  ("TunnelBookModel", 354, 12, 72),
  ("TunnelBookModel", 396, 12, 53),
  ("TunnelBookModel", 418, 12, 74),
  ("TunnelBookModel", 450, 12, 59),
  ("TunnelBookModel", 453, 12, 60),
  ("TunnelBookModel", 456, 12, 61),
  ("TunnelBookModel", 469, 12, 63),
  ("TunnelBookModel", 472, 12, 68)]
def px_tc : List (String × Nat × Int32) := [("TunnelBook", 97, -1000000), ("TunnelBook", 98, 1000000), ("TunnelBook", 120, -2000000000), ("TunnelBook", 155, 100000), ("TunnelBook$Channel", 58, -2000000000), ("TunnelBook$Gallery", 61, 1000000), ("TunnelBook$Measure", 18, 2000000000), ("TunnelBook$Measure", 26, 2000000), ("TunnelBook$Meetings", 42, -2000000000), ("TunnelBook$Reader", 110, 100000), ("TunnelBook$Runs", 52, -2000000000), ("TunnelBook$Survey", 45, -2000000000), ("TunnelBook$Tape", 57, 1000000), ("TunnelBook$Walk", 74, 1000000), ("TunnelBookModel", 218, -2000000000), ("TunnelBookModel", 321, 999999), ("TunnelBookModel", 357, 100000)]
def px_tl : List (String × Nat × Int64) := [("TunnelBook", 253, -1), ("TunnelBook$Channel", 59, 1000), ("TunnelBook$Channel", 82, 9), ("TunnelBook$Channel", 84, 2), ("TunnelBook$Search", 55, -1), ("TunnelBook$Survey", 50, 1000000000000), ("TunnelBook$Walk", 132, 9), ("TunnelBook$Walk", 134, 10), ("TunnelBook$Walk", 136, 999), ("TunnelBook$Walk", 138, 1000), ("TunnelBook$Walk", 143, 100000000), ("TunnelBookModel", 171, 2), ("TunnelBookModel", 173, 9999), ("TunnelBookModel", 175, 1000), ("TunnelBookModel", 187, -1000000), ("TunnelBookModel", 189, 1000000), ("TunnelBookModel", 197, 1000000000000), ("TunnelBookModel", 227, 10000), ("TunnelBookModel", 229, 100), ("TunnelBookModel", 231, 5000), ("TunnelBookModel", 237, 20000), ("TunnelBookModel", 245, 100000), ("TunnelBookModel", 247, 2000000), ("TunnelBookModel", 265, 97), ("TunnelBookModel", 267, 122), ("TunnelBookModel", 269, 65), ("TunnelBookModel", 271, 90), ("TunnelBookModel", 273, 149862), ("TunnelBookModel", 275, 11705253), ("TunnelBookModel", 277, 13851822), ("TunnelBookModel", 279, 13278437), ("TunnelBookModel", 281, 10099500), ("TunnelBookModel", 283, 866261428), ("TunnelBookModel", 285, 817809779), ("TunnelBookModel", 287, 2351), ("TunnelBookModel", 289, 54320584820), ("TunnelBookModel", 306, 64), ("TunnelBookModel", 308, 104), ("TunnelBookModel", 317, 48), ("TunnelBookModel", 319, 57), ("TunnelBookModel", 364, 5), ("TunnelBookModel", 379, 10), ("TunnelBookModel", 390, 16), ("TunnelBookModel", 392, 100000000), ("TunnelBookModel", 394, -100000000), ("TunnelBookModel", 409, 15), ("TunnelBookModel", 411, 8), ("TunnelBookModel", 416, 95), ("TunnelBookModel", 422, -2000000000), ("TunnelBookModel", 442, 9), ("TunnelBookModel", 444, 40), ("TunnelBookModel", 446, 3), ("TunnelBookModel", 448, 20), ("TunnelBookModel", 459, 12), ("TunnelBookModel", 461, -20), ("TunnelBookModel", 463, -1), ("TunnelBookModel", 495, 29)]
def px_fw (e : String × Nat × Nat × Nat) : Cond := .fieldLink e.1 e.2.1 (px_Tf e.2.2.1 e.2.2.2).1 (px_Tf e.2.2.1 e.2.2.2).2.1 (px_Tf e.2.2.1 e.2.2.2).2.2.1
theorem px_i1 (i : Nat) {w : Cond} (h : tables_1_1[i]? = some w) (g : goodWord w = true) : w ∈ px_T := List.mem_filter.mpr ⟨List.mem_append_right _ (List.mem_append_left _ (List.mem_of_getElem? h)), g⟩
theorem px_i2 (i : Nat) {w : Cond} (h : tables_1_2[i]? = some w) (g : goodWord w = true) : w ∈ px_T := List.mem_filter.mpr ⟨List.mem_append_right _ (List.mem_append_right _ (List.mem_append_left _ (List.mem_of_getElem? h))), g⟩
theorem px_i3 (i : Nat) {w : Cond} (h : tables_1_3[i]? = some w) (g : goodWord w = true) : w ∈ px_T := List.mem_filter.mpr ⟨List.mem_append_right _ (List.mem_append_right _ (List.mem_append_right _ (List.mem_append_left _ (List.mem_of_getElem? h)))), g⟩
theorem px_i4 (i : Nat) {w : Cond} (h : tables_1_4[i]? = some w) (g : goodWord w = true) : w ∈ px_T := List.mem_filter.mpr ⟨List.mem_append_right _ (List.mem_append_right _ (List.mem_append_right _ (List.mem_append_right _ (List.mem_append_left _ (List.mem_of_getElem? h))))), g⟩
theorem px_i5 (i : Nat) {w : Cond} (h : tables_1_5[i]? = some w) (g : goodWord w = true) : w ∈ px_T := List.mem_filter.mpr ⟨List.mem_append_right _ (List.mem_append_right _ (List.mem_append_right _ (List.mem_append_right _ (List.mem_append_right _ (List.mem_append_left _ (List.mem_of_getElem? h)))))), g⟩
theorem px_i6 (i : Nat) {w : Cond} (h : tables_1_6[i]? = some w) (g : goodWord w = true) : w ∈ px_T := List.mem_filter.mpr ⟨List.mem_append_right _ (List.mem_append_right _ (List.mem_append_right _ (List.mem_append_right _ (List.mem_append_right _ (List.mem_append_right _ (List.mem_append_left _ (List.mem_of_getElem? h))))))), g⟩
theorem px_i7 (i : Nat) {w : Cond} (h : tables_1_7[i]? = some w) (g : goodWord w = true) : w ∈ px_T := List.mem_filter.mpr ⟨List.mem_append_right _ (List.mem_append_right _ (List.mem_append_right _ (List.mem_append_right _ (List.mem_append_right _ (List.mem_append_right _ (List.mem_append_right _ (List.mem_append_left _ (List.mem_of_getElem? h)))))))), g⟩
theorem px_i8 (i : Nat) {w : Cond} (h : tables_1_8[i]? = some w) (g : goodWord w = true) : w ∈ px_T := List.mem_filter.mpr ⟨List.mem_append_right _ (List.mem_append_right _ (List.mem_append_right _ (List.mem_append_right _ (List.mem_append_right _ (List.mem_append_right _ (List.mem_append_right _ (List.mem_append_right _ (List.mem_of_getElem? h)))))))), g⟩
set_option maxRecDepth 100000 in
theorem px_tf_in_0 : ∀ e ∈ (px_tf.drop 0).take 20, px_fw e ∈ px_T := List.forall_mem_cons.mpr ⟨px_i2 192 rfl rfl, List.forall_mem_cons.mpr ⟨px_i2 193 rfl rfl, List.forall_mem_cons.mpr ⟨px_i2 194 rfl rfl, List.forall_mem_cons.mpr ⟨px_i2 195 rfl rfl, List.forall_mem_cons.mpr ⟨px_i2 196 rfl rfl, List.forall_mem_cons.mpr ⟨px_i2 197 rfl rfl, List.forall_mem_cons.mpr ⟨px_i2 198 rfl rfl, List.forall_mem_cons.mpr ⟨px_i2 199 rfl rfl, List.forall_mem_cons.mpr ⟨px_i2 200 rfl rfl, List.forall_mem_cons.mpr ⟨px_i2 201 rfl rfl, List.forall_mem_cons.mpr ⟨px_i2 202 rfl rfl, List.forall_mem_cons.mpr ⟨px_i1 136 rfl rfl, List.forall_mem_cons.mpr ⟨px_i1 140 rfl rfl, List.forall_mem_cons.mpr ⟨px_i1 138 rfl rfl, List.forall_mem_cons.mpr ⟨px_i1 164 rfl rfl, List.forall_mem_cons.mpr ⟨px_i1 216 rfl rfl, List.forall_mem_cons.mpr ⟨px_i1 229 rfl rfl, List.forall_mem_cons.mpr ⟨px_i1 231 rfl rfl, List.forall_mem_cons.mpr ⟨px_i1 233 rfl rfl, List.forall_mem_cons.mpr ⟨px_i2 107 rfl rfl, fun _ h => absurd h List.not_mem_nil⟩⟩⟩⟩⟩⟩⟩⟩⟩⟩⟩⟩⟩⟩⟩⟩⟩⟩⟩⟩
set_option maxRecDepth 100000 in
theorem px_tf_in_1 : ∀ e ∈ (px_tf.drop 20).take 20, px_fw e ∈ px_T := List.forall_mem_cons.mpr ⟨px_i2 180 rfl rfl, List.forall_mem_cons.mpr ⟨px_i2 182 rfl rfl, List.forall_mem_cons.mpr ⟨px_i1 41 rfl rfl, List.forall_mem_cons.mpr ⟨px_i1 43 rfl rfl, List.forall_mem_cons.mpr ⟨px_i1 90 rfl rfl, List.forall_mem_cons.mpr ⟨px_i1 92 rfl rfl, List.forall_mem_cons.mpr ⟨px_i1 94 rfl rfl, List.forall_mem_cons.mpr ⟨px_i2 178 rfl rfl, List.forall_mem_cons.mpr ⟨px_i2 179 rfl rfl, List.forall_mem_cons.mpr ⟨px_i2 181 rfl rfl, List.forall_mem_cons.mpr ⟨px_i2 177 rfl rfl, List.forall_mem_cons.mpr ⟨px_i1 89 rfl rfl, List.forall_mem_cons.mpr ⟨px_i1 72 rfl rfl, List.forall_mem_cons.mpr ⟨px_i1 74 rfl rfl, List.forall_mem_cons.mpr ⟨px_i1 76 rfl rfl, List.forall_mem_cons.mpr ⟨px_i1 80 rfl rfl, List.forall_mem_cons.mpr ⟨px_i1 71 rfl rfl, List.forall_mem_cons.mpr ⟨px_i1 73 rfl rfl, List.forall_mem_cons.mpr ⟨px_i1 75 rfl rfl, List.forall_mem_cons.mpr ⟨px_i1 77 rfl rfl, fun _ h => absurd h List.not_mem_nil⟩⟩⟩⟩⟩⟩⟩⟩⟩⟩⟩⟩⟩⟩⟩⟩⟩⟩⟩⟩
set_option maxRecDepth 100000 in
theorem px_tf_in_2 : ∀ e ∈ (px_tf.drop 40).take 20, px_fw e ∈ px_T := List.forall_mem_cons.mpr ⟨px_i1 78 rfl rfl, List.forall_mem_cons.mpr ⟨px_i1 79 rfl rfl, List.forall_mem_cons.mpr ⟨px_i1 81 rfl rfl, List.forall_mem_cons.mpr ⟨px_i1 82 rfl rfl, List.forall_mem_cons.mpr ⟨px_i1 83 rfl rfl, List.forall_mem_cons.mpr ⟨px_i1 84 rfl rfl, List.forall_mem_cons.mpr ⟨px_i1 85 rfl rfl, List.forall_mem_cons.mpr ⟨px_i1 86 rfl rfl, List.forall_mem_cons.mpr ⟨px_i1 87 rfl rfl, List.forall_mem_cons.mpr ⟨px_i1 88 rfl rfl, List.forall_mem_cons.mpr ⟨px_i1 91 rfl rfl, List.forall_mem_cons.mpr ⟨px_i1 93 rfl rfl, List.forall_mem_cons.mpr ⟨px_i1 135 rfl rfl, List.forall_mem_cons.mpr ⟨px_i1 137 rfl rfl, List.forall_mem_cons.mpr ⟨px_i1 139 rfl rfl, List.forall_mem_cons.mpr ⟨px_i2 129 rfl rfl, List.forall_mem_cons.mpr ⟨px_i2 130 rfl rfl, List.forall_mem_cons.mpr ⟨px_i2 131 rfl rfl, List.forall_mem_cons.mpr ⟨px_i2 132 rfl rfl, List.forall_mem_cons.mpr ⟨px_i2 127 rfl rfl, fun _ h => absurd h List.not_mem_nil⟩⟩⟩⟩⟩⟩⟩⟩⟩⟩⟩⟩⟩⟩⟩⟩⟩⟩⟩⟩
set_option maxRecDepth 100000 in
theorem px_tf_in_3 : ∀ e ∈ (px_tf.drop 60).take 20, px_fw e ∈ px_T := List.forall_mem_cons.mpr ⟨px_i2 128 rfl rfl, List.forall_mem_cons.mpr ⟨px_i1 215 rfl rfl, List.forall_mem_cons.mpr ⟨px_i1 217 rfl rfl, List.forall_mem_cons.mpr ⟨px_i1 218 rfl rfl, List.forall_mem_cons.mpr ⟨px_i1 219 rfl rfl, List.forall_mem_cons.mpr ⟨px_i1 220 rfl rfl, List.forall_mem_cons.mpr ⟨px_i1 221 rfl rfl, List.forall_mem_cons.mpr ⟨px_i1 222 rfl rfl, List.forall_mem_cons.mpr ⟨px_i1 223 rfl rfl, List.forall_mem_cons.mpr ⟨px_i1 224 rfl rfl, List.forall_mem_cons.mpr ⟨px_i1 225 rfl rfl, List.forall_mem_cons.mpr ⟨px_i1 226 rfl rfl, List.forall_mem_cons.mpr ⟨px_i1 227 rfl rfl, List.forall_mem_cons.mpr ⟨px_i1 228 rfl rfl, List.forall_mem_cons.mpr ⟨px_i1 230 rfl rfl, List.forall_mem_cons.mpr ⟨px_i1 232 rfl rfl, List.forall_mem_cons.mpr ⟨px_i1 214 rfl rfl, List.forall_mem_cons.mpr ⟨px_i1 166 rfl rfl, List.forall_mem_cons.mpr ⟨px_i1 203 rfl rfl, List.forall_mem_cons.mpr ⟨px_i1 200 rfl rfl, fun _ h => absurd h List.not_mem_nil⟩⟩⟩⟩⟩⟩⟩⟩⟩⟩⟩⟩⟩⟩⟩⟩⟩⟩⟩⟩
set_option maxRecDepth 100000 in
theorem px_tf_in_4 : ∀ e ∈ (px_tf.drop 80).take 20, px_fw e ∈ px_T := List.forall_mem_cons.mpr ⟨px_i1 198 rfl rfl, List.forall_mem_cons.mpr ⟨px_i1 160 rfl rfl, List.forall_mem_cons.mpr ⟨px_i1 156 rfl rfl, List.forall_mem_cons.mpr ⟨px_i1 158 rfl rfl, List.forall_mem_cons.mpr ⟨px_i1 162 rfl rfl, List.forall_mem_cons.mpr ⟨px_i2 106 rfl rfl, List.forall_mem_cons.mpr ⟨px_i2 108 rfl rfl, List.forall_mem_cons.mpr ⟨px_i2 109 rfl rfl, List.forall_mem_cons.mpr ⟨px_i2 110 rfl rfl, List.forall_mem_cons.mpr ⟨px_i2 66 rfl rfl, List.forall_mem_cons.mpr ⟨px_i2 48 rfl rfl, List.forall_mem_cons.mpr ⟨px_i2 50 rfl rfl, List.forall_mem_cons.mpr ⟨px_i2 52 rfl rfl, List.forall_mem_cons.mpr ⟨px_i2 54 rfl rfl, List.forall_mem_cons.mpr ⟨px_i2 56 rfl rfl, List.forall_mem_cons.mpr ⟨px_i2 58 rfl rfl, List.forall_mem_cons.mpr ⟨px_i2 60 rfl rfl, List.forall_mem_cons.mpr ⟨px_i2 62 rfl rfl, List.forall_mem_cons.mpr ⟨px_i2 64 rfl rfl, List.forall_mem_cons.mpr ⟨px_i2 152 rfl rfl, fun _ h => absurd h List.not_mem_nil⟩⟩⟩⟩⟩⟩⟩⟩⟩⟩⟩⟩⟩⟩⟩⟩⟩⟩⟩⟩
set_option maxRecDepth 100000 in
theorem px_tf_in_5 : ∀ e ∈ (px_tf.drop 100).take 20, px_fw e ∈ px_T := List.forall_mem_cons.mpr ⟨px_i2 153 rfl rfl, List.forall_mem_cons.mpr ⟨px_i2 154 rfl rfl, List.forall_mem_cons.mpr ⟨px_i2 155 rfl rfl, List.forall_mem_cons.mpr ⟨px_i2 156 rfl rfl, List.forall_mem_cons.mpr ⟨px_i2 157 rfl rfl, List.forall_mem_cons.mpr ⟨px_i1 33 rfl rfl, List.forall_mem_cons.mpr ⟨px_i1 34 rfl rfl, List.forall_mem_cons.mpr ⟨px_i1 35 rfl rfl, List.forall_mem_cons.mpr ⟨px_i1 36 rfl rfl, List.forall_mem_cons.mpr ⟨px_i1 37 rfl rfl, List.forall_mem_cons.mpr ⟨px_i1 38 rfl rfl, List.forall_mem_cons.mpr ⟨px_i1 39 rfl rfl, List.forall_mem_cons.mpr ⟨px_i1 40 rfl rfl, List.forall_mem_cons.mpr ⟨px_i1 42 rfl rfl, List.forall_mem_cons.mpr ⟨px_i1 154 rfl rfl, List.forall_mem_cons.mpr ⟨px_i1 155 rfl rfl, List.forall_mem_cons.mpr ⟨px_i1 157 rfl rfl, List.forall_mem_cons.mpr ⟨px_i1 159 rfl rfl, List.forall_mem_cons.mpr ⟨px_i1 161 rfl rfl, List.forall_mem_cons.mpr ⟨px_i1 163 rfl rfl, fun _ h => absurd h List.not_mem_nil⟩⟩⟩⟩⟩⟩⟩⟩⟩⟩⟩⟩⟩⟩⟩⟩⟩⟩⟩⟩
set_option maxRecDepth 100000 in
theorem px_tf_in_6 : ∀ e ∈ (px_tf.drop 120).take 20, px_fw e ∈ px_T := List.forall_mem_cons.mpr ⟨px_i1 165 rfl rfl, List.forall_mem_cons.mpr ⟨px_i2 39 rfl rfl, List.forall_mem_cons.mpr ⟨px_i2 40 rfl rfl, List.forall_mem_cons.mpr ⟨px_i2 41 rfl rfl, List.forall_mem_cons.mpr ⟨px_i2 42 rfl rfl, List.forall_mem_cons.mpr ⟨px_i2 43 rfl rfl, List.forall_mem_cons.mpr ⟨px_i2 44 rfl rfl, List.forall_mem_cons.mpr ⟨px_i2 45 rfl rfl, List.forall_mem_cons.mpr ⟨px_i2 46 rfl rfl, List.forall_mem_cons.mpr ⟨px_i2 47 rfl rfl, List.forall_mem_cons.mpr ⟨px_i2 49 rfl rfl, List.forall_mem_cons.mpr ⟨px_i2 51 rfl rfl, List.forall_mem_cons.mpr ⟨px_i2 53 rfl rfl, List.forall_mem_cons.mpr ⟨px_i2 55 rfl rfl, List.forall_mem_cons.mpr ⟨px_i2 57 rfl rfl, List.forall_mem_cons.mpr ⟨px_i2 59 rfl rfl, List.forall_mem_cons.mpr ⟨px_i2 61 rfl rfl, List.forall_mem_cons.mpr ⟨px_i2 63 rfl rfl, List.forall_mem_cons.mpr ⟨px_i2 65 rfl rfl, List.forall_mem_cons.mpr ⟨px_i1 204 rfl rfl, fun _ h => absurd h List.not_mem_nil⟩⟩⟩⟩⟩⟩⟩⟩⟩⟩⟩⟩⟩⟩⟩⟩⟩⟩⟩⟩
set_option maxRecDepth 100000 in
theorem px_tf_in_7 : ∀ e ∈ (px_tf.drop 140).take 20, px_fw e ∈ px_T := List.forall_mem_cons.mpr ⟨px_i1 201 rfl rfl, List.forall_mem_cons.mpr ⟨px_i1 195 rfl rfl, List.forall_mem_cons.mpr ⟨px_i1 197 rfl rfl, List.forall_mem_cons.mpr ⟨px_i1 194 rfl rfl, List.forall_mem_cons.mpr ⟨px_i1 196 rfl rfl, List.forall_mem_cons.mpr ⟨px_i1 199 rfl rfl, List.forall_mem_cons.mpr ⟨px_i1 202 rfl rfl, List.forall_mem_cons.mpr ⟨px_i5 185 rfl rfl, List.forall_mem_cons.mpr ⟨px_i5 187 rfl rfl, List.forall_mem_cons.mpr ⟨px_i5 188 rfl rfl, List.forall_mem_cons.mpr ⟨px_i5 189 rfl rfl, List.forall_mem_cons.mpr ⟨px_i5 190 rfl rfl, List.forall_mem_cons.mpr ⟨px_i5 191 rfl rfl, List.forall_mem_cons.mpr ⟨px_i5 192 rfl rfl, List.forall_mem_cons.mpr ⟨px_i5 193 rfl rfl, List.forall_mem_cons.mpr ⟨px_i5 194 rfl rfl, List.forall_mem_cons.mpr ⟨px_i5 195 rfl rfl, List.forall_mem_cons.mpr ⟨px_i5 196 rfl rfl, List.forall_mem_cons.mpr ⟨px_i5 197 rfl rfl, List.forall_mem_cons.mpr ⟨px_i5 198 rfl rfl, fun _ h => absurd h List.not_mem_nil⟩⟩⟩⟩⟩⟩⟩⟩⟩⟩⟩⟩⟩⟩⟩⟩⟩⟩⟩⟩
set_option maxRecDepth 100000 in
theorem px_tf_in_8 : ∀ e ∈ (px_tf.drop 160).take 20, px_fw e ∈ px_T := List.forall_mem_cons.mpr ⟨px_i5 199 rfl rfl, List.forall_mem_cons.mpr ⟨px_i5 201 rfl rfl, List.forall_mem_cons.mpr ⟨px_i5 202 rfl rfl, List.forall_mem_cons.mpr ⟨px_i5 203 rfl rfl, List.forall_mem_cons.mpr ⟨px_i5 204 rfl rfl, List.forall_mem_cons.mpr ⟨px_i5 208 rfl rfl, List.forall_mem_cons.mpr ⟨px_i5 217 rfl rfl, List.forall_mem_cons.mpr ⟨px_i5 218 rfl rfl, List.forall_mem_cons.mpr ⟨px_i5 220 rfl rfl, List.forall_mem_cons.mpr ⟨px_i5 221 rfl rfl, List.forall_mem_cons.mpr ⟨px_i5 222 rfl rfl, List.forall_mem_cons.mpr ⟨px_i5 224 rfl rfl, List.forall_mem_cons.mpr ⟨px_i5 225 rfl rfl, List.forall_mem_cons.mpr ⟨px_i5 226 rfl rfl, List.forall_mem_cons.mpr ⟨px_i5 227 rfl rfl, List.forall_mem_cons.mpr ⟨px_i5 228 rfl rfl, List.forall_mem_cons.mpr ⟨px_i5 229 rfl rfl, List.forall_mem_cons.mpr ⟨px_i5 230 rfl rfl, List.forall_mem_cons.mpr ⟨px_i5 231 rfl rfl, List.forall_mem_cons.mpr ⟨px_i5 232 rfl rfl, fun _ h => absurd h List.not_mem_nil⟩⟩⟩⟩⟩⟩⟩⟩⟩⟩⟩⟩⟩⟩⟩⟩⟩⟩⟩⟩
set_option maxRecDepth 100000 in
theorem px_tf_in_9 : ∀ e ∈ (px_tf.drop 180).take 20, px_fw e ∈ px_T := List.forall_mem_cons.mpr ⟨px_i5 233 rfl rfl, List.forall_mem_cons.mpr ⟨px_i5 234 rfl rfl, List.forall_mem_cons.mpr ⟨px_i5 235 rfl rfl, List.forall_mem_cons.mpr ⟨px_i5 236 rfl rfl, List.forall_mem_cons.mpr ⟨px_i5 238 rfl rfl, List.forall_mem_cons.mpr ⟨px_i5 239 rfl rfl, List.forall_mem_cons.mpr ⟨px_i6 0 rfl rfl, List.forall_mem_cons.mpr ⟨px_i6 1 rfl rfl, List.forall_mem_cons.mpr ⟨px_i6 2 rfl rfl, List.forall_mem_cons.mpr ⟨px_i6 6 rfl rfl, List.forall_mem_cons.mpr ⟨px_i6 8 rfl rfl, List.forall_mem_cons.mpr ⟨px_i6 9 rfl rfl, List.forall_mem_cons.mpr ⟨px_i6 10 rfl rfl, List.forall_mem_cons.mpr ⟨px_i6 11 rfl rfl, List.forall_mem_cons.mpr ⟨px_i6 13 rfl rfl, List.forall_mem_cons.mpr ⟨px_i6 17 rfl rfl, List.forall_mem_cons.mpr ⟨px_i6 19 rfl rfl, List.forall_mem_cons.mpr ⟨px_i6 20 rfl rfl, List.forall_mem_cons.mpr ⟨px_i5 184 rfl rfl, List.forall_mem_cons.mpr ⟨px_i5 186 rfl rfl, fun _ h => absurd h List.not_mem_nil⟩⟩⟩⟩⟩⟩⟩⟩⟩⟩⟩⟩⟩⟩⟩⟩⟩⟩⟩⟩
set_option maxRecDepth 100000 in
theorem px_tf_in_10 : ∀ e ∈ (px_tf.drop 200).take 20, px_fw e ∈ px_T := List.forall_mem_cons.mpr ⟨px_i6 14 rfl rfl, List.forall_mem_cons.mpr ⟨px_i5 200 rfl rfl, List.forall_mem_cons.mpr ⟨px_i5 205 rfl rfl, List.forall_mem_cons.mpr ⟨px_i5 206 rfl rfl, List.forall_mem_cons.mpr ⟨px_i5 207 rfl rfl, List.forall_mem_cons.mpr ⟨px_i5 209 rfl rfl, List.forall_mem_cons.mpr ⟨px_i5 211 rfl rfl, List.forall_mem_cons.mpr ⟨px_i5 210 rfl rfl, List.forall_mem_cons.mpr ⟨px_i5 212 rfl rfl, List.forall_mem_cons.mpr ⟨px_i5 213 rfl rfl, List.forall_mem_cons.mpr ⟨px_i5 214 rfl rfl, List.forall_mem_cons.mpr ⟨px_i5 215 rfl rfl, List.forall_mem_cons.mpr ⟨px_i5 216 rfl rfl, List.forall_mem_cons.mpr ⟨px_i5 219 rfl rfl, List.forall_mem_cons.mpr ⟨px_i5 223 rfl rfl, List.forall_mem_cons.mpr ⟨px_i6 15 rfl rfl, List.forall_mem_cons.mpr ⟨px_i6 16 rfl rfl, List.forall_mem_cons.mpr ⟨px_i5 237 rfl rfl, List.forall_mem_cons.mpr ⟨px_i6 18 rfl rfl, List.forall_mem_cons.mpr ⟨px_i6 3 rfl rfl, fun _ h => absurd h List.not_mem_nil⟩⟩⟩⟩⟩⟩⟩⟩⟩⟩⟩⟩⟩⟩⟩⟩⟩⟩⟩⟩
set_option maxRecDepth 100000 in
theorem px_tf_in_11 : ∀ e ∈ (px_tf.drop 220).take 20, px_fw e ∈ px_T := List.forall_mem_cons.mpr ⟨px_i6 4 rfl rfl, List.forall_mem_cons.mpr ⟨px_i6 5 rfl rfl, List.forall_mem_cons.mpr ⟨px_i6 7 rfl rfl, List.forall_mem_cons.mpr ⟨px_i6 12 rfl rfl, fun _ h => absurd h List.not_mem_nil⟩⟩⟩⟩
theorem px_dt {α : Type} {P : α → Prop} (l : List α) (i : Nat) (h : ∀ e ∈ (l.drop i).take 20, P e) (h2 : ∀ e ∈ l.drop (i + 20), P e) : ∀ e ∈ l.drop i, P e := by
  intro e he
  rw [← List.take_append_drop 20 (l.drop i), List.mem_append, List.drop_drop] at he
  exact he.elim (h e) (h2 e)
set_option maxRecDepth 100000 in
theorem px_tf_in : ∀ e ∈ px_tf, px_fw e ∈ px_T := (px_dt _ 0 px_tf_in_0 (px_dt _ 20 px_tf_in_1 (px_dt _ 40 px_tf_in_2 (px_dt _ 60 px_tf_in_3 (px_dt _ 80 px_tf_in_4 (px_dt _ 100 px_tf_in_5 (px_dt _ 120 px_tf_in_6 (px_dt _ 140 px_tf_in_7 (px_dt _ 160 px_tf_in_8 (px_dt _ 180 px_tf_in_9 (px_dt _ 200 px_tf_in_10 (px_dt _ 220 px_tf_in_11 (fun e he => absurd he (by rw [List.drop_eq_nil_of_le (Nat.le_of_ble_eq_true rfl)]; exact List.not_mem_nil))))))))))))))
theorem px_tf_lt : ∀ e ∈ px_tf, e.2.2.1 < 13 ∧ e.2.2.2 < px_Nf e.2.2.1 := by decide +kernel
set_option maxRecDepth 100000 in
theorem px_tc_in_0 : ∀ e ∈ (px_tc.drop 0).take 20, Cond.constant e.1 e.2.1 e.2.2 ∈ px_T := List.forall_mem_cons.mpr ⟨px_i3 8 rfl rfl, List.forall_mem_cons.mpr ⟨px_i3 9 rfl rfl, List.forall_mem_cons.mpr ⟨px_i3 53 rfl rfl, List.forall_mem_cons.mpr ⟨px_i3 147 rfl rfl, List.forall_mem_cons.mpr ⟨px_i5 146 rfl rfl, List.forall_mem_cons.mpr ⟨px_i3 82 rfl rfl, List.forall_mem_cons.mpr ⟨px_i1 134 rfl rfl, List.forall_mem_cons.mpr ⟨px_i3 162 rfl rfl, List.forall_mem_cons.mpr ⟨px_i5 7 rfl rfl, List.forall_mem_cons.mpr ⟨px_i4 85 rfl rfl, List.forall_mem_cons.mpr ⟨px_i4 223 rfl rfl, List.forall_mem_cons.mpr ⟨px_i3 59 rfl rfl, List.forall_mem_cons.mpr ⟨px_i3 222 rfl rfl, List.forall_mem_cons.mpr ⟨px_i4 171 rfl rfl, List.forall_mem_cons.mpr ⟨px_i6 231 rfl rfl, List.forall_mem_cons.mpr ⟨px_i7 95 rfl rfl, List.forall_mem_cons.mpr ⟨px_i7 132 rfl rfl, fun _ h => absurd h List.not_mem_nil⟩⟩⟩⟩⟩⟩⟩⟩⟩⟩⟩⟩⟩⟩⟩⟩⟩
set_option maxRecDepth 100000 in
theorem px_tc_in : ∀ e ∈ px_tc, Cond.constant e.1 e.2.1 e.2.2 ∈ px_T := (px_dt _ 0 px_tc_in_0 (fun e he => absurd he (by rw [List.drop_eq_nil_of_le (Nat.le_of_ble_eq_true rfl)]; exact List.not_mem_nil)))
set_option maxRecDepth 100000 in
theorem px_tl_in_0 : ∀ e ∈ (px_tl.drop 0).take 20, Cond.constantLong e.1 e.2.1 e.2.2 ∈ px_T := List.forall_mem_cons.mpr ⟨px_i5 52 rfl rfl, List.forall_mem_cons.mpr ⟨px_i5 147 rfl rfl, List.forall_mem_cons.mpr ⟨px_i5 159 rfl rfl, List.forall_mem_cons.mpr ⟨px_i5 160 rfl rfl, List.forall_mem_cons.mpr ⟨px_i5 87 rfl rfl, List.forall_mem_cons.mpr ⟨px_i3 32 rfl rfl, List.forall_mem_cons.mpr ⟨px_i4 204 rfl rfl, List.forall_mem_cons.mpr ⟨px_i4 205 rfl rfl, List.forall_mem_cons.mpr ⟨px_i4 206 rfl rfl, List.forall_mem_cons.mpr ⟨px_i4 207 rfl rfl, List.forall_mem_cons.mpr ⟨px_i4 218 rfl rfl, List.forall_mem_cons.mpr ⟨px_i6 195 rfl rfl, List.forall_mem_cons.mpr ⟨px_i6 209 rfl rfl, List.forall_mem_cons.mpr ⟨px_i6 180 rfl rfl, List.forall_mem_cons.mpr ⟨px_i6 200 rfl rfl, List.forall_mem_cons.mpr ⟨px_i6 201 rfl rfl, List.forall_mem_cons.mpr ⟨px_i6 218 rfl rfl, List.forall_mem_cons.mpr ⟨px_i7 9 rfl rfl, List.forall_mem_cons.mpr ⟨px_i7 10 rfl rfl, List.forall_mem_cons.mpr ⟨px_i7 11 rfl rfl, fun _ h => absurd h List.not_mem_nil⟩⟩⟩⟩⟩⟩⟩⟩⟩⟩⟩⟩⟩⟩⟩⟩⟩⟩⟩⟩
set_option maxRecDepth 100000 in
theorem px_tl_in_1 : ∀ e ∈ (px_tl.drop 20).take 20, Cond.constantLong e.1 e.2.1 e.2.2 ∈ px_T := List.forall_mem_cons.mpr ⟨px_i7 24 rfl rfl, List.forall_mem_cons.mpr ⟨px_i7 41 rfl rfl, List.forall_mem_cons.mpr ⟨px_i7 46 rfl rfl, List.forall_mem_cons.mpr ⟨px_i7 75 rfl rfl, List.forall_mem_cons.mpr ⟨px_i7 76 rfl rfl, List.forall_mem_cons.mpr ⟨px_i7 77 rfl rfl, List.forall_mem_cons.mpr ⟨px_i7 78 rfl rfl, List.forall_mem_cons.mpr ⟨px_i7 84 rfl rfl, List.forall_mem_cons.mpr ⟨px_i7 85 rfl rfl, List.forall_mem_cons.mpr ⟨px_i7 86 rfl rfl, List.forall_mem_cons.mpr ⟨px_i7 87 rfl rfl, List.forall_mem_cons.mpr ⟨px_i7 88 rfl rfl, List.forall_mem_cons.mpr ⟨px_i7 89 rfl rfl, List.forall_mem_cons.mpr ⟨px_i7 90 rfl rfl, List.forall_mem_cons.mpr ⟨px_i7 91 rfl rfl, List.forall_mem_cons.mpr ⟨px_i7 92 rfl rfl, List.forall_mem_cons.mpr ⟨px_i7 79 rfl rfl, List.forall_mem_cons.mpr ⟨px_i7 80 rfl rfl, List.forall_mem_cons.mpr ⟨px_i7 93 rfl rfl, List.forall_mem_cons.mpr ⟨px_i7 94 rfl rfl, fun _ h => absurd h List.not_mem_nil⟩⟩⟩⟩⟩⟩⟩⟩⟩⟩⟩⟩⟩⟩⟩⟩⟩⟩⟩⟩
set_option maxRecDepth 100000 in
theorem px_tl_in_2 : ∀ e ∈ (px_tl.drop 40).take 20, Cond.constantLong e.1 e.2.1 e.2.2 ∈ px_T := List.forall_mem_cons.mpr ⟨px_i7 67 rfl rfl, List.forall_mem_cons.mpr ⟨px_i7 166 rfl rfl, List.forall_mem_cons.mpr ⟨px_i7 173 rfl rfl, List.forall_mem_cons.mpr ⟨px_i7 178 rfl rfl, List.forall_mem_cons.mpr ⟨px_i7 179 rfl rfl, List.forall_mem_cons.mpr ⟨px_i7 149 rfl rfl, List.forall_mem_cons.mpr ⟨px_i7 150 rfl rfl, List.forall_mem_cons.mpr ⟨px_i7 191 rfl rfl, List.forall_mem_cons.mpr ⟨px_i7 200 rfl rfl, List.forall_mem_cons.mpr ⟨px_i7 218 rfl rfl, List.forall_mem_cons.mpr ⟨px_i7 219 rfl rfl, List.forall_mem_cons.mpr ⟨px_i7 220 rfl rfl, List.forall_mem_cons.mpr ⟨px_i7 221 rfl rfl, List.forall_mem_cons.mpr ⟨px_i7 226 rfl rfl, List.forall_mem_cons.mpr ⟨px_i7 227 rfl rfl, List.forall_mem_cons.mpr ⟨px_i7 228 rfl rfl, List.forall_mem_cons.mpr ⟨px_i8 44 rfl rfl, fun _ h => absurd h List.not_mem_nil⟩⟩⟩⟩⟩⟩⟩⟩⟩⟩⟩⟩⟩⟩⟩⟩⟩
set_option maxRecDepth 100000 in
theorem px_tl_in : ∀ e ∈ px_tl, Cond.constantLong e.1 e.2.1 e.2.2 ∈ px_T := (px_dt _ 0 px_tl_in_0 (px_dt _ 20 px_tl_in_1 (px_dt _ 40 px_tl_in_2 (fun e he => absurd he (by rw [List.drop_eq_nil_of_le (Nat.le_of_ble_eq_true rfl)]; exact List.not_mem_nil)))))
theorem px_li_0 : ∀ k, k < 4 → u_lay RX0 TX0 k ∈ px_T := fun k h => match k, h with
  | 0, _ => px_i2 183 rfl rfl
  | 1, _ => px_i2 185 rfl rfl
  | 2, _ => px_i2 187 rfl rfl
  | 3, _ => px_i2 189 rfl rfl
  | k + 4, h => absurd h (by omega)
theorem px_li_1 : ∀ k, k < 16 → u_lay RX1 TX1 k ∈ px_T := fun k h => match k, h with
  | 0, _ => px_i1 95 rfl rfl
  | 1, _ => px_i1 97 rfl rfl
  | 2, _ => px_i1 99 rfl rfl
  | 3, _ => px_i1 101 rfl rfl
  | 4, _ => px_i1 103 rfl rfl
  | 5, _ => px_i1 105 rfl rfl
  | 6, _ => px_i1 107 rfl rfl
  | 7, _ => px_i1 109 rfl rfl
  | 8, _ => px_i1 111 rfl rfl
  | 9, _ => px_i1 113 rfl rfl
  | 10, _ => px_i1 115 rfl rfl
  | 11, _ => px_i1 117 rfl rfl
  | 12, _ => px_i1 119 rfl rfl
  | 13, _ => px_i1 121 rfl rfl
  | 14, _ => px_i1 123 rfl rfl
  | 15, _ => px_i1 125 rfl rfl
  | k + 16, h => absurd h (by omega)
theorem px_li_2 : ∀ k, k < 3 → u_lay RX2 TX2 k ∈ px_T := fun k h => match k, h with
  | 0, _ => px_i1 141 rfl rfl
  | 1, _ => px_i1 143 rfl rfl
  | 2, _ => px_i1 145 rfl rfl
  | k + 3, h => absurd h (by omega)
theorem px_li_3 : ∀ k, k < 6 → u_lay RX3 TX3 k ∈ px_T := fun k h => match k, h with
  | 0, _ => px_i2 133 rfl rfl
  | 1, _ => px_i2 135 rfl rfl
  | 2, _ => px_i2 137 rfl rfl
  | 3, _ => px_i2 139 rfl rfl
  | 4, _ => px_i2 141 rfl rfl
  | 5, _ => px_i2 143 rfl rfl
  | k + 6, h => absurd h (by omega)
theorem px_li_4 : ∀ k, k < 16 → u_lay RX4 TX4 k ∈ px_T := fun k h => match k, h with
  | 0, _ => px_i1 234 rfl rfl
  | 1, _ => px_i1 236 rfl rfl
  | 2, _ => px_i1 238 rfl rfl
  | 3, _ => px_i2 0 rfl rfl
  | 4, _ => px_i2 2 rfl rfl
  | 5, _ => px_i2 4 rfl rfl
  | 6, _ => px_i2 6 rfl rfl
  | 7, _ => px_i2 8 rfl rfl
  | 8, _ => px_i2 10 rfl rfl
  | 9, _ => px_i2 12 rfl rfl
  | 10, _ => px_i2 14 rfl rfl
  | 11, _ => px_i2 16 rfl rfl
  | 12, _ => px_i2 18 rfl rfl
  | 13, _ => px_i2 20 rfl rfl
  | 14, _ => px_i2 22 rfl rfl
  | 15, _ => px_i2 24 rfl rfl
  | k + 16, h => absurd h (by omega)
theorem px_li_5 : ∀ k, k < 4 → u_lay RX5 TX5 k ∈ px_T := fun k h => match k, h with
  | 0, _ => px_i2 111 rfl rfl
  | 1, _ => px_i2 113 rfl rfl
  | 2, _ => px_i2 115 rfl rfl
  | 3, _ => px_i2 117 rfl rfl
  | k + 4, h => absurd h (by omega)
theorem px_li_6 : ∀ k, k < 6 → u_lay RX6 TX6 k ∈ px_T := fun k h => match k, h with
  | 0, _ => px_i2 158 rfl rfl
  | 1, _ => px_i2 160 rfl rfl
  | 2, _ => px_i2 162 rfl rfl
  | 3, _ => px_i2 164 rfl rfl
  | 4, _ => px_i2 166 rfl rfl
  | 5, _ => px_i2 168 rfl rfl
  | k + 6, h => absurd h (by omega)
theorem px_li_7 : ∀ k, k < 9 → u_lay RX7 TX7 k ∈ px_T := fun k h => match k, h with
  | 0, _ => px_i1 44 rfl rfl
  | 1, _ => px_i1 46 rfl rfl
  | 2, _ => px_i1 48 rfl rfl
  | 3, _ => px_i1 50 rfl rfl
  | 4, _ => px_i1 52 rfl rfl
  | 5, _ => px_i1 54 rfl rfl
  | 6, _ => px_i1 56 rfl rfl
  | 7, _ => px_i1 58 rfl rfl
  | 8, _ => px_i1 60 rfl rfl
  | k + 9, h => absurd h (by omega)
theorem px_li_8 : ∀ k, k < 7 → u_lay RX8 TX8 k ∈ px_T := fun k h => match k, h with
  | 0, _ => px_i1 167 rfl rfl
  | 1, _ => px_i1 169 rfl rfl
  | 2, _ => px_i1 171 rfl rfl
  | 3, _ => px_i1 173 rfl rfl
  | 4, _ => px_i1 175 rfl rfl
  | 5, _ => px_i1 177 rfl rfl
  | 6, _ => px_i1 179 rfl rfl
  | k + 7, h => absurd h (by omega)
theorem px_li_9 : ∀ k, k < 18 → u_lay RX9 TX9 k ∈ px_T := fun k h => match k, h with
  | 0, _ => px_i2 67 rfl rfl
  | 1, _ => px_i2 69 rfl rfl
  | 2, _ => px_i2 71 rfl rfl
  | 3, _ => px_i2 73 rfl rfl
  | 4, _ => px_i2 75 rfl rfl
  | 5, _ => px_i2 77 rfl rfl
  | 6, _ => px_i2 79 rfl rfl
  | 7, _ => px_i2 81 rfl rfl
  | 8, _ => px_i2 83 rfl rfl
  | 9, _ => px_i2 85 rfl rfl
  | 10, _ => px_i2 87 rfl rfl
  | 11, _ => px_i2 89 rfl rfl
  | 12, _ => px_i2 91 rfl rfl
  | 13, _ => px_i2 93 rfl rfl
  | 14, _ => px_i2 95 rfl rfl
  | 15, _ => px_i2 97 rfl rfl
  | 16, _ => px_i2 99 rfl rfl
  | 17, _ => px_i2 101 rfl rfl
  | k + 18, h => absurd h (by omega)
theorem px_li_10 : ∀ k, k < 4 → u_lay RX10 TX10 k ∈ px_T := fun k h => match k, h with
  | 0, _ => px_i1 205 rfl rfl
  | 1, _ => px_i1 207 rfl rfl
  | 2, _ => px_i1 209 rfl rfl
  | 3, _ => px_i1 211 rfl rfl
  | k + 4, h => absurd h (by omega)
theorem px_li_11 : ∀ k, k < 11 → u_lay RX11 TX11 k ∈ px_T := fun k h => match k, h with
  | 0, _ => px_i2 203 rfl rfl
  | 1, _ => px_i2 205 rfl rfl
  | 2, _ => px_i2 207 rfl rfl
  | 3, _ => px_i2 209 rfl rfl
  | 4, _ => px_i2 211 rfl rfl
  | 5, _ => px_i2 213 rfl rfl
  | 6, _ => px_i2 215 rfl rfl
  | 7, _ => px_i2 217 rfl rfl
  | 8, _ => px_i2 219 rfl rfl
  | 9, _ => px_i2 221 rfl rfl
  | 10, _ => px_i2 223 rfl rfl
  | k + 11, h => absurd h (by omega)
theorem px_li_12 : ∀ k, k < 77 → u_lay RX12 TX12 k ∈ px_T := fun k h => match k, h with
  | 0, _ => px_i6 21 rfl rfl
  | 1, _ => px_i6 23 rfl rfl
  | 2, _ => px_i6 25 rfl rfl
  | 3, _ => px_i6 27 rfl rfl
  | 4, _ => px_i6 29 rfl rfl
  | 5, _ => px_i6 31 rfl rfl
  | 6, _ => px_i6 33 rfl rfl
  | 7, _ => px_i6 35 rfl rfl
  | 8, _ => px_i6 37 rfl rfl
  | 9, _ => px_i6 39 rfl rfl
  | 10, _ => px_i6 41 rfl rfl
  | 11, _ => px_i6 43 rfl rfl
  | 12, _ => px_i6 45 rfl rfl
  | 13, _ => px_i6 47 rfl rfl
  | 14, _ => px_i6 49 rfl rfl
  | 15, _ => px_i6 51 rfl rfl
  | 16, _ => px_i6 53 rfl rfl
  | 17, _ => px_i6 55 rfl rfl
  | 18, _ => px_i6 57 rfl rfl
  | 19, _ => px_i6 59 rfl rfl
  | 20, _ => px_i6 61 rfl rfl
  | 21, _ => px_i6 63 rfl rfl
  | 22, _ => px_i6 65 rfl rfl
  | 23, _ => px_i6 67 rfl rfl
  | 24, _ => px_i6 69 rfl rfl
  | 25, _ => px_i6 71 rfl rfl
  | 26, _ => px_i6 73 rfl rfl
  | 27, _ => px_i6 75 rfl rfl
  | 28, _ => px_i6 77 rfl rfl
  | 29, _ => px_i6 79 rfl rfl
  | 30, _ => px_i6 81 rfl rfl
  | 31, _ => px_i6 83 rfl rfl
  | 32, _ => px_i6 85 rfl rfl
  | 33, _ => px_i6 87 rfl rfl
  | 34, _ => px_i6 89 rfl rfl
  | 35, _ => px_i6 91 rfl rfl
  | 36, _ => px_i6 93 rfl rfl
  | 37, _ => px_i6 95 rfl rfl
  | 38, _ => px_i6 97 rfl rfl
  | 39, _ => px_i6 99 rfl rfl
  | 40, _ => px_i6 101 rfl rfl
  | 41, _ => px_i6 103 rfl rfl
  | 42, _ => px_i6 105 rfl rfl
  | 43, _ => px_i6 107 rfl rfl
  | 44, _ => px_i6 109 rfl rfl
  | 45, _ => px_i6 111 rfl rfl
  | 46, _ => px_i6 113 rfl rfl
  | 47, _ => px_i6 115 rfl rfl
  | 48, _ => px_i6 117 rfl rfl
  | 49, _ => px_i6 119 rfl rfl
  | 50, _ => px_i6 121 rfl rfl
  | 51, _ => px_i6 123 rfl rfl
  | 52, _ => px_i6 125 rfl rfl
  | 53, _ => px_i6 127 rfl rfl
  | 54, _ => px_i6 129 rfl rfl
  | 55, _ => px_i6 131 rfl rfl
  | 56, _ => px_i6 133 rfl rfl
  | 57, _ => px_i6 135 rfl rfl
  | 58, _ => px_i6 137 rfl rfl
  | 59, _ => px_i6 139 rfl rfl
  | 60, _ => px_i6 141 rfl rfl
  | 61, _ => px_i6 143 rfl rfl
  | 62, _ => px_i6 145 rfl rfl
  | 63, _ => px_i6 147 rfl rfl
  | 64, _ => px_i6 149 rfl rfl
  | 65, _ => px_i6 151 rfl rfl
  | 66, _ => px_i6 153 rfl rfl
  | 67, _ => px_i6 155 rfl rfl
  | 68, _ => px_i6 157 rfl rfl
  | 69, _ => px_i6 159 rfl rfl
  | 70, _ => px_i6 161 rfl rfl
  | 71, _ => px_i6 163 rfl rfl
  | 72, _ => px_i6 165 rfl rfl
  | 73, _ => px_i6 167 rfl rfl
  | 74, _ => px_i6 169 rfl rfl
  | 75, _ => px_i6 171 rfl rfl
  | 76, _ => px_i6 173 rfl rfl
  | k + 77, h => absurd h (by omega)
theorem px_cl_in : ∀ ci, ci < 13 → ∀ w ∈ u_ws (px_Rn ci) (px_Tf ci) (px_Nf ci), w ∈ px_T := by
  intro ci h w hw
  obtain ⟨k, hk, rfl⟩ := List.mem_map.mp hw
  have hk := List.mem_range.mp hk
  match ci, h with
  | 0, _ => exact px_li_0 k hk
  | 1, _ => exact px_li_1 k hk
  | 2, _ => exact px_li_2 k hk
  | 3, _ => exact px_li_3 k hk
  | 4, _ => exact px_li_4 k hk
  | 5, _ => exact px_li_5 k hk
  | 6, _ => exact px_li_6 k hk
  | 7, _ => exact px_li_7 k hk
  | 8, _ => exact px_li_8 k hk
  | 9, _ => exact px_li_9 k hk
  | 10, _ => exact px_li_10 k hk
  | 11, _ => exact px_li_11 k hk
  | 12, _ => exact px_li_12 k hk
  | n + 13, h => exact absurd h (by omega)
theorem px_cl_ty : ∀ ci, ci < 13 → ∀ k, k < px_Nf ci → parseFieldDescriptor (px_Tf ci k).2.2.1 = some (px_ty ci k) := by decide +kernel
theorem px_cl_nm : ∀ ci, ci < 13 → ∀ a, a < px_Nf ci → ∀ b, b < px_Nf ci → a ≠ b → (px_Tf ci a).2.1 ≠ (px_Tf ci b).2.1 := by decide +kernel
theorem px_cl_at : ∀ ci, ci < 13 → vwCl[ci]? = some (px_Rn ci, px_Tf ci, px_Nf ci) := by
  intro ci h
  match ci, h with
  | 0, _ => rfl
  | 1, _ => rfl
  | 2, _ => rfl
  | 3, _ => rfl
  | 4, _ => rfl
  | 5, _ => rfl
  | 6, _ => rfl
  | 7, _ => rfl
  | 8, _ => rfl
  | 9, _ => rfl
  | 10, _ => rfl
  | 11, _ => rfl
  | 12, _ => rfl
  | n + 13, h => exact absurd h (by omega)
