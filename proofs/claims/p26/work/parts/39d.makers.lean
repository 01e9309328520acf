theorem q_X12_init_0 : (px_bk 12 2 cX12_init 0 [(.aload_n 0, (0, 0, 0, 0, 0), 0, 0)] = some 1 ∧ List.all [(.aload_n 0, (0, 0, 0, 0, 0), 0, 0)] (fun x => !px_us x) = true) := by decide +kernel
theorem q_X12_init_4 : (px_bk 12 2 cX12_init 4 [(.aload_n 0, (0, 0, 0, 0, 0), 0, 0), (.iconst 1, (0, 0, 0, 0, 0), 1, 0), (.putfield 7, (12, 1, 0, 0, 0), 0, 0), (.aload_n 0, (0, 0, 0, 0, 0), 0, 0), (.bipush 80, (0, 0, 0, 0, 0), 80, 0)] = some 12 ∧ List.all [(.aload_n 0, (0, 0, 0, 0, 0), 0, 0), (.iconst 1, (0, 0, 0, 0, 0), 1, 0), (.putfield 7, (12, 1, 0, 0, 0), 0, 0), (.aload_n 0, (0, 0, 0, 0, 0), 0, 0), (.bipush 80, (0, 0, 0, 0, 0), 80, 0)] (fun x => !px_us x) = true) := by decide +kernel
theorem q_X12_init_17 : (px_bk 12 2 cX12_init 17 [(.aload_n 0, (0, 0, 0, 0, 0), 0, 0), (.bipush 80, (0, 0, 0, 0, 0), 80, 0)] = some 20 ∧ List.all [(.aload_n 0, (0, 0, 0, 0, 0), 0, 0), (.bipush 80, (0, 0, 0, 0, 0), 80, 0)] (fun x => !px_us x) = true) := by decide +kernel
theorem q_X12_init_25 : (px_bk 12 2 cX12_init 25 [(.aload_n 0, (0, 0, 0, 0, 0), 0, 0), (.bipush 80, (0, 0, 0, 0, 0), 80, 0)] = some 28 ∧ List.all [(.aload_n 0, (0, 0, 0, 0, 0), 0, 0), (.bipush 80, (0, 0, 0, 0, 0), 80, 0)] (fun x => !px_us x) = true) := by decide +kernel
theorem q_X12_init_33 : (px_bk 12 2 cX12_init 33 [(.aload_n 0, (0, 0, 0, 0, 0), 0, 0), (.bipush 80, (0, 0, 0, 0, 0), 80, 0)] = some 36 ∧ List.all [(.aload_n 0, (0, 0, 0, 0, 0), 0, 0), (.bipush 80, (0, 0, 0, 0, 0), 80, 0)] (fun x => !px_us x) = true) := by decide +kernel
theorem q_X12_init_41 : (px_bk 12 2 cX12_init 41 [(.aload_n 0, (0, 0, 0, 0, 0), 0, 0), (.bipush 80, (0, 0, 0, 0, 0), 80, 0)] = some 44 ∧ List.all [(.aload_n 0, (0, 0, 0, 0, 0), 0, 0), (.bipush 80, (0, 0, 0, 0, 0), 80, 0)] (fun x => !px_us x) = true) := by decide +kernel
theorem q_X12_init_49 : (px_bk 12 2 cX12_init 49 [(.aload_n 0, (0, 0, 0, 0, 0), 0, 0), (.bipush 80, (0, 0, 0, 0, 0), 80, 0)] = some 52 ∧ List.all [(.aload_n 0, (0, 0, 0, 0, 0), 0, 0), (.bipush 80, (0, 0, 0, 0, 0), 80, 0)] (fun x => !px_us x) = true) := by decide +kernel
theorem q_X12_init_57 : (px_bk 12 2 cX12_init 57 [(.aload_n 0, (0, 0, 0, 0, 0), 0, 0), (.iconst 2, (0, 0, 0, 0, 0), 2, 0)] = some 59 ∧ List.all [(.aload_n 0, (0, 0, 0, 0, 0), 0, 0), (.iconst 2, (0, 0, 0, 0, 0), 2, 0)] (fun x => !px_us x) = true) := by decide +kernel
theorem q_X12_init_64 : (px_bk 12 2 cX12_init 64 [(.aload_n 0, (0, 0, 0, 0, 0), 0, 0), (.bipush 40, (0, 0, 0, 0, 0), 40, 0)] = some 67 ∧ List.all [(.aload_n 0, (0, 0, 0, 0, 0), 0, 0), (.bipush 40, (0, 0, 0, 0, 0), 40, 0)] (fun x => !px_us x) = true) := by decide +kernel
theorem q_X12_init_72 : (px_bk 12 2 cX12_init 72 [(.aload_n 0, (0, 0, 0, 0, 0), 0, 0), (.bipush 40, (0, 0, 0, 0, 0), 40, 0)] = some 75 ∧ List.all [(.aload_n 0, (0, 0, 0, 0, 0), 0, 0), (.bipush 40, (0, 0, 0, 0, 0), 40, 0)] (fun x => !px_us x) = true) := by decide +kernel
theorem q_X12_init_80 : (px_bk 12 2 cX12_init 80 [(.aload_n 0, (0, 0, 0, 0, 0), 0, 0), (.bipush 40, (0, 0, 0, 0, 0), 40, 0)] = some 83 ∧ List.all [(.aload_n 0, (0, 0, 0, 0, 0), 0, 0), (.bipush 40, (0, 0, 0, 0, 0), 40, 0)] (fun x => !px_us x) = true) := by decide +kernel
theorem q_X12_init_88 : (px_bk 12 2 cX12_init 88 [(.aload_n 0, (0, 0, 0, 0, 0), 0, 0), (.bipush 40, (0, 0, 0, 0, 0), 40, 0)] = some 91 ∧ List.all [(.aload_n 0, (0, 0, 0, 0, 0), 0, 0), (.bipush 40, (0, 0, 0, 0, 0), 40, 0)] (fun x => !px_us x) = true) := by decide +kernel
theorem q_X12_init_96 : (px_bk 12 2 cX12_init 96 [(.aload_n 0, (0, 0, 0, 0, 0), 0, 0), (.bipush 40, (0, 0, 0, 0, 0), 40, 0)] = some 99 ∧ List.all [(.aload_n 0, (0, 0, 0, 0, 0), 0, 0), (.bipush 40, (0, 0, 0, 0, 0), 40, 0)] (fun x => !px_us x) = true) := by decide +kernel
theorem q_X12_init_104 : (px_bk 12 2 cX12_init 104 [(.aload_n 0, (0, 0, 0, 0, 0), 0, 0), (.bipush 40, (0, 0, 0, 0, 0), 40, 0)] = some 107 ∧ List.all [(.aload_n 0, (0, 0, 0, 0, 0), 0, 0), (.bipush 40, (0, 0, 0, 0, 0), 40, 0)] (fun x => !px_us x) = true) := by decide +kernel
theorem q_X12_init_112 : (px_bk 12 2 cX12_init 112 [(.aload_n 0, (0, 0, 0, 0, 0), 0, 0), (.bipush 40, (0, 0, 0, 0, 0), 40, 0)] = some 115 ∧ List.all [(.aload_n 0, (0, 0, 0, 0, 0), 0, 0), (.bipush 40, (0, 0, 0, 0, 0), 40, 0)] (fun x => !px_us x) = true) := by decide +kernel
theorem q_X12_init_120 : (px_bk 12 2 cX12_init 120 [(.aload_n 0, (0, 0, 0, 0, 0), 0, 0), (.bipush 40, (0, 0, 0, 0, 0), 40, 0)] = some 123 ∧ List.all [(.aload_n 0, (0, 0, 0, 0, 0), 0, 0), (.bipush 40, (0, 0, 0, 0, 0), 40, 0)] (fun x => !px_us x) = true) := by decide +kernel
theorem q_X12_init_128 : (px_bk 12 2 cX12_init 128 [(.aload_n 0, (0, 0, 0, 0, 0), 0, 0), (.bipush 40, (0, 0, 0, 0, 0), 40, 0)] = some 131 ∧ List.all [(.aload_n 0, (0, 0, 0, 0, 0), 0, 0), (.bipush 40, (0, 0, 0, 0, 0), 40, 0)] (fun x => !px_us x) = true) := by decide +kernel
theorem q_X12_init_136 : (px_bk 12 2 cX12_init 136 [(.aload_n 0, (0, 0, 0, 0, 0), 0, 0), (.bipush 40, (0, 0, 0, 0, 0), 40, 0)] = some 139 ∧ List.all [(.aload_n 0, (0, 0, 0, 0, 0), 0, 0), (.bipush 40, (0, 0, 0, 0, 0), 40, 0)] (fun x => !px_us x) = true) := by decide +kernel
theorem q_X12_init_144 : (px_bk 12 2 cX12_init 144 [(.aload_n 0, (0, 0, 0, 0, 0), 0, 0), (.sipush 400, (0, 0, 0, 0, 0), 400, 0)] = some 148 ∧ List.all [(.aload_n 0, (0, 0, 0, 0, 0), 0, 0), (.sipush 400, (0, 0, 0, 0, 0), 400, 0)] (fun x => !px_us x) = true) := by decide +kernel
theorem q_X12_init_153 : (px_bk 12 2 cX12_init 153 [(.aload_n 0, (0, 0, 0, 0, 0), 0, 0), (.iconst (-1), (0, 0, 0, 0, 0), -1, 0), (.putfield 69, (12, 33, 0, 0, 0), 0, 0), (.aload_n 0, (0, 0, 0, 0, 0), 0, 0), (.iconst (-1), (0, 0, 0, 0, 0), -1, 0), (.putfield 72, (12, 34, 0, 0, 0), 0, 0), (.aload_n 0, (0, 0, 0, 0, 0), 0, 0), (.sipush 220, (0, 0, 0, 0, 0), 220, 0)] = some 167 ∧ List.all [(.aload_n 0, (0, 0, 0, 0, 0), 0, 0), (.iconst (-1), (0, 0, 0, 0, 0), -1, 0), (.putfield 69, (12, 33, 0, 0, 0), 0, 0), (.aload_n 0, (0, 0, 0, 0, 0), 0, 0), (.iconst (-1), (0, 0, 0, 0, 0), -1, 0), (.putfield 72, (12, 34, 0, 0, 0), 0, 0), (.aload_n 0, (0, 0, 0, 0, 0), 0, 0), (.sipush 220, (0, 0, 0, 0, 0), 220, 0)] (fun x => !px_us x) = true) := by decide +kernel
theorem q_X12_init_172 : (px_bk 12 2 cX12_init 172 [(.aload_n 0, (0, 0, 0, 0, 0), 0, 0), (.sipush 220, (0, 0, 0, 0, 0), 220, 0)] = some 176 ∧ List.all [(.aload_n 0, (0, 0, 0, 0, 0), 0, 0), (.sipush 220, (0, 0, 0, 0, 0), 220, 0)] (fun x => !px_us x) = true) := by decide +kernel
theorem q_X12_init_181 : (px_bk 12 2 cX12_init 181 [(.aload_n 0, (0, 0, 0, 0, 0), 0, 0), (.bipush 8, (0, 0, 0, 0, 0), 8, 0)] = some 184 ∧ List.all [(.aload_n 0, (0, 0, 0, 0, 0), 0, 0), (.bipush 8, (0, 0, 0, 0, 0), 8, 0)] (fun x => !px_us x) = true) := by decide +kernel
theorem q_X12_init_189 : (px_bk 12 2 cX12_init 189 [(.aload_n 0, (0, 0, 0, 0, 0), 0, 0), (.bipush 9, (0, 0, 0, 0, 0), 9, 0)] = some 192 ∧ List.all [(.aload_n 0, (0, 0, 0, 0, 0), 0, 0), (.bipush 9, (0, 0, 0, 0, 0), 9, 0)] (fun x => !px_us x) = true) := by decide +kernel
theorem q_X12_init_197 : (px_bk 12 2 cX12_init 197 [(.aload_n 0, (0, 0, 0, 0, 0), 0, 0), (.bipush 9, (0, 0, 0, 0, 0), 9, 0)] = some 200 ∧ List.all [(.aload_n 0, (0, 0, 0, 0, 0), 0, 0), (.bipush 9, (0, 0, 0, 0, 0), 9, 0)] (fun x => !px_us x) = true) := by decide +kernel
theorem q_X12_init_205 : (px_bk 12 2 cX12_init 205 [(.aload_n 0, (0, 0, 0, 0, 0), 0, 0), (.bipush 10, (0, 0, 0, 0, 0), 10, 0)] = some 208 ∧ List.all [(.aload_n 0, (0, 0, 0, 0, 0), 0, 0), (.bipush 10, (0, 0, 0, 0, 0), 10, 0)] (fun x => !px_us x) = true) := by decide +kernel
theorem q_X12_init_213 : (px_bk 12 2 cX12_init 213 [(.aload_n 0, (0, 0, 0, 0, 0), 0, 0), (.bipush 8, (0, 0, 0, 0, 0), 8, 0)] = some 216 ∧ List.all [(.aload_n 0, (0, 0, 0, 0, 0), 0, 0), (.bipush 8, (0, 0, 0, 0, 0), 8, 0)] (fun x => !px_us x) = true) := by decide +kernel
theorem q_X12_init_221 : (px_bk 12 2 cX12_init 221 [(.aload_n 0, (0, 0, 0, 0, 0), 0, 0), (.bipush 6, (0, 0, 0, 0, 0), 6, 0)] = some 224 ∧ List.all [(.aload_n 0, (0, 0, 0, 0, 0), 0, 0), (.bipush 6, (0, 0, 0, 0, 0), 6, 0)] (fun x => !px_us x) = true) := by decide +kernel
theorem q_X12_init_229 : (px_bk 12 2 cX12_init 229 [(.aload_n 0, (0, 0, 0, 0, 0), 0, 0), (.sipush 1320, (0, 0, 0, 0, 0), 1320, 0)] = some 233 ∧ List.all [(.aload_n 0, (0, 0, 0, 0, 0), 0, 0), (.sipush 1320, (0, 0, 0, 0, 0), 1320, 0)] (fun x => !px_us x) = true) := by decide +kernel
theorem q_X12_init_238 : (px_bk 12 2 cX12_init 238 [(.aload_n 0, (0, 0, 0, 0, 0), 0, 0), (.sipush 1320, (0, 0, 0, 0, 0), 1320, 0)] = some 242 ∧ List.all [(.aload_n 0, (0, 0, 0, 0, 0), 0, 0), (.sipush 1320, (0, 0, 0, 0, 0), 1320, 0)] (fun x => !px_us x) = true) := by decide +kernel
theorem q_X12_init_247 : (px_bk 12 2 cX12_init 247 [(.aload_n 0, (0, 0, 0, 0, 0), 0, 0), (.iconst 5, (0, 0, 0, 0, 0), 5, 0), (.putfield 106, (12, 47, 0, 0, 0), 0, 0), (.aload_n 0, (0, 0, 0, 0, 0), 0, 0), (.iconst 3, (0, 0, 0, 0, 0), 3, 0), (.putfield 109, (12, 48, 0, 0, 0), 0, 0), (.aload_n 0, (0, 0, 0, 0, 0), 0, 0), (.bipush 10, (0, 0, 0, 0, 0), 10, 0), (.putfield 112, (12, 49, 0, 0, 0), 0, 0), (.aload_n 0, (0, 0, 0, 0, 0), 0, 0), (.bipush 50, (0, 0, 0, 0, 0), 50, 0), (.putfield 115, (12, 50, 0, 0, 0), 0, 0), (.aload_n 0, (0, 0, 0, 0, 0), 0, 0), (.iconst 4, (0, 0, 0, 0, 0), 4, 0), (.putfield 118, (12, 51, 0, 0, 0), 0, 0), (.aload_n 0, (0, 0, 0, 0, 0), 0, 0), (.bipush 9, (0, 0, 0, 0, 0), 9, 0)] = some 277 ∧ List.all [(.aload_n 0, (0, 0, 0, 0, 0), 0, 0), (.iconst 5, (0, 0, 0, 0, 0), 5, 0), (.putfield 106, (12, 47, 0, 0, 0), 0, 0), (.aload_n 0, (0, 0, 0, 0, 0), 0, 0), (.iconst 3, (0, 0, 0, 0, 0), 3, 0), (.putfield 109, (12, 48, 0, 0, 0), 0, 0), (.aload_n 0, (0, 0, 0, 0, 0), 0, 0), (.bipush 10, (0, 0, 0, 0, 0), 10, 0), (.putfield 112, (12, 49, 0, 0, 0), 0, 0), (.aload_n 0, (0, 0, 0, 0, 0), 0, 0), (.bipush 50, (0, 0, 0, 0, 0), 50, 0), (.putfield 115, (12, 50, 0, 0, 0), 0, 0), (.aload_n 0, (0, 0, 0, 0, 0), 0, 0), (.iconst 4, (0, 0, 0, 0, 0), 4, 0), (.putfield 118, (12, 51, 0, 0, 0), 0, 0), (.aload_n 0, (0, 0, 0, 0, 0), 0, 0), (.bipush 9, (0, 0, 0, 0, 0), 9, 0)] (fun x => !px_us x) = true) := by decide +kernel
theorem q_X12_init_282 : (px_bk 12 2 cX12_init 282 [(.aload_n 0, (0, 0, 0, 0, 0), 0, 0), (.bipush 90, (0, 0, 0, 0, 0), 90, 0)] = some 285 ∧ List.all [(.aload_n 0, (0, 0, 0, 0, 0), 0, 0), (.bipush 90, (0, 0, 0, 0, 0), 90, 0)] (fun x => !px_us x) = true) := by decide +kernel
theorem q_X12_init_290 : (px_bk 12 2 cX12_init 290 [(.aload_n 0, (0, 0, 0, 0, 0), 0, 0), (.bipush 90, (0, 0, 0, 0, 0), 90, 0)] = some 293 ∧ List.all [(.aload_n 0, (0, 0, 0, 0, 0), 0, 0), (.bipush 90, (0, 0, 0, 0, 0), 90, 0)] (fun x => !px_us x) = true) := by decide +kernel
theorem q_X12_init_298 : (px_bk 12 2 cX12_init 298 [(.aload_n 0, (0, 0, 0, 0, 0), 0, 0), (.iconst 3, (0, 0, 0, 0, 0), 3, 0)] = some 300 ∧ List.all [(.aload_n 0, (0, 0, 0, 0, 0), 0, 0), (.iconst 3, (0, 0, 0, 0, 0), 3, 0)] (fun x => !px_us x) = true) := by decide +kernel
theorem q_X12_init_305 : (px_bk 12 2 cX12_init 305 [(.aload_n 0, (0, 0, 0, 0, 0), 0, 0), (.iconst 3, (0, 0, 0, 0, 0), 3, 0)] = some 307 ∧ List.all [(.aload_n 0, (0, 0, 0, 0, 0), 0, 0), (.iconst 3, (0, 0, 0, 0, 0), 3, 0)] (fun x => !px_us x) = true) := by decide +kernel
theorem q_X12_init_312 : (px_bk 12 2 cX12_init 312 [(.aload_n 0, (0, 0, 0, 0, 0), 0, 0), (.iconst 3, (0, 0, 0, 0, 0), 3, 0)] = some 314 ∧ List.all [(.aload_n 0, (0, 0, 0, 0, 0), 0, 0), (.iconst 3, (0, 0, 0, 0, 0), 3, 0)] (fun x => !px_us x) = true) := by decide +kernel
theorem q_X12_init_316 : (px_bk 12 2 cX12_init 316 [(.dup, (0, 0, 0, 0, 0), 0, 0), (.iconst 0, (0, 0, 0, 0, 0), 0, 0), (.iconst 1, (0, 0, 0, 0, 0), 1, 0), (.iastore, (0, 0, 0, 0, 0), 0, 0), (.dup, (0, 0, 0, 0, 0), 0, 0), (.iconst 1, (0, 0, 0, 0, 0), 1, 0), (.iconst 1, (0, 0, 0, 0, 0), 1, 0), (.iastore, (0, 0, 0, 0, 0), 0, 0), (.dup, (0, 0, 0, 0, 0), 0, 0), (.iconst 2, (0, 0, 0, 0, 0), 2, 0), (.iconst 1, (0, 0, 0, 0, 0), 1, 0), (.iastore, (0, 0, 0, 0, 0), 0, 0)] = some 328 ∧ List.all [(.dup, (0, 0, 0, 0, 0), 0, 0), (.iconst 0, (0, 0, 0, 0, 0), 0, 0), (.iconst 1, (0, 0, 0, 0, 0), 1, 0), (.iastore, (0, 0, 0, 0, 0), 0, 0), (.dup, (0, 0, 0, 0, 0), 0, 0), (.iconst 1, (0, 0, 0, 0, 0), 1, 0), (.iconst 1, (0, 0, 0, 0, 0), 1, 0), (.iastore, (0, 0, 0, 0, 0), 0, 0), (.dup, (0, 0, 0, 0, 0), 0, 0), (.iconst 2, (0, 0, 0, 0, 0), 2, 0), (.iconst 1, (0, 0, 0, 0, 0), 1, 0), (.iastore, (0, 0, 0, 0, 0), 0, 0)] (fun x => !px_us x) = true) := by decide +kernel
theorem q_X12_init_331 : (px_bk 12 2 cX12_init 331 [(.aload_n 0, (0, 0, 0, 0, 0), 0, 0), (.bipush 10, (0, 0, 0, 0, 0), 10, 0)] = some 334 ∧ List.all [(.aload_n 0, (0, 0, 0, 0, 0), 0, 0), (.bipush 10, (0, 0, 0, 0, 0), 10, 0)] (fun x => !px_us x) = true) := by decide +kernel
theorem q_X12_init_339 : (px_bk 12 2 cX12_init 339 [(.aload_n 0, (0, 0, 0, 0, 0), 0, 0), (.bipush 30, (0, 0, 0, 0, 0), 30, 0)] = some 342 ∧ List.all [(.aload_n 0, (0, 0, 0, 0, 0), 0, 0), (.bipush 30, (0, 0, 0, 0, 0), 30, 0)] (fun x => !px_us x) = true) := by decide +kernel
theorem q_X12_init_347 : (px_bk 12 2 cX12_init 347 [(.aload_n 0, (0, 0, 0, 0, 0), 0, 0), (.bipush 30, (0, 0, 0, 0, 0), 30, 0)] = some 350 ∧ List.all [(.aload_n 0, (0, 0, 0, 0, 0), 0, 0), (.bipush 30, (0, 0, 0, 0, 0), 30, 0)] (fun x => !px_us x) = true) := by decide +kernel
theorem q_X12_init_355 : (px_bk 12 2 cX12_init 355 [(.aload_n 0, (0, 0, 0, 0, 0), 0, 0), (.bipush 30, (0, 0, 0, 0, 0), 30, 0)] = some 358 ∧ List.all [(.aload_n 0, (0, 0, 0, 0, 0), 0, 0), (.bipush 30, (0, 0, 0, 0, 0), 30, 0)] (fun x => !px_us x) = true) := by decide +kernel
theorem q_X12_init_363 : (px_bk 12 2 cX12_init 363 [(.aload_n 0, (0, 0, 0, 0, 0), 0, 0), (.bipush 30, (0, 0, 0, 0, 0), 30, 0)] = some 366 ∧ List.all [(.aload_n 0, (0, 0, 0, 0, 0), 0, 0), (.bipush 30, (0, 0, 0, 0, 0), 30, 0)] (fun x => !px_us x) = true) := by decide +kernel
theorem q_X12_init_371 : (px_bk 12 2 cX12_init 371 [(.aload_n 0, (0, 0, 0, 0, 0), 0, 0), (.sipush 576, (0, 0, 0, 0, 0), 576, 0)] = some 375 ∧ List.all [(.aload_n 0, (0, 0, 0, 0, 0), 0, 0), (.sipush 576, (0, 0, 0, 0, 0), 576, 0)] (fun x => !px_us x) = true) := by decide +kernel
theorem q_X12_init_380 : (px_bk 12 2 cX12_init 380 [(.aload_n 0, (0, 0, 0, 0, 0), 0, 0), (.bipush 6, (0, 0, 0, 0, 0), 6, 0)] = some 383 ∧ List.all [(.aload_n 0, (0, 0, 0, 0, 0), 0, 0), (.bipush 6, (0, 0, 0, 0, 0), 6, 0)] (fun x => !px_us x) = true) := by decide +kernel
theorem q_X12_init_388 : (px_bk 12 2 cX12_init 388 [(.aload_n 0, (0, 0, 0, 0, 0), 0, 0), (.sipush 129, (0, 0, 0, 0, 0), 129, 0)] = some 392 ∧ List.all [(.aload_n 0, (0, 0, 0, 0, 0), 0, 0), (.sipush 129, (0, 0, 0, 0, 0), 129, 0)] (fun x => !px_us x) = true) := by decide +kernel
theorem q_X12_init_397 : (px_bk 12 2 cX12_init 397 [(.aload_n 0, (0, 0, 0, 0, 0), 0, 0), (.sipush 129, (0, 0, 0, 0, 0), 129, 0)] = some 401 ∧ List.all [(.aload_n 0, (0, 0, 0, 0, 0), 0, 0), (.sipush 129, (0, 0, 0, 0, 0), 129, 0)] (fun x => !px_us x) = true) := by decide +kernel
theorem q_X12_init_406 : (px_bk 12 2 cX12_init 406 [(.iconst 0, (0, 0, 0, 0, 0), 0, 0), (.istore_n 1, (0, 0, 0, 0, 0), 0, 0)] = some 408 ∧ List.all [(.iconst 0, (0, 0, 0, 0, 0), 0, 0), (.istore_n 1, (0, 0, 0, 0, 0), 0, 0)] (fun x => !px_us x) = true) := by decide +kernel
set_option maxRecDepth 100000 in
theorem mk_X12 {I : px_I} {L : px_L} {R : px_R} (hb : bOk 103 I L R) : px_K M_X12_init [.ref 103] 104 (px_w I 103 (fun _ => 0)) (px_w L 103 (fun _ => 0)) (px_w R 103 (fun _ => none)) (fun r n2 I2 L2 R2 => r = none ∧ n2 = 147 ∧ I2 = I ∧ L2 = L ∧ R2 = R) := by
  have hb1 : bOk 104 I L R := hb.le (by decide)
  have hb105 : bOk 105 I L R := hb.le (by decide)
  have hb106 : bOk 106 I L R := hb.le (by decide)
  have hb107 : bOk 107 I L R := hb.le (by decide)
  have hb108 : bOk 108 I L R := hb.le (by decide)
  have hb109 : bOk 109 I L R := hb.le (by decide)
  have hb110 : bOk 110 I L R := hb.le (by decide)
  have hb111 : bOk 111 I L R := hb.le (by decide)
  have hb112 : bOk 112 I L R := hb.le (by decide)
  have hb113 : bOk 113 I L R := hb.le (by decide)
  have hb114 : bOk 114 I L R := hb.le (by decide)
  have hb115 : bOk 115 I L R := hb.le (by decide)
  have hb116 : bOk 116 I L R := hb.le (by decide)
  have hb117 : bOk 117 I L R := hb.le (by decide)
  have hb118 : bOk 118 I L R := hb.le (by decide)
  have hb119 : bOk 119 I L R := hb.le (by decide)
  have hb120 : bOk 120 I L R := hb.le (by decide)
  have hb121 : bOk 121 I L R := hb.le (by decide)
  have hb122 : bOk 122 I L R := hb.le (by decide)
  have hb123 : bOk 123 I L R := hb.le (by decide)
  have hb124 : bOk 124 I L R := hb.le (by decide)
  have hb125 : bOk 125 I L R := hb.le (by decide)
  have hb126 : bOk 126 I L R := hb.le (by decide)
  have hb127 : bOk 127 I L R := hb.le (by decide)
  have hb128 : bOk 128 I L R := hb.le (by decide)
  have hb129 : bOk 129 I L R := hb.le (by decide)
  have hb130 : bOk 130 I L R := hb.le (by decide)
  have hb131 : bOk 131 I L R := hb.le (by decide)
  have hb132 : bOk 132 I L R := hb.le (by decide)
  have hb133 : bOk 133 I L R := hb.le (by decide)
  have hb134 : bOk 134 I L R := hb.le (by decide)
  have hb135 : bOk 135 I L R := hb.le (by decide)
  have hb136 : bOk 136 I L R := hb.le (by decide)
  have hb137 : bOk 137 I L R := hb.le (by decide)
  have hb138 : bOk 138 I L R := hb.le (by decide)
  have hb139 : bOk 139 I L R := hb.le (by decide)
  have hb140 : bOk 140 I L R := hb.le (by decide)
  have hb141 : bOk 141 I L R := hb.le (by decide)
  have hb142 : bOk 142 I L R := hb.le (by decide)
  have hb143 : bOk 143 I L R := hb.le (by decide)
  have hb144 : bOk 144 I L R := hb.le (by decide)
  have hb145 : bOk 145 I L R := hb.le (by decide)
  have hb146 : bOk 146 I L R := hb.le (by decide)
  have hb147 : bOk 147 I L R := hb.le (by decide)
  refine px_of (plainFor_of_name np_RX12) (fun _ _ _ => trivial) rfl ?_
  refine px_bc rfl q_X12_init_0 rfl trivial ?_
  refine px_oI (by decide +kernel) (px_i5 183 rfl rfl) (px_i1 25 rfl rfl) (px_i1 26 rfl rfl) rfl rfl ?_
  refine px_bc rfl q_X12_init_4 rfl trivial ?_
  refine px_nA3 (t0 := 0) (N := 80) (by decide +kernel) (Or.inl ⟨rfl, rfl, rfl⟩) rfl rfl rfl rfl (by repeat (first | with_reducible assumption | refine bOk.uI ?_ (by decide) | refine bOk.uR ?_ (by decide) | refine bOk.wI ?_ (by decide) | refine bOk.wR ?_ (by decide) | refine bOk.wL ?_ (by decide) | refine bOk.uL ?_ (by decide))) rfl rfl ?_
  refine px_pF (on := 12) (ci := 12) (kf := 3) (idx := 13) rfl (by decide +kernel) (by decide) ⟨by decide, by decide, rfl⟩ rfl (Or.inr ⟨_, rfl⟩) (by first | exact Or.inl rfl | exact Or.inr ⟨rfl, rfl, rfl⟩) ?_
  refine px_bc rfl q_X12_init_17 rfl trivial ?_
  refine px_nA3 (t0 := 0) (N := 80) (by decide +kernel) (Or.inl ⟨rfl, rfl, rfl⟩) rfl rfl rfl rfl (by repeat (first | with_reducible assumption | refine bOk.uI ?_ (by decide) | refine bOk.uR ?_ (by decide) | refine bOk.wI ?_ (by decide) | refine bOk.wR ?_ (by decide) | refine bOk.wL ?_ (by decide) | refine bOk.uL ?_ (by decide))) rfl rfl ?_
  refine px_pF (on := 12) (ci := 12) (kf := 4) (idx := 17) rfl (by decide +kernel) (by decide) ⟨by decide, by decide, rfl⟩ rfl (Or.inr ⟨_, rfl⟩) (by first | exact Or.inl rfl | exact Or.inr ⟨rfl, rfl, rfl⟩) ?_
  refine px_bc rfl q_X12_init_25 rfl trivial ?_
  refine px_nA3 (t0 := 0) (N := 80) (by decide +kernel) (Or.inl ⟨rfl, rfl, rfl⟩) rfl rfl rfl rfl (by repeat (first | with_reducible assumption | refine bOk.uI ?_ (by decide) | refine bOk.uR ?_ (by decide) | refine bOk.wI ?_ (by decide) | refine bOk.wR ?_ (by decide) | refine bOk.wL ?_ (by decide) | refine bOk.uL ?_ (by decide))) rfl rfl ?_
  refine px_pF (on := 12) (ci := 12) (kf := 5) (idx := 20) rfl (by decide +kernel) (by decide) ⟨by decide, by decide, rfl⟩ rfl (Or.inr ⟨_, rfl⟩) (by first | exact Or.inl rfl | exact Or.inr ⟨rfl, rfl, rfl⟩) ?_
  refine px_bc rfl q_X12_init_33 rfl trivial ?_
  refine px_nA3 (t0 := 0) (N := 80) (by decide +kernel) (Or.inl ⟨rfl, rfl, rfl⟩) rfl rfl rfl rfl (by repeat (first | with_reducible assumption | refine bOk.uI ?_ (by decide) | refine bOk.uR ?_ (by decide) | refine bOk.wI ?_ (by decide) | refine bOk.wR ?_ (by decide) | refine bOk.wL ?_ (by decide) | refine bOk.uL ?_ (by decide))) rfl rfl ?_
  refine px_pF (on := 12) (ci := 12) (kf := 6) (idx := 23) rfl (by decide +kernel) (by decide) ⟨by decide, by decide, rfl⟩ rfl (Or.inr ⟨_, rfl⟩) (by first | exact Or.inl rfl | exact Or.inr ⟨rfl, rfl, rfl⟩) ?_
  refine px_bc rfl q_X12_init_41 rfl trivial ?_
  refine px_nA3 (t0 := 0) (N := 80) (by decide +kernel) (Or.inl ⟨rfl, rfl, rfl⟩) rfl rfl rfl rfl (by repeat (first | with_reducible assumption | refine bOk.uI ?_ (by decide) | refine bOk.uR ?_ (by decide) | refine bOk.wI ?_ (by decide) | refine bOk.wR ?_ (by decide) | refine bOk.wL ?_ (by decide) | refine bOk.uL ?_ (by decide))) rfl rfl ?_
  refine px_pF (on := 12) (ci := 12) (kf := 7) (idx := 26) rfl (by decide +kernel) (by decide) ⟨by decide, by decide, rfl⟩ rfl (Or.inr ⟨_, rfl⟩) (by first | exact Or.inl rfl | exact Or.inr ⟨rfl, rfl, rfl⟩) ?_
  refine px_bc rfl q_X12_init_49 rfl trivial ?_
  refine px_nA3 (t0 := 0) (N := 80) (by decide +kernel) (Or.inl ⟨rfl, rfl, rfl⟩) rfl rfl rfl rfl (by repeat (first | with_reducible assumption | refine bOk.uI ?_ (by decide) | refine bOk.uR ?_ (by decide) | refine bOk.wI ?_ (by decide) | refine bOk.wR ?_ (by decide) | refine bOk.wL ?_ (by decide) | refine bOk.uL ?_ (by decide))) rfl rfl ?_
  refine px_pF (on := 12) (ci := 12) (kf := 8) (idx := 29) rfl (by decide +kernel) (by decide) ⟨by decide, by decide, rfl⟩ rfl (Or.inr ⟨_, rfl⟩) (by first | exact Or.inl rfl | exact Or.inr ⟨rfl, rfl, rfl⟩) ?_
  refine px_bc rfl q_X12_init_57 rfl trivial ?_
  refine px_nA3 (t0 := 0) (N := 2) (by decide +kernel) (Or.inl ⟨rfl, rfl, rfl⟩) rfl rfl rfl rfl (by repeat (first | with_reducible assumption | refine bOk.uI ?_ (by decide) | refine bOk.uR ?_ (by decide) | refine bOk.wI ?_ (by decide) | refine bOk.wR ?_ (by decide) | refine bOk.wL ?_ (by decide) | refine bOk.uL ?_ (by decide))) rfl rfl ?_
  refine px_pF (on := 12) (ci := 12) (kf := 9) (idx := 32) rfl (by decide +kernel) (by decide) ⟨by decide, by decide, rfl⟩ rfl (Or.inr ⟨_, rfl⟩) (by first | exact Or.inl rfl | exact Or.inr ⟨rfl, rfl, rfl⟩) ?_
  refine px_bc rfl q_X12_init_64 rfl trivial ?_
  refine px_nA3 (t0 := 0) (N := 40) (by decide +kernel) (Or.inl ⟨rfl, rfl, rfl⟩) rfl rfl rfl rfl (by repeat (first | with_reducible assumption | refine bOk.uI ?_ (by decide) | refine bOk.uR ?_ (by decide) | refine bOk.wI ?_ (by decide) | refine bOk.wR ?_ (by decide) | refine bOk.wL ?_ (by decide) | refine bOk.uL ?_ (by decide))) rfl rfl ?_
  refine px_pF (on := 12) (ci := 12) (kf := 10) (idx := 35) rfl (by decide +kernel) (by decide) ⟨by decide, by decide, rfl⟩ rfl (Or.inr ⟨_, rfl⟩) (by first | exact Or.inl rfl | exact Or.inr ⟨rfl, rfl, rfl⟩) ?_
  refine px_bc rfl q_X12_init_72 rfl trivial ?_
  refine px_nA3 (t0 := 0) (N := 40) (by decide +kernel) (Or.inl ⟨rfl, rfl, rfl⟩) rfl rfl rfl rfl (by repeat (first | with_reducible assumption | refine bOk.uI ?_ (by decide) | refine bOk.uR ?_ (by decide) | refine bOk.wI ?_ (by decide) | refine bOk.wR ?_ (by decide) | refine bOk.wL ?_ (by decide) | refine bOk.uL ?_ (by decide))) rfl rfl ?_
  refine px_pF (on := 12) (ci := 12) (kf := 11) (idx := 38) rfl (by decide +kernel) (by decide) ⟨by decide, by decide, rfl⟩ rfl (Or.inr ⟨_, rfl⟩) (by first | exact Or.inl rfl | exact Or.inr ⟨rfl, rfl, rfl⟩) ?_
  refine px_bc rfl q_X12_init_80 rfl trivial ?_
  refine px_nA3 (t0 := 0) (N := 40) (by decide +kernel) (Or.inl ⟨rfl, rfl, rfl⟩) rfl rfl rfl rfl (by repeat (first | with_reducible assumption | refine bOk.uI ?_ (by decide) | refine bOk.uR ?_ (by decide) | refine bOk.wI ?_ (by decide) | refine bOk.wR ?_ (by decide) | refine bOk.wL ?_ (by decide) | refine bOk.uL ?_ (by decide))) rfl rfl ?_
  refine px_pF (on := 12) (ci := 12) (kf := 12) (idx := 41) rfl (by decide +kernel) (by decide) ⟨by decide, by decide, rfl⟩ rfl (Or.inr ⟨_, rfl⟩) (by first | exact Or.inl rfl | exact Or.inr ⟨rfl, rfl, rfl⟩) ?_
  refine px_bc rfl q_X12_init_88 rfl trivial ?_
  refine px_nA3 (t0 := 0) (N := 40) (by decide +kernel) (Or.inl ⟨rfl, rfl, rfl⟩) rfl rfl rfl rfl (by repeat (first | with_reducible assumption | refine bOk.uI ?_ (by decide) | refine bOk.uR ?_ (by decide) | refine bOk.wI ?_ (by decide) | refine bOk.wR ?_ (by decide) | refine bOk.wL ?_ (by decide) | refine bOk.uL ?_ (by decide))) rfl rfl ?_
  refine px_pF (on := 12) (ci := 12) (kf := 13) (idx := 44) rfl (by decide +kernel) (by decide) ⟨by decide, by decide, rfl⟩ rfl (Or.inr ⟨_, rfl⟩) (by first | exact Or.inl rfl | exact Or.inr ⟨rfl, rfl, rfl⟩) ?_
  refine px_bc rfl q_X12_init_96 rfl trivial ?_
  refine px_nA3 (t0 := 0) (N := 40) (by decide +kernel) (Or.inl ⟨rfl, rfl, rfl⟩) rfl rfl rfl rfl (by repeat (first | with_reducible assumption | refine bOk.uI ?_ (by decide) | refine bOk.uR ?_ (by decide) | refine bOk.wI ?_ (by decide) | refine bOk.wR ?_ (by decide) | refine bOk.wL ?_ (by decide) | refine bOk.uL ?_ (by decide))) rfl rfl ?_
  refine px_pF (on := 12) (ci := 12) (kf := 14) (idx := 47) rfl (by decide +kernel) (by decide) ⟨by decide, by decide, rfl⟩ rfl (Or.inr ⟨_, rfl⟩) (by first | exact Or.inl rfl | exact Or.inr ⟨rfl, rfl, rfl⟩) ?_
  refine px_bc rfl q_X12_init_104 rfl trivial ?_
  refine px_nA (t0 := 0) (N := 40) (by decide +kernel) (Or.inl ⟨rfl, rfl, rfl⟩) rfl rfl rfl rfl ?_
  refine px_pF (on := 12) (ci := 12) (kf := 15) (idx := 50) rfl (by decide +kernel) (by decide) ⟨by decide, by decide, rfl⟩ rfl (Or.inr ⟨_, rfl⟩) (by first | exact Or.inl rfl | exact Or.inr ⟨rfl, rfl, rfl⟩) ?_
  refine px_bc rfl q_X12_init_112 rfl trivial ?_
  refine px_nA3 (t0 := 0) (N := 40) (by decide +kernel) (Or.inl ⟨rfl, rfl, rfl⟩) rfl rfl rfl rfl (by repeat (first | with_reducible assumption | refine bOk.uI ?_ (by decide) | refine bOk.uR ?_ (by decide) | refine bOk.wI ?_ (by decide) | refine bOk.wR ?_ (by decide) | refine bOk.wL ?_ (by decide) | refine bOk.uL ?_ (by decide))) rfl rfl ?_
  refine px_pF (on := 12) (ci := 12) (kf := 17) (idx := 53) rfl (by decide +kernel) (by decide) ⟨by decide, by decide, rfl⟩ rfl (Or.inr ⟨_, rfl⟩) (by first | exact Or.inl rfl | exact Or.inr ⟨rfl, rfl, rfl⟩) ?_
  refine px_bc rfl q_X12_init_120 rfl trivial ?_
  refine px_nA3 (t0 := 0) (N := 40) (by decide +kernel) (Or.inl ⟨rfl, rfl, rfl⟩) rfl rfl rfl rfl (by repeat (first | with_reducible assumption | refine bOk.uI ?_ (by decide) | refine bOk.uR ?_ (by decide) | refine bOk.wI ?_ (by decide) | refine bOk.wR ?_ (by decide) | refine bOk.wL ?_ (by decide) | refine bOk.uL ?_ (by decide))) rfl rfl ?_
  refine px_pF (on := 12) (ci := 12) (kf := 18) (idx := 56) rfl (by decide +kernel) (by decide) ⟨by decide, by decide, rfl⟩ rfl (Or.inr ⟨_, rfl⟩) (by first | exact Or.inl rfl | exact Or.inr ⟨rfl, rfl, rfl⟩) ?_
  refine px_bc rfl q_X12_init_128 rfl trivial ?_
  refine px_nA3 (t0 := 0) (N := 40) (by decide +kernel) (Or.inl ⟨rfl, rfl, rfl⟩) rfl rfl rfl rfl (by repeat (first | with_reducible assumption | refine bOk.uI ?_ (by decide) | refine bOk.uR ?_ (by decide) | refine bOk.wI ?_ (by decide) | refine bOk.wR ?_ (by decide) | refine bOk.wL ?_ (by decide) | refine bOk.uL ?_ (by decide))) rfl rfl ?_
  refine px_pF (on := 12) (ci := 12) (kf := 19) (idx := 59) rfl (by decide +kernel) (by decide) ⟨by decide, by decide, rfl⟩ rfl (Or.inr ⟨_, rfl⟩) (by first | exact Or.inl rfl | exact Or.inr ⟨rfl, rfl, rfl⟩) ?_
  refine px_bc rfl q_X12_init_136 rfl trivial ?_
  refine px_nA3 (t0 := 0) (N := 40) (by decide +kernel) (Or.inl ⟨rfl, rfl, rfl⟩) rfl rfl rfl rfl (by repeat (first | with_reducible assumption | refine bOk.uI ?_ (by decide) | refine bOk.uR ?_ (by decide) | refine bOk.wI ?_ (by decide) | refine bOk.wR ?_ (by decide) | refine bOk.wL ?_ (by decide) | refine bOk.uL ?_ (by decide))) rfl rfl ?_
  refine px_pF (on := 12) (ci := 12) (kf := 20) (idx := 62) rfl (by decide +kernel) (by decide) ⟨by decide, by decide, rfl⟩ rfl (Or.inr ⟨_, rfl⟩) (by first | exact Or.inl rfl | exact Or.inr ⟨rfl, rfl, rfl⟩) ?_
  refine px_bc rfl q_X12_init_144 rfl trivial ?_
  refine px_nA3 (t0 := 2) (N := 400) (by decide +kernel) (Or.inr (Or.inr (Or.inl ⟨rfl, rfl, rfl⟩))) rfl rfl rfl rfl (by repeat (first | with_reducible assumption | refine bOk.uI ?_ (by decide) | refine bOk.uR ?_ (by decide) | refine bOk.wI ?_ (by decide) | refine bOk.wR ?_ (by decide) | refine bOk.wL ?_ (by decide) | refine bOk.uL ?_ (by decide))) rfl rfl ?_
  refine px_pF (on := 12) (ci := 12) (kf := 24) (idx := 65) rfl (by decide +kernel) (by decide) ⟨by decide, by decide, rfl⟩ rfl (Or.inr ⟨_, rfl⟩) (by first | exact Or.inl rfl | exact Or.inr ⟨rfl, rfl, rfl⟩) ?_
  refine px_bc rfl q_X12_init_153 rfl trivial ?_
  refine px_nA3 (t0 := 0) (N := 220) (by decide +kernel) (Or.inl ⟨rfl, rfl, rfl⟩) rfl rfl rfl rfl (by repeat (first | with_reducible assumption | refine bOk.uI ?_ (by decide) | refine bOk.uR ?_ (by decide) | refine bOk.wI ?_ (by decide) | refine bOk.wR ?_ (by decide) | refine bOk.wL ?_ (by decide) | refine bOk.uL ?_ (by decide))) rfl rfl ?_
  refine px_pF (on := 12) (ci := 12) (kf := 36) (idx := 75) rfl (by decide +kernel) (by decide) ⟨by decide, by decide, rfl⟩ rfl (Or.inr ⟨_, rfl⟩) (by first | exact Or.inl rfl | exact Or.inr ⟨rfl, rfl, rfl⟩) ?_
  refine px_bc rfl q_X12_init_172 rfl trivial ?_
  refine px_nA3 (t0 := 0) (N := 220) (by decide +kernel) (Or.inl ⟨rfl, rfl, rfl⟩) rfl rfl rfl rfl (by repeat (first | with_reducible assumption | refine bOk.uI ?_ (by decide) | refine bOk.uR ?_ (by decide) | refine bOk.wI ?_ (by decide) | refine bOk.wR ?_ (by decide) | refine bOk.wL ?_ (by decide) | refine bOk.uL ?_ (by decide))) rfl rfl ?_
  refine px_pF (on := 12) (ci := 12) (kf := 37) (idx := 78) rfl (by decide +kernel) (by decide) ⟨by decide, by decide, rfl⟩ rfl (Or.inr ⟨_, rfl⟩) (by first | exact Or.inl rfl | exact Or.inr ⟨rfl, rfl, rfl⟩) ?_
  refine px_bc rfl q_X12_init_181 rfl trivial ?_
  refine px_nA3 (t0 := 0) (N := 8) (by decide +kernel) (Or.inl ⟨rfl, rfl, rfl⟩) rfl rfl rfl rfl (by repeat (first | with_reducible assumption | refine bOk.uI ?_ (by decide) | refine bOk.uR ?_ (by decide) | refine bOk.wI ?_ (by decide) | refine bOk.wR ?_ (by decide) | refine bOk.wL ?_ (by decide) | refine bOk.uL ?_ (by decide))) rfl rfl ?_
  refine px_pF (on := 12) (ci := 12) (kf := 38) (idx := 81) rfl (by decide +kernel) (by decide) ⟨by decide, by decide, rfl⟩ rfl (Or.inr ⟨_, rfl⟩) (by first | exact Or.inl rfl | exact Or.inr ⟨rfl, rfl, rfl⟩) ?_
  refine px_bc rfl q_X12_init_189 rfl trivial ?_
  refine px_nA3 (t0 := 0) (N := 9) (by decide +kernel) (Or.inl ⟨rfl, rfl, rfl⟩) rfl rfl rfl rfl (by repeat (first | with_reducible assumption | refine bOk.uI ?_ (by decide) | refine bOk.uR ?_ (by decide) | refine bOk.wI ?_ (by decide) | refine bOk.wR ?_ (by decide) | refine bOk.wL ?_ (by decide) | refine bOk.uL ?_ (by decide))) rfl rfl ?_
  refine px_pF (on := 12) (ci := 12) (kf := 40) (idx := 84) rfl (by decide +kernel) (by decide) ⟨by decide, by decide, rfl⟩ rfl (Or.inr ⟨_, rfl⟩) (by first | exact Or.inl rfl | exact Or.inr ⟨rfl, rfl, rfl⟩) ?_
  refine px_bc rfl q_X12_init_197 rfl trivial ?_
  refine px_nA3 (t0 := 0) (N := 9) (by decide +kernel) (Or.inl ⟨rfl, rfl, rfl⟩) rfl rfl rfl rfl (by repeat (first | with_reducible assumption | refine bOk.uI ?_ (by decide) | refine bOk.uR ?_ (by decide) | refine bOk.wI ?_ (by decide) | refine bOk.wR ?_ (by decide) | refine bOk.wL ?_ (by decide) | refine bOk.uL ?_ (by decide))) rfl rfl ?_
  refine px_pF (on := 12) (ci := 12) (kf := 41) (idx := 87) rfl (by decide +kernel) (by decide) ⟨by decide, by decide, rfl⟩ rfl (Or.inr ⟨_, rfl⟩) (by first | exact Or.inl rfl | exact Or.inr ⟨rfl, rfl, rfl⟩) ?_
  refine px_bc rfl q_X12_init_205 rfl trivial ?_
  refine px_nA3 (t0 := 3) (N := 10) (by decide +kernel) (Or.inr (Or.inr (Or.inr ⟨rfl, rfl, rfl⟩))) rfl rfl rfl rfl (by repeat (first | with_reducible assumption | refine bOk.uI ?_ (by decide) | refine bOk.uR ?_ (by decide) | refine bOk.wI ?_ (by decide) | refine bOk.wR ?_ (by decide) | refine bOk.wL ?_ (by decide) | refine bOk.uL ?_ (by decide))) rfl rfl ?_
  refine px_pF (on := 12) (ci := 12) (kf := 42) (idx := 90) rfl (by decide +kernel) (by decide) ⟨by decide, by decide, rfl⟩ rfl (Or.inr ⟨_, rfl⟩) (by first | exact Or.inl rfl | exact Or.inr ⟨rfl, rfl, rfl⟩) ?_
  refine px_bc rfl q_X12_init_213 rfl trivial ?_
  refine px_nA3 (t0 := 3) (N := 8) (by decide +kernel) (Or.inr (Or.inr (Or.inr ⟨rfl, rfl, rfl⟩))) rfl rfl rfl rfl (by repeat (first | with_reducible assumption | refine bOk.uI ?_ (by decide) | refine bOk.uR ?_ (by decide) | refine bOk.wI ?_ (by decide) | refine bOk.wR ?_ (by decide) | refine bOk.wL ?_ (by decide) | refine bOk.uL ?_ (by decide))) rfl rfl ?_
  refine px_pF (on := 12) (ci := 12) (kf := 43) (idx := 94) rfl (by decide +kernel) (by decide) ⟨by decide, by decide, rfl⟩ rfl (Or.inr ⟨_, rfl⟩) (by first | exact Or.inl rfl | exact Or.inr ⟨rfl, rfl, rfl⟩) ?_
  refine px_bc rfl q_X12_init_221 rfl trivial ?_
  refine px_nA3 (t0 := 0) (N := 6) (by decide +kernel) (Or.inl ⟨rfl, rfl, rfl⟩) rfl rfl rfl rfl (by repeat (first | with_reducible assumption | refine bOk.uI ?_ (by decide) | refine bOk.uR ?_ (by decide) | refine bOk.wI ?_ (by decide) | refine bOk.wR ?_ (by decide) | refine bOk.wL ?_ (by decide) | refine bOk.uL ?_ (by decide))) rfl rfl ?_
  refine px_pF (on := 12) (ci := 12) (kf := 44) (idx := 97) rfl (by decide +kernel) (by decide) ⟨by decide, by decide, rfl⟩ rfl (Or.inr ⟨_, rfl⟩) (by first | exact Or.inl rfl | exact Or.inr ⟨rfl, rfl, rfl⟩) ?_
  refine px_bc rfl q_X12_init_229 rfl trivial ?_
  refine px_nA3 (t0 := 0) (N := 1320) (by decide +kernel) (Or.inl ⟨rfl, rfl, rfl⟩) rfl rfl rfl rfl (by repeat (first | with_reducible assumption | refine bOk.uI ?_ (by decide) | refine bOk.uR ?_ (by decide) | refine bOk.wI ?_ (by decide) | refine bOk.wR ?_ (by decide) | refine bOk.wL ?_ (by decide) | refine bOk.uL ?_ (by decide))) rfl rfl ?_
  refine px_pF (on := 12) (ci := 12) (kf := 45) (idx := 100) rfl (by decide +kernel) (by decide) ⟨by decide, by decide, rfl⟩ rfl (Or.inr ⟨_, rfl⟩) (by first | exact Or.inl rfl | exact Or.inr ⟨rfl, rfl, rfl⟩) ?_
  refine px_bc rfl q_X12_init_238 rfl trivial ?_
  refine px_nA3 (t0 := 0) (N := 1320) (by decide +kernel) (Or.inl ⟨rfl, rfl, rfl⟩) rfl rfl rfl rfl (by repeat (first | with_reducible assumption | refine bOk.uI ?_ (by decide) | refine bOk.uR ?_ (by decide) | refine bOk.wI ?_ (by decide) | refine bOk.wR ?_ (by decide) | refine bOk.wL ?_ (by decide) | refine bOk.uL ?_ (by decide))) rfl rfl ?_
  refine px_pF (on := 12) (ci := 12) (kf := 46) (idx := 103) rfl (by decide +kernel) (by decide) ⟨by decide, by decide, rfl⟩ rfl (Or.inr ⟨_, rfl⟩) (by first | exact Or.inl rfl | exact Or.inr ⟨rfl, rfl, rfl⟩) ?_
  refine px_bc rfl q_X12_init_247 rfl trivial ?_
  refine px_nA3 (t0 := 1) (N := 9) (by decide +kernel) (Or.inr (Or.inl ⟨rfl, rfl, rfl⟩)) rfl rfl rfl rfl (by repeat (first | with_reducible assumption | refine bOk.uI ?_ (by decide) | refine bOk.uR ?_ (by decide) | refine bOk.wI ?_ (by decide) | refine bOk.wR ?_ (by decide) | refine bOk.wL ?_ (by decide) | refine bOk.uL ?_ (by decide))) rfl rfl ?_
  refine px_pF (on := 12) (ci := 12) (kf := 52) (idx := 121) rfl (by decide +kernel) (by decide) ⟨by decide, by decide, rfl⟩ rfl (Or.inr ⟨_, rfl⟩) (by first | exact Or.inl rfl | exact Or.inr ⟨rfl, rfl, rfl⟩) ?_
  refine px_bc rfl q_X12_init_282 rfl trivial ?_
  refine px_nA3 (t0 := 0) (N := 90) (by decide +kernel) (Or.inl ⟨rfl, rfl, rfl⟩) rfl rfl rfl rfl (by repeat (first | with_reducible assumption | refine bOk.uI ?_ (by decide) | refine bOk.uR ?_ (by decide) | refine bOk.wI ?_ (by decide) | refine bOk.wR ?_ (by decide) | refine bOk.wL ?_ (by decide) | refine bOk.uL ?_ (by decide))) rfl rfl ?_
  refine px_pF (on := 12) (ci := 12) (kf := 54) (idx := 125) rfl (by decide +kernel) (by decide) ⟨by decide, by decide, rfl⟩ rfl (Or.inr ⟨_, rfl⟩) (by first | exact Or.inl rfl | exact Or.inr ⟨rfl, rfl, rfl⟩) ?_
  refine px_bc rfl q_X12_init_290 rfl trivial ?_
  refine px_nA3 (t0 := 0) (N := 90) (by decide +kernel) (Or.inl ⟨rfl, rfl, rfl⟩) rfl rfl rfl rfl (by repeat (first | with_reducible assumption | refine bOk.uI ?_ (by decide) | refine bOk.uR ?_ (by decide) | refine bOk.wI ?_ (by decide) | refine bOk.wR ?_ (by decide) | refine bOk.wL ?_ (by decide) | refine bOk.uL ?_ (by decide))) rfl rfl ?_
  refine px_pF (on := 12) (ci := 12) (kf := 55) (idx := 128) rfl (by decide +kernel) (by decide) ⟨by decide, by decide, rfl⟩ rfl (Or.inr ⟨_, rfl⟩) (by first | exact Or.inl rfl | exact Or.inr ⟨rfl, rfl, rfl⟩) ?_
  refine px_bc rfl q_X12_init_298 rfl trivial ?_
  refine px_nA3 (t0 := 0) (N := 3) (by decide +kernel) (Or.inl ⟨rfl, rfl, rfl⟩) rfl rfl rfl rfl (by repeat (first | with_reducible assumption | refine bOk.uI ?_ (by decide) | refine bOk.uR ?_ (by decide) | refine bOk.wI ?_ (by decide) | refine bOk.wR ?_ (by decide) | refine bOk.wL ?_ (by decide) | refine bOk.uL ?_ (by decide))) rfl rfl ?_
  refine px_pF (on := 12) (ci := 12) (kf := 56) (idx := 131) rfl (by decide +kernel) (by decide) ⟨by decide, by decide, rfl⟩ rfl (Or.inr ⟨_, rfl⟩) (by first | exact Or.inl rfl | exact Or.inr ⟨rfl, rfl, rfl⟩) ?_
  refine px_bc rfl q_X12_init_305 rfl trivial ?_
  refine px_nA3 (t0 := 0) (N := 3) (by decide +kernel) (Or.inl ⟨rfl, rfl, rfl⟩) rfl rfl rfl rfl (by repeat (first | with_reducible assumption | refine bOk.uI ?_ (by decide) | refine bOk.uR ?_ (by decide) | refine bOk.wI ?_ (by decide) | refine bOk.wR ?_ (by decide) | refine bOk.wL ?_ (by decide) | refine bOk.uL ?_ (by decide))) rfl rfl ?_
  refine px_pF (on := 12) (ci := 12) (kf := 57) (idx := 134) rfl (by decide +kernel) (by decide) ⟨by decide, by decide, rfl⟩ rfl (Or.inr ⟨_, rfl⟩) (by first | exact Or.inl rfl | exact Or.inr ⟨rfl, rfl, rfl⟩) ?_
  refine px_bc rfl q_X12_init_312 rfl trivial ?_
  refine px_nA (t0 := 0) (N := 3) (by decide +kernel) (Or.inl ⟨rfl, rfl, rfl⟩) rfl rfl rfl rfl ?_
  refine px_bc rfl q_X12_init_316 rfl ⟨⟨⟨trivial, (by first | decide | exact Or.inl rfl | exact ⟨by decide, by decide, rfl⟩ | (refine ⟨?_, ?_⟩ <;> decide))⟩, (by first | decide | exact Or.inl rfl | exact ⟨by decide, by decide, rfl⟩ | (refine ⟨?_, ?_⟩ <;> decide))⟩, (by first | decide | exact Or.inl rfl | exact ⟨by decide, by decide, rfl⟩ | (refine ⟨?_, ?_⟩ <;> decide))⟩ ?_
  refine px_pF (on := 12) (ci := 12) (kf := 58) (idx := 137) rfl (by decide +kernel) (by decide) ⟨by decide, by decide, rfl⟩ rfl (Or.inr ⟨_, rfl⟩) (by first | exact Or.inl rfl | exact Or.inr ⟨rfl, rfl, rfl⟩) ?_
  refine px_bc rfl q_X12_init_331 rfl trivial ?_
  refine px_nA (t0 := 0) (N := 10) (by decide +kernel) (Or.inl ⟨rfl, rfl, rfl⟩) rfl rfl rfl rfl ?_
  refine px_pF (on := 12) (ci := 12) (kf := 62) (idx := 140) rfl (by decide +kernel) (by decide) ⟨by decide, by decide, rfl⟩ rfl (Or.inr ⟨_, rfl⟩) (by first | exact Or.inl rfl | exact Or.inr ⟨rfl, rfl, rfl⟩) ?_
  refine px_bc rfl q_X12_init_339 rfl trivial ?_
  refine px_nA3 (t0 := 0) (N := 30) (by decide +kernel) (Or.inl ⟨rfl, rfl, rfl⟩) rfl rfl rfl rfl (by repeat (first | with_reducible assumption | refine bOk.uI ?_ (by decide) | refine bOk.uR ?_ (by decide) | refine bOk.wI ?_ (by decide) | refine bOk.wR ?_ (by decide) | refine bOk.wL ?_ (by decide) | refine bOk.uL ?_ (by decide))) rfl rfl ?_
  refine px_pF (on := 12) (ci := 12) (kf := 64) (idx := 143) rfl (by decide +kernel) (by decide) ⟨by decide, by decide, rfl⟩ rfl (Or.inr ⟨_, rfl⟩) (by first | exact Or.inl rfl | exact Or.inr ⟨rfl, rfl, rfl⟩) ?_
  refine px_bc rfl q_X12_init_347 rfl trivial ?_
  refine px_nA3 (t0 := 0) (N := 30) (by decide +kernel) (Or.inl ⟨rfl, rfl, rfl⟩) rfl rfl rfl rfl (by repeat (first | with_reducible assumption | refine bOk.uI ?_ (by decide) | refine bOk.uR ?_ (by decide) | refine bOk.wI ?_ (by decide) | refine bOk.wR ?_ (by decide) | refine bOk.wL ?_ (by decide) | refine bOk.uL ?_ (by decide))) rfl rfl ?_
  refine px_pF (on := 12) (ci := 12) (kf := 65) (idx := 146) rfl (by decide +kernel) (by decide) ⟨by decide, by decide, rfl⟩ rfl (Or.inr ⟨_, rfl⟩) (by first | exact Or.inl rfl | exact Or.inr ⟨rfl, rfl, rfl⟩) ?_
  refine px_bc rfl q_X12_init_355 rfl trivial ?_
  refine px_nA3 (t0 := 0) (N := 30) (by decide +kernel) (Or.inl ⟨rfl, rfl, rfl⟩) rfl rfl rfl rfl (by repeat (first | with_reducible assumption | refine bOk.uI ?_ (by decide) | refine bOk.uR ?_ (by decide) | refine bOk.wI ?_ (by decide) | refine bOk.wR ?_ (by decide) | refine bOk.wL ?_ (by decide) | refine bOk.uL ?_ (by decide))) rfl rfl ?_
  refine px_pF (on := 12) (ci := 12) (kf := 66) (idx := 149) rfl (by decide +kernel) (by decide) ⟨by decide, by decide, rfl⟩ rfl (Or.inr ⟨_, rfl⟩) (by first | exact Or.inl rfl | exact Or.inr ⟨rfl, rfl, rfl⟩) ?_
  refine px_bc rfl q_X12_init_363 rfl trivial ?_
  refine px_nA3 (t0 := 0) (N := 30) (by decide +kernel) (Or.inl ⟨rfl, rfl, rfl⟩) rfl rfl rfl rfl (by repeat (first | with_reducible assumption | refine bOk.uI ?_ (by decide) | refine bOk.uR ?_ (by decide) | refine bOk.wI ?_ (by decide) | refine bOk.wR ?_ (by decide) | refine bOk.wL ?_ (by decide) | refine bOk.uL ?_ (by decide))) rfl rfl ?_
  refine px_pF (on := 12) (ci := 12) (kf := 67) (idx := 152) rfl (by decide +kernel) (by decide) ⟨by decide, by decide, rfl⟩ rfl (Or.inr ⟨_, rfl⟩) (by first | exact Or.inl rfl | exact Or.inr ⟨rfl, rfl, rfl⟩) ?_
  refine px_bc rfl q_X12_init_371 rfl trivial ?_
  refine px_nA3 (t0 := 1) (N := 576) (by decide +kernel) (Or.inr (Or.inl ⟨rfl, rfl, rfl⟩)) rfl rfl rfl rfl (by repeat (first | with_reducible assumption | refine bOk.uI ?_ (by decide) | refine bOk.uR ?_ (by decide) | refine bOk.wI ?_ (by decide) | refine bOk.wR ?_ (by decide) | refine bOk.wL ?_ (by decide) | refine bOk.uL ?_ (by decide))) rfl rfl ?_
  refine px_pF (on := 12) (ci := 12) (kf := 69) (idx := 155) rfl (by decide +kernel) (by decide) ⟨by decide, by decide, rfl⟩ rfl (Or.inr ⟨_, rfl⟩) (by first | exact Or.inl rfl | exact Or.inr ⟨rfl, rfl, rfl⟩) ?_
  refine px_bc rfl q_X12_init_380 rfl trivial ?_
  refine px_nA3 (t0 := 1) (N := 6) (by decide +kernel) (Or.inr (Or.inl ⟨rfl, rfl, rfl⟩)) rfl rfl rfl rfl (by repeat (first | with_reducible assumption | refine bOk.uI ?_ (by decide) | refine bOk.uR ?_ (by decide) | refine bOk.wI ?_ (by decide) | refine bOk.wR ?_ (by decide) | refine bOk.wL ?_ (by decide) | refine bOk.uL ?_ (by decide))) rfl rfl ?_
  refine px_pF (on := 12) (ci := 12) (kf := 73) (idx := 158) rfl (by decide +kernel) (by decide) ⟨by decide, by decide, rfl⟩ rfl (Or.inr ⟨_, rfl⟩) (by first | exact Or.inl rfl | exact Or.inr ⟨rfl, rfl, rfl⟩) ?_
  refine px_bc rfl q_X12_init_388 rfl trivial ?_
  refine px_nA3 (t0 := 1) (N := 129) (by decide +kernel) (Or.inr (Or.inl ⟨rfl, rfl, rfl⟩)) rfl rfl rfl rfl (by repeat (first | with_reducible assumption | refine bOk.uI ?_ (by decide) | refine bOk.uR ?_ (by decide) | refine bOk.wI ?_ (by decide) | refine bOk.wR ?_ (by decide) | refine bOk.wL ?_ (by decide) | refine bOk.uL ?_ (by decide))) rfl rfl ?_
  refine px_pF (on := 12) (ci := 12) (kf := 75) (idx := 161) rfl (by decide +kernel) (by decide) ⟨by decide, by decide, rfl⟩ rfl (Or.inr ⟨_, rfl⟩) (by first | exact Or.inl rfl | exact Or.inr ⟨rfl, rfl, rfl⟩) ?_
  refine px_bc rfl q_X12_init_397 rfl trivial ?_
  refine px_nA3 (t0 := 1) (N := 129) (by decide +kernel) (Or.inr (Or.inl ⟨rfl, rfl, rfl⟩)) rfl rfl rfl rfl (by repeat (first | with_reducible assumption | refine bOk.uI ?_ (by decide) | refine bOk.uR ?_ (by decide) | refine bOk.wI ?_ (by decide) | refine bOk.wR ?_ (by decide) | refine bOk.wL ?_ (by decide) | refine bOk.uL ?_ (by decide))) rfl rfl ?_
  refine px_pF (on := 12) (ci := 12) (kf := 76) (idx := 164) rfl (by decide +kernel) (by decide) ⟨by decide, by decide, rfl⟩ rfl (Or.inr ⟨_, rfl⟩) (by first | exact Or.inl rfl | exact Or.inr ⟨rfl, rfl, rfl⟩) ?_
  refine px_bc rfl q_X12_init_406 rfl trivial ?_
  refine px_eqR (R2 := px_u (px_u R 103 15 (some 116)) 103 62 (some 138)) ?_ ?_
  · have e3 : R 103 = px_lk px_l103 := (hb 103 (by decide)).2.2
    rw [px_u_id (f := R) (k := 15) (by rw [e3]; rfl), px_u_id (f := R) (k := 62) (by rw [e3]; rfl)]
    funext b
    by_cases h1 : b = 103
    · subst h1
      rw [e3]
      unfold px_l103
      repeat (first | exact wLk | refine uLk ?_ | refine wLk2 ?_ (by decide))
    by_cases h2 : b = 116
    · subst h2; rw [(hb 116 (by decide)).2.2]; (repeat rw [px_u_ne (by decide)]); funext k; simp only [px_u_ne, px_wr, px_ur, px_R0]; grind
    by_cases h3 : b = 137
    · subst h3; rw [(hb 137 (by decide)).2.2]; (repeat rw [px_u_ne (by decide)]); funext k; simp only [px_wr, px_ur, px_R0]; grind
    by_cases h4 : b = 138
    · subst h4; rw [(hb 138 (by decide)).2.2]; (repeat rw [px_u_ne (by decide)]); funext k; simp only [px_wr, px_ur, px_R0]; grind
    (repeat (first | rw [px_u_ne h1] | rw [px_w_ne h1] | rw [px_w_ne h2] | rw [px_w_ne h3] | rw [px_w_ne h4]))
  refine px_go (l_X12a rfl rfl (fun I1 I2 h8 h9 => ⟨rfl, rfl, ?_, ?_, ?_⟩) 0 (by decide) (by decide) _ rowF.z) ⟨rfl, rfl, trivial⟩
  · funext b k
    by_cases h1 : b = 103
    · subst h1; rw [h9.1 103 (by decide), h8.1 103 (by decide), (hb 103 (by decide)).1]; simp only [px_ur, px_wr, px_I0]; grind
    by_cases h2 : b = 116
    · subst h2; rw [h9.1 116 (by decide), h8.2 k, (hb 116 (by decide)).1]; simp only [px_ur, px_wr, px_I0]; grind
    by_cases h3 : b = 137
    · subst h3; rw [h9.1 137 (by decide), h8.1 137 (by decide), (hb 137 (by decide)).1]; simp only [px_ur, px_wr, px_I0]; grind
    by_cases h4 : b = 138
    · subst h4; rw [h9.2 k, h8.1 138 (by decide), (hb 138 (by decide)).1]; simp only [px_ur, px_wr, px_I0]; grind
    rw [h9.1 b h4, h8.1 b h2]; simp only [px_ur, px_wr]; grind
  · funext b k
    by_cases h1 : b = 103
    · subst h1; rw [(hb 103 (by decide)).2.1]; simp only [px_ur, px_wr, px_L0]; grind
    by_cases h2 : b = 116
    · subst h2; rw [(hb 116 (by decide)).2.1]; simp only [px_ur, px_wr, px_L0]; grind
    by_cases h3 : b = 137
    · subst h3; rw [(hb 137 (by decide)).2.1]; simp only [px_ur, px_wr, px_L0]; grind
    by_cases h4 : b = 138
    · subst h4; rw [(hb 138 (by decide)).2.1]; simp only [px_ur, px_wr, px_L0]; grind
    simp only [px_ur, px_wr]; grind
  · have e3 : R 103 = px_lk px_l103 := (hb 103 (by decide)).2.2
    rw [px_u_id (f := R) (k := 15) (by rw [e3]; rfl), px_u_id (f := R) (k := 62) (by rw [e3]; rfl)]

/-- what stands for good, at the start -/
theorem px_nth_ge {α : Type} {l : List α} {k : Nat} {d : α} (h : l.length ≤ k) : px_nth l k d = d := by
  induction l generalizing k with
  | nil => cases k <;> rfl
  | cons a l ih =>
    cases k with
    | zero => exact absurd h (by simp)
    | succ k => exact ih (by simpa using h)
theorem px_nth_all {α : Type} {l : List α} {k : Nat} {d : α} {P : α → Prop} (h : ∀ a ∈ l, P a) (hd : P d) : P (px_nth l k d) := by
  induction l generalizing k with
  | nil => cases k <;> exact hd
  | cons a l ih =>
    cases k with
    | zero => exact h a (List.mem_cons_self)
    | succ k => exact ih (fun x hx => h x (List.mem_cons_of_mem _ hx))
theorem px_tgL_1 : px_tgL.length ≤ 115 := by decide +kernel
theorem px_tgL_2 : ∀ l ∈ px_tgL, l.length ≤ 80 := by decide +kernel
theorem px_tg_lt {o k : Nat} (h : px_tg o k ≠ 0) : o - 32 < 115 ∧ k < 80 := by
  refine ⟨Nat.lt_of_not_le fun q => h ?_, Nat.lt_of_not_le fun q => h ?_⟩
  · unfold px_tg
    rw [px_nth_ge (Nat.le_trans px_tgL_1 q)]
    cases k <;> rfl
  · unfold px_tg
    exact px_nth_ge (Nat.le_trans (px_nth_all (P := fun l : List Nat => l.length ≤ 80) px_tgL_2 (by decide)) q)
theorem px_R0_t1 : ∀ o, o < 147 → ∀ k, k < 80 → px_tg o k ≠ 0 → px_R0 o k = some (px_tg o k) := by decide +kernel
theorem px_R0_w : ∀ o, o < 147 → (px_sh o).1 = 10 → 32 ≤ o → px_R0 o 0 = some (o + 1) ∧ px_R0 o 1 = some (o + 2) := by decide +kernel
theorem px_R0_G : px_G 147 px_R0 := by
  refine ⟨by decide, fun o k h => ?_, fun w hw => px_R0_w w hw.2.1 hw.2.2 hw.1⟩
  have := px_tg_lt h
  exact px_R0_t1 o (by omega) k this.2 h
