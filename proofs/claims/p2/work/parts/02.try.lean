def px_T : List Cond := lw_tbl.filter goodWord
theorem px_tt : (px_T.length, lw_tbl.length) = (1, 2) := by decide +kernel
