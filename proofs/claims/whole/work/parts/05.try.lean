set_option maxRecDepth 100000 in
theorem x_good : lw_tbl.all goodWord = true := by decide +kernel
theorem x_len : lw_tbl.length = 1300 := by decide +kernel
