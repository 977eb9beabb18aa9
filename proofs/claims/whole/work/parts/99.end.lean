def WALL : List Cond := lw_tbl.filter goodWord
theorem zz_len : lw_tbl.length = 2014 := by decide +kernel
