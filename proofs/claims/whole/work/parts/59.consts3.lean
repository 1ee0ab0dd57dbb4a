set_option maxRecDepth 20000 in
theorem bp_32 : (Int8.ofInt (32)).toInt32 = 32 := by decide
