set_option maxRecDepth 20000 in
theorem bp_31 : (Int8.ofInt (31)).toInt32 = 31 := by decide
set_option maxRecDepth 20000 in
theorem bp_32 : (Int8.ofInt (32)).toInt32 = 32 := by decide
