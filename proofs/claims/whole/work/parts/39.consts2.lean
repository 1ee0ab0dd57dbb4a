set_option maxRecDepth 20000 in
theorem bp_24 : (Int8.ofInt (24)).toInt32 = 24 := by decide
set_option maxRecDepth 20000 in
theorem bp_48 : (Int8.ofInt (48)).toInt32 = 48 := by decide
set_option maxRecDepth 20000 in
theorem bp_56 : (Int8.ofInt (56)).toInt32 = 56 := by decide
set_option maxRecDepth 20000 in
theorem bp_72 : (Int8.ofInt (72)).toInt32 = 72 := by decide
set_option maxRecDepth 20000 in
theorem bp_96 : (Int8.ofInt (96)).toInt32 = 96 := by decide
set_option maxRecDepth 20000 in
theorem sp_192 : (Int16.ofInt (192)).toInt32 = 192 := by decide
