def plwC (g : plG) (a : Nat → Nat) (st : plS) : va_W := [(a 0, .inr (0, [.ref (a 1), .ref (a 5), .ref (a 9), .ref (a 13), .ref (a 17), .ref (a 19), .ref (a 21), .ref (a 25)])), (a 1, .inr (1, [.ref (a 2), .ref (a 3), .int (st 1 2), .int (st 1 3), .int (st 1 4), .ref (a 4), .int (st 1 6), .int (st 1 7)])), (a 2, .inl (plgI g, 72, .inl (st 2))), (a 3, .inl (plgI g, 8, .inl (st 3))), (a 4, .inl (plgI g, 9, .inl (st 4))), (a 5, .inr (2, [.ref (a 6), .ref (a 7), .ref (a 8), .int (st 5 3), .int (st 5 4), .int (st 5 5)])), (a 6, .inr (3, [.ref (a 1), .int (st 6 1), .int (st 6 2)])), (a 7, .inr (4, [.int (st 7 0), .int (st 7 1), .int (st 7 2)])), (a 8, .inl (plgI g, 8, .inl (st 8))), (a 9, .inr (5, [.int (st 9 0), .ref (a 10), .int (st 9 2), .int (st 9 3), .int (st 9 4), .ref (a 11), .ref (a 12), .int (st 9 7), .int (st 9 8), .int (st 9 9), .int (st 9 10), .int (st 9 11)])), (a 10, .inl (plgI g, 96, .inl (st 10))), (a 11, .inl (plgI g, 12, .inl (st 11))), (a 12, .inl (plgI g, 12, .inl (st 12))), (a 13, .inr (5, [.int (st 13 0), .ref (a 14), .int (st 13 2), .int (st 13 3), .int (st 13 4), .ref (a 15), .ref (a 16), .int (st 13 7), .int (st 13 8), .int (st 13 9), .int (st 13 10), .int (st 13 11)])), (a 14, .inl (plgI g, 96, .inl (st 14))), (a 15, .inl (plgI g, 12, .inl (st 15))), (a 16, .inl (plgI g, 12, .inl (st 16))), (a 17, .inr (6, [.int (st 17 0), .ref (a 18), .int (st 17 2)])), (a 18, .inl (plgI g, 8, .inl (st 18))), (a 19, .inr (7, [.int (st 19 0), .int (st 19 1), .ref (a 20), .int (st 19 3), .int (st 19 4), .int (st 19 5), .int (st 19 6), .int (st 19 7)])), (a 20, .inr (4, [.int (st 20 0), .int (st 20 1), .int (st 20 2)])), (a 21, .inr (8, [.int (st 21 0), .int (st 21 1), .int (st 21 2), .int (st 21 3), .int (st 21 4), .int (st 21 5), .int (st 21 6), .ref (a 22), .int (st 21 8), .int (st 21 9), .ref (a 23), .ref (a 24)])), (a 22, .inl (plgI g, 6, .inl (st 22))), (a 23, .inl (plgI g, 8, .inl (st 23))), (a 24, .inl (plgI g, 48, .inl (st 24))), (a 25, .inr (9, [.ref (a 21), .int (st 25 1), .int (st 25 2), .int (st 25 3), .int (st 25 4), .int (st 25 5), .int (st 25 6), .int (st 25 7), .int (st 25 8)]))]
def plwR (g : plG) (a : Nat → Nat) (st : plS) : va_W := [(a 0, .inr (10, [.ref (a 1), .int (st 0 1), .int (st 0 2), .int (st 0 3), .int (st 0 4), .ref (a 2), .ref (a 3), .int (st 0 7), .int (st 0 8), .int (st 0 9), .int (st 0 10), .int (st 0 11), .int (st 0 12), .int (st 0 13), .int (st 0 14), .int (st 0 15), .int (st 0 16), .int (st 0 17), .int (st 0 18), .int (st 0 19), .ref (a 4), .ref (a 5), .ref (a 6), .ref (a 7), .ref (a 8), .ref (a 9), .ref (a 10), .ref (a 11), .ref (a 12), .ref (a 13), .ref (a 14), .ref (a 15), .ref (a 16), .int (st 0 33), .int (st 0 34), .int (st 0 35), .int (st 0 36), .int (st 0 37), .int (st 0 38), .int (st 0 39), .int (st 0 40), .int (st 0 41), .int (st 0 42), .int (st 0 43), .int (st 0 44), .int (st 0 45), .int (st 0 46), .int (st 0 47), .int (st 0 48), .int (st 0 49), .int (st 0 50), .int (st 0 51), .int (st 0 52), .int (st 0 53), .int (st 0 54), .ref (a 17), .int (st 0 56), .int (st 0 57), .ref (a 18)])), (a 1, .inl (plgI g, 2, .inl (st 1))), (a 2, .inl (plgI g, 56, .inl (st 2))), (a 3, .inl (plgI g, 9, .inl (st 3))), (a 4, .inl (plgI g, 192, .inl (st 4))), (a 5, .inl (plgI g, 8, .inl (st 5))), (a 6, .inl (plgI g, 12, .inl (st 6))), (a 7, .inl (plgI g, 12, .inl (st 7))), (a 8, .inl (plgZ g, 2, .inl (st 8))), (a 9, .inl (plgI g, 24, .inl (st 9))), (a 10, .inl (plgI g, 24, .inl (st 10))), (a 11, .inl (plgZ g, 2, .inl (st 11))), (a 12, .inl (plgZ g, 2, .inl (st 12))), (a 13, .inl (plgI g, 2, .inl (st 13))), (a 14, .inl (plgI g, 2, .inl (st 14))), (a 15, .inl (plgI g, 2, .inl (st 15))), (a 16, .inl (plgI g, 2, .inl (st 16))), (a 17, .inl (plgI g, 7, .inl (st 17))), (a 18, .inl (plgI g, 56, .inl (st 18)))]
set_option maxRecDepth 20000 in
theorem bp_m16 : (Int8.ofInt (-16)).toInt32 = (-16) := by decide
set_option maxRecDepth 20000 in
theorem bp_m8 : (Int8.ofInt (-8)).toInt32 = (-8) := by decide
set_option maxRecDepth 20000 in
theorem bp_109 : (Int8.ofInt (109)).toInt32 = 109 := by decide
set_option maxRecDepth 20000 in
theorem bp_11 : (Int8.ofInt (11)).toInt32 = 11 := by decide
set_option maxRecDepth 20000 in
theorem bp_12 : (Int8.ofInt (12)).toInt32 = 12 := by decide
set_option maxRecDepth 20000 in
theorem bp_127 : (Int8.ofInt (127)).toInt32 = 127 := by decide
set_option maxRecDepth 20000 in
theorem bp_15 : (Int8.ofInt (15)).toInt32 = 15 := by decide
set_option maxRecDepth 20000 in
theorem bp_16 : (Int8.ofInt (16)).toInt32 = 16 := by decide
set_option maxRecDepth 20000 in
theorem bp_21 : (Int8.ofInt (21)).toInt32 = 21 := by decide
set_option maxRecDepth 20000 in
theorem bp_40 : (Int8.ofInt (40)).toInt32 = 40 := by decide
set_option maxRecDepth 20000 in
theorem bp_42 : (Int8.ofInt (42)).toInt32 = 42 := by decide
set_option maxRecDepth 20000 in
theorem bp_55 : (Int8.ofInt (55)).toInt32 = 55 := by decide
set_option maxRecDepth 20000 in
theorem bp_6 : (Int8.ofInt (6)).toInt32 = 6 := by decide
set_option maxRecDepth 20000 in
theorem bp_63 : (Int8.ofInt (63)).toInt32 = 63 := by decide
set_option maxRecDepth 20000 in
theorem bp_64 : (Int8.ofInt (64)).toInt32 = 64 := by decide
set_option maxRecDepth 20000 in
theorem bp_7 : (Int8.ofInt (7)).toInt32 = 7 := by decide
set_option maxRecDepth 20000 in
theorem bp_8 : (Int8.ofInt (8)).toInt32 = 8 := by decide
set_option maxRecDepth 20000 in
theorem bp_9 : (Int8.ofInt (9)).toInt32 = 9 := by decide
set_option maxRecDepth 20000 in
theorem ic_m1 : Int32.ofInt (-1) = (-1) := by decide
set_option maxRecDepth 20000 in
theorem ic_0 : Int32.ofInt (0) = 0 := by decide
set_option maxRecDepth 20000 in
theorem ic_1 : Int32.ofInt (1) = 1 := by decide
set_option maxRecDepth 20000 in
theorem ic_2 : Int32.ofInt (2) = 2 := by decide
set_option maxRecDepth 20000 in
theorem ic_3 : Int32.ofInt (3) = 3 := by decide
set_option maxRecDepth 20000 in
theorem ic_4 : Int32.ofInt (4) = 4 := by decide
set_option maxRecDepth 20000 in
theorem ic_5 : Int32.ofInt (5) = 5 := by decide
set_option maxRecDepth 20000 in
theorem nz_16 : ¬ (16 : Int32) = 0 := by decide
set_option maxRecDepth 20000 in
theorem nz_2 : ¬ (2 : Int32) = 0 := by decide
set_option maxRecDepth 20000 in
theorem nz_6 : ¬ (6 : Int32) = 0 := by decide
set_option maxRecDepth 20000 in
theorem nz_64 : ¬ (64 : Int32) = 0 := by decide
set_option maxRecDepth 20000 in
theorem nz_8 : ¬ (8 : Int32) = 0 := by decide
set_option maxRecDepth 20000 in
theorem nz_9 : ¬ (9 : Int32) = 0 := by decide
set_option maxRecDepth 20000 in
theorem sp_128 : (Int16.ofInt (128)).toInt32 = 128 := by decide
set_option maxRecDepth 20000 in
theorem sp_171 : (Int16.ofInt (171)).toInt32 = 171 := by decide
set_option maxRecDepth 20000 in
theorem sp_182 : (Int16.ofInt (182)).toInt32 = 182 := by decide
set_option maxRecDepth 20000 in
theorem sp_246 : (Int16.ofInt (246)).toInt32 = 246 := by decide
set_option maxRecDepth 20000 in
theorem sp_255 : (Int16.ofInt (255)).toInt32 = 255 := by decide
set_option maxRecDepth 20000 in
theorem vi_0_10 : vp_in 0 10 := by unfold vp_in; decide
set_option maxRecDepth 20000 in
theorem vi_0_12 : vp_in 0 12 := by unfold vp_in; decide
set_option maxRecDepth 20000 in
theorem vi_0_2 : vp_in 0 2 := by unfold vp_in; decide
set_option maxRecDepth 20000 in
theorem vi_0_56 : vp_in 0 56 := by unfold vp_in; decide
set_option maxRecDepth 20000 in
theorem vi_0_8 : vp_in 0 8 := by unfold vp_in; decide
set_option maxRecDepth 20000 in
theorem vi_0_9 : vp_in 0 9 := by unfold vp_in; decide
set_option maxRecDepth 20000 in
theorem vi_1_10 : vp_in 1 10 := by unfold vp_in; decide
set_option maxRecDepth 20000 in
theorem vi_1_12 : vp_in 1 12 := by unfold vp_in; decide
set_option maxRecDepth 20000 in
theorem vi_1_2 : vp_in 1 2 := by unfold vp_in; decide
set_option maxRecDepth 20000 in
theorem vi_1_8 : vp_in 1 8 := by unfold vp_in; decide
set_option maxRecDepth 20000 in
theorem vi_1_9 : vp_in 1 9 := by unfold vp_in; decide
set_option maxRecDepth 20000 in
theorem vi_15_24 : vp_in 15 24 := by unfold vp_in; decide
set_option maxRecDepth 20000 in
theorem vi_2_12 : vp_in 2 12 := by unfold vp_in; decide
set_option maxRecDepth 20000 in
theorem vi_2_8 : vp_in 2 8 := by unfold vp_in; decide
set_option maxRecDepth 20000 in
theorem vi_3_12 : vp_in 3 12 := by unfold vp_in; decide
set_option maxRecDepth 20000 in
theorem vi_4_12 : vp_in 4 12 := by unfold vp_in; decide
set_option maxRecDepth 20000 in
theorem putF_RM_hold {E : plE} {cc : ByteArray} {nL : Nat} {ret : Option FieldType} {fr lo : Nat} {k n : Nat} {lv : List (Nat × Value)} {pc index : Nat} {stk : List Value} {a : Nat → Nat} {st : plS} {v : Int32} (X : plX E cc "ProtectedLineModel" nL ret fr lo) (hin2 : (eT E).name = "<init>") (hl : Cond.fieldLink "ProtectedLineModel" index "ProtectedLineModel" "hold" "I" ∈ plWG) (d : decode cc pc = .ok (.putfield index, 3)) (kk : plJ E nL (plwR (plg E) a (plUp st 0 1 v)) k n lv (pc + 3) stk) : plJ E nL (plwR (plg E) a st) k n lv pc (.int v :: .ref (a 0) :: stk) := j_putF (ci := 10) (kf := 1) (q0 := 0) (T := F_RM) (N := 59) (ty0 := t_RM) (ty := .int) (w2 := plwR (plg E) a (plUp st 0 1 v)) X hin2 in_RM rfl (by decide) rfl t_RM_ok n_RM rfl rfl rfl (Nat.le_of_ble_eq_true rfl) rfl rfl rfl hl d kk
set_option maxRecDepth 20000 in
theorem putF_RM_wait {E : plE} {cc : ByteArray} {nL : Nat} {ret : Option FieldType} {fr lo : Nat} {k n : Nat} {lv : List (Nat × Value)} {pc index : Nat} {stk : List Value} {a : Nat → Nat} {st : plS} {v : Int32} (X : plX E cc "ProtectedLineModel" nL ret fr lo) (hin2 : (eT E).name = "<init>") (hl : Cond.fieldLink "ProtectedLineModel" index "ProtectedLineModel" "wait" "I" ∈ plWG) (d : decode cc pc = .ok (.putfield index, 3)) (kk : plJ E nL (plwR (plg E) a (plUp st 0 2 v)) k n lv (pc + 3) stk) : plJ E nL (plwR (plg E) a st) k n lv pc (.int v :: .ref (a 0) :: stk) := j_putF (ci := 10) (kf := 2) (q0 := 0) (T := F_RM) (N := 59) (ty0 := t_RM) (ty := .int) (w2 := plwR (plg E) a (plUp st 0 2 v)) X hin2 in_RM rfl (by decide) rfl t_RM_ok n_RM rfl rfl rfl (Nat.le_of_ble_eq_true rfl) rfl rfl rfl hl d kk
