theorem fr_K_SR_takeHeader_103 (st : plS) (ri rk : Nat)  : (K_SR_takeHeader_103 st) ri rk = st ri rk := by
  unfold K_SR_takeHeader_103
  repeat' split
  all_goals simp only [plUp_ap, plCp_ap, false_and, and_false, not_false_eq_true, not_true_eq_false, ↓reduceIte]
theorem fr_K_SR_takeHeader_74 (st : plS) (ri rk : Nat) (h21_6 : ¬ (ri = 21 ∧ rk = 6)) : (K_SR_takeHeader_74 st) ri rk = st ri rk := by
  unfold K_SR_takeHeader_74
  repeat' split
  all_goals simp only [plUp_ap, plCp_ap, fr_K_SR_takeHeader_103, h21_6, false_and, and_false, not_false_eq_true, not_true_eq_false, ↓reduceIte]
theorem fr_K_SR_takeHeader_69 (st : plS) (ri rk : Nat) (h21_4 : ¬ (ri = 21 ∧ rk = 4)) (h21_6 : ¬ (ri = 21 ∧ rk = 6)) : (K_SR_takeHeader_69 st) ri rk = st ri rk := by
  unfold K_SR_takeHeader_69
  repeat' split
  all_goals simp only [plUp_ap, plCp_ap, fr_K_SR_takeHeader_74, h21_4, h21_6, false_and, and_false, not_false_eq_true, not_true_eq_false, ↓reduceIte]
theorem fr_K_SR_takeHeader_64 (st : plS) (v3 : Int32) (ri rk : Nat) (h21_3 : ¬ (ri = 21 ∧ rk = 3)) (h21_4 : ¬ (ri = 21 ∧ rk = 4)) (h21_6 : ¬ (ri = 21 ∧ rk = 6)) : (K_SR_takeHeader_64 st v3) ri rk = st ri rk := by
  unfold K_SR_takeHeader_64
  repeat' split
  all_goals simp only [plUp_ap, plCp_ap, fr_K_SR_takeHeader_69, h21_3, h21_4, h21_6, false_and, and_false, not_false_eq_true, not_true_eq_false, ↓reduceIte]
theorem fr_K_SR_takeHeader_59 (st : plS) (v3 : Int32) (ri rk : Nat) (h21_1 : ¬ (ri = 21 ∧ rk = 1)) (h21_3 : ¬ (ri = 21 ∧ rk = 3)) (h21_4 : ¬ (ri = 21 ∧ rk = 4)) (h21_6 : ¬ (ri = 21 ∧ rk = 6)) : (K_SR_takeHeader_59 st v3) ri rk = st ri rk := by
  unfold K_SR_takeHeader_59
  repeat' split
  all_goals simp only [plUp_ap, plCp_ap, fr_K_SR_takeHeader_64, h21_1, h21_3, h21_4, h21_6, false_and, and_false, not_false_eq_true, not_true_eq_false, ↓reduceIte]
theorem fr_K_SR_takeHeader_56 (st : plS) (v3 : Int32) (k0 : Int32) (ri rk : Nat) (h21_0 : ¬ (ri = 21 ∧ rk = 0)) (h21_1 : ¬ (ri = 21 ∧ rk = 1)) (h21_3 : ¬ (ri = 21 ∧ rk = 3)) (h21_4 : ¬ (ri = 21 ∧ rk = 4)) (h21_6 : ¬ (ri = 21 ∧ rk = 6)) : (K_SR_takeHeader_56 st v3 k0) ri rk = st ri rk := by
  unfold K_SR_takeHeader_56
  repeat' split
  all_goals simp only [plUp_ap, plCp_ap, fr_K_SR_takeHeader_59, h21_0, h21_1, h21_3, h21_4, h21_6, false_and, and_false, not_false_eq_true, not_true_eq_false, ↓reduceIte]
theorem fr_K_SR_takeHeader_37 (st : plS) (v1 : Int32) (k0 : Int32) (ri rk : Nat) (h21_0 : ¬ (ri = 21 ∧ rk = 0)) (h21_1 : ¬ (ri = 21 ∧ rk = 1)) (h21_2 : ¬ (ri = 21 ∧ rk = 2)) (h21_3 : ¬ (ri = 21 ∧ rk = 3)) (h21_4 : ¬ (ri = 21 ∧ rk = 4)) (h21_6 : ¬ (ri = 21 ∧ rk = 6)) : (K_SR_takeHeader_37 st v1 k0) ri rk = st ri rk := by
  unfold K_SR_takeHeader_37
  repeat' split
  all_goals simp only [plUp_ap, plCp_ap, fr_K_SR_takeHeader_103, fr_K_SR_hunt, fr_K_SR_takeHeader_56, h21_0, h21_1, h21_2, h21_3, h21_4, h21_6, false_and, and_false, not_false_eq_true, not_true_eq_false, ↓reduceIte]
theorem fr_K_SR_takeHeader_13 (st : plS) (v1 : Int32) (k0 : Int32) (ri rk : Nat) (h21_0 : ¬ (ri = 21 ∧ rk = 0)) (h21_1 : ¬ (ri = 21 ∧ rk = 1)) (h21_2 : ¬ (ri = 21 ∧ rk = 2)) (h21_3 : ¬ (ri = 21 ∧ rk = 3)) (h21_4 : ¬ (ri = 21 ∧ rk = 4)) (h21_6 : ¬ (ri = 21 ∧ rk = 6)) : (K_SR_takeHeader_13 st v1 k0) ri rk = st ri rk := by
  unfold K_SR_takeHeader_13
  repeat' split
  all_goals simp only [plUp_ap, plCp_ap, fr_K_SR_takeHeader_37, h21_0, h21_1, h21_2, h21_3, h21_4, h21_6, false_and, and_false, not_false_eq_true, not_true_eq_false, ↓reduceIte]
theorem fr_K_SR_takeHeader (st : plS) (v1 : Int32) (ri rk : Nat) (h21_0 : ¬ (ri = 21 ∧ rk = 0)) (h21_1 : ¬ (ri = 21 ∧ rk = 1)) (h21_2 : ¬ (ri = 21 ∧ rk = 2)) (h21_3 : ¬ (ri = 21 ∧ rk = 3)) (h21_4 : ¬ (ri = 21 ∧ rk = 4)) (h21_6 : ¬ (ri = 21 ∧ rk = 6)) : (K_SR_takeHeader st v1) ri rk = st ri rk := by
  unfold K_SR_takeHeader
  repeat' split
  all_goals simp only [plUp_ap, plCp_ap, fr_K_SR_takeHeader_13, h21_0, h21_1, h21_2, h21_3, h21_4, h21_6, false_and, and_false, not_false_eq_true, not_true_eq_false, ↓reduceIte]
theorem fr_K_SR_endFrame_94 (st : plS) (ri rk : Nat)  : (K_SR_endFrame_94 st) ri rk = st ri rk := by
  unfold K_SR_endFrame_94
  repeat' split
  all_goals simp only [plUp_ap, plCp_ap, false_and, and_false, not_false_eq_true, not_true_eq_false, ↓reduceIte]
theorem fr_K_SR_endFrame_84 (st : plS) (ri rk : Nat) (h21_9 : ¬ (ri = 21 ∧ rk = 9)) : (K_SR_endFrame_84 st) ri rk = st ri rk := by
  unfold K_SR_endFrame_84
  repeat' split
  all_goals simp only [plUp_ap, plCp_ap, fr_K_SR_endFrame_94, h21_9, false_and, and_false, not_false_eq_true, not_true_eq_false, ↓reduceIte]
theorem fr_K_SR_endFrame_53 (st : plS) (ri rk : Nat) (h24 : ¬ ri = 24) : (K_SR_endFrame_53 st) ri rk = st ri rk := by
  unfold K_SR_endFrame_53
  repeat' split
  all_goals simp only [plUp_ap, plCp_ap, fr_K_SR_endFrame_94, h24, false_and, and_false, not_false_eq_true, not_true_eq_false, ↓reduceIte]
theorem fr_K_SR_endFrame_35 (st : plS) (ri rk : Nat) (h23 : ¬ ri = 23) (h24 : ¬ ri = 24) : (K_SR_endFrame_35 st) ri rk = st ri rk := by
  unfold K_SR_endFrame_35
  repeat' split
  all_goals simp only [plUp_ap, plCp_ap, fr_K_SR_endFrame_53, h23, h24, false_and, and_false, not_false_eq_true, not_true_eq_false, ↓reduceIte]
theorem fr_K_SR_endFrame (st : plS) (v1 : Int32) (ri rk : Nat) (h21_8 : ¬ (ri = 21 ∧ rk = 8)) (h21_9 : ¬ (ri = 21 ∧ rk = 9)) (h23 : ¬ ri = 23) (h24 : ¬ ri = 24) : (K_SR_endFrame st v1) ri rk = st ri rk := by
  unfold K_SR_endFrame
  repeat' split
  all_goals simp only [plUp_ap, plCp_ap, fr_K_SR_endFrame_84, fr_K_SR_endFrame_35, h21_8, h21_9, h23, h24, false_and, and_false, not_false_eq_true, not_true_eq_false, ↓reduceIte]
theorem fr_K_SR_takeFrameByte_69 (st : plS) (v2 : Int32) (ri rk : Nat) (h21_6 : ¬ (ri = 21 ∧ rk = 6)) : (K_SR_takeFrameByte_69 st v2) ri rk = st ri rk := by
  unfold K_SR_takeFrameByte_69
  repeat' split
  all_goals simp only [plUp_ap, plCp_ap, h21_6, false_and, and_false, not_false_eq_true, not_true_eq_false, ↓reduceIte]
theorem fr_K_SR_takeFrameByte_22 (st : plS) (v2 : Int32) (ri rk : Nat) (h21_6 : ¬ (ri = 21 ∧ rk = 6)) (h21_8 : ¬ (ri = 21 ∧ rk = 8)) (h21_9 : ¬ (ri = 21 ∧ rk = 9)) (h22 : ¬ ri = 22) (h23 : ¬ ri = 23) (h24 : ¬ ri = 24) : (K_SR_takeFrameByte_22 st v2) ri rk = st ri rk := by
  unfold K_SR_takeFrameByte_22
  repeat' split
  all_goals simp only [plUp_ap, plCp_ap, fr_K_SR_endFrame, fr_K_SR_takeFrameByte_69, h21_6, h21_8, h21_9, h22, h23, h24, false_and, and_false, not_false_eq_true, not_true_eq_false, ↓reduceIte]
theorem fr_K_SR_takeFrameByte_12 (st : plS) (v2 : Int32) (ri rk : Nat) (h21_4 : ¬ (ri = 21 ∧ rk = 4)) (h21_6 : ¬ (ri = 21 ∧ rk = 6)) (h21_8 : ¬ (ri = 21 ∧ rk = 8)) (h21_9 : ¬ (ri = 21 ∧ rk = 9)) (h22 : ¬ ri = 22) (h23 : ¬ ri = 23) (h24 : ¬ ri = 24) : (K_SR_takeFrameByte_12 st v2) ri rk = st ri rk := by
  unfold K_SR_takeFrameByte_12
  repeat' split
  all_goals simp only [plUp_ap, plCp_ap, fr_K_SR_takeFrameByte_22, h21_4, h21_6, h21_8, h21_9, h22, h23, h24, false_and, and_false, not_false_eq_true, not_true_eq_false, ↓reduceIte]
theorem fr_K_SR_takeFrameByte (st : plS) (v1 : Int32) (ri rk : Nat) (h21_4 : ¬ (ri = 21 ∧ rk = 4)) (h21_5 : ¬ (ri = 21 ∧ rk = 5)) (h21_6 : ¬ (ri = 21 ∧ rk = 6)) (h21_8 : ¬ (ri = 21 ∧ rk = 8)) (h21_9 : ¬ (ri = 21 ∧ rk = 9)) (h22 : ¬ ri = 22) (h23 : ¬ ri = 23) (h24 : ¬ ri = 24) : (K_SR_takeFrameByte st v1) ri rk = st ri rk := by
  unfold K_SR_takeFrameByte
  repeat' split
  all_goals simp only [plUp_ap, plCp_ap, fr_K_SR_takeFrameByte_12, h21_4, h21_5, h21_6, h21_8, h21_9, h22, h23, h24, false_and, and_false, not_false_eq_true, not_true_eq_false, ↓reduceIte]
theorem fr_K_SR_give_44 (st : plS) (ri rk : Nat)  : (K_SR_give_44 st) ri rk = st ri rk := by
  unfold K_SR_give_44
  repeat' split
  all_goals simp only [plUp_ap, plCp_ap, false_and, and_false, not_false_eq_true, not_true_eq_false, ↓reduceIte]
theorem fr_K_SR_give_39 (st : plS) (v1 : Int32) (ri rk : Nat) (h21_2 : ¬ (ri = 21 ∧ rk = 2)) : (K_SR_give_39 st v1) ri rk = st ri rk := by
  unfold K_SR_give_39
  repeat' split
  all_goals simp only [plUp_ap, plCp_ap, fr_K_SR_give_44, h21_2, false_and, and_false, not_false_eq_true, not_true_eq_false, ↓reduceIte]
theorem fr_K_SR_give (st : plS) (v1 : Int32) (ri rk : Nat) (h21_0 : ¬ (ri = 21 ∧ rk = 0)) (h21_1 : ¬ (ri = 21 ∧ rk = 1)) (h21_2 : ¬ (ri = 21 ∧ rk = 2)) (h21_3 : ¬ (ri = 21 ∧ rk = 3)) (h21_4 : ¬ (ri = 21 ∧ rk = 4)) (h21_5 : ¬ (ri = 21 ∧ rk = 5)) (h21_6 : ¬ (ri = 21 ∧ rk = 6)) (h21_8 : ¬ (ri = 21 ∧ rk = 8)) (h21_9 : ¬ (ri = 21 ∧ rk = 9)) (h22 : ¬ ri = 22) (h23 : ¬ ri = 23) (h24 : ¬ ri = 24) : (K_SR_give st v1) ri rk = st ri rk := by
  unfold K_SR_give
  repeat' split
  all_goals simp only [plUp_ap, plCp_ap, fr_K_SR_give_39, fr_K_SR_give_44, fr_K_SR_takeHeader, fr_K_SR_takeFrameByte, h21_0, h21_1, h21_2, h21_3, h21_4, h21_5, h21_6, h21_8, h21_9, h22, h23, h24, false_and, and_false, not_false_eq_true, not_true_eq_false, ↓reduceIte]
theorem fr_K_PR_beginContainer_32 (st : plS) (ri rk : Nat) (h25_6 : ¬ (ri = 25 ∧ rk = 6)) : (K_PR_beginContainer_32 st) ri rk = st ri rk := by
  unfold K_PR_beginContainer_32
  repeat' split
  all_goals simp only [plUp_ap, plCp_ap, h25_6, false_and, and_false, not_false_eq_true, not_true_eq_false, ↓reduceIte]
theorem fr_K_PR_beginContainer_27 (st : plS) (v1 : Int32) (ri rk : Nat) (h25_6 : ¬ (ri = 25 ∧ rk = 6)) (h25_7 : ¬ (ri = 25 ∧ rk = 7)) : (K_PR_beginContainer_27 st v1) ri rk = st ri rk := by
  unfold K_PR_beginContainer_27
  repeat' split
  all_goals simp only [plUp_ap, plCp_ap, fr_K_PR_beginContainer_32, h25_6, h25_7, false_and, and_false, not_false_eq_true, not_true_eq_false, ↓reduceIte]
theorem fr_K_PR_beginContainer (st : plS) (v1 : Int32) (ri rk : Nat) (h25_6 : ¬ (ri = 25 ∧ rk = 6)) (h25_7 : ¬ (ri = 25 ∧ rk = 7)) (h25_8 : ¬ (ri = 25 ∧ rk = 8)) : (K_PR_beginContainer st v1) ri rk = st ri rk := by
  unfold K_PR_beginContainer
  repeat' split
  all_goals simp only [plUp_ap, plCp_ap, fr_K_PR_beginContainer_27, h25_6, h25_7, h25_8, false_and, and_false, not_false_eq_true, not_true_eq_false, ↓reduceIte]
theorem fr_K_PR_take_LW_36L115 (st : plS) (v2 : Int32) (v3 : Int32) (v4 : Int32) (ri rk : Nat)  : (K_PR_take_LW_36L115 st v2 v3 v4).2.1 ri rk = st ri rk := by
  unfold K_PR_take_LW_36L115
  repeat' split
  all_goals simp only [plUp_ap, plCp_ap, false_and, and_false, not_false_eq_true, not_true_eq_false, ↓reduceIte]
theorem fr_K_PR_take_LW_36L106 (st : plS) (v2 : Int32) (v3 : Int32) (v4 : Int32) (v5 : Int32) (ri rk : Nat) (h21_0 : ¬ (ri = 21 ∧ rk = 0)) (h21_1 : ¬ (ri = 21 ∧ rk = 1)) (h21_2 : ¬ (ri = 21 ∧ rk = 2)) (h21_3 : ¬ (ri = 21 ∧ rk = 3)) (h21_4 : ¬ (ri = 21 ∧ rk = 4)) (h21_5 : ¬ (ri = 21 ∧ rk = 5)) (h21_6 : ¬ (ri = 21 ∧ rk = 6)) (h21_8 : ¬ (ri = 21 ∧ rk = 8)) (h21_9 : ¬ (ri = 21 ∧ rk = 9)) (h22 : ¬ ri = 22) (h23 : ¬ ri = 23) (h24 : ¬ ri = 24) : (K_PR_take_LW_36L106 st v2 v3 v4 v5).2.1 ri rk = st ri rk := by
  unfold K_PR_take_LW_36L106
  repeat' split
  all_goals simp only [plUp_ap, plCp_ap, fr_K_PR_take_LW_36L115, fr_K_SR_give, h21_0, h21_1, h21_2, h21_3, h21_4, h21_5, h21_6, h21_8, h21_9, h22, h23, h24, false_and, and_false, not_false_eq_true, not_true_eq_false, ↓reduceIte]
theorem fr_K_PR_take_LW_36L103 (st : plS) (v2 : Int32) (v3 : Int32) (v4 : Int32) (v5 : Int32) (k0 : Int32) (ri rk : Nat) (h21_0 : ¬ (ri = 21 ∧ rk = 0)) (h21_1 : ¬ (ri = 21 ∧ rk = 1)) (h21_2 : ¬ (ri = 21 ∧ rk = 2)) (h21_3 : ¬ (ri = 21 ∧ rk = 3)) (h21_4 : ¬ (ri = 21 ∧ rk = 4)) (h21_5 : ¬ (ri = 21 ∧ rk = 5)) (h21_6 : ¬ (ri = 21 ∧ rk = 6)) (h21_8 : ¬ (ri = 21 ∧ rk = 8)) (h21_9 : ¬ (ri = 21 ∧ rk = 9)) (h22 : ¬ ri = 22) (h23 : ¬ ri = 23) (h24 : ¬ ri = 24) (h25_6 : ¬ (ri = 25 ∧ rk = 6)) : (K_PR_take_LW_36L103 st v2 v3 v4 v5 k0).2.1 ri rk = st ri rk := by
  unfold K_PR_take_LW_36L103
  repeat' split
  all_goals simp only [plUp_ap, plCp_ap, fr_K_PR_take_LW_36L106, h21_0, h21_1, h21_2, h21_3, h21_4, h21_5, h21_6, h21_8, h21_9, h22, h23, h24, h25_6, false_and, and_false, not_false_eq_true, not_true_eq_false, ↓reduceIte]
theorem fr_K_PR_take_LW_36L85 (st : plS) (v2 : Int32) (v3 : Int32) (v4 : Int32) (v5 : Int32) (ri rk : Nat) (h21_0 : ¬ (ri = 21 ∧ rk = 0)) (h21_1 : ¬ (ri = 21 ∧ rk = 1)) (h21_2 : ¬ (ri = 21 ∧ rk = 2)) (h21_3 : ¬ (ri = 21 ∧ rk = 3)) (h21_4 : ¬ (ri = 21 ∧ rk = 4)) (h21_5 : ¬ (ri = 21 ∧ rk = 5)) (h21_6 : ¬ (ri = 21 ∧ rk = 6)) (h21_8 : ¬ (ri = 21 ∧ rk = 8)) (h21_9 : ¬ (ri = 21 ∧ rk = 9)) (h22 : ¬ ri = 22) (h23 : ¬ ri = 23) (h24 : ¬ ri = 24) (h25_6 : ¬ (ri = 25 ∧ rk = 6)) : (K_PR_take_LW_36L85 st v2 v3 v4 v5).2.1 ri rk = st ri rk := by
  unfold K_PR_take_LW_36L85
  repeat' split
  all_goals simp only [plUp_ap, plCp_ap, fr_K_PR_take_LW_36L103, h21_0, h21_1, h21_2, h21_3, h21_4, h21_5, h21_6, h21_8, h21_9, h22, h23, h24, h25_6, false_and, and_false, not_false_eq_true, not_true_eq_false, ↓reduceIte]
theorem fr_K_PR_take_LW_36L (st : plS) (v2 : Int32) (v3 : Int32) (v4 : Int32) (ri rk : Nat) (h21_0 : ¬ (ri = 21 ∧ rk = 0)) (h21_1 : ¬ (ri = 21 ∧ rk = 1)) (h21_2 : ¬ (ri = 21 ∧ rk = 2)) (h21_3 : ¬ (ri = 21 ∧ rk = 3)) (h21_4 : ¬ (ri = 21 ∧ rk = 4)) (h21_5 : ¬ (ri = 21 ∧ rk = 5)) (h21_6 : ¬ (ri = 21 ∧ rk = 6)) (h21_8 : ¬ (ri = 21 ∧ rk = 8)) (h21_9 : ¬ (ri = 21 ∧ rk = 9)) (h22 : ¬ ri = 22) (h23 : ¬ ri = 23) (h24 : ¬ ri = 24) (h25_6 : ¬ (ri = 25 ∧ rk = 6)) (h25_7 : ¬ (ri = 25 ∧ rk = 7)) (h25_8 : ¬ (ri = 25 ∧ rk = 8)) : (K_PR_take_LW_36L st v2 v3 v4).2.1 ri rk = st ri rk := by
  unfold K_PR_take_LW_36L
  repeat' split
  all_goals simp only [plUp_ap, plCp_ap, fr_K_PR_take_LW_36L115, fr_K_PR_beginContainer, fr_K_PR_take_LW_36L85, h21_0, h21_1, h21_2, h21_3, h21_4, h21_5, h21_6, h21_8, h21_9, h22, h23, h24, h25_6, h25_7, h25_8, false_and, and_false, not_false_eq_true, not_true_eq_false, ↓reduceIte]
theorem fr_F_PR_take_LW_36 (v2 : Int32) (v3 : Int32) (c : plS × Int32) (ri rk : Nat) (h21_0 : ¬ (ri = 21 ∧ rk = 0)) (h21_1 : ¬ (ri = 21 ∧ rk = 1)) (h21_2 : ¬ (ri = 21 ∧ rk = 2)) (h21_3 : ¬ (ri = 21 ∧ rk = 3)) (h21_4 : ¬ (ri = 21 ∧ rk = 4)) (h21_5 : ¬ (ri = 21 ∧ rk = 5)) (h21_6 : ¬ (ri = 21 ∧ rk = 6)) (h21_8 : ¬ (ri = 21 ∧ rk = 8)) (h21_9 : ¬ (ri = 21 ∧ rk = 9)) (h22 : ¬ ri = 22) (h23 : ¬ ri = 23) (h24 : ¬ ri = 24) (h25_6 : ¬ (ri = 25 ∧ rk = 6)) (h25_7 : ¬ (ri = 25 ∧ rk = 7)) (h25_8 : ¬ (ri = 25 ∧ rk = 8)) : (F_PR_take_LW_36 v2 v3 c).2.1 ri rk = c.1 ri rk := by
  unfold F_PR_take_LW_36
  repeat' split
  all_goals simp only [plUp_ap, plCp_ap, fr_K_PR_take_LW_36L, h21_0, h21_1, h21_2, h21_3, h21_4, h21_5, h21_6, h21_8, h21_9, h22, h23, h24, h25_6, h25_7, h25_8, false_and, and_false, not_false_eq_true, not_true_eq_false, ↓reduceIte]
theorem frL_F_PR_take_LW_36 (v2 : Int32) (v3 : Int32) (nn : Nat) (c : plS × Int32) (ri rk : Nat) (h21_0 : ¬ (ri = 21 ∧ rk = 0)) (h21_1 : ¬ (ri = 21 ∧ rk = 1)) (h21_2 : ¬ (ri = 21 ∧ rk = 2)) (h21_3 : ¬ (ri = 21 ∧ rk = 3)) (h21_4 : ¬ (ri = 21 ∧ rk = 4)) (h21_5 : ¬ (ri = 21 ∧ rk = 5)) (h21_6 : ¬ (ri = 21 ∧ rk = 6)) (h21_8 : ¬ (ri = 21 ∧ rk = 8)) (h21_9 : ¬ (ri = 21 ∧ rk = 9)) (h22 : ¬ ri = 22) (h23 : ¬ ri = 23) (h24 : ¬ ri = 24) (h25_6 : ¬ (ri = 25 ∧ rk = 6)) (h25_7 : ¬ (ri = 25 ∧ rk = 7)) (h25_8 : ¬ (ri = 25 ∧ rk = 8)) : (lpR (F_PR_take_LW_36 v2 v3) nn c).1 ri rk = c.1 ri rk := lpR_fr (F_PR_take_LW_36 v2 v3) (fun c => c.1) ri rk (fun c => fr_F_PR_take_LW_36 v2 v3 c ri rk h21_0 h21_1 h21_2 h21_3 h21_4 h21_5 h21_6 h21_8 h21_9 h22 h23 h24 h25_6 h25_7 h25_8) nn c
theorem fr_K_PR_take_LW_36X (v2 : Int32) (v3 : Int32) (c : plS × Int32) (ri rk : Nat) (h25_1 : ¬ (ri = 25 ∧ rk = 1)) : (K_PR_take_LW_36X v2 v3 c) ri rk = c.1 ri rk := by
  unfold K_PR_take_LW_36X
  repeat' split
  all_goals simp only [plUp_ap, plCp_ap, h25_1, false_and, and_false, not_false_eq_true, not_true_eq_false, ↓reduceIte]
theorem fr_K_PR_take_LW_14q  (q : Int32 × plS) (ri rk : Nat) (h21_0 : ¬ (ri = 21 ∧ rk = 0)) (h21_1 : ¬ (ri = 21 ∧ rk = 1)) (h21_2 : ¬ (ri = 21 ∧ rk = 2)) (h21_3 : ¬ (ri = 21 ∧ rk = 3)) (h21_4 : ¬ (ri = 21 ∧ rk = 4)) (h21_5 : ¬ (ri = 21 ∧ rk = 5)) (h21_6 : ¬ (ri = 21 ∧ rk = 6)) (h21_8 : ¬ (ri = 21 ∧ rk = 8)) (h21_9 : ¬ (ri = 21 ∧ rk = 9)) (h22 : ¬ ri = 22) (h23 : ¬ ri = 23) (h24 : ¬ ri = 24) (h25_1 : ¬ (ri = 25 ∧ rk = 1)) (h25_6 : ¬ (ri = 25 ∧ rk = 6)) (h25_7 : ¬ (ri = 25 ∧ rk = 7)) (h25_8 : ¬ (ri = 25 ∧ rk = 8)) : (K_PR_take_LW_14q q) ri rk = q.2 ri rk := by
  unfold K_PR_take_LW_14q
  repeat' split
  all_goals simp only [plUp_ap, plCp_ap, fr_K_PR_breakOff, fr_K_PR_take_LW_36X, fr_F_PR_take_LW_36, frL_F_PR_take_LW_36, h21_0, h21_1, h21_2, h21_3, h21_4, h21_5, h21_6, h21_8, h21_9, h22, h23, h24, h25_1, h25_6, h25_7, h25_8, false_and, and_false, not_false_eq_true, not_true_eq_false, ↓reduceIte]
theorem fr_K_PR_take_LW_5 (st : plS) (ri rk : Nat) (h21_0 : ¬ (ri = 21 ∧ rk = 0)) (h21_1 : ¬ (ri = 21 ∧ rk = 1)) (h21_2 : ¬ (ri = 21 ∧ rk = 2)) (h21_3 : ¬ (ri = 21 ∧ rk = 3)) (h21_4 : ¬ (ri = 21 ∧ rk = 4)) (h21_5 : ¬ (ri = 21 ∧ rk = 5)) (h21_6 : ¬ (ri = 21 ∧ rk = 6)) (h21_8 : ¬ (ri = 21 ∧ rk = 8)) (h21_9 : ¬ (ri = 21 ∧ rk = 9)) (h22 : ¬ ri = 22) (h23 : ¬ ri = 23) (h24 : ¬ ri = 24) (h25_1 : ¬ (ri = 25 ∧ rk = 1)) (h25_3 : ¬ (ri = 25 ∧ rk = 3)) (h25_4 : ¬ (ri = 25 ∧ rk = 4)) (h25_5 : ¬ (ri = 25 ∧ rk = 5)) (h25_6 : ¬ (ri = 25 ∧ rk = 6)) (h25_7 : ¬ (ri = 25 ∧ rk = 7)) (h25_8 : ¬ (ri = 25 ∧ rk = 8)) : (K_PR_take_LW_5 st) ri rk = st ri rk := by
  unfold K_PR_take_LW_5
  repeat' split
  all_goals simp only [plUp_ap, plCp_ap, fr_K_PR_take_LW_14q, fr_K_PR_follow, h21_0, h21_1, h21_2, h21_3, h21_4, h21_5, h21_6, h21_8, h21_9, h22, h23, h24, h25_1, h25_3, h25_4, h25_5, h25_6, h25_7, h25_8, false_and, and_false, not_false_eq_true, not_true_eq_false, ↓reduceIte]
theorem fr_K_PR_take_LW (st : plS) (ri rk : Nat) (h21_0 : ¬ (ri = 21 ∧ rk = 0)) (h21_1 : ¬ (ri = 21 ∧ rk = 1)) (h21_2 : ¬ (ri = 21 ∧ rk = 2)) (h21_3 : ¬ (ri = 21 ∧ rk = 3)) (h21_4 : ¬ (ri = 21 ∧ rk = 4)) (h21_5 : ¬ (ri = 21 ∧ rk = 5)) (h21_6 : ¬ (ri = 21 ∧ rk = 6)) (h21_8 : ¬ (ri = 21 ∧ rk = 8)) (h21_9 : ¬ (ri = 21 ∧ rk = 9)) (h22 : ¬ ri = 22) (h23 : ¬ ri = 23) (h24 : ¬ ri = 24) (h25_1 : ¬ (ri = 25 ∧ rk = 1)) (h25_2 : ¬ (ri = 25 ∧ rk = 2)) (h25_3 : ¬ (ri = 25 ∧ rk = 3)) (h25_4 : ¬ (ri = 25 ∧ rk = 4)) (h25_5 : ¬ (ri = 25 ∧ rk = 5)) (h25_6 : ¬ (ri = 25 ∧ rk = 6)) (h25_7 : ¬ (ri = 25 ∧ rk = 7)) (h25_8 : ¬ (ri = 25 ∧ rk = 8)) : (K_PR_take_LW st) ri rk = st ri rk := by
  unfold K_PR_take_LW
  repeat' split
  all_goals simp only [plUp_ap, plCp_ap, fr_K_PR_take_LW_5, h21_0, h21_1, h21_2, h21_3, h21_4, h21_5, h21_6, h21_8, h21_9, h22, h23, h24, h25_1, h25_2, h25_3, h25_4, h25_5, h25_6, h25_7, h25_8, false_and, and_false, not_false_eq_true, not_true_eq_false, ↓reduceIte]
theorem fr_K_PR_take_LP_36L115 (st : plS) (v2 : Int32) (v3 : Int32) (v4 : Int32) (ri rk : Nat)  : (K_PR_take_LP_36L115 st v2 v3 v4).2.1 ri rk = st ri rk := by
  unfold K_PR_take_LP_36L115
  repeat' split
  all_goals simp only [plUp_ap, plCp_ap, false_and, and_false, not_false_eq_true, not_true_eq_false, ↓reduceIte]
theorem fr_K_PR_take_LP_36L106 (st : plS) (v2 : Int32) (v3 : Int32) (v4 : Int32) (v5 : Int32) (ri rk : Nat) (h21_0 : ¬ (ri = 21 ∧ rk = 0)) (h21_1 : ¬ (ri = 21 ∧ rk = 1)) (h21_2 : ¬ (ri = 21 ∧ rk = 2)) (h21_3 : ¬ (ri = 21 ∧ rk = 3)) (h21_4 : ¬ (ri = 21 ∧ rk = 4)) (h21_5 : ¬ (ri = 21 ∧ rk = 5)) (h21_6 : ¬ (ri = 21 ∧ rk = 6)) (h21_8 : ¬ (ri = 21 ∧ rk = 8)) (h21_9 : ¬ (ri = 21 ∧ rk = 9)) (h22 : ¬ ri = 22) (h23 : ¬ ri = 23) (h24 : ¬ ri = 24) : (K_PR_take_LP_36L106 st v2 v3 v4 v5).2.1 ri rk = st ri rk := by
  unfold K_PR_take_LP_36L106
  repeat' split
  all_goals simp only [plUp_ap, plCp_ap, fr_K_PR_take_LP_36L115, fr_K_SR_give, h21_0, h21_1, h21_2, h21_3, h21_4, h21_5, h21_6, h21_8, h21_9, h22, h23, h24, false_and, and_false, not_false_eq_true, not_true_eq_false, ↓reduceIte]
theorem fr_K_PR_take_LP_36L103 (st : plS) (v2 : Int32) (v3 : Int32) (v4 : Int32) (v5 : Int32) (k0 : Int32) (ri rk : Nat) (h21_0 : ¬ (ri = 21 ∧ rk = 0)) (h21_1 : ¬ (ri = 21 ∧ rk = 1)) (h21_2 : ¬ (ri = 21 ∧ rk = 2)) (h21_3 : ¬ (ri = 21 ∧ rk = 3)) (h21_4 : ¬ (ri = 21 ∧ rk = 4)) (h21_5 : ¬ (ri = 21 ∧ rk = 5)) (h21_6 : ¬ (ri = 21 ∧ rk = 6)) (h21_8 : ¬ (ri = 21 ∧ rk = 8)) (h21_9 : ¬ (ri = 21 ∧ rk = 9)) (h22 : ¬ ri = 22) (h23 : ¬ ri = 23) (h24 : ¬ ri = 24) (h25_6 : ¬ (ri = 25 ∧ rk = 6)) : (K_PR_take_LP_36L103 st v2 v3 v4 v5 k0).2.1 ri rk = st ri rk := by
  unfold K_PR_take_LP_36L103
  repeat' split
  all_goals simp only [plUp_ap, plCp_ap, fr_K_PR_take_LP_36L106, h21_0, h21_1, h21_2, h21_3, h21_4, h21_5, h21_6, h21_8, h21_9, h22, h23, h24, h25_6, false_and, and_false, not_false_eq_true, not_true_eq_false, ↓reduceIte]
theorem fr_K_PR_take_LP_36L85 (st : plS) (v2 : Int32) (v3 : Int32) (v4 : Int32) (v5 : Int32) (ri rk : Nat) (h21_0 : ¬ (ri = 21 ∧ rk = 0)) (h21_1 : ¬ (ri = 21 ∧ rk = 1)) (h21_2 : ¬ (ri = 21 ∧ rk = 2)) (h21_3 : ¬ (ri = 21 ∧ rk = 3)) (h21_4 : ¬ (ri = 21 ∧ rk = 4)) (h21_5 : ¬ (ri = 21 ∧ rk = 5)) (h21_6 : ¬ (ri = 21 ∧ rk = 6)) (h21_8 : ¬ (ri = 21 ∧ rk = 8)) (h21_9 : ¬ (ri = 21 ∧ rk = 9)) (h22 : ¬ ri = 22) (h23 : ¬ ri = 23) (h24 : ¬ ri = 24) (h25_6 : ¬ (ri = 25 ∧ rk = 6)) : (K_PR_take_LP_36L85 st v2 v3 v4 v5).2.1 ri rk = st ri rk := by
  unfold K_PR_take_LP_36L85
  repeat' split
  all_goals simp only [plUp_ap, plCp_ap, fr_K_PR_take_LP_36L103, h21_0, h21_1, h21_2, h21_3, h21_4, h21_5, h21_6, h21_8, h21_9, h22, h23, h24, h25_6, false_and, and_false, not_false_eq_true, not_true_eq_false, ↓reduceIte]
theorem fr_K_PR_take_LP_36L (st : plS) (v2 : Int32) (v3 : Int32) (v4 : Int32) (ri rk : Nat) (h21_0 : ¬ (ri = 21 ∧ rk = 0)) (h21_1 : ¬ (ri = 21 ∧ rk = 1)) (h21_2 : ¬ (ri = 21 ∧ rk = 2)) (h21_3 : ¬ (ri = 21 ∧ rk = 3)) (h21_4 : ¬ (ri = 21 ∧ rk = 4)) (h21_5 : ¬ (ri = 21 ∧ rk = 5)) (h21_6 : ¬ (ri = 21 ∧ rk = 6)) (h21_8 : ¬ (ri = 21 ∧ rk = 8)) (h21_9 : ¬ (ri = 21 ∧ rk = 9)) (h22 : ¬ ri = 22) (h23 : ¬ ri = 23) (h24 : ¬ ri = 24) (h25_6 : ¬ (ri = 25 ∧ rk = 6)) (h25_7 : ¬ (ri = 25 ∧ rk = 7)) (h25_8 : ¬ (ri = 25 ∧ rk = 8)) : (K_PR_take_LP_36L st v2 v3 v4).2.1 ri rk = st ri rk := by
  unfold K_PR_take_LP_36L
  repeat' split
  all_goals simp only [plUp_ap, plCp_ap, fr_K_PR_take_LP_36L115, fr_K_PR_beginContainer, fr_K_PR_take_LP_36L85, h21_0, h21_1, h21_2, h21_3, h21_4, h21_5, h21_6, h21_8, h21_9, h22, h23, h24, h25_6, h25_7, h25_8, false_and, and_false, not_false_eq_true, not_true_eq_false, ↓reduceIte]
theorem fr_F_PR_take_LP_36 (v2 : Int32) (v3 : Int32) (c : plS × Int32) (ri rk : Nat) (h21_0 : ¬ (ri = 21 ∧ rk = 0)) (h21_1 : ¬ (ri = 21 ∧ rk = 1)) (h21_2 : ¬ (ri = 21 ∧ rk = 2)) (h21_3 : ¬ (ri = 21 ∧ rk = 3)) (h21_4 : ¬ (ri = 21 ∧ rk = 4)) (h21_5 : ¬ (ri = 21 ∧ rk = 5)) (h21_6 : ¬ (ri = 21 ∧ rk = 6)) (h21_8 : ¬ (ri = 21 ∧ rk = 8)) (h21_9 : ¬ (ri = 21 ∧ rk = 9)) (h22 : ¬ ri = 22) (h23 : ¬ ri = 23) (h24 : ¬ ri = 24) (h25_6 : ¬ (ri = 25 ∧ rk = 6)) (h25_7 : ¬ (ri = 25 ∧ rk = 7)) (h25_8 : ¬ (ri = 25 ∧ rk = 8)) : (F_PR_take_LP_36 v2 v3 c).2.1 ri rk = c.1 ri rk := by
  unfold F_PR_take_LP_36
  repeat' split
  all_goals simp only [plUp_ap, plCp_ap, fr_K_PR_take_LP_36L, h21_0, h21_1, h21_2, h21_3, h21_4, h21_5, h21_6, h21_8, h21_9, h22, h23, h24, h25_6, h25_7, h25_8, false_and, and_false, not_false_eq_true, not_true_eq_false, ↓reduceIte]
theorem frL_F_PR_take_LP_36 (v2 : Int32) (v3 : Int32) (nn : Nat) (c : plS × Int32) (ri rk : Nat) (h21_0 : ¬ (ri = 21 ∧ rk = 0)) (h21_1 : ¬ (ri = 21 ∧ rk = 1)) (h21_2 : ¬ (ri = 21 ∧ rk = 2)) (h21_3 : ¬ (ri = 21 ∧ rk = 3)) (h21_4 : ¬ (ri = 21 ∧ rk = 4)) (h21_5 : ¬ (ri = 21 ∧ rk = 5)) (h21_6 : ¬ (ri = 21 ∧ rk = 6)) (h21_8 : ¬ (ri = 21 ∧ rk = 8)) (h21_9 : ¬ (ri = 21 ∧ rk = 9)) (h22 : ¬ ri = 22) (h23 : ¬ ri = 23) (h24 : ¬ ri = 24) (h25_6 : ¬ (ri = 25 ∧ rk = 6)) (h25_7 : ¬ (ri = 25 ∧ rk = 7)) (h25_8 : ¬ (ri = 25 ∧ rk = 8)) : (lpR (F_PR_take_LP_36 v2 v3) nn c).1 ri rk = c.1 ri rk := lpR_fr (F_PR_take_LP_36 v2 v3) (fun c => c.1) ri rk (fun c => fr_F_PR_take_LP_36 v2 v3 c ri rk h21_0 h21_1 h21_2 h21_3 h21_4 h21_5 h21_6 h21_8 h21_9 h22 h23 h24 h25_6 h25_7 h25_8) nn c
theorem fr_K_PR_take_LP_36X (v2 : Int32) (v3 : Int32) (c : plS × Int32) (ri rk : Nat) (h25_1 : ¬ (ri = 25 ∧ rk = 1)) : (K_PR_take_LP_36X v2 v3 c) ri rk = c.1 ri rk := by
  unfold K_PR_take_LP_36X
  repeat' split
  all_goals simp only [plUp_ap, plCp_ap, h25_1, false_and, and_false, not_false_eq_true, not_true_eq_false, ↓reduceIte]
theorem fr_K_PR_take_LP_14q  (q : Int32 × plS) (ri rk : Nat) (h21_0 : ¬ (ri = 21 ∧ rk = 0)) (h21_1 : ¬ (ri = 21 ∧ rk = 1)) (h21_2 : ¬ (ri = 21 ∧ rk = 2)) (h21_3 : ¬ (ri = 21 ∧ rk = 3)) (h21_4 : ¬ (ri = 21 ∧ rk = 4)) (h21_5 : ¬ (ri = 21 ∧ rk = 5)) (h21_6 : ¬ (ri = 21 ∧ rk = 6)) (h21_8 : ¬ (ri = 21 ∧ rk = 8)) (h21_9 : ¬ (ri = 21 ∧ rk = 9)) (h22 : ¬ ri = 22) (h23 : ¬ ri = 23) (h24 : ¬ ri = 24) (h25_1 : ¬ (ri = 25 ∧ rk = 1)) (h25_6 : ¬ (ri = 25 ∧ rk = 6)) (h25_7 : ¬ (ri = 25 ∧ rk = 7)) (h25_8 : ¬ (ri = 25 ∧ rk = 8)) : (K_PR_take_LP_14q q) ri rk = q.2 ri rk := by
  unfold K_PR_take_LP_14q
  repeat' split
  all_goals simp only [plUp_ap, plCp_ap, fr_K_PR_breakOff, fr_K_PR_take_LP_36X, fr_F_PR_take_LP_36, frL_F_PR_take_LP_36, h21_0, h21_1, h21_2, h21_3, h21_4, h21_5, h21_6, h21_8, h21_9, h22, h23, h24, h25_1, h25_6, h25_7, h25_8, false_and, and_false, not_false_eq_true, not_true_eq_false, ↓reduceIte]
theorem fr_K_PR_take_LP_5 (st : plS) (ri rk : Nat) (h21_0 : ¬ (ri = 21 ∧ rk = 0)) (h21_1 : ¬ (ri = 21 ∧ rk = 1)) (h21_2 : ¬ (ri = 21 ∧ rk = 2)) (h21_3 : ¬ (ri = 21 ∧ rk = 3)) (h21_4 : ¬ (ri = 21 ∧ rk = 4)) (h21_5 : ¬ (ri = 21 ∧ rk = 5)) (h21_6 : ¬ (ri = 21 ∧ rk = 6)) (h21_8 : ¬ (ri = 21 ∧ rk = 8)) (h21_9 : ¬ (ri = 21 ∧ rk = 9)) (h22 : ¬ ri = 22) (h23 : ¬ ri = 23) (h24 : ¬ ri = 24) (h25_1 : ¬ (ri = 25 ∧ rk = 1)) (h25_3 : ¬ (ri = 25 ∧ rk = 3)) (h25_4 : ¬ (ri = 25 ∧ rk = 4)) (h25_5 : ¬ (ri = 25 ∧ rk = 5)) (h25_6 : ¬ (ri = 25 ∧ rk = 6)) (h25_7 : ¬ (ri = 25 ∧ rk = 7)) (h25_8 : ¬ (ri = 25 ∧ rk = 8)) : (K_PR_take_LP_5 st) ri rk = st ri rk := by
  unfold K_PR_take_LP_5
  repeat' split
  all_goals simp only [plUp_ap, plCp_ap, fr_K_PR_take_LP_14q, fr_K_PR_follow, h21_0, h21_1, h21_2, h21_3, h21_4, h21_5, h21_6, h21_8, h21_9, h22, h23, h24, h25_1, h25_3, h25_4, h25_5, h25_6, h25_7, h25_8, false_and, and_false, not_false_eq_true, not_true_eq_false, ↓reduceIte]
theorem fr_K_PR_take_LP (st : plS) (ri rk : Nat) (h21_0 : ¬ (ri = 21 ∧ rk = 0)) (h21_1 : ¬ (ri = 21 ∧ rk = 1)) (h21_2 : ¬ (ri = 21 ∧ rk = 2)) (h21_3 : ¬ (ri = 21 ∧ rk = 3)) (h21_4 : ¬ (ri = 21 ∧ rk = 4)) (h21_5 : ¬ (ri = 21 ∧ rk = 5)) (h21_6 : ¬ (ri = 21 ∧ rk = 6)) (h21_8 : ¬ (ri = 21 ∧ rk = 8)) (h21_9 : ¬ (ri = 21 ∧ rk = 9)) (h22 : ¬ ri = 22) (h23 : ¬ ri = 23) (h24 : ¬ ri = 24) (h25_1 : ¬ (ri = 25 ∧ rk = 1)) (h25_2 : ¬ (ri = 25 ∧ rk = 2)) (h25_3 : ¬ (ri = 25 ∧ rk = 3)) (h25_4 : ¬ (ri = 25 ∧ rk = 4)) (h25_5 : ¬ (ri = 25 ∧ rk = 5)) (h25_6 : ¬ (ri = 25 ∧ rk = 6)) (h25_7 : ¬ (ri = 25 ∧ rk = 7)) (h25_8 : ¬ (ri = 25 ∧ rk = 8)) : (K_PR_take_LP st) ri rk = st ri rk := by
  unfold K_PR_take_LP
  repeat' split
  all_goals simp only [plUp_ap, plCp_ap, fr_K_PR_take_LP_5, h21_0, h21_1, h21_2, h21_3, h21_4, h21_5, h21_6, h21_8, h21_9, h22, h23, h24, h25_1, h25_2, h25_3, h25_4, h25_5, h25_6, h25_7, h25_8, false_and, and_false, not_false_eq_true, not_true_eq_false, ↓reduceIte]
theorem fr_K_PL_passTick_154 (st : plS) (ri rk : Nat) (h17_2 : ¬ (ri = 17 ∧ rk = 2)) (h18 : ¬ ri = 18) : (K_PL_passTick_154 st) ri rk = st ri rk := by
  unfold K_PL_passTick_154
  repeat' split
  all_goals simp only [plUp_ap, plCp_ap, fr_K_BL_launch, h17_2, h18, false_and, and_false, not_false_eq_true, not_true_eq_false, ↓reduceIte]
theorem fr_K_PL_passTick_147 (st : plS) (ri rk : Nat) (h17_2 : ¬ (ri = 17 ∧ rk = 2)) (h18 : ¬ ri = 18) (h21_0 : ¬ (ri = 21 ∧ rk = 0)) (h21_1 : ¬ (ri = 21 ∧ rk = 1)) (h21_3 : ¬ (ri = 21 ∧ rk = 3)) (h21_4 : ¬ (ri = 21 ∧ rk = 4)) (h25_1 : ¬ (ri = 25 ∧ rk = 1)) (h25_2 : ¬ (ri = 25 ∧ rk = 2)) (h25_3 : ¬ (ri = 25 ∧ rk = 3)) (h25_5 : ¬ (ri = 25 ∧ rk = 5)) (h25_6 : ¬ (ri = 25 ∧ rk = 6)) : (K_PL_passTick_147 st) ri rk = st ri rk := by
  unfold K_PL_passTick_147
  repeat' split
  all_goals simp only [plUp_ap, plCp_ap, fr_K_PL_passTick_154, fr_K_PR_gap, h17_2, h18, h21_0, h21_1, h21_3, h21_4, h25_1, h25_2, h25_3, h25_5, h25_6, false_and, and_false, not_false_eq_true, not_true_eq_false, ↓reduceIte]
theorem fr_K_PL_passTick_106 (st : plS) (ri rk : Nat) (h17_2 : ¬ (ri = 17 ∧ rk = 2)) (h18 : ¬ ri = 18) (h21_0 : ¬ (ri = 21 ∧ rk = 0)) (h21_1 : ¬ (ri = 21 ∧ rk = 1)) (h21_2 : ¬ (ri = 21 ∧ rk = 2)) (h21_3 : ¬ (ri = 21 ∧ rk = 3)) (h21_4 : ¬ (ri = 21 ∧ rk = 4)) (h21_5 : ¬ (ri = 21 ∧ rk = 5)) (h21_6 : ¬ (ri = 21 ∧ rk = 6)) (h21_8 : ¬ (ri = 21 ∧ rk = 8)) (h21_9 : ¬ (ri = 21 ∧ rk = 9)) (h22 : ¬ ri = 22) (h23 : ¬ ri = 23) (h24 : ¬ ri = 24) (h25_1 : ¬ (ri = 25 ∧ rk = 1)) (h25_2 : ¬ (ri = 25 ∧ rk = 2)) (h25_3 : ¬ (ri = 25 ∧ rk = 3)) (h25_4 : ¬ (ri = 25 ∧ rk = 4)) (h25_5 : ¬ (ri = 25 ∧ rk = 5)) (h25_6 : ¬ (ri = 25 ∧ rk = 6)) (h25_7 : ¬ (ri = 25 ∧ rk = 7)) (h25_8 : ¬ (ri = 25 ∧ rk = 8)) : (K_PL_passTick_106 st) ri rk = st ri rk := by
  unfold K_PL_passTick_106
  repeat' split
  all_goals simp only [plUp_ap, plCp_ap, fr_K_PL_passTick_147, fr_K_PL_passTick_154, fr_K_PR_take_LW, fr_K_PR_take_LP, h17_2, h18, h21_0, h21_1, h21_2, h21_3, h21_4, h21_5, h21_6, h21_8, h21_9, h22, h23, h24, h25_1, h25_2, h25_3, h25_4, h25_5, h25_6, h25_7, h25_8, false_and, and_false, not_false_eq_true, not_true_eq_false, ↓reduceIte]
theorem fr_K_PL_passTick_85 (st : plS) (ri rk : Nat) (h17_2 : ¬ (ri = 17 ∧ rk = 2)) (h18 : ¬ ri = 18) (h19_4 : ¬ (ri = 19 ∧ rk = 4)) (h19_5 : ¬ (ri = 19 ∧ rk = 5)) (h19_6 : ¬ (ri = 19 ∧ rk = 6)) (h19_7 : ¬ (ri = 19 ∧ rk = 7)) (h21_0 : ¬ (ri = 21 ∧ rk = 0)) (h21_1 : ¬ (ri = 21 ∧ rk = 1)) (h21_2 : ¬ (ri = 21 ∧ rk = 2)) (h21_3 : ¬ (ri = 21 ∧ rk = 3)) (h21_4 : ¬ (ri = 21 ∧ rk = 4)) (h21_5 : ¬ (ri = 21 ∧ rk = 5)) (h21_6 : ¬ (ri = 21 ∧ rk = 6)) (h21_8 : ¬ (ri = 21 ∧ rk = 8)) (h21_9 : ¬ (ri = 21 ∧ rk = 9)) (h22 : ¬ ri = 22) (h23 : ¬ ri = 23) (h24 : ¬ ri = 24) (h25_1 : ¬ (ri = 25 ∧ rk = 1)) (h25_2 : ¬ (ri = 25 ∧ rk = 2)) (h25_3 : ¬ (ri = 25 ∧ rk = 3)) (h25_4 : ¬ (ri = 25 ∧ rk = 4)) (h25_5 : ¬ (ri = 25 ∧ rk = 5)) (h25_6 : ¬ (ri = 25 ∧ rk = 6)) (h25_7 : ¬ (ri = 25 ∧ rk = 7)) (h25_8 : ¬ (ri = 25 ∧ rk = 8)) : (K_PL_passTick_85 st) ri rk = st ri rk := by
  unfold K_PL_passTick_85
  repeat' split
  all_goals simp only [plUp_ap, plCp_ap, fr_K_PL_passTick_106, fr_K_SW_decide, h17_2, h18, h19_4, h19_5, h19_6, h19_7, h21_0, h21_1, h21_2, h21_3, h21_4, h21_5, h21_6, h21_8, h21_9, h22, h23, h24, h25_1, h25_2, h25_3, h25_4, h25_5, h25_6, h25_7, h25_8, false_and, and_false, not_false_eq_true, not_true_eq_false, ↓reduceIte]
theorem fr_K_PL_passTick_82 (st : plS) (k0 : Int32) (ri rk : Nat) (h17_2 : ¬ (ri = 17 ∧ rk = 2)) (h18 : ¬ ri = 18) (h19_4 : ¬ (ri = 19 ∧ rk = 4)) (h19_5 : ¬ (ri = 19 ∧ rk = 5)) (h19_6 : ¬ (ri = 19 ∧ rk = 6)) (h19_7 : ¬ (ri = 19 ∧ rk = 7)) (h20_0 : ¬ (ri = 20 ∧ rk = 0)) (h20_1 : ¬ (ri = 20 ∧ rk = 1)) (h20_2 : ¬ (ri = 20 ∧ rk = 2)) (h21_0 : ¬ (ri = 21 ∧ rk = 0)) (h21_1 : ¬ (ri = 21 ∧ rk = 1)) (h21_2 : ¬ (ri = 21 ∧ rk = 2)) (h21_3 : ¬ (ri = 21 ∧ rk = 3)) (h21_4 : ¬ (ri = 21 ∧ rk = 4)) (h21_5 : ¬ (ri = 21 ∧ rk = 5)) (h21_6 : ¬ (ri = 21 ∧ rk = 6)) (h21_8 : ¬ (ri = 21 ∧ rk = 8)) (h21_9 : ¬ (ri = 21 ∧ rk = 9)) (h22 : ¬ ri = 22) (h23 : ¬ ri = 23) (h24 : ¬ ri = 24) (h25_1 : ¬ (ri = 25 ∧ rk = 1)) (h25_2 : ¬ (ri = 25 ∧ rk = 2)) (h25_3 : ¬ (ri = 25 ∧ rk = 3)) (h25_4 : ¬ (ri = 25 ∧ rk = 4)) (h25_5 : ¬ (ri = 25 ∧ rk = 5)) (h25_6 : ¬ (ri = 25 ∧ rk = 6)) (h25_7 : ¬ (ri = 25 ∧ rk = 7)) (h25_8 : ¬ (ri = 25 ∧ rk = 8)) : (K_PL_passTick_82 st k0) ri rk = st ri rk := by
  unfold K_PL_passTick_82
  repeat' split
  all_goals simp only [plUp_ap, plCp_ap, fr_K_PL_passTick_85, fr_K_LB_hear, h17_2, h18, h19_4, h19_5, h19_6, h19_7, h20_0, h20_1, h20_2, h21_0, h21_1, h21_2, h21_3, h21_4, h21_5, h21_6, h21_8, h21_9, h22, h23, h24, h25_1, h25_2, h25_3, h25_4, h25_5, h25_6, h25_7, h25_8, false_and, and_false, not_false_eq_true, not_true_eq_false, ↓reduceIte]
theorem fr_K_PL_passTick_53 (st : plS) (ri rk : Nat) (h17_2 : ¬ (ri = 17 ∧ rk = 2)) (h18 : ¬ ri = 18) (h19_4 : ¬ (ri = 19 ∧ rk = 4)) (h19_5 : ¬ (ri = 19 ∧ rk = 5)) (h19_6 : ¬ (ri = 19 ∧ rk = 6)) (h19_7 : ¬ (ri = 19 ∧ rk = 7)) (h20_0 : ¬ (ri = 20 ∧ rk = 0)) (h20_1 : ¬ (ri = 20 ∧ rk = 1)) (h20_2 : ¬ (ri = 20 ∧ rk = 2)) (h21_0 : ¬ (ri = 21 ∧ rk = 0)) (h21_1 : ¬ (ri = 21 ∧ rk = 1)) (h21_2 : ¬ (ri = 21 ∧ rk = 2)) (h21_3 : ¬ (ri = 21 ∧ rk = 3)) (h21_4 : ¬ (ri = 21 ∧ rk = 4)) (h21_5 : ¬ (ri = 21 ∧ rk = 5)) (h21_6 : ¬ (ri = 21 ∧ rk = 6)) (h21_8 : ¬ (ri = 21 ∧ rk = 8)) (h21_9 : ¬ (ri = 21 ∧ rk = 9)) (h22 : ¬ ri = 22) (h23 : ¬ ri = 23) (h24 : ¬ ri = 24) (h25_1 : ¬ (ri = 25 ∧ rk = 1)) (h25_2 : ¬ (ri = 25 ∧ rk = 2)) (h25_3 : ¬ (ri = 25 ∧ rk = 3)) (h25_4 : ¬ (ri = 25 ∧ rk = 4)) (h25_5 : ¬ (ri = 25 ∧ rk = 5)) (h25_6 : ¬ (ri = 25 ∧ rk = 6)) (h25_7 : ¬ (ri = 25 ∧ rk = 7)) (h25_8 : ¬ (ri = 25 ∧ rk = 8)) : (K_PL_passTick_53 st) ri rk = st ri rk := by
  unfold K_PL_passTick_53
  repeat' split
  all_goals simp only [plUp_ap, plCp_ap, fr_K_PL_passTick_82, h17_2, h18, h19_4, h19_5, h19_6, h19_7, h20_0, h20_1, h20_2, h21_0, h21_1, h21_2, h21_3, h21_4, h21_5, h21_6, h21_8, h21_9, h22, h23, h24, h25_1, h25_2, h25_3, h25_4, h25_5, h25_6, h25_7, h25_8, false_and, and_false, not_false_eq_true, not_true_eq_false, ↓reduceIte]
theorem fr_K_PL_passTick_46 (st : plS) (ri rk : Nat) (h13_7 : ¬ (ri = 13 ∧ rk = 7)) (h13_8 : ¬ (ri = 13 ∧ rk = 8)) (h13_9 : ¬ (ri = 13 ∧ rk = 9)) (h13_10 : ¬ (ri = 13 ∧ rk = 10)) (h13_11 : ¬ (ri = 13 ∧ rk = 11)) (h15 : ¬ ri = 15) (h16 : ¬ ri = 16) (h17_2 : ¬ (ri = 17 ∧ rk = 2)) (h18 : ¬ ri = 18) (h19_4 : ¬ (ri = 19 ∧ rk = 4)) (h19_5 : ¬ (ri = 19 ∧ rk = 5)) (h19_6 : ¬ (ri = 19 ∧ rk = 6)) (h19_7 : ¬ (ri = 19 ∧ rk = 7)) (h20_0 : ¬ (ri = 20 ∧ rk = 0)) (h20_1 : ¬ (ri = 20 ∧ rk = 1)) (h20_2 : ¬ (ri = 20 ∧ rk = 2)) (h21_0 : ¬ (ri = 21 ∧ rk = 0)) (h21_1 : ¬ (ri = 21 ∧ rk = 1)) (h21_2 : ¬ (ri = 21 ∧ rk = 2)) (h21_3 : ¬ (ri = 21 ∧ rk = 3)) (h21_4 : ¬ (ri = 21 ∧ rk = 4)) (h21_5 : ¬ (ri = 21 ∧ rk = 5)) (h21_6 : ¬ (ri = 21 ∧ rk = 6)) (h21_8 : ¬ (ri = 21 ∧ rk = 8)) (h21_9 : ¬ (ri = 21 ∧ rk = 9)) (h22 : ¬ ri = 22) (h23 : ¬ ri = 23) (h24 : ¬ ri = 24) (h25_1 : ¬ (ri = 25 ∧ rk = 1)) (h25_2 : ¬ (ri = 25 ∧ rk = 2)) (h25_3 : ¬ (ri = 25 ∧ rk = 3)) (h25_4 : ¬ (ri = 25 ∧ rk = 4)) (h25_5 : ¬ (ri = 25 ∧ rk = 5)) (h25_6 : ¬ (ri = 25 ∧ rk = 6)) (h25_7 : ¬ (ri = 25 ∧ rk = 7)) (h25_8 : ¬ (ri = 25 ∧ rk = 8)) : (K_PL_passTick_46 st) ri rk = st ri rk := by
  unfold K_PL_passTick_46
  repeat' split
  all_goals simp only [plUp_ap, plCp_ap, fr_K_PL_passTick_53, fr_K_LP_receive, h13_7, h13_8, h13_9, h13_10, h13_11, h15, h16, h17_2, h18, h19_4, h19_5, h19_6, h19_7, h20_0, h20_1, h20_2, h21_0, h21_1, h21_2, h21_3, h21_4, h21_5, h21_6, h21_8, h21_9, h22, h23, h24, h25_1, h25_2, h25_3, h25_4, h25_5, h25_6, h25_7, h25_8, false_and, and_false, not_false_eq_true, not_true_eq_false, ↓reduceIte]
theorem fr_K_PL_passTick_39 (st : plS) (ri rk : Nat) (h9_7 : ¬ (ri = 9 ∧ rk = 7)) (h9_8 : ¬ (ri = 9 ∧ rk = 8)) (h9_9 : ¬ (ri = 9 ∧ rk = 9)) (h9_10 : ¬ (ri = 9 ∧ rk = 10)) (h9_11 : ¬ (ri = 9 ∧ rk = 11)) (h11 : ¬ ri = 11) (h12 : ¬ ri = 12) (h13_7 : ¬ (ri = 13 ∧ rk = 7)) (h13_8 : ¬ (ri = 13 ∧ rk = 8)) (h13_9 : ¬ (ri = 13 ∧ rk = 9)) (h13_10 : ¬ (ri = 13 ∧ rk = 10)) (h13_11 : ¬ (ri = 13 ∧ rk = 11)) (h15 : ¬ ri = 15) (h16 : ¬ ri = 16) (h17_2 : ¬ (ri = 17 ∧ rk = 2)) (h18 : ¬ ri = 18) (h19_4 : ¬ (ri = 19 ∧ rk = 4)) (h19_5 : ¬ (ri = 19 ∧ rk = 5)) (h19_6 : ¬ (ri = 19 ∧ rk = 6)) (h19_7 : ¬ (ri = 19 ∧ rk = 7)) (h20_0 : ¬ (ri = 20 ∧ rk = 0)) (h20_1 : ¬ (ri = 20 ∧ rk = 1)) (h20_2 : ¬ (ri = 20 ∧ rk = 2)) (h21_0 : ¬ (ri = 21 ∧ rk = 0)) (h21_1 : ¬ (ri = 21 ∧ rk = 1)) (h21_2 : ¬ (ri = 21 ∧ rk = 2)) (h21_3 : ¬ (ri = 21 ∧ rk = 3)) (h21_4 : ¬ (ri = 21 ∧ rk = 4)) (h21_5 : ¬ (ri = 21 ∧ rk = 5)) (h21_6 : ¬ (ri = 21 ∧ rk = 6)) (h21_8 : ¬ (ri = 21 ∧ rk = 8)) (h21_9 : ¬ (ri = 21 ∧ rk = 9)) (h22 : ¬ ri = 22) (h23 : ¬ ri = 23) (h24 : ¬ ri = 24) (h25_1 : ¬ (ri = 25 ∧ rk = 1)) (h25_2 : ¬ (ri = 25 ∧ rk = 2)) (h25_3 : ¬ (ri = 25 ∧ rk = 3)) (h25_4 : ¬ (ri = 25 ∧ rk = 4)) (h25_5 : ¬ (ri = 25 ∧ rk = 5)) (h25_6 : ¬ (ri = 25 ∧ rk = 6)) (h25_7 : ¬ (ri = 25 ∧ rk = 7)) (h25_8 : ¬ (ri = 25 ∧ rk = 8)) : (K_PL_passTick_39 st) ri rk = st ri rk := by
  unfold K_PL_passTick_39
  repeat' split
  all_goals simp only [plUp_ap, plCp_ap, fr_K_PL_passTick_46, fr_K_LW_receive, h9_7, h9_8, h9_9, h9_10, h9_11, h11, h12, h13_7, h13_8, h13_9, h13_10, h13_11, h15, h16, h17_2, h18, h19_4, h19_5, h19_6, h19_7, h20_0, h20_1, h20_2, h21_0, h21_1, h21_2, h21_3, h21_4, h21_5, h21_6, h21_8, h21_9, h22, h23, h24, h25_1, h25_2, h25_3, h25_4, h25_5, h25_6, h25_7, h25_8, false_and, and_false, not_false_eq_true, not_true_eq_false, ↓reduceIte]
theorem fr_K_PL_passTick_24 (st : plS) (ri rk : Nat) (h1_2 : ¬ (ri = 1 ∧ rk = 2)) (h1_3 : ¬ (ri = 1 ∧ rk = 3)) (h1_6 : ¬ (ri = 1 ∧ rk = 6)) (h1_7 : ¬ (ri = 1 ∧ rk = 7)) (h4 : ¬ ri = 4) (h5_3 : ¬ (ri = 5 ∧ rk = 3)) (h5_4 : ¬ (ri = 5 ∧ rk = 4)) (h5_5 : ¬ (ri = 5 ∧ rk = 5)) (h6_1 : ¬ (ri = 6 ∧ rk = 1)) (h6_2 : ¬ (ri = 6 ∧ rk = 2)) (h8 : ¬ ri = 8) (h9_2 : ¬ (ri = 9 ∧ rk = 2)) (h9_3 : ¬ (ri = 9 ∧ rk = 3)) (h9_7 : ¬ (ri = 9 ∧ rk = 7)) (h9_8 : ¬ (ri = 9 ∧ rk = 8)) (h9_9 : ¬ (ri = 9 ∧ rk = 9)) (h9_10 : ¬ (ri = 9 ∧ rk = 10)) (h9_11 : ¬ (ri = 9 ∧ rk = 11)) (h10 : ¬ ri = 10) (h11 : ¬ ri = 11) (h12 : ¬ ri = 12) (h13_2 : ¬ (ri = 13 ∧ rk = 2)) (h13_3 : ¬ (ri = 13 ∧ rk = 3)) (h13_7 : ¬ (ri = 13 ∧ rk = 7)) (h13_8 : ¬ (ri = 13 ∧ rk = 8)) (h13_9 : ¬ (ri = 13 ∧ rk = 9)) (h13_10 : ¬ (ri = 13 ∧ rk = 10)) (h13_11 : ¬ (ri = 13 ∧ rk = 11)) (h14 : ¬ ri = 14) (h15 : ¬ ri = 15) (h16 : ¬ ri = 16) (h17_2 : ¬ (ri = 17 ∧ rk = 2)) (h18 : ¬ ri = 18) (h19_4 : ¬ (ri = 19 ∧ rk = 4)) (h19_5 : ¬ (ri = 19 ∧ rk = 5)) (h19_6 : ¬ (ri = 19 ∧ rk = 6)) (h19_7 : ¬ (ri = 19 ∧ rk = 7)) (h20_0 : ¬ (ri = 20 ∧ rk = 0)) (h20_1 : ¬ (ri = 20 ∧ rk = 1)) (h20_2 : ¬ (ri = 20 ∧ rk = 2)) (h21_0 : ¬ (ri = 21 ∧ rk = 0)) (h21_1 : ¬ (ri = 21 ∧ rk = 1)) (h21_2 : ¬ (ri = 21 ∧ rk = 2)) (h21_3 : ¬ (ri = 21 ∧ rk = 3)) (h21_4 : ¬ (ri = 21 ∧ rk = 4)) (h21_5 : ¬ (ri = 21 ∧ rk = 5)) (h21_6 : ¬ (ri = 21 ∧ rk = 6)) (h21_8 : ¬ (ri = 21 ∧ rk = 8)) (h21_9 : ¬ (ri = 21 ∧ rk = 9)) (h22 : ¬ ri = 22) (h23 : ¬ ri = 23) (h24 : ¬ ri = 24) (h25_1 : ¬ (ri = 25 ∧ rk = 1)) (h25_2 : ¬ (ri = 25 ∧ rk = 2)) (h25_3 : ¬ (ri = 25 ∧ rk = 3)) (h25_4 : ¬ (ri = 25 ∧ rk = 4)) (h25_5 : ¬ (ri = 25 ∧ rk = 5)) (h25_6 : ¬ (ri = 25 ∧ rk = 6)) (h25_7 : ¬ (ri = 25 ∧ rk = 7)) (h25_8 : ¬ (ri = 25 ∧ rk = 8)) : (K_PL_passTick_24 st) ri rk = st ri rk := by
  unfold K_PL_passTick_24
  repeat' split
  all_goals simp only [plUp_ap, plCp_ap, fr_K_PL_passTick_39, fr_K_NA_transmit_LW_LP, h1_2, h1_3, h1_6, h1_7, h4, h5_3, h5_4, h5_5, h6_1, h6_2, h8, h9_2, h9_3, h9_7, h9_8, h9_9, h9_10, h9_11, h10, h11, h12, h13_2, h13_3, h13_7, h13_8, h13_9, h13_10, h13_11, h14, h15, h16, h17_2, h18, h19_4, h19_5, h19_6, h19_7, h20_0, h20_1, h20_2, h21_0, h21_1, h21_2, h21_3, h21_4, h21_5, h21_6, h21_8, h21_9, h22, h23, h24, h25_1, h25_2, h25_3, h25_4, h25_5, h25_6, h25_7, h25_8, false_and, and_false, not_false_eq_true, not_true_eq_false, ↓reduceIte]
theorem fr_K_PL_passTick (st : plS) (ri rk : Nat) (h1_2 : ¬ (ri = 1 ∧ rk = 2)) (h1_3 : ¬ (ri = 1 ∧ rk = 3)) (h1_6 : ¬ (ri = 1 ∧ rk = 6)) (h1_7 : ¬ (ri = 1 ∧ rk = 7)) (h4 : ¬ ri = 4) (h5_3 : ¬ (ri = 5 ∧ rk = 3)) (h5_4 : ¬ (ri = 5 ∧ rk = 4)) (h5_5 : ¬ (ri = 5 ∧ rk = 5)) (h6_1 : ¬ (ri = 6 ∧ rk = 1)) (h6_2 : ¬ (ri = 6 ∧ rk = 2)) (h7_0 : ¬ (ri = 7 ∧ rk = 0)) (h7_1 : ¬ (ri = 7 ∧ rk = 1)) (h7_2 : ¬ (ri = 7 ∧ rk = 2)) (h8 : ¬ ri = 8) (h9_2 : ¬ (ri = 9 ∧ rk = 2)) (h9_3 : ¬ (ri = 9 ∧ rk = 3)) (h9_7 : ¬ (ri = 9 ∧ rk = 7)) (h9_8 : ¬ (ri = 9 ∧ rk = 8)) (h9_9 : ¬ (ri = 9 ∧ rk = 9)) (h9_10 : ¬ (ri = 9 ∧ rk = 10)) (h9_11 : ¬ (ri = 9 ∧ rk = 11)) (h10 : ¬ ri = 10) (h11 : ¬ ri = 11) (h12 : ¬ ri = 12) (h13_2 : ¬ (ri = 13 ∧ rk = 2)) (h13_3 : ¬ (ri = 13 ∧ rk = 3)) (h13_7 : ¬ (ri = 13 ∧ rk = 7)) (h13_8 : ¬ (ri = 13 ∧ rk = 8)) (h13_9 : ¬ (ri = 13 ∧ rk = 9)) (h13_10 : ¬ (ri = 13 ∧ rk = 10)) (h13_11 : ¬ (ri = 13 ∧ rk = 11)) (h14 : ¬ ri = 14) (h15 : ¬ ri = 15) (h16 : ¬ ri = 16) (h17_2 : ¬ (ri = 17 ∧ rk = 2)) (h18 : ¬ ri = 18) (h19_4 : ¬ (ri = 19 ∧ rk = 4)) (h19_5 : ¬ (ri = 19 ∧ rk = 5)) (h19_6 : ¬ (ri = 19 ∧ rk = 6)) (h19_7 : ¬ (ri = 19 ∧ rk = 7)) (h20_0 : ¬ (ri = 20 ∧ rk = 0)) (h20_1 : ¬ (ri = 20 ∧ rk = 1)) (h20_2 : ¬ (ri = 20 ∧ rk = 2)) (h21_0 : ¬ (ri = 21 ∧ rk = 0)) (h21_1 : ¬ (ri = 21 ∧ rk = 1)) (h21_2 : ¬ (ri = 21 ∧ rk = 2)) (h21_3 : ¬ (ri = 21 ∧ rk = 3)) (h21_4 : ¬ (ri = 21 ∧ rk = 4)) (h21_5 : ¬ (ri = 21 ∧ rk = 5)) (h21_6 : ¬ (ri = 21 ∧ rk = 6)) (h21_8 : ¬ (ri = 21 ∧ rk = 8)) (h21_9 : ¬ (ri = 21 ∧ rk = 9)) (h22 : ¬ ri = 22) (h23 : ¬ ri = 23) (h24 : ¬ ri = 24) (h25_1 : ¬ (ri = 25 ∧ rk = 1)) (h25_2 : ¬ (ri = 25 ∧ rk = 2)) (h25_3 : ¬ (ri = 25 ∧ rk = 3)) (h25_4 : ¬ (ri = 25 ∧ rk = 4)) (h25_5 : ¬ (ri = 25 ∧ rk = 5)) (h25_6 : ¬ (ri = 25 ∧ rk = 6)) (h25_7 : ¬ (ri = 25 ∧ rk = 7)) (h25_8 : ¬ (ri = 25 ∧ rk = 8)) : (K_PL_passTick st) ri rk = st ri rk := by
  unfold K_PL_passTick
  repeat' split
  all_goals simp only [plUp_ap, plCp_ap, fr_K_PL_passTick_24, fr_K_LA_hear, h1_2, h1_3, h1_6, h1_7, h4, h5_3, h5_4, h5_5, h6_1, h6_2, h7_0, h7_1, h7_2, h8, h9_2, h9_3, h9_7, h9_8, h9_9, h9_10, h9_11, h10, h11, h12, h13_2, h13_3, h13_7, h13_8, h13_9, h13_10, h13_11, h14, h15, h16, h17_2, h18, h19_4, h19_5, h19_6, h19_7, h20_0, h20_1, h20_2, h21_0, h21_1, h21_2, h21_3, h21_4, h21_5, h21_6, h21_8, h21_9, h22, h23, h24, h25_1, h25_2, h25_3, h25_4, h25_5, h25_6, h25_7, h25_8, false_and, and_false, not_false_eq_true, not_true_eq_false, ↓reduceIte]
theorem fr_K_PL_tick_11 (st : plS) (ri rk : Nat)  : (K_PL_tick_11 st).2 ri rk = st ri rk := by
  unfold K_PL_tick_11
  repeat' split
  all_goals simp only [plUp_ap, plCp_ap, false_and, and_false, not_false_eq_true, not_true_eq_false, ↓reduceIte]
theorem fr_K_PL_tick_15L (st : plS) (v1 : Int32) (v2 : Int32) (ri rk : Nat) (h1_2 : ¬ (ri = 1 ∧ rk = 2)) (h1_3 : ¬ (ri = 1 ∧ rk = 3)) (h1_6 : ¬ (ri = 1 ∧ rk = 6)) (h1_7 : ¬ (ri = 1 ∧ rk = 7)) (h4 : ¬ ri = 4) (h5_3 : ¬ (ri = 5 ∧ rk = 3)) (h5_4 : ¬ (ri = 5 ∧ rk = 4)) (h5_5 : ¬ (ri = 5 ∧ rk = 5)) (h6_1 : ¬ (ri = 6 ∧ rk = 1)) (h6_2 : ¬ (ri = 6 ∧ rk = 2)) (h7_0 : ¬ (ri = 7 ∧ rk = 0)) (h7_1 : ¬ (ri = 7 ∧ rk = 1)) (h7_2 : ¬ (ri = 7 ∧ rk = 2)) (h8 : ¬ ri = 8) (h9_2 : ¬ (ri = 9 ∧ rk = 2)) (h9_3 : ¬ (ri = 9 ∧ rk = 3)) (h9_7 : ¬ (ri = 9 ∧ rk = 7)) (h9_8 : ¬ (ri = 9 ∧ rk = 8)) (h9_9 : ¬ (ri = 9 ∧ rk = 9)) (h9_10 : ¬ (ri = 9 ∧ rk = 10)) (h9_11 : ¬ (ri = 9 ∧ rk = 11)) (h10 : ¬ ri = 10) (h11 : ¬ ri = 11) (h12 : ¬ ri = 12) (h13_2 : ¬ (ri = 13 ∧ rk = 2)) (h13_3 : ¬ (ri = 13 ∧ rk = 3)) (h13_7 : ¬ (ri = 13 ∧ rk = 7)) (h13_8 : ¬ (ri = 13 ∧ rk = 8)) (h13_9 : ¬ (ri = 13 ∧ rk = 9)) (h13_10 : ¬ (ri = 13 ∧ rk = 10)) (h13_11 : ¬ (ri = 13 ∧ rk = 11)) (h14 : ¬ ri = 14) (h15 : ¬ ri = 15) (h16 : ¬ ri = 16) (h17_2 : ¬ (ri = 17 ∧ rk = 2)) (h18 : ¬ ri = 18) (h19_4 : ¬ (ri = 19 ∧ rk = 4)) (h19_5 : ¬ (ri = 19 ∧ rk = 5)) (h19_6 : ¬ (ri = 19 ∧ rk = 6)) (h19_7 : ¬ (ri = 19 ∧ rk = 7)) (h20_0 : ¬ (ri = 20 ∧ rk = 0)) (h20_1 : ¬ (ri = 20 ∧ rk = 1)) (h20_2 : ¬ (ri = 20 ∧ rk = 2)) (h21_0 : ¬ (ri = 21 ∧ rk = 0)) (h21_1 : ¬ (ri = 21 ∧ rk = 1)) (h21_2 : ¬ (ri = 21 ∧ rk = 2)) (h21_3 : ¬ (ri = 21 ∧ rk = 3)) (h21_4 : ¬ (ri = 21 ∧ rk = 4)) (h21_5 : ¬ (ri = 21 ∧ rk = 5)) (h21_6 : ¬ (ri = 21 ∧ rk = 6)) (h21_8 : ¬ (ri = 21 ∧ rk = 8)) (h21_9 : ¬ (ri = 21 ∧ rk = 9)) (h22 : ¬ ri = 22) (h23 : ¬ ri = 23) (h24 : ¬ ri = 24) (h25_1 : ¬ (ri = 25 ∧ rk = 1)) (h25_2 : ¬ (ri = 25 ∧ rk = 2)) (h25_3 : ¬ (ri = 25 ∧ rk = 3)) (h25_4 : ¬ (ri = 25 ∧ rk = 4)) (h25_5 : ¬ (ri = 25 ∧ rk = 5)) (h25_6 : ¬ (ri = 25 ∧ rk = 6)) (h25_7 : ¬ (ri = 25 ∧ rk = 7)) (h25_8 : ¬ (ri = 25 ∧ rk = 8)) : (K_PL_tick_15L st v1 v2).2.1 ri rk = st ri rk := by
  unfold K_PL_tick_15L
  repeat' split
  all_goals simp only [plUp_ap, plCp_ap, fr_K_PL_passTick, h1_2, h1_3, h1_6, h1_7, h4, h5_3, h5_4, h5_5, h6_1, h6_2, h7_0, h7_1, h7_2, h8, h9_2, h9_3, h9_7, h9_8, h9_9, h9_10, h9_11, h10, h11, h12, h13_2, h13_3, h13_7, h13_8, h13_9, h13_10, h13_11, h14, h15, h16, h17_2, h18, h19_4, h19_5, h19_6, h19_7, h20_0, h20_1, h20_2, h21_0, h21_1, h21_2, h21_3, h21_4, h21_5, h21_6, h21_8, h21_9, h22, h23, h24, h25_1, h25_2, h25_3, h25_4, h25_5, h25_6, h25_7, h25_8, false_and, and_false, not_false_eq_true, not_true_eq_false, ↓reduceIte]
theorem fr_F_PL_tick_15 (v1 : Int32) (c : plS × Int32) (ri rk : Nat) (h1_2 : ¬ (ri = 1 ∧ rk = 2)) (h1_3 : ¬ (ri = 1 ∧ rk = 3)) (h1_6 : ¬ (ri = 1 ∧ rk = 6)) (h1_7 : ¬ (ri = 1 ∧ rk = 7)) (h4 : ¬ ri = 4) (h5_3 : ¬ (ri = 5 ∧ rk = 3)) (h5_4 : ¬ (ri = 5 ∧ rk = 4)) (h5_5 : ¬ (ri = 5 ∧ rk = 5)) (h6_1 : ¬ (ri = 6 ∧ rk = 1)) (h6_2 : ¬ (ri = 6 ∧ rk = 2)) (h7_0 : ¬ (ri = 7 ∧ rk = 0)) (h7_1 : ¬ (ri = 7 ∧ rk = 1)) (h7_2 : ¬ (ri = 7 ∧ rk = 2)) (h8 : ¬ ri = 8) (h9_2 : ¬ (ri = 9 ∧ rk = 2)) (h9_3 : ¬ (ri = 9 ∧ rk = 3)) (h9_7 : ¬ (ri = 9 ∧ rk = 7)) (h9_8 : ¬ (ri = 9 ∧ rk = 8)) (h9_9 : ¬ (ri = 9 ∧ rk = 9)) (h9_10 : ¬ (ri = 9 ∧ rk = 10)) (h9_11 : ¬ (ri = 9 ∧ rk = 11)) (h10 : ¬ ri = 10) (h11 : ¬ ri = 11) (h12 : ¬ ri = 12) (h13_2 : ¬ (ri = 13 ∧ rk = 2)) (h13_3 : ¬ (ri = 13 ∧ rk = 3)) (h13_7 : ¬ (ri = 13 ∧ rk = 7)) (h13_8 : ¬ (ri = 13 ∧ rk = 8)) (h13_9 : ¬ (ri = 13 ∧ rk = 9)) (h13_10 : ¬ (ri = 13 ∧ rk = 10)) (h13_11 : ¬ (ri = 13 ∧ rk = 11)) (h14 : ¬ ri = 14) (h15 : ¬ ri = 15) (h16 : ¬ ri = 16) (h17_2 : ¬ (ri = 17 ∧ rk = 2)) (h18 : ¬ ri = 18) (h19_4 : ¬ (ri = 19 ∧ rk = 4)) (h19_5 : ¬ (ri = 19 ∧ rk = 5)) (h19_6 : ¬ (ri = 19 ∧ rk = 6)) (h19_7 : ¬ (ri = 19 ∧ rk = 7)) (h20_0 : ¬ (ri = 20 ∧ rk = 0)) (h20_1 : ¬ (ri = 20 ∧ rk = 1)) (h20_2 : ¬ (ri = 20 ∧ rk = 2)) (h21_0 : ¬ (ri = 21 ∧ rk = 0)) (h21_1 : ¬ (ri = 21 ∧ rk = 1)) (h21_2 : ¬ (ri = 21 ∧ rk = 2)) (h21_3 : ¬ (ri = 21 ∧ rk = 3)) (h21_4 : ¬ (ri = 21 ∧ rk = 4)) (h21_5 : ¬ (ri = 21 ∧ rk = 5)) (h21_6 : ¬ (ri = 21 ∧ rk = 6)) (h21_8 : ¬ (ri = 21 ∧ rk = 8)) (h21_9 : ¬ (ri = 21 ∧ rk = 9)) (h22 : ¬ ri = 22) (h23 : ¬ ri = 23) (h24 : ¬ ri = 24) (h25_1 : ¬ (ri = 25 ∧ rk = 1)) (h25_2 : ¬ (ri = 25 ∧ rk = 2)) (h25_3 : ¬ (ri = 25 ∧ rk = 3)) (h25_4 : ¬ (ri = 25 ∧ rk = 4)) (h25_5 : ¬ (ri = 25 ∧ rk = 5)) (h25_6 : ¬ (ri = 25 ∧ rk = 6)) (h25_7 : ¬ (ri = 25 ∧ rk = 7)) (h25_8 : ¬ (ri = 25 ∧ rk = 8)) : (F_PL_tick_15 v1 c).2.1 ri rk = c.1 ri rk := by
  unfold F_PL_tick_15
  repeat' split
  all_goals simp only [plUp_ap, plCp_ap, fr_K_PL_tick_15L, h1_2, h1_3, h1_6, h1_7, h4, h5_3, h5_4, h5_5, h6_1, h6_2, h7_0, h7_1, h7_2, h8, h9_2, h9_3, h9_7, h9_8, h9_9, h9_10, h9_11, h10, h11, h12, h13_2, h13_3, h13_7, h13_8, h13_9, h13_10, h13_11, h14, h15, h16, h17_2, h18, h19_4, h19_5, h19_6, h19_7, h20_0, h20_1, h20_2, h21_0, h21_1, h21_2, h21_3, h21_4, h21_5, h21_6, h21_8, h21_9, h22, h23, h24, h25_1, h25_2, h25_3, h25_4, h25_5, h25_6, h25_7, h25_8, false_and, and_false, not_false_eq_true, not_true_eq_false, ↓reduceIte]
theorem frL_F_PL_tick_15 (v1 : Int32) (nn : Nat) (c : plS × Int32) (ri rk : Nat) (h1_2 : ¬ (ri = 1 ∧ rk = 2)) (h1_3 : ¬ (ri = 1 ∧ rk = 3)) (h1_6 : ¬ (ri = 1 ∧ rk = 6)) (h1_7 : ¬ (ri = 1 ∧ rk = 7)) (h4 : ¬ ri = 4) (h5_3 : ¬ (ri = 5 ∧ rk = 3)) (h5_4 : ¬ (ri = 5 ∧ rk = 4)) (h5_5 : ¬ (ri = 5 ∧ rk = 5)) (h6_1 : ¬ (ri = 6 ∧ rk = 1)) (h6_2 : ¬ (ri = 6 ∧ rk = 2)) (h7_0 : ¬ (ri = 7 ∧ rk = 0)) (h7_1 : ¬ (ri = 7 ∧ rk = 1)) (h7_2 : ¬ (ri = 7 ∧ rk = 2)) (h8 : ¬ ri = 8) (h9_2 : ¬ (ri = 9 ∧ rk = 2)) (h9_3 : ¬ (ri = 9 ∧ rk = 3)) (h9_7 : ¬ (ri = 9 ∧ rk = 7)) (h9_8 : ¬ (ri = 9 ∧ rk = 8)) (h9_9 : ¬ (ri = 9 ∧ rk = 9)) (h9_10 : ¬ (ri = 9 ∧ rk = 10)) (h9_11 : ¬ (ri = 9 ∧ rk = 11)) (h10 : ¬ ri = 10) (h11 : ¬ ri = 11) (h12 : ¬ ri = 12) (h13_2 : ¬ (ri = 13 ∧ rk = 2)) (h13_3 : ¬ (ri = 13 ∧ rk = 3)) (h13_7 : ¬ (ri = 13 ∧ rk = 7)) (h13_8 : ¬ (ri = 13 ∧ rk = 8)) (h13_9 : ¬ (ri = 13 ∧ rk = 9)) (h13_10 : ¬ (ri = 13 ∧ rk = 10)) (h13_11 : ¬ (ri = 13 ∧ rk = 11)) (h14 : ¬ ri = 14) (h15 : ¬ ri = 15) (h16 : ¬ ri = 16) (h17_2 : ¬ (ri = 17 ∧ rk = 2)) (h18 : ¬ ri = 18) (h19_4 : ¬ (ri = 19 ∧ rk = 4)) (h19_5 : ¬ (ri = 19 ∧ rk = 5)) (h19_6 : ¬ (ri = 19 ∧ rk = 6)) (h19_7 : ¬ (ri = 19 ∧ rk = 7)) (h20_0 : ¬ (ri = 20 ∧ rk = 0)) (h20_1 : ¬ (ri = 20 ∧ rk = 1)) (h20_2 : ¬ (ri = 20 ∧ rk = 2)) (h21_0 : ¬ (ri = 21 ∧ rk = 0)) (h21_1 : ¬ (ri = 21 ∧ rk = 1)) (h21_2 : ¬ (ri = 21 ∧ rk = 2)) (h21_3 : ¬ (ri = 21 ∧ rk = 3)) (h21_4 : ¬ (ri = 21 ∧ rk = 4)) (h21_5 : ¬ (ri = 21 ∧ rk = 5)) (h21_6 : ¬ (ri = 21 ∧ rk = 6)) (h21_8 : ¬ (ri = 21 ∧ rk = 8)) (h21_9 : ¬ (ri = 21 ∧ rk = 9)) (h22 : ¬ ri = 22) (h23 : ¬ ri = 23) (h24 : ¬ ri = 24) (h25_1 : ¬ (ri = 25 ∧ rk = 1)) (h25_2 : ¬ (ri = 25 ∧ rk = 2)) (h25_3 : ¬ (ri = 25 ∧ rk = 3)) (h25_4 : ¬ (ri = 25 ∧ rk = 4)) (h25_5 : ¬ (ri = 25 ∧ rk = 5)) (h25_6 : ¬ (ri = 25 ∧ rk = 6)) (h25_7 : ¬ (ri = 25 ∧ rk = 7)) (h25_8 : ¬ (ri = 25 ∧ rk = 8)) : (lpR (F_PL_tick_15 v1) nn c).1 ri rk = c.1 ri rk := lpR_fr (F_PL_tick_15 v1) (fun c => c.1) ri rk (fun c => fr_F_PL_tick_15 v1 c ri rk h1_2 h1_3 h1_6 h1_7 h4 h5_3 h5_4 h5_5 h6_1 h6_2 h7_0 h7_1 h7_2 h8 h9_2 h9_3 h9_7 h9_8 h9_9 h9_10 h9_11 h10 h11 h12 h13_2 h13_3 h13_7 h13_8 h13_9 h13_10 h13_11 h14 h15 h16 h17_2 h18 h19_4 h19_5 h19_6 h19_7 h20_0 h20_1 h20_2 h21_0 h21_1 h21_2 h21_3 h21_4 h21_5 h21_6 h21_8 h21_9 h22 h23 h24 h25_1 h25_2 h25_3 h25_4 h25_5 h25_6 h25_7 h25_8) nn c
theorem fr_K_PL_tick_15X (v1 : Int32) (c : plS × Int32) (ri rk : Nat)  : (K_PL_tick_15X v1 c).2 ri rk = c.1 ri rk := by
  unfold K_PL_tick_15X
  repeat' split
  all_goals simp only [plUp_ap, plCp_ap, false_and, and_false, not_false_eq_true, not_true_eq_false, ↓reduceIte]
theorem fr_K_PL_tick (st : plS) (v1 : Int32) (ri rk : Nat) (h1_2 : ¬ (ri = 1 ∧ rk = 2)) (h1_3 : ¬ (ri = 1 ∧ rk = 3)) (h1_6 : ¬ (ri = 1 ∧ rk = 6)) (h1_7 : ¬ (ri = 1 ∧ rk = 7)) (h4 : ¬ ri = 4) (h5_3 : ¬ (ri = 5 ∧ rk = 3)) (h5_4 : ¬ (ri = 5 ∧ rk = 4)) (h5_5 : ¬ (ri = 5 ∧ rk = 5)) (h6_1 : ¬ (ri = 6 ∧ rk = 1)) (h6_2 : ¬ (ri = 6 ∧ rk = 2)) (h7_0 : ¬ (ri = 7 ∧ rk = 0)) (h7_1 : ¬ (ri = 7 ∧ rk = 1)) (h7_2 : ¬ (ri = 7 ∧ rk = 2)) (h8 : ¬ ri = 8) (h9_2 : ¬ (ri = 9 ∧ rk = 2)) (h9_3 : ¬ (ri = 9 ∧ rk = 3)) (h9_7 : ¬ (ri = 9 ∧ rk = 7)) (h9_8 : ¬ (ri = 9 ∧ rk = 8)) (h9_9 : ¬ (ri = 9 ∧ rk = 9)) (h9_10 : ¬ (ri = 9 ∧ rk = 10)) (h9_11 : ¬ (ri = 9 ∧ rk = 11)) (h10 : ¬ ri = 10) (h11 : ¬ ri = 11) (h12 : ¬ ri = 12) (h13_2 : ¬ (ri = 13 ∧ rk = 2)) (h13_3 : ¬ (ri = 13 ∧ rk = 3)) (h13_7 : ¬ (ri = 13 ∧ rk = 7)) (h13_8 : ¬ (ri = 13 ∧ rk = 8)) (h13_9 : ¬ (ri = 13 ∧ rk = 9)) (h13_10 : ¬ (ri = 13 ∧ rk = 10)) (h13_11 : ¬ (ri = 13 ∧ rk = 11)) (h14 : ¬ ri = 14) (h15 : ¬ ri = 15) (h16 : ¬ ri = 16) (h17_2 : ¬ (ri = 17 ∧ rk = 2)) (h18 : ¬ ri = 18) (h19_4 : ¬ (ri = 19 ∧ rk = 4)) (h19_5 : ¬ (ri = 19 ∧ rk = 5)) (h19_6 : ¬ (ri = 19 ∧ rk = 6)) (h19_7 : ¬ (ri = 19 ∧ rk = 7)) (h20_0 : ¬ (ri = 20 ∧ rk = 0)) (h20_1 : ¬ (ri = 20 ∧ rk = 1)) (h20_2 : ¬ (ri = 20 ∧ rk = 2)) (h21_0 : ¬ (ri = 21 ∧ rk = 0)) (h21_1 : ¬ (ri = 21 ∧ rk = 1)) (h21_2 : ¬ (ri = 21 ∧ rk = 2)) (h21_3 : ¬ (ri = 21 ∧ rk = 3)) (h21_4 : ¬ (ri = 21 ∧ rk = 4)) (h21_5 : ¬ (ri = 21 ∧ rk = 5)) (h21_6 : ¬ (ri = 21 ∧ rk = 6)) (h21_8 : ¬ (ri = 21 ∧ rk = 8)) (h21_9 : ¬ (ri = 21 ∧ rk = 9)) (h22 : ¬ ri = 22) (h23 : ¬ ri = 23) (h24 : ¬ ri = 24) (h25_1 : ¬ (ri = 25 ∧ rk = 1)) (h25_2 : ¬ (ri = 25 ∧ rk = 2)) (h25_3 : ¬ (ri = 25 ∧ rk = 3)) (h25_4 : ¬ (ri = 25 ∧ rk = 4)) (h25_5 : ¬ (ri = 25 ∧ rk = 5)) (h25_6 : ¬ (ri = 25 ∧ rk = 6)) (h25_7 : ¬ (ri = 25 ∧ rk = 7)) (h25_8 : ¬ (ri = 25 ∧ rk = 8)) : (K_PL_tick st v1).2 ri rk = st ri rk := by
  unfold K_PL_tick
  repeat' split
  all_goals simp only [plUp_ap, plCp_ap, fr_K_PL_tick_11, fr_K_PL_tick_15X, fr_F_PL_tick_15, frL_F_PL_tick_15, h1_2, h1_3, h1_6, h1_7, h4, h5_3, h5_4, h5_5, h6_1, h6_2, h7_0, h7_1, h7_2, h8, h9_2, h9_3, h9_7, h9_8, h9_9, h9_10, h9_11, h10, h11, h12, h13_2, h13_3, h13_7, h13_8, h13_9, h13_10, h13_11, h14, h15, h16, h17_2, h18, h19_4, h19_5, h19_6, h19_7, h20_0, h20_1, h20_2, h21_0, h21_1, h21_2, h21_3, h21_4, h21_5, h21_6, h21_8, h21_9, h22, h23, h24, h25_1, h25_2, h25_3, h25_4, h25_5, h25_6, h25_7, h25_8, false_and, and_false, not_false_eq_true, not_true_eq_false, ↓reduceIte]
theorem fr_K_PL_cut_19 (st : plS) (ri rk : Nat)  : (K_PL_cut_19 st).2 ri rk = st ri rk := by
  unfold K_PL_cut_19
  repeat' split
  all_goals simp only [plUp_ap, plCp_ap, false_and, and_false, not_false_eq_true, not_true_eq_false, ↓reduceIte]
theorem fr_K_PL_cut (st : plS) (v1 : Int32) (v2 : Int32) (ri rk : Nat) (h9_4 : ¬ (ri = 9 ∧ rk = 4)) (h13_4 : ¬ (ri = 13 ∧ rk = 4)) : (K_PL_cut st v1 v2).2 ri rk = st ri rk := by
  unfold K_PL_cut
  repeat' split
  all_goals simp only [plUp_ap, plCp_ap, fr_K_PL_cut_19, h9_4, h13_4, false_and, and_false, not_false_eq_true, not_true_eq_false, ↓reduceIte]
theorem fr_K_PL_damage_25 (st : plS) (ri rk : Nat)  : (K_PL_damage_25 st).2 ri rk = st ri rk := by
  unfold K_PL_damage_25
  repeat' split
  all_goals simp only [plUp_ap, plCp_ap, false_and, and_false, not_false_eq_true, not_true_eq_false, ↓reduceIte]
theorem fr_K_PL_damage (st : plS) (v1 : Int32) (v2 : Int32) (v3 : Int32) (ri rk : Nat) (h11 : ¬ ri = 11) (h15 : ¬ ri = 15) : (K_PL_damage st v1 v2 v3).2 ri rk = st ri rk := by
  unfold K_PL_damage
  repeat' split
  all_goals simp only [plUp_ap, plCp_ap, fr_K_PL_damage_25, h11, h15, false_and, and_false, not_false_eq_true, not_true_eq_false, ↓reduceIte]
theorem fr_K_NA_owe_22 (st : plS) (ri rk : Nat)  : (K_NA_owe_22 st).2 ri rk = st ri rk := by
  unfold K_NA_owe_22
  repeat' split
  all_goals simp only [plUp_ap, plCp_ap, false_and, and_false, not_false_eq_true, not_true_eq_false, ↓reduceIte]
theorem fr_K_PL_command_9 (st : plS) (ri rk : Nat)  : (K_PL_command_9 st).2 ri rk = st ri rk := by
  unfold K_PL_command_9
  repeat' split
  all_goals simp only [plUp_ap, plCp_ap, false_and, and_false, not_false_eq_true, not_true_eq_false, ↓reduceIte]
theorem fr_K_PL_command (st : plS) (v1 : Int32) (ri rk : Nat) (h19_3 : ¬ (ri = 19 ∧ rk = 3)) : (K_PL_command st v1).2 ri rk = st ri rk := by
  unfold K_PL_command
  repeat' split
  all_goals simp only [plUp_ap, plCp_ap, fr_K_PL_command_9, h19_3, false_and, and_false, not_false_eq_true, not_true_eq_false, ↓reduceIte]
theorem fr_K_RM_send_20 (st : plS) (ri rk : Nat)  : (K_RM_send_20 st).2 ri rk = st ri rk := by
  unfold K_RM_send_20
  repeat' split
  all_goals simp only [plUp_ap, plCp_ap, false_and, and_false, not_false_eq_true, not_true_eq_false, ↓reduceIte]
theorem fr_K_RM_send_38L (st : plS) (v1 : Int32) (v2 : Int64) (v4 : Int32) (ri rk : Nat) (h2 : ¬ ri = 2) : (K_RM_send_38L st v1 v2 v4).2.1 ri rk = st ri rk := by
  unfold K_RM_send_38L
  repeat' split
  all_goals simp only [plUp_ap, plCp_ap, h2, false_and, and_false, not_false_eq_true, not_true_eq_false, ↓reduceIte]
theorem fr_F_RM_send_38 (v1 : Int32) (v2 : Int64) (c : plS × Int32) (ri rk : Nat) (h2 : ¬ ri = 2) : (F_RM_send_38 v1 v2 c).2.1 ri rk = c.1 ri rk := by
  unfold F_RM_send_38
  repeat' split
  all_goals simp only [plUp_ap, plCp_ap, fr_K_RM_send_38L, h2, false_and, and_false, not_false_eq_true, not_true_eq_false, ↓reduceIte]
theorem frL_F_RM_send_38 (v1 : Int32) (v2 : Int64) (nn : Nat) (c : plS × Int32) (ri rk : Nat) (h2 : ¬ ri = 2) : (lpR (F_RM_send_38 v1 v2) nn c).1 ri rk = c.1 ri rk := lpR_fr (F_RM_send_38 v1 v2) (fun c => c.1) ri rk (fun c => fr_F_RM_send_38 v1 v2 c ri rk h2) nn c
theorem fr_K_RM_send_38X (v1 : Int32) (v2 : Int64) (c : plS × Int32) (ri rk : Nat) (h0_4 : ¬ (ri = 0 ∧ rk = 4)) : (K_RM_send_38X v1 v2 c).2 ri rk = c.1 ri rk := by
  unfold K_RM_send_38X
  repeat' split
  all_goals simp only [plUp_ap, plCp_ap, h0_4, false_and, and_false, not_false_eq_true, not_true_eq_false, ↓reduceIte]
theorem fr_K_RM_send (st : plS) (v1 : Int32) (v2 : Int64) (ri rk : Nat) (h0_4 : ¬ (ri = 0 ∧ rk = 4)) (h2 : ¬ ri = 2) : (K_RM_send st v1 v2).2 ri rk = st ri rk := by
  unfold K_RM_send
  repeat' split
  all_goals simp only [plUp_ap, plCp_ap, fr_K_RM_send_20, fr_K_RM_send_38X, fr_F_RM_send_38, frL_F_RM_send_38, h0_4, h2, false_and, and_false, not_false_eq_true, not_true_eq_false, ↓reduceIte]
theorem fr_K_RM_cut_17 (st : plS) (ri rk : Nat)  : (K_RM_cut_17 st).2 ri rk = st ri rk := by
  unfold K_RM_cut_17
  repeat' split
  all_goals simp only [plUp_ap, plCp_ap, false_and, and_false, not_false_eq_true, not_true_eq_false, ↓reduceIte]
theorem fr_K_RM_cut (st : plS) (v1 : Int32) (v2 : Int32) (ri rk : Nat) (h8 : ¬ ri = 8) : (K_RM_cut st v1 v2).2 ri rk = st ri rk := by
  unfold K_RM_cut
  repeat' split
  all_goals simp only [plUp_ap, plCp_ap, fr_K_RM_cut_17, h8, false_and, and_false, not_false_eq_true, not_true_eq_false, ↓reduceIte]
theorem fr_K_RM_damage_25 (st : plS) (ri rk : Nat)  : (K_RM_damage_25 st).2 ri rk = st ri rk := by
  unfold K_RM_damage_25
  repeat' split
  all_goals simp only [plUp_ap, plCp_ap, false_and, and_false, not_false_eq_true, not_true_eq_false, ↓reduceIte]
theorem fr_K_RM_damage (st : plS) (v1 : Int32) (v2 : Int32) (v3 : Int32) (ri rk : Nat) (h9 : ¬ ri = 9) : (K_RM_damage st v1 v2 v3).2 ri rk = st ri rk := by
  unfold K_RM_damage
  repeat' split
  all_goals simp only [plUp_ap, plCp_ap, fr_K_RM_damage_25, h9, false_and, and_false, not_false_eq_true, not_true_eq_false, ↓reduceIte]
theorem fr_K_RM_drift_34 (st : plS) (ri rk : Nat)  : (K_RM_drift_34 st).2 ri rk = st ri rk := by
  unfold K_RM_drift_34
  repeat' split
  all_goals simp only [plUp_ap, plCp_ap, false_and, and_false, not_false_eq_true, not_true_eq_false, ↓reduceIte]
theorem fr_K_RM_command_9 (st : plS) (ri rk : Nat)  : (K_RM_command_9 st).2 ri rk = st ri rk := by
  unfold K_RM_command_9
  repeat' split
  all_goals simp only [plUp_ap, plCp_ap, false_and, and_false, not_false_eq_true, not_true_eq_false, ↓reduceIte]
theorem fr_K_RM_command (st : plS) (v1 : Int32) (ri rk : Nat) (h0_37 : ¬ (ri = 0 ∧ rk = 37)) : (K_RM_command st v1).2 ri rk = st ri rk := by
  unfold K_RM_command
  repeat' split
  all_goals simp only [plUp_ap, plCp_ap, fr_K_RM_command_9, h0_37, false_and, and_false, not_false_eq_true, not_true_eq_false, ↓reduceIte]
theorem fr_K_RM_hear_24 (st : plS) (ri rk : Nat) (h0_18 : ¬ (ri = 0 ∧ rk = 18)) : (K_RM_hear_24 st) ri rk = st ri rk := by
  unfold K_RM_hear_24
  repeat' split
  all_goals simp only [plUp_ap, plCp_ap, h0_18, false_and, and_false, not_false_eq_true, not_true_eq_false, ↓reduceIte]
theorem fr_K_RM_hear_122 (st : plS) (k0 : Int32) (ri rk : Nat) (h0_16 : ¬ (ri = 0 ∧ rk = 16)) : (K_RM_hear_122 st k0) ri rk = st ri rk := by
  unfold K_RM_hear_122
  repeat' split
  all_goals simp only [plUp_ap, plCp_ap, h0_16, false_and, and_false, not_false_eq_true, not_true_eq_false, ↓reduceIte]
theorem fr_K_RM_hear_121 (st : plS) (ri rk : Nat) (h0_16 : ¬ (ri = 0 ∧ rk = 16)) : (K_RM_hear_121 st) ri rk = st ri rk := by
  unfold K_RM_hear_121
  repeat' split
  all_goals simp only [plUp_ap, plCp_ap, fr_K_RM_hear_122, h0_16, false_and, and_false, not_false_eq_true, not_true_eq_false, ↓reduceIte]
theorem fr_K_RM_hear_100 (st : plS) (ri rk : Nat) (h0_16 : ¬ (ri = 0 ∧ rk = 16)) : (K_RM_hear_100 st) ri rk = st ri rk := by
  unfold K_RM_hear_100
  repeat' split
  all_goals simp only [plUp_ap, plCp_ap, fr_K_RM_hear_121, fr_K_RM_hear_122, h0_16, false_and, and_false, not_false_eq_true, not_true_eq_false, ↓reduceIte]
theorem fr_K_RM_hear_84 (st : plS) (v1 : Int32) (ri rk : Nat) (h0_16 : ¬ (ri = 0 ∧ rk = 16)) (h0_17 : ¬ (ri = 0 ∧ rk = 17)) : (K_RM_hear_84 st v1) ri rk = st ri rk := by
  unfold K_RM_hear_84
  repeat' split
  all_goals simp only [plUp_ap, plCp_ap, fr_K_RM_hear_100, h0_16, h0_17, false_and, and_false, not_false_eq_true, not_true_eq_false, ↓reduceIte]
theorem fr_K_RM_hear_79 (st : plS) (v1 : Int32) (ri rk : Nat) (h0_16 : ¬ (ri = 0 ∧ rk = 16)) (h0_17 : ¬ (ri = 0 ∧ rk = 17)) (h0_19 : ¬ (ri = 0 ∧ rk = 19)) : (K_RM_hear_79 st v1) ri rk = st ri rk := by
  unfold K_RM_hear_79
  repeat' split
  all_goals simp only [plUp_ap, plCp_ap, fr_K_RM_hear_84, h0_16, h0_17, h0_19, false_and, and_false, not_false_eq_true, not_true_eq_false, ↓reduceIte]
theorem fr_K_RM_hear_76 (st : plS) (v1 : Int32) (k0 : Int32) (ri rk : Nat) (h0_16 : ¬ (ri = 0 ∧ rk = 16)) (h0_17 : ¬ (ri = 0 ∧ rk = 17)) (h0_18 : ¬ (ri = 0 ∧ rk = 18)) (h0_19 : ¬ (ri = 0 ∧ rk = 19)) : (K_RM_hear_76 st v1 k0) ri rk = st ri rk := by
  unfold K_RM_hear_76
  repeat' split
  all_goals simp only [plUp_ap, plCp_ap, fr_K_RM_hear_79, h0_16, h0_17, h0_18, h0_19, false_and, and_false, not_false_eq_true, not_true_eq_false, ↓reduceIte]
theorem fr_K_RM_hear_75 (st : plS) (v1 : Int32) (ri rk : Nat) (h0_16 : ¬ (ri = 0 ∧ rk = 16)) (h0_17 : ¬ (ri = 0 ∧ rk = 17)) (h0_18 : ¬ (ri = 0 ∧ rk = 18)) (h0_19 : ¬ (ri = 0 ∧ rk = 19)) : (K_RM_hear_75 st v1) ri rk = st ri rk := by
  unfold K_RM_hear_75
  repeat' split
  all_goals simp only [plUp_ap, plCp_ap, fr_K_RM_hear_76, h0_16, h0_17, h0_18, h0_19, false_and, and_false, not_false_eq_true, not_true_eq_false, ↓reduceIte]
theorem fr_K_RM_hear (st : plS) (ri rk : Nat) (h0_16 : ¬ (ri = 0 ∧ rk = 16)) (h0_17 : ¬ (ri = 0 ∧ rk = 17)) (h0_18 : ¬ (ri = 0 ∧ rk = 18)) (h0_19 : ¬ (ri = 0 ∧ rk = 19)) : (K_RM_hear st) ri rk = st ri rk := by
  unfold K_RM_hear
  repeat' split
  all_goals simp only [plUp_ap, plCp_ap, fr_K_RM_hear_75, fr_K_RM_hear_76, fr_K_RM_hear_24, h0_16, h0_17, h0_18, h0_19, false_and, and_false, not_false_eq_true, not_true_eq_false, ↓reduceIte]
theorem fr_K_RM_load_62L118 (st : plS) (v1 : Int32) (v2 : Int32) (v3 : Int32) (v4 : Int32) (ri rk : Nat) (h3 : ¬ ri = 3) : (K_RM_load_62L118 st v1 v2 v3 v4).2.1 ri rk = st ri rk := by
  unfold K_RM_load_62L118
  repeat' split
  all_goals simp only [plUp_ap, plCp_ap, h3, false_and, and_false, not_false_eq_true, not_true_eq_false, ↓reduceIte]
theorem fr_K_RM_load_62L106 (st : plS) (v1 : Int32) (v2 : Int32) (v4 : Int32) (v5 : Int32) (k0 : Int32) (ri rk : Nat) (h0_9 : ¬ (ri = 0 ∧ rk = 9)) (h3 : ¬ ri = 3) : (K_RM_load_62L106 st v1 v2 v4 v5 k0).2.1 ri rk = st ri rk := by
  unfold K_RM_load_62L106
  repeat' split
  all_goals simp only [plUp_ap, plCp_ap, fr_K_RM_load_62L118, h0_9, h3, false_and, and_false, not_false_eq_true, not_true_eq_false, ↓reduceIte]
theorem fr_K_RM_load_62L87 (st : plS) (v1 : Int32) (v2 : Int32) (v3 : Int32) (v4 : Int32) (k0 : Int32) (ri rk : Nat) (h0_9 : ¬ (ri = 0 ∧ rk = 9)) (h3 : ¬ ri = 3) : (K_RM_load_62L87 st v1 v2 v3 v4 k0).2.1 ri rk = st ri rk := by
  unfold K_RM_load_62L87
  repeat' split
  all_goals simp only [plUp_ap, plCp_ap, fr_K_RM_load_62L106, h0_9, h3, false_and, and_false, not_false_eq_true, not_true_eq_false, ↓reduceIte]
theorem fr_K_RM_load_62L (st : plS) (v1 : Int32) (v2 : Int32) (v3 : Int32) (v4 : Int32) (ri rk : Nat) (h0_9 : ¬ (ri = 0 ∧ rk = 9)) (h3 : ¬ ri = 3) : (K_RM_load_62L st v1 v2 v3 v4).2.1 ri rk = st ri rk := by
  unfold K_RM_load_62L
  repeat' split
  all_goals simp only [plUp_ap, plCp_ap, fr_K_RM_load_62L87, h0_9, h3, false_and, and_false, not_false_eq_true, not_true_eq_false, ↓reduceIte]
theorem fr_F_RM_load_62 (v1 : Int32) (v2 : Int32) (c : plS × Int32 × Int32) (ri rk : Nat) (h0_9 : ¬ (ri = 0 ∧ rk = 9)) (h3 : ¬ ri = 3) : (F_RM_load_62 v1 v2 c).2.1 ri rk = c.1 ri rk := by
  unfold F_RM_load_62
  repeat' split
  all_goals simp only [plUp_ap, plCp_ap, fr_K_RM_load_62L, h0_9, h3, false_and, and_false, not_false_eq_true, not_true_eq_false, ↓reduceIte]
theorem frL_F_RM_load_62 (v1 : Int32) (v2 : Int32) (nn : Nat) (c : plS × Int32 × Int32) (ri rk : Nat) (h0_9 : ¬ (ri = 0 ∧ rk = 9)) (h3 : ¬ ri = 3) : (lpR (F_RM_load_62 v1 v2) nn c).1 ri rk = c.1 ri rk := lpR_fr (F_RM_load_62 v1 v2) (fun c => c.1) ri rk (fun c => fr_F_RM_load_62 v1 v2 c ri rk h0_9 h3) nn c
theorem fr_K_RM_load_167L (st : plS) (v4 : Int32) (ri rk : Nat) (h2 : ¬ ri = 2) : (K_RM_load_167L st v4).2.1 ri rk = st ri rk := by
  unfold K_RM_load_167L
  repeat' split
  all_goals simp only [plUp_ap, plCp_ap, h2, false_and, and_false, not_false_eq_true, not_true_eq_false, ↓reduceIte]
theorem fr_F_RM_load_167 (c : plS × Int32) (ri rk : Nat) (h2 : ¬ ri = 2) : (F_RM_load_167 c).2.1 ri rk = c.1 ri rk := by
  unfold F_RM_load_167
  repeat' split
  all_goals simp only [plUp_ap, plCp_ap, fr_K_RM_load_167L, h2, false_and, and_false, not_false_eq_true, not_true_eq_false, ↓reduceIte]
theorem frL_F_RM_load_167  (nn : Nat) (c : plS × Int32) (ri rk : Nat) (h2 : ¬ ri = 2) : (lpR (F_RM_load_167 ) nn c).1 ri rk = c.1 ri rk := lpR_fr (F_RM_load_167 ) (fun c => c.1) ri rk (fun c => fr_F_RM_load_167  c ri rk h2) nn c
theorem fr_K_RM_load_167X  (c : plS × Int32) (ri rk : Nat)  : (K_RM_load_167X c) ri rk = c.1 ri rk := by
  unfold K_RM_load_167X
  repeat' split
  all_goals simp only [plUp_ap, plCp_ap, false_and, and_false, not_false_eq_true, not_true_eq_false, ↓reduceIte]
theorem fr_K_RM_load_149 (st : plS) (v1 : Int32) (ri rk : Nat) (h0_4 : ¬ (ri = 0 ∧ rk = 4)) (h2 : ¬ ri = 2) : (K_RM_load_149 st v1) ri rk = st ri rk := by
  unfold K_RM_load_149
  repeat' split
  all_goals simp only [plUp_ap, plCp_ap, fr_K_RM_load_167X, fr_F_RM_load_167, frL_F_RM_load_167, h0_4, h2, false_and, and_false, not_false_eq_true, not_true_eq_false, ↓reduceIte]
theorem fr_K_RM_load_144 (st : plS) (v1 : Int32) (ri rk : Nat) (h0_4 : ¬ (ri = 0 ∧ rk = 4)) (h0_8 : ¬ (ri = 0 ∧ rk = 8)) (h2 : ¬ ri = 2) : (K_RM_load_144 st v1) ri rk = st ri rk := by
  unfold K_RM_load_144
  repeat' split
  all_goals simp only [plUp_ap, plCp_ap, fr_K_RM_load_149, h0_4, h0_8, h2, false_and, and_false, not_false_eq_true, not_true_eq_false, ↓reduceIte]
theorem fr_K_RM_load_62X (v1 : Int32) (v2 : Int32) (c : plS × Int32 × Int32) (ri rk : Nat) (h0_4 : ¬ (ri = 0 ∧ rk = 4)) (h0_7 : ¬ (ri = 0 ∧ rk = 7)) (h0_8 : ¬ (ri = 0 ∧ rk = 8)) (h2 : ¬ ri = 2) : (K_RM_load_62X v1 v2 c) ri rk = c.1 ri rk := by
  unfold K_RM_load_62X
  repeat' split
  all_goals simp only [plUp_ap, plCp_ap, fr_K_RM_load_144, h0_4, h0_7, h0_8, h2, false_and, and_false, not_false_eq_true, not_true_eq_false, ↓reduceIte]
theorem fr_K_RM_load_41 (st : plS) (v1 : Int32) (v2 : Int32) (ri rk : Nat) (h0_4 : ¬ (ri = 0 ∧ rk = 4)) (h0_7 : ¬ (ri = 0 ∧ rk = 7)) (h0_8 : ¬ (ri = 0 ∧ rk = 8)) (h0_9 : ¬ (ri = 0 ∧ rk = 9)) (h2 : ¬ ri = 2) (h3 : ¬ ri = 3) : (K_RM_load_41 st v1 v2) ri rk = st ri rk := by
  unfold K_RM_load_41
  repeat' split
  all_goals simp only [plUp_ap, plCp_ap, fr_K_RM_load_62X, fr_F_RM_load_62, frL_F_RM_load_62, h0_4, h0_7, h0_8, h0_9, h2, h3, false_and, and_false, not_false_eq_true, not_true_eq_false, ↓reduceIte]
theorem fr_K_RM_load_29 (st : plS) (v1 : Int32) (k0 : Int32) (ri rk : Nat) (h0_4 : ¬ (ri = 0 ∧ rk = 4)) (h0_7 : ¬ (ri = 0 ∧ rk = 7)) (h0_8 : ¬ (ri = 0 ∧ rk = 8)) (h0_9 : ¬ (ri = 0 ∧ rk = 9)) (h2 : ¬ ri = 2) (h3 : ¬ ri = 3) : (K_RM_load_29 st v1 k0) ri rk = st ri rk := by
  unfold K_RM_load_29
  repeat' split
  all_goals simp only [plUp_ap, plCp_ap, fr_K_RM_load_41, h0_4, h0_7, h0_8, h0_9, h2, h3, false_and, and_false, not_false_eq_true, not_true_eq_false, ↓reduceIte]
theorem fr_K_RM_load_17 (st : plS) (k0 : Int32) (ri rk : Nat) (h0_4 : ¬ (ri = 0 ∧ rk = 4)) (h0_7 : ¬ (ri = 0 ∧ rk = 7)) (h0_8 : ¬ (ri = 0 ∧ rk = 8)) (h0_9 : ¬ (ri = 0 ∧ rk = 9)) (h2 : ¬ ri = 2) (h3 : ¬ ri = 3) : (K_RM_load_17 st k0) ri rk = st ri rk := by
  unfold K_RM_load_17
  repeat' split
  all_goals simp only [plUp_ap, plCp_ap, fr_K_RM_load_29, h0_4, h0_7, h0_8, h0_9, h2, h3, false_and, and_false, not_false_eq_true, not_true_eq_false, ↓reduceIte]
theorem fr_K_RM_load (st : plS) (ri rk : Nat) (h0_4 : ¬ (ri = 0 ∧ rk = 4)) (h0_7 : ¬ (ri = 0 ∧ rk = 7)) (h0_8 : ¬ (ri = 0 ∧ rk = 8)) (h0_9 : ¬ (ri = 0 ∧ rk = 9)) (h2 : ¬ ri = 2) (h3 : ¬ ri = 3) : (K_RM_load st) ri rk = st ri rk := by
  unfold K_RM_load
  repeat' split
  all_goals simp only [plUp_ap, plCp_ap, fr_K_RM_load_17, h0_4, h0_7, h0_8, h0_9, h2, h3, false_and, and_false, not_false_eq_true, not_true_eq_false, ↓reduceIte]
theorem fr_K_RM_streamed_25 (st : plS) (ri rk : Nat)  : (K_RM_streamed_25 st).2 ri rk = st ri rk := by
  unfold K_RM_streamed_25
  repeat' split
  all_goals simp only [plUp_ap, plCp_ap, false_and, and_false, not_false_eq_true, not_true_eq_false, ↓reduceIte]
theorem fr_K_RM_streamed_15 (st : plS) (ri rk : Nat) (h0_8 : ¬ (ri = 0 ∧ rk = 8)) : (K_RM_streamed_15 st).2 ri rk = st ri rk := by
  unfold K_RM_streamed_15
  repeat' split
  all_goals simp only [plUp_ap, plCp_ap, fr_K_RM_streamed_25, h0_8, false_and, and_false, not_false_eq_true, not_true_eq_false, ↓reduceIte]
theorem fr_K_RM_streamed (st : plS) (ri rk : Nat) (h0_4 : ¬ (ri = 0 ∧ rk = 4)) (h0_7 : ¬ (ri = 0 ∧ rk = 7)) (h0_8 : ¬ (ri = 0 ∧ rk = 8)) (h0_9 : ¬ (ri = 0 ∧ rk = 9)) (h2 : ¬ ri = 2) (h3 : ¬ ri = 3) : (K_RM_streamed st).2 ri rk = st ri rk := by
  unfold K_RM_streamed
  repeat' split
  all_goals simp only [plUp_ap, plCp_ap, fr_K_RM_streamed_15, fr_K_RM_load, h0_4, h0_7, h0_8, h0_9, h2, h3, false_and, and_false, not_false_eq_true, not_true_eq_false, ↓reduceIte]

