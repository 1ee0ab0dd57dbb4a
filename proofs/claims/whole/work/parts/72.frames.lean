theorem fr_K_RM_contained_66 (st : plS) (v1 : Int32) (ri rk : Nat)  : (K_RM_contained_66 st v1).2 ri rk = st ri rk := by
  unfold K_RM_contained_66
  repeat' split
  all_goals simp only [plUp_ap, plCp_ap, false_and, and_false, not_false_eq_true, not_true_eq_false, ↓reduceIte]
theorem fr_K_RM_contained_61 (st : plS) (v1 : Int32) (ri rk : Nat) (h0_10 : ¬ (ri = 0 ∧ rk = 10)) : (K_RM_contained_61 st v1).2 ri rk = st ri rk := by
  unfold K_RM_contained_61
  repeat' split
  all_goals simp only [plUp_ap, plCp_ap, fr_K_RM_contained_66, h0_10, false_and, and_false, not_false_eq_true, not_true_eq_false, ↓reduceIte]
theorem fr_K_RM_contained_56 (st : plS) (v1 : Int32) (ri rk : Nat) (h0_10 : ¬ (ri = 0 ∧ rk = 10)) (h0_12 : ¬ (ri = 0 ∧ rk = 12)) : (K_RM_contained_56 st v1).2 ri rk = st ri rk := by
  unfold K_RM_contained_56
  repeat' split
  all_goals simp only [plUp_ap, plCp_ap, fr_K_RM_contained_61, h0_10, h0_12, false_and, and_false, not_false_eq_true, not_true_eq_false, ↓reduceIte]
theorem fr_K_RM_contained_39 (st : plS) (v1 : Int32) (ri rk : Nat) (h0_10 : ¬ (ri = 0 ∧ rk = 10)) (h0_11 : ¬ (ri = 0 ∧ rk = 11)) (h0_12 : ¬ (ri = 0 ∧ rk = 12)) : (K_RM_contained_39 st v1).2 ri rk = st ri rk := by
  unfold K_RM_contained_39
  repeat' split
  all_goals simp only [plUp_ap, plCp_ap, fr_K_RM_contained_56, fr_K_RM_contained_66, h0_10, h0_11, h0_12, false_and, and_false, not_false_eq_true, not_true_eq_false, ↓reduceIte]
theorem fr_K_RM_contained_29 (st : plS) (v1 : Int32) (ri rk : Nat) (h0_10 : ¬ (ri = 0 ∧ rk = 10)) (h0_11 : ¬ (ri = 0 ∧ rk = 11)) (h0_12 : ¬ (ri = 0 ∧ rk = 12)) : (K_RM_contained_29 st v1).2 ri rk = st ri rk := by
  unfold K_RM_contained_29
  repeat' split
  all_goals simp only [plUp_ap, plCp_ap, fr_K_RM_contained_39, h0_10, h0_11, h0_12, false_and, and_false, not_false_eq_true, not_true_eq_false, ↓reduceIte]
theorem fr_K_RM_contained_18 (st : plS) (k0 : Int32) (ri rk : Nat) (h0_10 : ¬ (ri = 0 ∧ rk = 10)) (h0_11 : ¬ (ri = 0 ∧ rk = 11)) (h0_12 : ¬ (ri = 0 ∧ rk = 12)) : (K_RM_contained_18 st k0).2 ri rk = st ri rk := by
  unfold K_RM_contained_18
  repeat' split
  all_goals simp only [plUp_ap, plCp_ap, fr_K_RM_contained_29, h0_10, h0_11, h0_12, false_and, and_false, not_false_eq_true, not_true_eq_false, ↓reduceIte]
theorem fr_K_RM_contained_18q  (q : Int32 × plS) (ri rk : Nat) (h0_10 : ¬ (ri = 0 ∧ rk = 10)) (h0_11 : ¬ (ri = 0 ∧ rk = 11)) (h0_12 : ¬ (ri = 0 ∧ rk = 12)) : (K_RM_contained_18q q).2 ri rk = q.2 ri rk := by
  unfold K_RM_contained_18q
  repeat' split
  all_goals simp only [plUp_ap, plCp_ap, fr_K_RM_contained_18, h0_10, h0_11, h0_12, false_and, and_false, not_false_eq_true, not_true_eq_false, ↓reduceIte]
theorem fr_K_RM_contained (st : plS) (ri rk : Nat) (h0_4 : ¬ (ri = 0 ∧ rk = 4)) (h0_7 : ¬ (ri = 0 ∧ rk = 7)) (h0_8 : ¬ (ri = 0 ∧ rk = 8)) (h0_9 : ¬ (ri = 0 ∧ rk = 9)) (h0_10 : ¬ (ri = 0 ∧ rk = 10)) (h0_11 : ¬ (ri = 0 ∧ rk = 11)) (h0_12 : ¬ (ri = 0 ∧ rk = 12)) (h2 : ¬ ri = 2) (h3 : ¬ ri = 3) : (K_RM_contained st).2 ri rk = st ri rk := by
  unfold K_RM_contained
  repeat' split
  all_goals simp only [plUp_ap, plCp_ap, fr_K_RM_contained_18, fr_K_RM_contained_18q, fr_K_RM_streamed, h0_4, h0_7, h0_8, h0_9, h0_10, h0_11, h0_12, h2, h3, false_and, and_false, not_false_eq_true, not_true_eq_false, ↓reduceIte]
theorem fr_K_RM_put_78L168 (st : plS) (v1 : Int32) (v2 : Int32) (v4 : Int32) (v5 : Int32) (k0 : Int32) (ri rk : Nat) (h4 : ¬ ri = 4) : (K_RM_put_78L168 st v1 v2 v4 v5 k0).2.1 ri rk = st ri rk := by
  unfold K_RM_put_78L168
  repeat' split
  all_goals simp only [plUp_ap, plCp_ap, h4, false_and, and_false, not_false_eq_true, not_true_eq_false, ↓reduceIte]
theorem fr_K_RM_put_78L162 (st : plS) (v1 : Int32) (v2 : Int32) (v4 : Int32) (v5 : Int32) (k0 : Int32) (k1 : Int32) (ri rk : Nat) (h4 : ¬ ri = 4) : (K_RM_put_78L162 st v1 v2 v4 v5 k0 k1).2.1 ri rk = st ri rk := by
  unfold K_RM_put_78L162
  repeat' split
  all_goals simp only [plUp_ap, plCp_ap, fr_K_RM_put_78L168, h4, false_and, and_false, not_false_eq_true, not_true_eq_false, ↓reduceIte]
theorem fr_K_RM_put_78L116 (st : plS) (v1 : Int32) (v2 : Int32) (v4 : Int32) (v5 : Int32) (k0 : Int32) (ri rk : Nat) (h4 : ¬ ri = 4) : (K_RM_put_78L116 st v1 v2 v4 v5 k0).2.1 ri rk = st ri rk := by
  unfold K_RM_put_78L116
  repeat' split
  all_goals simp only [plUp_ap, plCp_ap, fr_K_RM_put_78L168, fr_K_RM_put_78L162, h4, false_and, and_false, not_false_eq_true, not_true_eq_false, ↓reduceIte]
theorem fr_K_RM_put_78L109 (st : plS) (v1 : Int32) (v2 : Int32) (v4 : Int32) (v5 : Int32) (ri rk : Nat) (h4 : ¬ ri = 4) : (K_RM_put_78L109 st v1 v2 v4 v5).2.1 ri rk = st ri rk := by
  unfold K_RM_put_78L109
  repeat' split
  all_goals simp only [plUp_ap, plCp_ap, fr_K_RM_put_78L116, h4, false_and, and_false, not_false_eq_true, not_true_eq_false, ↓reduceIte]
theorem fr_K_RM_put_78L (st : plS) (v1 : Int32) (v2 : Int32) (v4 : Int32) (v5 : Int32) (ri rk : Nat) (h4 : ¬ ri = 4) : (K_RM_put_78L st v1 v2 v4 v5).2.1 ri rk = st ri rk := by
  unfold K_RM_put_78L
  repeat' split
  all_goals simp only [plUp_ap, plCp_ap, fr_K_RM_put_78L109, fr_K_RM_put_78L116, h4, false_and, and_false, not_false_eq_true, not_true_eq_false, ↓reduceIte]
theorem fr_F_RM_put_78 (v1 : Int32) (v2 : Int32) (v4 : Int32) (c : plS × Int32) (ri rk : Nat) (h4 : ¬ ri = 4) : (F_RM_put_78 v1 v2 v4 c).2.1 ri rk = c.1 ri rk := by
  unfold F_RM_put_78
  repeat' split
  all_goals simp only [plUp_ap, plCp_ap, fr_K_RM_put_78L, h4, false_and, and_false, not_false_eq_true, not_true_eq_false, ↓reduceIte]
theorem frL_F_RM_put_78 (v1 : Int32) (v2 : Int32) (v4 : Int32) (nn : Nat) (c : plS × Int32) (ri rk : Nat) (h4 : ¬ ri = 4) : (lpR (F_RM_put_78 v1 v2 v4) nn c).1 ri rk = c.1 ri rk := lpR_fr (F_RM_put_78 v1 v2 v4) (fun c => c.1) ri rk (fun c => fr_F_RM_put_78 v1 v2 v4 c ri rk h4) nn c
theorem fr_K_RM_put_78X (v1 : Int32) (v2 : Int32) (v4 : Int32) (c : plS × Int32) (ri rk : Nat)  : (K_RM_put_78X v1 v2 v4 c) ri rk = c.1 ri rk := by
  unfold K_RM_put_78X
  repeat' split
  all_goals simp only [plUp_ap, plCp_ap, false_and, and_false, not_false_eq_true, not_true_eq_false, ↓reduceIte]
theorem fr_K_RM_put_75 (st : plS) (v1 : Int32) (v2 : Int32) (v4 : Int32) (ri rk : Nat) (h4 : ¬ ri = 4) : (K_RM_put_75 st v1 v2 v4) ri rk = st ri rk := by
  unfold K_RM_put_75
  repeat' split
  all_goals simp only [plUp_ap, plCp_ap, fr_K_RM_put_78X, fr_F_RM_put_78, frL_F_RM_put_78, h4, false_and, and_false, not_false_eq_true, not_true_eq_false, ↓reduceIte]
theorem fr_K_RM_put_40X (st : plS) (v1 : Int32) (v2 : Int32) (v3 : Int32) (c : Int32 × Int32) (ri rk : Nat) (h4 : ¬ ri = 4) : (K_RM_put_40X st v1 v2 v3 c) ri rk = st ri rk := by
  unfold K_RM_put_40X
  repeat' split
  all_goals simp only [plUp_ap, plCp_ap, fr_K_RM_put_75, h4, false_and, and_false, not_false_eq_true, not_true_eq_false, ↓reduceIte]
theorem fr_K_RM_put (st : plS) (v1 : Int32) (ri rk : Nat) (h4 : ¬ ri = 4) : (K_RM_put st v1) ri rk = st ri rk := by
  unfold K_RM_put
  repeat' split
  all_goals simp only [plUp_ap, plCp_ap, fr_K_RM_put_40X, h4, false_and, and_false, not_false_eq_true, not_true_eq_false, ↓reduceIte]
theorem fr_K_RM_build_100L130 (st : plS) (v1 : Int32) (v2 : Int32) (v4 : Int32) (k0 : Int32) (k1 : Int32) (ri rk : Nat) (h7 : ¬ ri = 7) : (K_RM_build_100L130 st v1 v2 v4 k0 k1).2.1 ri rk = st ri rk := by
  unfold K_RM_build_100L130
  repeat' split
  all_goals simp only [plUp_ap, plCp_ap, h7, false_and, and_false, not_false_eq_true, not_true_eq_false, ↓reduceIte]
theorem fr_K_RM_build_100L126q (v1 : Int32) (v2 : Int32) (v4 : Int32) (k0 : Int32) (q : Int32 × plS) (ri rk : Nat) (h7 : ¬ ri = 7) : (K_RM_build_100L126q v1 v2 v4 k0 q).2.1 ri rk = q.2 ri rk := by
  unfold K_RM_build_100L126q
  repeat' split
  all_goals simp only [plUp_ap, plCp_ap, fr_K_RM_build_100L130, h7, false_and, and_false, not_false_eq_true, not_true_eq_false, ↓reduceIte]
theorem fr_K_RM_build_100L (st : plS) (v1 : Int32) (v2 : Int32) (v4 : Int32) (ri rk : Nat) (h0_4 : ¬ (ri = 0 ∧ rk = 4)) (h0_7 : ¬ (ri = 0 ∧ rk = 7)) (h0_8 : ¬ (ri = 0 ∧ rk = 8)) (h0_9 : ¬ (ri = 0 ∧ rk = 9)) (h0_10 : ¬ (ri = 0 ∧ rk = 10)) (h0_11 : ¬ (ri = 0 ∧ rk = 11)) (h0_12 : ¬ (ri = 0 ∧ rk = 12)) (h2 : ¬ ri = 2) (h3 : ¬ ri = 3) (h7 : ¬ ri = 7) : (K_RM_build_100L st v1 v2 v4).2.1 ri rk = st ri rk := by
  unfold K_RM_build_100L
  repeat' split
  all_goals simp only [plUp_ap, plCp_ap, fr_K_RM_build_100L130, fr_K_RM_build_100L126q, fr_K_RM_contained, h0_4, h0_7, h0_8, h0_9, h0_10, h0_11, h0_12, h2, h3, h7, false_and, and_false, not_false_eq_true, not_true_eq_false, ↓reduceIte]
theorem fr_F_RM_build_100 (v1 : Int32) (v2 : Int32) (c : plS × Int32) (ri rk : Nat) (h0_4 : ¬ (ri = 0 ∧ rk = 4)) (h0_7 : ¬ (ri = 0 ∧ rk = 7)) (h0_8 : ¬ (ri = 0 ∧ rk = 8)) (h0_9 : ¬ (ri = 0 ∧ rk = 9)) (h0_10 : ¬ (ri = 0 ∧ rk = 10)) (h0_11 : ¬ (ri = 0 ∧ rk = 11)) (h0_12 : ¬ (ri = 0 ∧ rk = 12)) (h2 : ¬ ri = 2) (h3 : ¬ ri = 3) (h7 : ¬ ri = 7) : (F_RM_build_100 v1 v2 c).2.1 ri rk = c.1 ri rk := by
  unfold F_RM_build_100
  repeat' split
  all_goals simp only [plUp_ap, plCp_ap, fr_K_RM_build_100L, h0_4, h0_7, h0_8, h0_9, h0_10, h0_11, h0_12, h2, h3, h7, false_and, and_false, not_false_eq_true, not_true_eq_false, ↓reduceIte]
theorem frL_F_RM_build_100 (v1 : Int32) (v2 : Int32) (nn : Nat) (c : plS × Int32) (ri rk : Nat) (h0_4 : ¬ (ri = 0 ∧ rk = 4)) (h0_7 : ¬ (ri = 0 ∧ rk = 7)) (h0_8 : ¬ (ri = 0 ∧ rk = 8)) (h0_9 : ¬ (ri = 0 ∧ rk = 9)) (h0_10 : ¬ (ri = 0 ∧ rk = 10)) (h0_11 : ¬ (ri = 0 ∧ rk = 11)) (h0_12 : ¬ (ri = 0 ∧ rk = 12)) (h2 : ¬ ri = 2) (h3 : ¬ ri = 3) (h7 : ¬ ri = 7) : (lpR (F_RM_build_100 v1 v2) nn c).1 ri rk = c.1 ri rk := lpR_fr (F_RM_build_100 v1 v2) (fun c => c.1) ri rk (fun c => fr_F_RM_build_100 v1 v2 c ri rk h0_4 h0_7 h0_8 h0_9 h0_10 h0_11 h0_12 h2 h3 h7) nn c
theorem fr_K_RM_build_196L (st : plS) (v4 : Int32) (ri rk : Nat) (h4 : ¬ ri = 4) : (K_RM_build_196L st v4).2.1 ri rk = st ri rk := by
  unfold K_RM_build_196L
  repeat' split
  all_goals simp only [plUp_ap, plCp_ap, fr_K_RM_put, h4, false_and, and_false, not_false_eq_true, not_true_eq_false, ↓reduceIte]
theorem fr_F_RM_build_196 (c : plS × Int32) (ri rk : Nat) (h4 : ¬ ri = 4) : (F_RM_build_196 c).2.1 ri rk = c.1 ri rk := by
  unfold F_RM_build_196
  repeat' split
  all_goals simp only [plUp_ap, plCp_ap, fr_K_RM_build_196L, h4, false_and, and_false, not_false_eq_true, not_true_eq_false, ↓reduceIte]
theorem frL_F_RM_build_196  (nn : Nat) (c : plS × Int32) (ri rk : Nat) (h4 : ¬ ri = 4) : (lpR (F_RM_build_196 ) nn c).1 ri rk = c.1 ri rk := lpR_fr (F_RM_build_196 ) (fun c => c.1) ri rk (fun c => fr_F_RM_build_196  c ri rk h4) nn c
theorem fr_K_RM_build_196X  (c : plS × Int32) (ri rk : Nat)  : (K_RM_build_196X c) ri rk = c.1 ri rk := by
  unfold K_RM_build_196X
  repeat' split
  all_goals simp only [plUp_ap, plCp_ap, false_and, and_false, not_false_eq_true, not_true_eq_false, ↓reduceIte]
theorem fr_K_RM_build_190 (st : plS) (k0 : Int32) (ri rk : Nat) (h0_15 : ¬ (ri = 0 ∧ rk = 15)) (h4 : ¬ ri = 4) : (K_RM_build_190 st k0) ri rk = st ri rk := by
  unfold K_RM_build_190
  repeat' split
  all_goals simp only [plUp_ap, plCp_ap, fr_K_RM_build_196X, fr_F_RM_build_196, frL_F_RM_build_196, h0_15, h4, false_and, and_false, not_false_eq_true, not_true_eq_false, ↓reduceIte]
theorem fr_K_RM_build_163 (st : plS) (v1 : Int32) (ri rk : Nat) (h0_15 : ¬ (ri = 0 ∧ rk = 15)) (h4 : ¬ ri = 4) : (K_RM_build_163 st v1) ri rk = st ri rk := by
  unfold K_RM_build_163
  repeat' split
  all_goals simp only [plUp_ap, plCp_ap, fr_K_RM_build_190, h0_15, h4, false_and, and_false, not_false_eq_true, not_true_eq_false, ↓reduceIte]
theorem fr_K_RM_build_153 (st : plS) (v1 : Int32) (v2 : Int32) (ri rk : Nat) (h0_14 : ¬ (ri = 0 ∧ rk = 14)) (h0_15 : ¬ (ri = 0 ∧ rk = 15)) (h4 : ¬ ri = 4) : (K_RM_build_153 st v1 v2) ri rk = st ri rk := by
  unfold K_RM_build_153
  repeat' split
  all_goals simp only [plUp_ap, plCp_ap, fr_K_RM_build_163, h0_14, h0_15, h4, false_and, and_false, not_false_eq_true, not_true_eq_false, ↓reduceIte]
theorem fr_K_RM_build_100X (v1 : Int32) (v2 : Int32) (c : plS × Int32) (ri rk : Nat) (h0_13 : ¬ (ri = 0 ∧ rk = 13)) (h0_14 : ¬ (ri = 0 ∧ rk = 14)) (h0_15 : ¬ (ri = 0 ∧ rk = 15)) (h4 : ¬ ri = 4) : (K_RM_build_100X v1 v2 c) ri rk = c.1 ri rk := by
  unfold K_RM_build_100X
  repeat' split
  all_goals simp only [plUp_ap, plCp_ap, fr_K_RM_build_153, h0_13, h0_14, h0_15, h4, false_and, and_false, not_false_eq_true, not_true_eq_false, ↓reduceIte]
theorem fr_K_RM_build_79 (st : plS) (v1 : Int32) (v2 : Int32) (v3 : Int32) (ri rk : Nat) (h0_4 : ¬ (ri = 0 ∧ rk = 4)) (h0_7 : ¬ (ri = 0 ∧ rk = 7)) (h0_8 : ¬ (ri = 0 ∧ rk = 8)) (h0_9 : ¬ (ri = 0 ∧ rk = 9)) (h0_10 : ¬ (ri = 0 ∧ rk = 10)) (h0_11 : ¬ (ri = 0 ∧ rk = 11)) (h0_12 : ¬ (ri = 0 ∧ rk = 12)) (h0_13 : ¬ (ri = 0 ∧ rk = 13)) (h0_14 : ¬ (ri = 0 ∧ rk = 14)) (h0_15 : ¬ (ri = 0 ∧ rk = 15)) (h2 : ¬ ri = 2) (h3 : ¬ ri = 3) (h4 : ¬ ri = 4) (h7 : ¬ ri = 7) : (K_RM_build_79 st v1 v2 v3) ri rk = st ri rk := by
  unfold K_RM_build_79
  repeat' split
  all_goals simp only [plUp_ap, plCp_ap, fr_K_RM_build_100X, fr_F_RM_build_100, frL_F_RM_build_100, h0_4, h0_7, h0_8, h0_9, h0_10, h0_11, h0_12, h0_13, h0_14, h0_15, h2, h3, h4, h7, false_and, and_false, not_false_eq_true, not_true_eq_false, ↓reduceIte]
theorem fr_K_RM_build_71 (st : plS) (v1 : Int32) (v2 : Int32) (v3 : Int32) (ri rk : Nat) (h0_4 : ¬ (ri = 0 ∧ rk = 4)) (h0_7 : ¬ (ri = 0 ∧ rk = 7)) (h0_8 : ¬ (ri = 0 ∧ rk = 8)) (h0_9 : ¬ (ri = 0 ∧ rk = 9)) (h0_10 : ¬ (ri = 0 ∧ rk = 10)) (h0_11 : ¬ (ri = 0 ∧ rk = 11)) (h0_12 : ¬ (ri = 0 ∧ rk = 12)) (h0_13 : ¬ (ri = 0 ∧ rk = 13)) (h0_14 : ¬ (ri = 0 ∧ rk = 14)) (h0_15 : ¬ (ri = 0 ∧ rk = 15)) (h2 : ¬ ri = 2) (h3 : ¬ ri = 3) (h4 : ¬ ri = 4) (h7 : ¬ ri = 7) : (K_RM_build_71 st v1 v2 v3) ri rk = st ri rk := by
  unfold K_RM_build_71
  repeat' split
  all_goals simp only [plUp_ap, plCp_ap, fr_K_RM_build_79, h0_4, h0_7, h0_8, h0_9, h0_10, h0_11, h0_12, h0_13, h0_14, h0_15, h2, h3, h4, h7, false_and, and_false, not_false_eq_true, not_true_eq_false, ↓reduceIte]
theorem fr_K_RM_build_61 (st : plS) (v1 : Int32) (v2 : Int32) (k0 : Int32) (ri rk : Nat) (h0_4 : ¬ (ri = 0 ∧ rk = 4)) (h0_7 : ¬ (ri = 0 ∧ rk = 7)) (h0_8 : ¬ (ri = 0 ∧ rk = 8)) (h0_9 : ¬ (ri = 0 ∧ rk = 9)) (h0_10 : ¬ (ri = 0 ∧ rk = 10)) (h0_11 : ¬ (ri = 0 ∧ rk = 11)) (h0_12 : ¬ (ri = 0 ∧ rk = 12)) (h0_13 : ¬ (ri = 0 ∧ rk = 13)) (h0_14 : ¬ (ri = 0 ∧ rk = 14)) (h0_15 : ¬ (ri = 0 ∧ rk = 15)) (h2 : ¬ ri = 2) (h3 : ¬ ri = 3) (h4 : ¬ ri = 4) (h7 : ¬ ri = 7) : (K_RM_build_61 st v1 v2 k0) ri rk = st ri rk := by
  unfold K_RM_build_61
  repeat' split
  all_goals simp only [plUp_ap, plCp_ap, fr_K_RM_build_71, h0_4, h0_7, h0_8, h0_9, h0_10, h0_11, h0_12, h0_13, h0_14, h0_15, h2, h3, h4, h7, false_and, and_false, not_false_eq_true, not_true_eq_false, ↓reduceIte]
theorem fr_K_RM_build_41 (st : plS) (v1 : Int32) (k0 : Int32) (ri rk : Nat) (h0_4 : ¬ (ri = 0 ∧ rk = 4)) (h0_7 : ¬ (ri = 0 ∧ rk = 7)) (h0_8 : ¬ (ri = 0 ∧ rk = 8)) (h0_9 : ¬ (ri = 0 ∧ rk = 9)) (h0_10 : ¬ (ri = 0 ∧ rk = 10)) (h0_11 : ¬ (ri = 0 ∧ rk = 11)) (h0_12 : ¬ (ri = 0 ∧ rk = 12)) (h0_13 : ¬ (ri = 0 ∧ rk = 13)) (h0_14 : ¬ (ri = 0 ∧ rk = 14)) (h0_15 : ¬ (ri = 0 ∧ rk = 15)) (h2 : ¬ ri = 2) (h3 : ¬ ri = 3) (h4 : ¬ ri = 4) (h7 : ¬ ri = 7) : (K_RM_build_41 st v1 k0) ri rk = st ri rk := by
  unfold K_RM_build_41
  repeat' split
  all_goals simp only [plUp_ap, plCp_ap, fr_K_RM_build_61, h0_4, h0_7, h0_8, h0_9, h0_10, h0_11, h0_12, h0_13, h0_14, h0_15, h2, h3, h4, h7, false_and, and_false, not_false_eq_true, not_true_eq_false, ↓reduceIte]
theorem fr_K_RM_build_20 (st : plS) (k0 : Int32) (ri rk : Nat) (h0_4 : ¬ (ri = 0 ∧ rk = 4)) (h0_7 : ¬ (ri = 0 ∧ rk = 7)) (h0_8 : ¬ (ri = 0 ∧ rk = 8)) (h0_9 : ¬ (ri = 0 ∧ rk = 9)) (h0_10 : ¬ (ri = 0 ∧ rk = 10)) (h0_11 : ¬ (ri = 0 ∧ rk = 11)) (h0_12 : ¬ (ri = 0 ∧ rk = 12)) (h0_13 : ¬ (ri = 0 ∧ rk = 13)) (h0_14 : ¬ (ri = 0 ∧ rk = 14)) (h0_15 : ¬ (ri = 0 ∧ rk = 15)) (h2 : ¬ ri = 2) (h3 : ¬ ri = 3) (h4 : ¬ ri = 4) (h7 : ¬ ri = 7) : (K_RM_build_20 st k0) ri rk = st ri rk := by
  unfold K_RM_build_20
  repeat' split
  all_goals simp only [plUp_ap, plCp_ap, fr_K_RM_build_41, h0_4, h0_7, h0_8, h0_9, h0_10, h0_11, h0_12, h0_13, h0_14, h0_15, h2, h3, h4, h7, false_and, and_false, not_false_eq_true, not_true_eq_false, ↓reduceIte]
theorem fr_K_RM_build_19 (st : plS) (ri rk : Nat) (h0_4 : ¬ (ri = 0 ∧ rk = 4)) (h0_7 : ¬ (ri = 0 ∧ rk = 7)) (h0_8 : ¬ (ri = 0 ∧ rk = 8)) (h0_9 : ¬ (ri = 0 ∧ rk = 9)) (h0_10 : ¬ (ri = 0 ∧ rk = 10)) (h0_11 : ¬ (ri = 0 ∧ rk = 11)) (h0_12 : ¬ (ri = 0 ∧ rk = 12)) (h0_13 : ¬ (ri = 0 ∧ rk = 13)) (h0_14 : ¬ (ri = 0 ∧ rk = 14)) (h0_15 : ¬ (ri = 0 ∧ rk = 15)) (h2 : ¬ ri = 2) (h3 : ¬ ri = 3) (h4 : ¬ ri = 4) (h7 : ¬ ri = 7) : (K_RM_build_19 st) ri rk = st ri rk := by
  unfold K_RM_build_19
  repeat' split
  all_goals simp only [plUp_ap, plCp_ap, fr_K_RM_build_20, h0_4, h0_7, h0_8, h0_9, h0_10, h0_11, h0_12, h0_13, h0_14, h0_15, h2, h3, h4, h7, false_and, and_false, not_false_eq_true, not_true_eq_false, ↓reduceIte]
theorem fr_K_RM_build (st : plS) (ri rk : Nat) (h0_4 : ¬ (ri = 0 ∧ rk = 4)) (h0_7 : ¬ (ri = 0 ∧ rk = 7)) (h0_8 : ¬ (ri = 0 ∧ rk = 8)) (h0_9 : ¬ (ri = 0 ∧ rk = 9)) (h0_10 : ¬ (ri = 0 ∧ rk = 10)) (h0_11 : ¬ (ri = 0 ∧ rk = 11)) (h0_12 : ¬ (ri = 0 ∧ rk = 12)) (h0_13 : ¬ (ri = 0 ∧ rk = 13)) (h0_14 : ¬ (ri = 0 ∧ rk = 14)) (h0_15 : ¬ (ri = 0 ∧ rk = 15)) (h2 : ¬ ri = 2) (h3 : ¬ ri = 3) (h4 : ¬ ri = 4) (h7 : ¬ ri = 7) : (K_RM_build st) ri rk = st ri rk := by
  unfold K_RM_build
  repeat' split
  all_goals simp only [plUp_ap, plCp_ap, fr_K_RM_build_19, fr_K_RM_build_20, h0_4, h0_7, h0_8, h0_9, h0_10, h0_11, h0_12, h0_13, h0_14, h0_15, h2, h3, h4, h7, false_and, and_false, not_false_eq_true, not_true_eq_false, ↓reduceIte]
theorem fr_K_RM_align_131 (st : plS) (ri rk : Nat)  : (K_RM_align_131 st) ri rk = st ri rk := by
  unfold K_RM_align_131
  repeat' split
  all_goals simp only [plUp_ap, plCp_ap, false_and, and_false, not_false_eq_true, not_true_eq_false, ↓reduceIte]
theorem fr_K_RM_align_124 (st : plS) (v1 : Int32) (ri rk : Nat) (h15 : ¬ ri = 15) : (K_RM_align_124 st v1) ri rk = st ri rk := by
  unfold K_RM_align_124
  repeat' split
  all_goals simp only [plUp_ap, plCp_ap, fr_K_RM_align_131, h15, false_and, and_false, not_false_eq_true, not_true_eq_false, ↓reduceIte]
theorem fr_K_RM_align_123 (st : plS) (v1 : Int32) (k0 : Int32) (k1 : Int32) (ri rk : Nat) (h14 : ¬ ri = 14) (h15 : ¬ ri = 15) : (K_RM_align_123 st v1 k0 k1) ri rk = st ri rk := by
  unfold K_RM_align_123
  repeat' split
  all_goals simp only [plUp_ap, plCp_ap, fr_K_RM_align_124, h14, h15, false_and, and_false, not_false_eq_true, not_true_eq_false, ↓reduceIte]
theorem fr_K_RM_align_98 (st : plS) (k0 : Int32) (k1 : Int32) (ri rk : Nat) (h14 : ¬ ri = 14) : (K_RM_align_98 st k0 k1) ri rk = st ri rk := by
  unfold K_RM_align_98
  repeat' split
  all_goals simp only [plUp_ap, plCp_ap, fr_K_RM_align_131, h14, false_and, and_false, not_false_eq_true, not_true_eq_false, ↓reduceIte]
theorem fr_K_RM_align_78 (st : plS) (v1 : Int32) (ri rk : Nat) (h14 : ¬ ri = 14) : (K_RM_align_78 st v1) ri rk = st ri rk := by
  unfold K_RM_align_78
  repeat' split
  all_goals simp only [plUp_ap, plCp_ap, fr_K_RM_align_98, h14, false_and, and_false, not_false_eq_true, not_true_eq_false, ↓reduceIte]
theorem fr_K_RM_align_77 (st : plS) (v1 : Int32) (k0 : Int32) (k1 : Int32) (ri rk : Nat) (h14 : ¬ ri = 14) (h15 : ¬ ri = 15) : (K_RM_align_77 st v1 k0 k1) ri rk = st ri rk := by
  unfold K_RM_align_77
  repeat' split
  all_goals simp only [plUp_ap, plCp_ap, fr_K_RM_align_78, h14, h15, false_and, and_false, not_false_eq_true, not_true_eq_false, ↓reduceIte]
theorem fr_K_RM_align_45 (st : plS) (v1 : Int32) (k0 : Int32) (ri rk : Nat) (h14 : ¬ ri = 14) (h15 : ¬ ri = 15) : (K_RM_align_45 st v1 k0) ri rk = st ri rk := by
  unfold K_RM_align_45
  repeat' split
  all_goals simp only [plUp_ap, plCp_ap, fr_K_RM_align_77, fr_K_RM_align_123, h14, h15, false_and, and_false, not_false_eq_true, not_true_eq_false, ↓reduceIte]
theorem fr_K_RM_align_44 (st : plS) (v1 : Int32) (ri rk : Nat) (h14 : ¬ ri = 14) (h15 : ¬ ri = 15) : (K_RM_align_44 st v1) ri rk = st ri rk := by
  unfold K_RM_align_44
  repeat' split
  all_goals simp only [plUp_ap, plCp_ap, fr_K_RM_align_45, h14, h15, false_and, and_false, not_false_eq_true, not_true_eq_false, ↓reduceIte]
theorem fr_K_RM_align (st : plS) (v1 : Int32) (ri rk : Nat) (h14 : ¬ ri = 14) (h15 : ¬ ri = 15) : (K_RM_align st v1) ri rk = st ri rk := by
  unfold K_RM_align
  repeat' split
  all_goals simp only [plUp_ap, plCp_ap, fr_K_RM_align_44, fr_K_RM_align_45, h14, h15, false_and, and_false, not_false_eq_true, not_true_eq_false, ↓reduceIte]
theorem fr_K_RM_arrive_2L28L (st : plS) (v1 : Int32) (v2 : Int32) (ri rk : Nat) (h13 : ¬ ri = 13) : (K_RM_arrive_2L28L st v1 v2).2.1 ri rk = st ri rk := by
  unfold K_RM_arrive_2L28L
  repeat' split
  all_goals simp only [plUp_ap, plCp_ap, h13, false_and, and_false, not_false_eq_true, not_true_eq_false, ↓reduceIte]
theorem fr_F_RM_arrive_2L28 (v1 : Int32) (c : plS × Int32) (ri rk : Nat) (h13 : ¬ ri = 13) : (F_RM_arrive_2L28 v1 c).2.1 ri rk = c.1 ri rk := by
  unfold F_RM_arrive_2L28
  repeat' split
  all_goals simp only [plUp_ap, plCp_ap, fr_K_RM_arrive_2L28L, h13, false_and, and_false, not_false_eq_true, not_true_eq_false, ↓reduceIte]
theorem frL_F_RM_arrive_2L28 (v1 : Int32) (nn : Nat) (c : plS × Int32) (ri rk : Nat) (h13 : ¬ ri = 13) : (lpR (F_RM_arrive_2L28 v1) nn c).1 ri rk = c.1 ri rk := lpR_fr (F_RM_arrive_2L28 v1) (fun c => c.1) ri rk (fun c => fr_F_RM_arrive_2L28 v1 c ri rk h13) nn c
theorem fr_K_RM_arrive_2L103L164 (st : plS) (v1 : Int32) (v2 : Int32) (v3 : Int32) (v4 : Int32) (ri rk : Nat) (h9 : ¬ ri = 9) : (K_RM_arrive_2L103L164 st v1 v2 v3 v4).2.1 ri rk = st ri rk := by
  unfold K_RM_arrive_2L103L164
  repeat' split
  all_goals simp only [plUp_ap, plCp_ap, h9, false_and, and_false, not_false_eq_true, not_true_eq_false, ↓reduceIte]
theorem fr_K_RM_arrive_2L103L163 (st : plS) (v1 : Int32) (v2 : Int32) (v3 : Int32) (v4 : Int32) (k0 : Int32) (k1 : Int32) (ri rk : Nat) (h9 : ¬ ri = 9) (h10 : ¬ ri = 10) : (K_RM_arrive_2L103L163 st v1 v2 v3 v4 k0 k1).2.1 ri rk = st ri rk := by
  unfold K_RM_arrive_2L103L163
  repeat' split
  all_goals simp only [plUp_ap, plCp_ap, fr_K_RM_arrive_2L103L164, h9, h10, false_and, and_false, not_false_eq_true, not_true_eq_false, ↓reduceIte]
theorem fr_K_RM_arrive_2L103L (st : plS) (v1 : Int32) (v2 : Int32) (v3 : Int32) (ri rk : Nat) (h9 : ¬ ri = 9) (h10 : ¬ ri = 10) : (K_RM_arrive_2L103L st v1 v2 v3).2.1 ri rk = st ri rk := by
  unfold K_RM_arrive_2L103L
  repeat' split
  all_goals simp only [plUp_ap, plCp_ap, fr_K_RM_arrive_2L103L163, h9, h10, false_and, and_false, not_false_eq_true, not_true_eq_false, ↓reduceIte]
theorem fr_F_RM_arrive_2L103 (v1 : Int32) (v2 : Int32) (c : plS × Int32) (ri rk : Nat) (h9 : ¬ ri = 9) (h10 : ¬ ri = 10) : (F_RM_arrive_2L103 v1 v2 c).2.1 ri rk = c.1 ri rk := by
  unfold F_RM_arrive_2L103
  repeat' split
  all_goals simp only [plUp_ap, plCp_ap, fr_K_RM_arrive_2L103L, h9, h10, false_and, and_false, not_false_eq_true, not_true_eq_false, ↓reduceIte]
theorem frL_F_RM_arrive_2L103 (v1 : Int32) (v2 : Int32) (nn : Nat) (c : plS × Int32) (ri rk : Nat) (h9 : ¬ ri = 9) (h10 : ¬ ri = 10) : (lpR (F_RM_arrive_2L103 v1 v2) nn c).1 ri rk = c.1 ri rk := lpR_fr (F_RM_arrive_2L103 v1 v2) (fun c => c.1) ri rk (fun c => fr_F_RM_arrive_2L103 v1 v2 c ri rk h9 h10) nn c
theorem fr_K_RM_arrive_2L252 (st : plS) (v1 : Int32) (ri rk : Nat)  : (K_RM_arrive_2L252 st v1).2.1 ri rk = st ri rk := by
  unfold K_RM_arrive_2L252
  repeat' split
  all_goals simp only [plUp_ap, plCp_ap, false_and, and_false, not_false_eq_true, not_true_eq_false, ↓reduceIte]
theorem fr_K_RM_arrive_2L183 (st : plS) (v1 : Int32) (ri rk : Nat) (h16 : ¬ ri = 16) : (K_RM_arrive_2L183 st v1).2.1 ri rk = st ri rk := by
  unfold K_RM_arrive_2L183
  repeat' split
  all_goals simp only [plUp_ap, plCp_ap, fr_K_RM_arrive_2L252, h16, false_and, and_false, not_false_eq_true, not_true_eq_false, ↓reduceIte]
theorem fr_K_RM_arrive_2L103X (v1 : Int32) (v2 : Int32) (c : plS × Int32) (ri rk : Nat) (h14 : ¬ ri = 14) (h15 : ¬ ri = 15) (h16 : ¬ ri = 16) : (K_RM_arrive_2L103X v1 v2 c).2.1 ri rk = c.1 ri rk := by
  unfold K_RM_arrive_2L103X
  repeat' split
  all_goals simp only [plUp_ap, plCp_ap, fr_K_RM_arrive_2L183, fr_K_RM_align, h14, h15, h16, false_and, and_false, not_false_eq_true, not_true_eq_false, ↓reduceIte]
theorem fr_K_RM_arrive_2L100 (st : plS) (v1 : Int32) (v2 : Int32) (k0 : Int32) (k1 : Int32) (ri rk : Nat) (h9 : ¬ ri = 9) (h10 : ¬ ri = 10) (h11 : ¬ ri = 11) (h14 : ¬ ri = 14) (h15 : ¬ ri = 15) (h16 : ¬ ri = 16) : (K_RM_arrive_2L100 st v1 v2 k0 k1).2.1 ri rk = st ri rk := by
  unfold K_RM_arrive_2L100
  repeat' split
  all_goals simp only [plUp_ap, plCp_ap, fr_K_RM_arrive_2L103X, fr_F_RM_arrive_2L103, frL_F_RM_arrive_2L103, h9, h10, h11, h14, h15, h16, false_and, and_false, not_false_eq_true, not_true_eq_false, ↓reduceIte]
theorem fr_K_RM_arrive_2L99 (st : plS) (v1 : Int32) (v2 : Int32) (k0 : Int32) (ri rk : Nat) (h9 : ¬ ri = 9) (h10 : ¬ ri = 10) (h11 : ¬ ri = 11) (h14 : ¬ ri = 14) (h15 : ¬ ri = 15) (h16 : ¬ ri = 16) : (K_RM_arrive_2L99 st v1 v2 k0).2.1 ri rk = st ri rk := by
  unfold K_RM_arrive_2L99
  repeat' split
  all_goals simp only [plUp_ap, plCp_ap, fr_K_RM_arrive_2L100, h9, h10, h11, h14, h15, h16, false_and, and_false, not_false_eq_true, not_true_eq_false, ↓reduceIte]
theorem fr_K_RM_arrive_2L28X (v1 : Int32) (c : plS × Int32) (ri rk : Nat) (h9 : ¬ ri = 9) (h10 : ¬ ri = 10) (h11 : ¬ ri = 11) (h14 : ¬ ri = 14) (h15 : ¬ ri = 15) (h16 : ¬ ri = 16) : (K_RM_arrive_2L28X v1 c).2.1 ri rk = c.1 ri rk := by
  unfold K_RM_arrive_2L28X
  repeat' split
  all_goals simp only [plUp_ap, plCp_ap, fr_K_RM_arrive_2L99, fr_K_RM_arrive_2L100, h9, h10, h11, h14, h15, h16, false_and, and_false, not_false_eq_true, not_true_eq_false, ↓reduceIte]
theorem fr_K_RM_arrive_2L19 (st : plS) (v1 : Int32) (ri rk : Nat) (h9 : ¬ ri = 9) (h10 : ¬ ri = 10) (h11 : ¬ ri = 11) (h13 : ¬ ri = 13) (h14 : ¬ ri = 14) (h15 : ¬ ri = 15) (h16 : ¬ ri = 16) : (K_RM_arrive_2L19 st v1).2.1 ri rk = st ri rk := by
  unfold K_RM_arrive_2L19
  repeat' split
  all_goals simp only [plUp_ap, plCp_ap, fr_K_RM_arrive_2L28X, fr_F_RM_arrive_2L28, frL_F_RM_arrive_2L28, h9, h10, h11, h13, h14, h15, h16, false_and, and_false, not_false_eq_true, not_true_eq_false, ↓reduceIte]
theorem fr_K_RM_arrive_2L (st : plS) (v1 : Int32) (ri rk : Nat) (h9 : ¬ ri = 9) (h10 : ¬ ri = 10) (h11 : ¬ ri = 11) (h12 : ¬ ri = 12) (h13 : ¬ ri = 13) (h14 : ¬ ri = 14) (h15 : ¬ ri = 15) (h16 : ¬ ri = 16) : (K_RM_arrive_2L st v1).2.1 ri rk = st ri rk := by
  unfold K_RM_arrive_2L
  repeat' split
  all_goals simp only [plUp_ap, plCp_ap, fr_K_RM_arrive_2L19, h9, h10, h11, h12, h13, h14, h15, h16, false_and, and_false, not_false_eq_true, not_true_eq_false, ↓reduceIte]
theorem fr_F_RM_arrive_2 (c : plS × Int32) (ri rk : Nat) (h9 : ¬ ri = 9) (h10 : ¬ ri = 10) (h11 : ¬ ri = 11) (h12 : ¬ ri = 12) (h13 : ¬ ri = 13) (h14 : ¬ ri = 14) (h15 : ¬ ri = 15) (h16 : ¬ ri = 16) : (F_RM_arrive_2 c).2.1 ri rk = c.1 ri rk := by
  unfold F_RM_arrive_2
  repeat' split
  all_goals simp only [plUp_ap, plCp_ap, fr_K_RM_arrive_2L, h9, h10, h11, h12, h13, h14, h15, h16, false_and, and_false, not_false_eq_true, not_true_eq_false, ↓reduceIte]
theorem frL_F_RM_arrive_2  (nn : Nat) (c : plS × Int32) (ri rk : Nat) (h9 : ¬ ri = 9) (h10 : ¬ ri = 10) (h11 : ¬ ri = 11) (h12 : ¬ ri = 12) (h13 : ¬ ri = 13) (h14 : ¬ ri = 14) (h15 : ¬ ri = 15) (h16 : ¬ ri = 16) : (lpR (F_RM_arrive_2 ) nn c).1 ri rk = c.1 ri rk := lpR_fr (F_RM_arrive_2 ) (fun c => c.1) ri rk (fun c => fr_F_RM_arrive_2  c ri rk h9 h10 h11 h12 h13 h14 h15 h16) nn c
theorem fr_K_RM_arrive_279 (st : plS) (k0 : Int32) (ri rk : Nat) (h0_33 : ¬ (ri = 0 ∧ rk = 33)) : (K_RM_arrive_279 st k0) ri rk = st ri rk := by
  unfold K_RM_arrive_279
  repeat' split
  all_goals simp only [plUp_ap, plCp_ap, h0_33, false_and, and_false, not_false_eq_true, not_true_eq_false, ↓reduceIte]
theorem fr_K_RM_arrive_2X  (c : plS × Int32) (ri rk : Nat) (h0_33 : ¬ (ri = 0 ∧ rk = 33)) : (K_RM_arrive_2X c) ri rk = c.1 ri rk := by
  unfold K_RM_arrive_2X
  repeat' split
  all_goals simp only [plUp_ap, plCp_ap, fr_K_RM_arrive_279, h0_33, false_and, and_false, not_false_eq_true, not_true_eq_false, ↓reduceIte]
theorem fr_K_RM_arrive (st : plS) (ri rk : Nat) (h0_33 : ¬ (ri = 0 ∧ rk = 33)) (h9 : ¬ ri = 9) (h10 : ¬ ri = 10) (h11 : ¬ ri = 11) (h12 : ¬ ri = 12) (h13 : ¬ ri = 13) (h14 : ¬ ri = 14) (h15 : ¬ ri = 15) (h16 : ¬ ri = 16) : (K_RM_arrive st) ri rk = st ri rk := by
  unfold K_RM_arrive
  repeat' split
  all_goals simp only [plUp_ap, plCp_ap, fr_K_RM_arrive_2X, fr_F_RM_arrive_2, frL_F_RM_arrive_2, h0_33, h9, h10, h11, h12, h13, h14, h15, h16, false_and, and_false, not_false_eq_true, not_true_eq_false, ↓reduceIte]
theorem fr_K_RM_listen_19 (st : plS) (ri rk : Nat) (h0_35 : ¬ (ri = 0 ∧ rk = 35)) : (K_RM_listen_19 st) ri rk = st ri rk := by
  unfold K_RM_listen_19
  repeat' split
  all_goals simp only [plUp_ap, plCp_ap, h0_35, false_and, and_false, not_false_eq_true, not_true_eq_false, ↓reduceIte]
theorem fr_K_RM_listen_91 (st : plS) (k0 : Int32) (ri rk : Nat) (h0_34 : ¬ (ri = 0 ∧ rk = 34)) : (K_RM_listen_91 st k0) ri rk = st ri rk := by
  unfold K_RM_listen_91
  repeat' split
  all_goals simp only [plUp_ap, plCp_ap, h0_34, false_and, and_false, not_false_eq_true, not_true_eq_false, ↓reduceIte]
theorem fr_K_RM_listen_74 (st : plS) (v1 : Int32) (ri rk : Nat) (h0_34 : ¬ (ri = 0 ∧ rk = 34)) : (K_RM_listen_74 st v1) ri rk = st ri rk := by
  unfold K_RM_listen_74
  repeat' split
  all_goals simp only [plUp_ap, plCp_ap, fr_K_RM_listen_91, h0_34, false_and, and_false, not_false_eq_true, not_true_eq_false, ↓reduceIte]
theorem fr_K_RM_listen_69 (st : plS) (v1 : Int32) (ri rk : Nat) (h0_34 : ¬ (ri = 0 ∧ rk = 34)) (h0_36 : ¬ (ri = 0 ∧ rk = 36)) : (K_RM_listen_69 st v1) ri rk = st ri rk := by
  unfold K_RM_listen_69
  repeat' split
  all_goals simp only [plUp_ap, plCp_ap, fr_K_RM_listen_74, h0_34, h0_36, false_and, and_false, not_false_eq_true, not_true_eq_false, ↓reduceIte]
theorem fr_K_RM_listen_66 (st : plS) (v1 : Int32) (k0 : Int32) (ri rk : Nat) (h0_34 : ¬ (ri = 0 ∧ rk = 34)) (h0_35 : ¬ (ri = 0 ∧ rk = 35)) (h0_36 : ¬ (ri = 0 ∧ rk = 36)) : (K_RM_listen_66 st v1 k0) ri rk = st ri rk := by
  unfold K_RM_listen_66
  repeat' split
  all_goals simp only [plUp_ap, plCp_ap, fr_K_RM_listen_69, h0_34, h0_35, h0_36, false_and, and_false, not_false_eq_true, not_true_eq_false, ↓reduceIte]
theorem fr_K_RM_listen_65 (st : plS) (v1 : Int32) (ri rk : Nat) (h0_34 : ¬ (ri = 0 ∧ rk = 34)) (h0_35 : ¬ (ri = 0 ∧ rk = 35)) (h0_36 : ¬ (ri = 0 ∧ rk = 36)) : (K_RM_listen_65 st v1) ri rk = st ri rk := by
  unfold K_RM_listen_65
  repeat' split
  all_goals simp only [plUp_ap, plCp_ap, fr_K_RM_listen_66, h0_34, h0_35, h0_36, false_and, and_false, not_false_eq_true, not_true_eq_false, ↓reduceIte]
theorem fr_K_RM_listen (st : plS) (ri rk : Nat) (h0_34 : ¬ (ri = 0 ∧ rk = 34)) (h0_35 : ¬ (ri = 0 ∧ rk = 35)) (h0_36 : ¬ (ri = 0 ∧ rk = 36)) : (K_RM_listen st) ri rk = st ri rk := by
  unfold K_RM_listen
  repeat' split
  all_goals simp only [plUp_ap, plCp_ap, fr_K_RM_listen_19, fr_K_RM_listen_65, fr_K_RM_listen_66, h0_34, h0_35, h0_36, false_and, and_false, not_false_eq_true, not_true_eq_false, ↓reduceIte]
theorem fr_K_RM_decide_147 (st : plS) (k0 : Int32) (ri rk : Nat) (h0_39 : ¬ (ri = 0 ∧ rk = 39)) : (K_RM_decide_147 st k0) ri rk = st ri rk := by
  unfold K_RM_decide_147
  repeat' split
  all_goals simp only [plUp_ap, plCp_ap, h0_39, false_and, and_false, not_false_eq_true, not_true_eq_false, ↓reduceIte]
theorem fr_K_RM_decide_129 (st : plS) (ri rk : Nat) (h0_39 : ¬ (ri = 0 ∧ rk = 39)) : (K_RM_decide_129 st) ri rk = st ri rk := by
  unfold K_RM_decide_129
  repeat' split
  all_goals simp only [plUp_ap, plCp_ap, fr_K_RM_decide_147, h0_39, false_and, and_false, not_false_eq_true, not_true_eq_false, ↓reduceIte]
theorem fr_K_RM_decide_126 (st : plS) (k0 : Int32) (ri rk : Nat) (h0_38 : ¬ (ri = 0 ∧ rk = 38)) (h0_39 : ¬ (ri = 0 ∧ rk = 39)) : (K_RM_decide_126 st k0) ri rk = st ri rk := by
  unfold K_RM_decide_126
  repeat' split
  all_goals simp only [plUp_ap, plCp_ap, fr_K_RM_decide_129, h0_38, h0_39, false_and, and_false, not_false_eq_true, not_true_eq_false, ↓reduceIte]
theorem fr_K_RM_decide_113 (st : plS) (ri rk : Nat) (h0_38 : ¬ (ri = 0 ∧ rk = 38)) (h0_39 : ¬ (ri = 0 ∧ rk = 39)) : (K_RM_decide_113 st) ri rk = st ri rk := by
  unfold K_RM_decide_113
  repeat' split
  all_goals simp only [plUp_ap, plCp_ap, fr_K_RM_decide_126, h0_38, h0_39, false_and, and_false, not_false_eq_true, not_true_eq_false, ↓reduceIte]
theorem fr_K_RM_decide_110 (st : plS) (k0 : Int32) (ri rk : Nat) (h0_38 : ¬ (ri = 0 ∧ rk = 38)) (h0_39 : ¬ (ri = 0 ∧ rk = 39)) : (K_RM_decide_110 st k0) ri rk = st ri rk := by
  unfold K_RM_decide_110
  repeat' split
  all_goals simp only [plUp_ap, plCp_ap, fr_K_RM_decide_113, h0_38, h0_39, false_and, and_false, not_false_eq_true, not_true_eq_false, ↓reduceIte]
theorem fr_K_RM_decide_87 (st : plS) (ri rk : Nat) (h0_39 : ¬ (ri = 0 ∧ rk = 39)) : (K_RM_decide_87 st) ri rk = st ri rk := by
  unfold K_RM_decide_87
  repeat' split
  all_goals simp only [plUp_ap, plCp_ap, h0_39, false_and, and_false, not_false_eq_true, not_true_eq_false, ↓reduceIte]
theorem fr_K_RM_decide_77 (st : plS) (v1 : Int32) (k0 : Int32) (ri rk : Nat) (h0_38 : ¬ (ri = 0 ∧ rk = 38)) (h0_39 : ¬ (ri = 0 ∧ rk = 39)) : (K_RM_decide_77 st v1 k0) ri rk = st ri rk := by
  unfold K_RM_decide_77
  repeat' split
  all_goals simp only [plUp_ap, plCp_ap, fr_K_RM_decide_110, fr_K_RM_decide_87, h0_38, h0_39, false_and, and_false, not_false_eq_true, not_true_eq_false, ↓reduceIte]
theorem fr_K_RM_decide_28 (st : plS) (v1 : Int32) (k0 : Int32) (ri rk : Nat) (h0_38 : ¬ (ri = 0 ∧ rk = 38)) (h0_39 : ¬ (ri = 0 ∧ rk = 39)) : (K_RM_decide_28 st v1 k0) ri rk = st ri rk := by
  unfold K_RM_decide_28
  repeat' split
  all_goals simp only [plUp_ap, plCp_ap, fr_K_RM_decide_77, h0_38, h0_39, false_and, and_false, not_false_eq_true, not_true_eq_false, ↓reduceIte]
theorem fr_K_RM_decide_23 (st : plS) (v1 : Int32) (ri rk : Nat) (h0_38 : ¬ (ri = 0 ∧ rk = 38)) (h0_39 : ¬ (ri = 0 ∧ rk = 39)) : (K_RM_decide_23 st v1) ri rk = st ri rk := by
  unfold K_RM_decide_23
  repeat' split
  all_goals simp only [plUp_ap, plCp_ap, fr_K_RM_decide_28, h0_38, h0_39, false_and, and_false, not_false_eq_true, not_true_eq_false, ↓reduceIte]
theorem fr_K_RM_decide (st : plS) (ri rk : Nat) (h0_38 : ¬ (ri = 0 ∧ rk = 38)) (h0_39 : ¬ (ri = 0 ∧ rk = 39)) : (K_RM_decide st) ri rk = st ri rk := by
  unfold K_RM_decide
  repeat' split
  all_goals simp only [plUp_ap, plCp_ap, fr_K_RM_decide_23, fr_K_RM_decide_28, h0_38, h0_39, false_and, and_false, not_false_eq_true, not_true_eq_false, ↓reduceIte]
theorem fr_K_RM_hunt_10 (st : plS) (ri rk : Nat) (h0_51 : ¬ (ri = 0 ∧ rk = 51)) : (K_RM_hunt_10 st) ri rk = st ri rk := by
  unfold K_RM_hunt_10
  repeat' split
  all_goals simp only [plUp_ap, plCp_ap, h0_51, false_and, and_false, not_false_eq_true, not_true_eq_false, ↓reduceIte]
theorem fr_K_RM_hunt_5 (st : plS) (ri rk : Nat) (h0_50 : ¬ (ri = 0 ∧ rk = 50)) (h0_51 : ¬ (ri = 0 ∧ rk = 51)) : (K_RM_hunt_5 st) ri rk = st ri rk := by
  unfold K_RM_hunt_5
  repeat' split
  all_goals simp only [plUp_ap, plCp_ap, fr_K_RM_hunt_10, h0_50, h0_51, false_and, and_false, not_false_eq_true, not_true_eq_false, ↓reduceIte]
theorem fr_K_RM_hunt (st : plS) (ri rk : Nat) (h0_49 : ¬ (ri = 0 ∧ rk = 49)) (h0_50 : ¬ (ri = 0 ∧ rk = 50)) (h0_51 : ¬ (ri = 0 ∧ rk = 51)) : (K_RM_hunt st) ri rk = st ri rk := by
  unfold K_RM_hunt
  repeat' split
  all_goals simp only [plUp_ap, plCp_ap, fr_K_RM_hunt_5, h0_49, h0_50, h0_51, false_and, and_false, not_false_eq_true, not_true_eq_false, ↓reduceIte]
theorem fr_K_RM_lose_20 (st : plS) (ri rk : Nat) (h0_46 : ¬ (ri = 0 ∧ rk = 46)) : (K_RM_lose_20 st) ri rk = st ri rk := by
  unfold K_RM_lose_20
  repeat' split
  all_goals simp only [plUp_ap, plCp_ap, h0_46, false_and, and_false, not_false_eq_true, not_true_eq_false, ↓reduceIte]
theorem fr_K_RM_lose_15 (st : plS) (ri rk : Nat) (h0_45 : ¬ (ri = 0 ∧ rk = 45)) (h0_46 : ¬ (ri = 0 ∧ rk = 46)) : (K_RM_lose_15 st) ri rk = st ri rk := by
  unfold K_RM_lose_15
  repeat' split
  all_goals simp only [plUp_ap, plCp_ap, fr_K_RM_lose_20, h0_45, h0_46, false_and, and_false, not_false_eq_true, not_true_eq_false, ↓reduceIte]
theorem fr_K_RM_lose_10 (st : plS) (ri rk : Nat) (h0_44 : ¬ (ri = 0 ∧ rk = 44)) (h0_45 : ¬ (ri = 0 ∧ rk = 45)) (h0_46 : ¬ (ri = 0 ∧ rk = 46)) : (K_RM_lose_10 st) ri rk = st ri rk := by
  unfold K_RM_lose_10
  repeat' split
  all_goals simp only [plUp_ap, plCp_ap, fr_K_RM_lose_15, h0_44, h0_45, h0_46, false_and, and_false, not_false_eq_true, not_true_eq_false, ↓reduceIte]
theorem fr_K_RM_lose_5 (st : plS) (ri rk : Nat) (h0_43 : ¬ (ri = 0 ∧ rk = 43)) (h0_44 : ¬ (ri = 0 ∧ rk = 44)) (h0_45 : ¬ (ri = 0 ∧ rk = 45)) (h0_46 : ¬ (ri = 0 ∧ rk = 46)) : (K_RM_lose_5 st) ri rk = st ri rk := by
  unfold K_RM_lose_5
  repeat' split
  all_goals simp only [plUp_ap, plCp_ap, fr_K_RM_lose_10, h0_43, h0_44, h0_45, h0_46, false_and, and_false, not_false_eq_true, not_true_eq_false, ↓reduceIte]
theorem fr_K_RM_lose (st : plS) (ri rk : Nat) (h0_41 : ¬ (ri = 0 ∧ rk = 41)) (h0_43 : ¬ (ri = 0 ∧ rk = 43)) (h0_44 : ¬ (ri = 0 ∧ rk = 44)) (h0_45 : ¬ (ri = 0 ∧ rk = 45)) (h0_46 : ¬ (ri = 0 ∧ rk = 46)) : (K_RM_lose st) ri rk = st ri rk := by
  unfold K_RM_lose
  repeat' split
  all_goals simp only [plUp_ap, plCp_ap, fr_K_RM_lose_5, h0_41, h0_43, h0_44, h0_45, h0_46, false_and, and_false, not_false_eq_true, not_true_eq_false, ↓reduceIte]
theorem fr_K_RM_gap_50 (st : plS) (ri rk : Nat)  : (K_RM_gap_50 st) ri rk = st ri rk := by
  unfold K_RM_gap_50
  repeat' split
  all_goals simp only [plUp_ap, plCp_ap, false_and, and_false, not_false_eq_true, not_true_eq_false, ↓reduceIte]
theorem fr_K_RM_gap_38 (st : plS) (ri rk : Nat) (h0_41 : ¬ (ri = 0 ∧ rk = 41)) (h0_43 : ¬ (ri = 0 ∧ rk = 43)) (h0_44 : ¬ (ri = 0 ∧ rk = 44)) (h0_45 : ¬ (ri = 0 ∧ rk = 45)) (h0_46 : ¬ (ri = 0 ∧ rk = 46)) : (K_RM_gap_38 st) ri rk = st ri rk := by
  unfold K_RM_gap_38
  repeat' split
  all_goals simp only [plUp_ap, plCp_ap, fr_K_RM_gap_50, fr_K_RM_lose, h0_41, h0_43, h0_44, h0_45, h0_46, false_and, and_false, not_false_eq_true, not_true_eq_false, ↓reduceIte]
theorem fr_K_RM_gap_34 (st : plS) (ri rk : Nat) (h0_41 : ¬ (ri = 0 ∧ rk = 41)) (h0_43 : ¬ (ri = 0 ∧ rk = 43)) (h0_44 : ¬ (ri = 0 ∧ rk = 44)) (h0_45 : ¬ (ri = 0 ∧ rk = 45)) (h0_46 : ¬ (ri = 0 ∧ rk = 46)) (h0_49 : ¬ (ri = 0 ∧ rk = 49)) (h0_50 : ¬ (ri = 0 ∧ rk = 50)) (h0_51 : ¬ (ri = 0 ∧ rk = 51)) : (K_RM_gap_34 st) ri rk = st ri rk := by
  unfold K_RM_gap_34
  repeat' split
  all_goals simp only [plUp_ap, plCp_ap, fr_K_RM_gap_38, fr_K_RM_hunt, h0_41, h0_43, h0_44, h0_45, h0_46, h0_49, h0_50, h0_51, false_and, and_false, not_false_eq_true, not_true_eq_false, ↓reduceIte]
theorem fr_K_RM_gap_29 (st : plS) (ri rk : Nat) (h0_41 : ¬ (ri = 0 ∧ rk = 41)) (h0_43 : ¬ (ri = 0 ∧ rk = 43)) (h0_44 : ¬ (ri = 0 ∧ rk = 44)) (h0_45 : ¬ (ri = 0 ∧ rk = 45)) (h0_46 : ¬ (ri = 0 ∧ rk = 46)) (h0_49 : ¬ (ri = 0 ∧ rk = 49)) (h0_50 : ¬ (ri = 0 ∧ rk = 50)) (h0_51 : ¬ (ri = 0 ∧ rk = 51)) : (K_RM_gap_29 st) ri rk = st ri rk := by
  unfold K_RM_gap_29
  repeat' split
  all_goals simp only [plUp_ap, plCp_ap, fr_K_RM_gap_34, h0_41, h0_43, h0_44, h0_45, h0_46, h0_49, h0_50, h0_51, false_and, and_false, not_false_eq_true, not_true_eq_false, ↓reduceIte]
theorem fr_K_RM_gap_26 (st : plS) (k0 : Int32) (ri rk : Nat) (h0_41 : ¬ (ri = 0 ∧ rk = 41)) (h0_43 : ¬ (ri = 0 ∧ rk = 43)) (h0_44 : ¬ (ri = 0 ∧ rk = 44)) (h0_45 : ¬ (ri = 0 ∧ rk = 45)) (h0_46 : ¬ (ri = 0 ∧ rk = 46)) (h0_49 : ¬ (ri = 0 ∧ rk = 49)) (h0_50 : ¬ (ri = 0 ∧ rk = 50)) (h0_51 : ¬ (ri = 0 ∧ rk = 51)) : (K_RM_gap_26 st k0) ri rk = st ri rk := by
  unfold K_RM_gap_26
  repeat' split
  all_goals simp only [plUp_ap, plCp_ap, fr_K_RM_gap_29, h0_41, h0_43, h0_44, h0_45, h0_46, h0_49, h0_50, h0_51, false_and, and_false, not_false_eq_true, not_true_eq_false, ↓reduceIte]
theorem fr_K_RM_gap_10 (st : plS) (ri rk : Nat) (h0_41 : ¬ (ri = 0 ∧ rk = 41)) (h0_43 : ¬ (ri = 0 ∧ rk = 43)) (h0_44 : ¬ (ri = 0 ∧ rk = 44)) (h0_45 : ¬ (ri = 0 ∧ rk = 45)) (h0_46 : ¬ (ri = 0 ∧ rk = 46)) (h0_49 : ¬ (ri = 0 ∧ rk = 49)) (h0_50 : ¬ (ri = 0 ∧ rk = 50)) (h0_51 : ¬ (ri = 0 ∧ rk = 51)) : (K_RM_gap_10 st) ri rk = st ri rk := by
  unfold K_RM_gap_10
  repeat' split
  all_goals simp only [plUp_ap, plCp_ap, fr_K_RM_gap_26, h0_41, h0_43, h0_44, h0_45, h0_46, h0_49, h0_50, h0_51, false_and, and_false, not_false_eq_true, not_true_eq_false, ↓reduceIte]
theorem fr_K_RM_gap (st : plS) (ri rk : Nat) (h0_41 : ¬ (ri = 0 ∧ rk = 41)) (h0_42 : ¬ (ri = 0 ∧ rk = 42)) (h0_43 : ¬ (ri = 0 ∧ rk = 43)) (h0_44 : ¬ (ri = 0 ∧ rk = 44)) (h0_45 : ¬ (ri = 0 ∧ rk = 45)) (h0_46 : ¬ (ri = 0 ∧ rk = 46)) (h0_49 : ¬ (ri = 0 ∧ rk = 49)) (h0_50 : ¬ (ri = 0 ∧ rk = 50)) (h0_51 : ¬ (ri = 0 ∧ rk = 51)) : (K_RM_gap st) ri rk = st ri rk := by
  unfold K_RM_gap
  repeat' split
  all_goals simp only [plUp_ap, plCp_ap, fr_K_RM_gap_10, h0_41, h0_42, h0_43, h0_44, h0_45, h0_46, h0_49, h0_50, h0_51, false_and, and_false, not_false_eq_true, not_true_eq_false, ↓reduceIte]
theorem fr_K_RM_third_48 (st : plS) (k0 : Int32) (ri rk : Nat)  : (K_RM_third_48 st k0).2 ri rk = st ri rk := by
  unfold K_RM_third_48
  repeat' split
  all_goals simp only [plUp_ap, plCp_ap, false_and, and_false, not_false_eq_true, not_true_eq_false, ↓reduceIte]
theorem fr_K_RM_third_47 (st : plS) (ri rk : Nat)  : (K_RM_third_47 st).2 ri rk = st ri rk := by
  unfold K_RM_third_47
  repeat' split
  all_goals simp only [plUp_ap, plCp_ap, fr_K_RM_third_48, false_and, and_false, not_false_eq_true, not_true_eq_false, ↓reduceIte]
theorem fr_K_RM_third_31 (st : plS) (v1 : Int32) (ri rk : Nat)  : (K_RM_third_31 st v1).2 ri rk = st ri rk := by
  unfold K_RM_third_31
  repeat' split
  all_goals simp only [plUp_ap, plCp_ap, fr_K_RM_third_47, fr_K_RM_third_48, false_and, and_false, not_false_eq_true, not_true_eq_false, ↓reduceIte]
theorem fr_K_RM_third_26 (st : plS) (v1 : Int32) (ri rk : Nat) (h0_44 : ¬ (ri = 0 ∧ rk = 44)) : (K_RM_third_26 st v1).2 ri rk = st ri rk := by
  unfold K_RM_third_26
  repeat' split
  all_goals simp only [plUp_ap, plCp_ap, fr_K_RM_third_31, h0_44, false_and, and_false, not_false_eq_true, not_true_eq_false, ↓reduceIte]
theorem fr_K_RM_third_23 (st : plS) (v1 : Int32) (k0 : Int32) (ri rk : Nat) (h0_44 : ¬ (ri = 0 ∧ rk = 44)) (h0_45 : ¬ (ri = 0 ∧ rk = 45)) : (K_RM_third_23 st v1 k0).2 ri rk = st ri rk := by
  unfold K_RM_third_23
  repeat' split
  all_goals simp only [plUp_ap, plCp_ap, fr_K_RM_third_26, h0_44, h0_45, false_and, and_false, not_false_eq_true, not_true_eq_false, ↓reduceIte]
theorem fr_K_RM_third_22 (st : plS) (v1 : Int32) (ri rk : Nat) (h0_44 : ¬ (ri = 0 ∧ rk = 44)) (h0_45 : ¬ (ri = 0 ∧ rk = 45)) : (K_RM_third_22 st v1).2 ri rk = st ri rk := by
  unfold K_RM_third_22
  repeat' split
  all_goals simp only [plUp_ap, plCp_ap, fr_K_RM_third_23, h0_44, h0_45, false_and, and_false, not_false_eq_true, not_true_eq_false, ↓reduceIte]
theorem fr_K_RM_third (st : plS) (v1 : Int32) (ri rk : Nat) (h0_44 : ¬ (ri = 0 ∧ rk = 44)) (h0_45 : ¬ (ri = 0 ∧ rk = 45)) : (K_RM_third st v1).2 ri rk = st ri rk := by
  unfold K_RM_third
  repeat' split
  all_goals simp only [plUp_ap, plCp_ap, fr_K_RM_third_22, fr_K_RM_third_23, h0_44, h0_45, false_and, and_false, not_false_eq_true, not_true_eq_false, ↓reduceIte]
theorem fr_K_RM_found_15 (st : plS) (ri rk : Nat) (h0_46 : ¬ (ri = 0 ∧ rk = 46)) : (K_RM_found_15 st) ri rk = st ri rk := by
  unfold K_RM_found_15
  repeat' split
  all_goals simp only [plUp_ap, plCp_ap, h0_46, false_and, and_false, not_false_eq_true, not_true_eq_false, ↓reduceIte]
theorem fr_K_RM_found_10 (st : plS) (ri rk : Nat) (h0_44 : ¬ (ri = 0 ∧ rk = 44)) (h0_46 : ¬ (ri = 0 ∧ rk = 46)) : (K_RM_found_10 st) ri rk = st ri rk := by
  unfold K_RM_found_10
  repeat' split
  all_goals simp only [plUp_ap, plCp_ap, fr_K_RM_found_15, h0_44, h0_46, false_and, and_false, not_false_eq_true, not_true_eq_false, ↓reduceIte]
theorem fr_K_RM_found_5 (st : plS) (ri rk : Nat) (h0_43 : ¬ (ri = 0 ∧ rk = 43)) (h0_44 : ¬ (ri = 0 ∧ rk = 44)) (h0_46 : ¬ (ri = 0 ∧ rk = 46)) : (K_RM_found_5 st) ri rk = st ri rk := by
  unfold K_RM_found_5
  repeat' split
  all_goals simp only [plUp_ap, plCp_ap, fr_K_RM_found_10, h0_43, h0_44, h0_46, false_and, and_false, not_false_eq_true, not_true_eq_false, ↓reduceIte]
theorem fr_K_RM_found (st : plS) (v1 : Int32) (ri rk : Nat) (h0_41 : ¬ (ri = 0 ∧ rk = 41)) (h0_43 : ¬ (ri = 0 ∧ rk = 43)) (h0_44 : ¬ (ri = 0 ∧ rk = 44)) (h0_46 : ¬ (ri = 0 ∧ rk = 46)) : (K_RM_found st v1) ri rk = st ri rk := by
  unfold K_RM_found
  repeat' split
  all_goals simp only [plUp_ap, plCp_ap, fr_K_RM_found_5, h0_41, h0_43, h0_44, h0_46, false_and, and_false, not_false_eq_true, not_true_eq_false, ↓reduceIte]
theorem fr_K_RM_unread_15q (v1 : Int32) (q : Int32 × plS) (ri rk : Nat) (h0_41 : ¬ (ri = 0 ∧ rk = 41)) (h0_43 : ¬ (ri = 0 ∧ rk = 43)) (h0_44 : ¬ (ri = 0 ∧ rk = 44)) (h0_45 : ¬ (ri = 0 ∧ rk = 45)) (h0_46 : ¬ (ri = 0 ∧ rk = 46)) : (K_RM_unread_15q v1 q).2 ri rk = q.2 ri rk := by
  unfold K_RM_unread_15q
  repeat' split
  all_goals simp only [plUp_ap, plCp_ap, fr_K_RM_lose, fr_K_RM_found, h0_41, h0_43, h0_44, h0_45, h0_46, false_and, and_false, not_false_eq_true, not_true_eq_false, ↓reduceIte]
theorem fr_K_RM_unread_10 (st : plS) (v1 : Int32) (ri rk : Nat) (h0_41 : ¬ (ri = 0 ∧ rk = 41)) (h0_43 : ¬ (ri = 0 ∧ rk = 43)) (h0_44 : ¬ (ri = 0 ∧ rk = 44)) (h0_45 : ¬ (ri = 0 ∧ rk = 45)) (h0_46 : ¬ (ri = 0 ∧ rk = 46)) : (K_RM_unread_10 st v1).2 ri rk = st ri rk := by
  unfold K_RM_unread_10
  repeat' split
  all_goals simp only [plUp_ap, plCp_ap, fr_K_RM_unread_15q, fr_K_RM_third, h0_41, h0_43, h0_44, h0_45, h0_46, false_and, and_false, not_false_eq_true, not_true_eq_false, ↓reduceIte]
theorem fr_K_RM_unread (st : plS) (v1 : Int32) (ri rk : Nat) (h0_41 : ¬ (ri = 0 ∧ rk = 41)) (h0_43 : ¬ (ri = 0 ∧ rk = 43)) (h0_44 : ¬ (ri = 0 ∧ rk = 44)) (h0_45 : ¬ (ri = 0 ∧ rk = 45)) (h0_46 : ¬ (ri = 0 ∧ rk = 46)) : (K_RM_unread st v1).2 ri rk = st ri rk := by
  unfold K_RM_unread
  repeat' split
  all_goals simp only [plUp_ap, plCp_ap, fr_K_RM_unread_10, h0_41, h0_43, h0_44, h0_45, h0_46, false_and, and_false, not_false_eq_true, not_true_eq_false, ↓reduceIte]
theorem fr_K_RM_enter_10 (st : plS) (ri rk : Nat) (h0_53 : ¬ (ri = 0 ∧ rk = 53)) : (K_RM_enter_10 st) ri rk = st ri rk := by
  unfold K_RM_enter_10
  repeat' split
  all_goals simp only [plUp_ap, plCp_ap, h0_53, false_and, and_false, not_false_eq_true, not_true_eq_false, ↓reduceIte]
theorem fr_K_RM_enter_5 (st : plS) (v1 : Int32) (ri rk : Nat) (h0_52 : ¬ (ri = 0 ∧ rk = 52)) (h0_53 : ¬ (ri = 0 ∧ rk = 53)) : (K_RM_enter_5 st v1) ri rk = st ri rk := by
  unfold K_RM_enter_5
  repeat' split
  all_goals simp only [plUp_ap, plCp_ap, fr_K_RM_enter_10, h0_52, h0_53, false_and, and_false, not_false_eq_true, not_true_eq_false, ↓reduceIte]
theorem fr_K_RM_enter (st : plS) (v1 : Int32) (ri rk : Nat) (h0_51 : ¬ (ri = 0 ∧ rk = 51)) (h0_52 : ¬ (ri = 0 ∧ rk = 52)) (h0_53 : ¬ (ri = 0 ∧ rk = 53)) : (K_RM_enter st v1) ri rk = st ri rk := by
  unfold K_RM_enter
  repeat' split
  all_goals simp only [plUp_ap, plCp_ap, fr_K_RM_enter_5, h0_51, h0_52, h0_53, false_and, and_false, not_false_eq_true, not_true_eq_false, ↓reduceIte]
theorem fr_K_RM_mend_85 (st : plS) (ri rk : Nat)  : (K_RM_mend_85 st) ri rk = st ri rk := by
  unfold K_RM_mend_85
  repeat' split
  all_goals simp only [plUp_ap, plCp_ap, false_and, and_false, not_false_eq_true, not_true_eq_false, ↓reduceIte]
theorem fr_K_RM_mend_5X (st : plS) (v1 : Int32) (v2 : Int32) (c : Int32 × Int32) (ri rk : Nat) (h0_49 : ¬ (ri = 0 ∧ rk = 49)) (h0_50 : ¬ (ri = 0 ∧ rk = 50)) (h0_51 : ¬ (ri = 0 ∧ rk = 51)) (h0_52 : ¬ (ri = 0 ∧ rk = 52)) (h0_53 : ¬ (ri = 0 ∧ rk = 53)) : (K_RM_mend_5X st v1 v2 c) ri rk = st ri rk := by
  unfold K_RM_mend_5X
  repeat' split
  all_goals simp only [plUp_ap, plCp_ap, fr_K_RM_mend_85, fr_K_RM_enter, fr_K_RM_hunt, h0_49, h0_50, h0_51, h0_52, h0_53, false_and, and_false, not_false_eq_true, not_true_eq_false, ↓reduceIte]
theorem fr_K_RM_mend (st : plS) (v1 : Int32) (v2 : Int32) (ri rk : Nat) (h0_49 : ¬ (ri = 0 ∧ rk = 49)) (h0_50 : ¬ (ri = 0 ∧ rk = 50)) (h0_51 : ¬ (ri = 0 ∧ rk = 51)) (h0_52 : ¬ (ri = 0 ∧ rk = 52)) (h0_53 : ¬ (ri = 0 ∧ rk = 53)) : (K_RM_mend st v1 v2) ri rk = st ri rk := by
  unfold K_RM_mend
  repeat' split
  all_goals simp only [plUp_ap, plCp_ap, fr_K_RM_mend_5X, h0_49, h0_50, h0_51, h0_52, h0_53, false_and, and_false, not_false_eq_true, not_true_eq_false, ↓reduceIte]
theorem fr_K_RM_pair_83 (st : plS) (ri rk : Nat)  : (K_RM_pair_83 st) ri rk = st ri rk := by
  unfold K_RM_pair_83
  repeat' split
  all_goals simp only [plUp_ap, plCp_ap, false_and, and_false, not_false_eq_true, not_true_eq_false, ↓reduceIte]
theorem fr_K_RM_pair_35 (st : plS) (v1 : Int32) (ri rk : Nat) (h0_51 : ¬ (ri = 0 ∧ rk = 51)) (h0_52 : ¬ (ri = 0 ∧ rk = 52)) (h0_53 : ¬ (ri = 0 ∧ rk = 53)) : (K_RM_pair_35 st v1) ri rk = st ri rk := by
  unfold K_RM_pair_35
  repeat' split
  all_goals simp only [plUp_ap, plCp_ap, fr_K_RM_pair_83, fr_K_RM_enter, h0_51, h0_52, h0_53, false_and, and_false, not_false_eq_true, not_true_eq_false, ↓reduceIte]
theorem fr_K_RM_pair_32 (st : plS) (v1 : Int32) (k0 : Int32) (ri rk : Nat) (h0_49 : ¬ (ri = 0 ∧ rk = 49)) (h0_51 : ¬ (ri = 0 ∧ rk = 51)) (h0_52 : ¬ (ri = 0 ∧ rk = 52)) (h0_53 : ¬ (ri = 0 ∧ rk = 53)) : (K_RM_pair_32 st v1 k0) ri rk = st ri rk := by
  unfold K_RM_pair_32
  repeat' split
  all_goals simp only [plUp_ap, plCp_ap, fr_K_RM_pair_35, h0_49, h0_51, h0_52, h0_53, false_and, and_false, not_false_eq_true, not_true_eq_false, ↓reduceIte]
theorem fr_K_RM_pair_5 (st : plS) (v1 : Int32) (v2 : Int32) (ri rk : Nat) (h0_49 : ¬ (ri = 0 ∧ rk = 49)) (h0_50 : ¬ (ri = 0 ∧ rk = 50)) (h0_51 : ¬ (ri = 0 ∧ rk = 51)) (h0_52 : ¬ (ri = 0 ∧ rk = 52)) (h0_53 : ¬ (ri = 0 ∧ rk = 53)) : (K_RM_pair_5 st v1 v2) ri rk = st ri rk := by
  unfold K_RM_pair_5
  repeat' split
  all_goals simp only [plUp_ap, plCp_ap, fr_K_RM_pair_83, fr_K_RM_hunt, fr_K_RM_mend, fr_K_RM_pair_32, h0_49, h0_50, h0_51, h0_52, h0_53, false_and, and_false, not_false_eq_true, not_true_eq_false, ↓reduceIte]
theorem fr_K_RM_pair (st : plS) (v1 : Int32) (v2 : Int32) (ri rk : Nat) (h0_49 : ¬ (ri = 0 ∧ rk = 49)) (h0_50 : ¬ (ri = 0 ∧ rk = 50)) (h0_51 : ¬ (ri = 0 ∧ rk = 51)) (h0_52 : ¬ (ri = 0 ∧ rk = 52)) (h0_53 : ¬ (ri = 0 ∧ rk = 53)) : (K_RM_pair st v1 v2) ri rk = st ri rk := by
  unfold K_RM_pair
  repeat' split
  all_goals simp only [plUp_ap, plCp_ap, fr_K_RM_pair_5, h0_49, h0_50, h0_51, h0_52, h0_53, false_and, and_false, not_false_eq_true, not_true_eq_false, ↓reduceIte]
theorem fr_K_RM_finish_96L (st : plS) (v3 : Int32) (ri rk : Nat) (h18 : ¬ ri = 18) : (K_RM_finish_96L st v3).2.1 ri rk = st ri rk := by
  unfold K_RM_finish_96L
  repeat' split
  all_goals simp only [plUp_ap, plCp_ap, h18, false_and, and_false, not_false_eq_true, not_true_eq_false, ↓reduceIte]
theorem fr_F_RM_finish_96 (c : plS × Int32) (ri rk : Nat) (h18 : ¬ ri = 18) : (F_RM_finish_96 c).2.1 ri rk = c.1 ri rk := by
  unfold F_RM_finish_96
  repeat' split
  all_goals simp only [plUp_ap, plCp_ap, fr_K_RM_finish_96L, h18, false_and, and_false, not_false_eq_true, not_true_eq_false, ↓reduceIte]
theorem frL_F_RM_finish_96  (nn : Nat) (c : plS × Int32) (ri rk : Nat) (h18 : ¬ ri = 18) : (lpR (F_RM_finish_96 ) nn c).1 ri rk = c.1 ri rk := lpR_fr (F_RM_finish_96 ) (fun c => c.1) ri rk (fun c => fr_F_RM_finish_96  c ri rk h18) nn c
theorem fr_K_RM_finish_137L (st : plS) (v3 : Int32) (ri rk : Nat) (h18 : ¬ ri = 18) : (K_RM_finish_137L st v3).2.1 ri rk = st ri rk := by
  unfold K_RM_finish_137L
  repeat' split
  all_goals simp only [plUp_ap, plCp_ap, h18, false_and, and_false, not_false_eq_true, not_true_eq_false, ↓reduceIte]
theorem fr_F_RM_finish_137 (c : plS × Int32) (ri rk : Nat) (h18 : ¬ ri = 18) : (F_RM_finish_137 c).2.1 ri rk = c.1 ri rk := by
  unfold F_RM_finish_137
  repeat' split
  all_goals simp only [plUp_ap, plCp_ap, fr_K_RM_finish_137L, h18, false_and, and_false, not_false_eq_true, not_true_eq_false, ↓reduceIte]
theorem frL_F_RM_finish_137  (nn : Nat) (c : plS × Int32) (ri rk : Nat) (h18 : ¬ ri = 18) : (lpR (F_RM_finish_137 ) nn c).1 ri rk = c.1 ri rk := lpR_fr (F_RM_finish_137 ) (fun c => c.1) ri rk (fun c => fr_F_RM_finish_137  c ri rk h18) nn c
theorem fr_K_RM_finish_137X  (c : plS × Int32) (ri rk : Nat) (h0_56 : ¬ (ri = 0 ∧ rk = 56)) : (K_RM_finish_137X c) ri rk = c.1 ri rk := by
  unfold K_RM_finish_137X
  repeat' split
  all_goals simp only [plUp_ap, plCp_ap, h0_56, false_and, and_false, not_false_eq_true, not_true_eq_false, ↓reduceIte]
theorem fr_K_RM_finish_96X  (c : plS × Int32) (ri rk : Nat) (h0_56 : ¬ (ri = 0 ∧ rk = 56)) (h18 : ¬ ri = 18) : (K_RM_finish_96X c) ri rk = c.1 ri rk := by
  unfold K_RM_finish_96X
  repeat' split
  all_goals simp only [plUp_ap, plCp_ap, fr_K_RM_finish_137X, fr_F_RM_finish_137, frL_F_RM_finish_137, h0_56, h18, false_and, and_false, not_false_eq_true, not_true_eq_false, ↓reduceIte]
theorem fr_K_RM_finish_77 (st : plS) (k0 : Int32) (ri rk : Nat) (h0_56 : ¬ (ri = 0 ∧ rk = 56)) (h0_57 : ¬ (ri = 0 ∧ rk = 57)) (h18 : ¬ ri = 18) : (K_RM_finish_77 st k0) ri rk = st ri rk := by
  unfold K_RM_finish_77
  repeat' split
  all_goals simp only [plUp_ap, plCp_ap, fr_K_RM_finish_96X, fr_F_RM_finish_96, frL_F_RM_finish_96, h0_56, h0_57, h18, false_and, and_false, not_false_eq_true, not_true_eq_false, ↓reduceIte]
theorem fr_K_RM_finish_76 (st : plS) (ri rk : Nat) (h0_56 : ¬ (ri = 0 ∧ rk = 56)) (h0_57 : ¬ (ri = 0 ∧ rk = 57)) (h18 : ¬ ri = 18) : (K_RM_finish_76 st) ri rk = st ri rk := by
  unfold K_RM_finish_76
  repeat' split
  all_goals simp only [plUp_ap, plCp_ap, fr_K_RM_finish_77, h0_56, h0_57, h18, false_and, and_false, not_false_eq_true, not_true_eq_false, ↓reduceIte]
theorem fr_K_RM_finish_40 (st : plS) (v1 : Int32) (ri rk : Nat) (h0_56 : ¬ (ri = 0 ∧ rk = 56)) (h0_57 : ¬ (ri = 0 ∧ rk = 57)) (h18 : ¬ ri = 18) : (K_RM_finish_40 st v1) ri rk = st ri rk := by
  unfold K_RM_finish_40
  repeat' split
  all_goals simp only [plUp_ap, plCp_ap, fr_K_RM_finish_76, fr_K_RM_finish_77, h0_56, h0_57, h18, false_and, and_false, not_false_eq_true, not_true_eq_false, ↓reduceIte]
theorem fr_K_RM_finish_6X (st : plS) (c : Int32 × Int32) (ri rk : Nat) (h0_56 : ¬ (ri = 0 ∧ rk = 56)) (h0_57 : ¬ (ri = 0 ∧ rk = 57)) (h18 : ¬ ri = 18) : (K_RM_finish_6X st c) ri rk = st ri rk := by
  unfold K_RM_finish_6X
  repeat' split
  all_goals simp only [plUp_ap, plCp_ap, fr_K_RM_finish_40, h0_56, h0_57, h18, false_and, and_false, not_false_eq_true, not_true_eq_false, ↓reduceIte]
theorem fr_K_RM_finish (st : plS) (ri rk : Nat) (h0_56 : ¬ (ri = 0 ∧ rk = 56)) (h0_57 : ¬ (ri = 0 ∧ rk = 57)) (h18 : ¬ ri = 18) : (K_RM_finish st) ri rk = st ri rk := by
  unfold K_RM_finish
  repeat' split
  all_goals simp only [plUp_ap, plCp_ap, fr_K_RM_finish_6X, h0_56, h0_57, h18, false_and, and_false, not_false_eq_true, not_true_eq_false, ↓reduceIte]
theorem fr_K_RM_content_71 (st : plS) (ri rk : Nat)  : (K_RM_content_71 st) ri rk = st ri rk := by
  unfold K_RM_content_71
  repeat' split
  all_goals simp only [plUp_ap, plCp_ap, false_and, and_false, not_false_eq_true, not_true_eq_false, ↓reduceIte]
theorem fr_K_RM_content_60 (st : plS) (ri rk : Nat) (h0_56 : ¬ (ri = 0 ∧ rk = 56)) (h0_57 : ¬ (ri = 0 ∧ rk = 57)) (h18 : ¬ ri = 18) : (K_RM_content_60 st) ri rk = st ri rk := by
  unfold K_RM_content_60
  repeat' split
  all_goals simp only [plUp_ap, plCp_ap, fr_K_RM_content_71, fr_K_RM_finish, h0_56, h0_57, h18, false_and, and_false, not_false_eq_true, not_true_eq_false, ↓reduceIte]
theorem fr_K_RM_content_50 (st : plS) (ri rk : Nat) (h0_53 : ¬ (ri = 0 ∧ rk = 53)) (h0_56 : ¬ (ri = 0 ∧ rk = 56)) (h0_57 : ¬ (ri = 0 ∧ rk = 57)) (h18 : ¬ ri = 18) : (K_RM_content_50 st) ri rk = st ri rk := by
  unfold K_RM_content_50
  repeat' split
  all_goals simp only [plUp_ap, plCp_ap, fr_K_RM_content_60, h0_53, h0_56, h0_57, h18, false_and, and_false, not_false_eq_true, not_true_eq_false, ↓reduceIte]
theorem fr_K_RM_content_22 (st : plS) (v2 : Int32) (ri rk : Nat) (h0_53 : ¬ (ri = 0 ∧ rk = 53)) (h0_56 : ¬ (ri = 0 ∧ rk = 56)) (h0_57 : ¬ (ri = 0 ∧ rk = 57)) (h17 : ¬ ri = 17) (h18 : ¬ ri = 18) : (K_RM_content_22 st v2) ri rk = st ri rk := by
  unfold K_RM_content_22
  repeat' split
  all_goals simp only [plUp_ap, plCp_ap, fr_K_RM_content_50, h0_53, h0_56, h0_57, h17, h18, false_and, and_false, not_false_eq_true, not_true_eq_false, ↓reduceIte]
theorem fr_K_RM_content_12 (st : plS) (v2 : Int32) (ri rk : Nat) (h0_51 : ¬ (ri = 0 ∧ rk = 51)) (h0_53 : ¬ (ri = 0 ∧ rk = 53)) (h0_56 : ¬ (ri = 0 ∧ rk = 56)) (h0_57 : ¬ (ri = 0 ∧ rk = 57)) (h17 : ¬ ri = 17) (h18 : ¬ ri = 18) : (K_RM_content_12 st v2) ri rk = st ri rk := by
  unfold K_RM_content_12
  repeat' split
  all_goals simp only [plUp_ap, plCp_ap, fr_K_RM_content_22, h0_51, h0_53, h0_56, h0_57, h17, h18, false_and, and_false, not_false_eq_true, not_true_eq_false, ↓reduceIte]
theorem fr_K_RM_content (st : plS) (v1 : Int32) (ri rk : Nat) (h0_51 : ¬ (ri = 0 ∧ rk = 51)) (h0_53 : ¬ (ri = 0 ∧ rk = 53)) (h0_54 : ¬ (ri = 0 ∧ rk = 54)) (h0_56 : ¬ (ri = 0 ∧ rk = 56)) (h0_57 : ¬ (ri = 0 ∧ rk = 57)) (h17 : ¬ ri = 17) (h18 : ¬ ri = 18) : (K_RM_content st v1) ri rk = st ri rk := by
  unfold K_RM_content
  repeat' split
  all_goals simp only [plUp_ap, plCp_ap, fr_K_RM_content_12, h0_51, h0_53, h0_54, h0_56, h0_57, h17, h18, false_and, and_false, not_false_eq_true, not_true_eq_false, ↓reduceIte]
theorem fr_K_RM_take_39 (st : plS) (ri rk : Nat)  : (K_RM_take_39 st) ri rk = st ri rk := by
  unfold K_RM_take_39
  repeat' split
  all_goals simp only [plUp_ap, plCp_ap, false_and, and_false, not_false_eq_true, not_true_eq_false, ↓reduceIte]
theorem fr_K_RM_take (st : plS) (v1 : Int32) (ri rk : Nat) (h0_49 : ¬ (ri = 0 ∧ rk = 49)) (h0_50 : ¬ (ri = 0 ∧ rk = 50)) (h0_51 : ¬ (ri = 0 ∧ rk = 51)) (h0_52 : ¬ (ri = 0 ∧ rk = 52)) (h0_53 : ¬ (ri = 0 ∧ rk = 53)) (h0_54 : ¬ (ri = 0 ∧ rk = 54)) (h0_56 : ¬ (ri = 0 ∧ rk = 56)) (h0_57 : ¬ (ri = 0 ∧ rk = 57)) (h17 : ¬ ri = 17) (h18 : ¬ ri = 18) : (K_RM_take st v1) ri rk = st ri rk := by
  unfold K_RM_take
  repeat' split
  all_goals simp only [plUp_ap, plCp_ap, fr_K_RM_take_39, fr_K_RM_pair, fr_K_RM_content, h0_49, h0_50, h0_51, h0_52, h0_53, h0_54, h0_56, h0_57, h17, h18, false_and, and_false, not_false_eq_true, not_true_eq_false, ↓reduceIte]
theorem fr_K_RM_give_85 (st : plS) (v1 : Int32) (ri rk : Nat) (h0_47 : ¬ (ri = 0 ∧ rk = 47)) : (K_RM_give_85 st v1) ri rk = st ri rk := by
  unfold K_RM_give_85
  repeat' split
  all_goals simp only [plUp_ap, plCp_ap, h0_47, false_and, and_false, not_false_eq_true, not_true_eq_false, ↓reduceIte]
theorem fr_K_RM_give_80 (st : plS) (v1 : Int32) (ri rk : Nat) (h0_46 : ¬ (ri = 0 ∧ rk = 46)) (h0_47 : ¬ (ri = 0 ∧ rk = 47)) : (K_RM_give_80 st v1) ri rk = st ri rk := by
  unfold K_RM_give_80
  repeat' split
  all_goals simp only [plUp_ap, plCp_ap, fr_K_RM_give_85, h0_46, h0_47, false_and, and_false, not_false_eq_true, not_true_eq_false, ↓reduceIte]
theorem fr_K_RM_give_47 (st : plS) (v1 : Int32) (ri rk : Nat) (h0_49 : ¬ (ri = 0 ∧ rk = 49)) (h0_50 : ¬ (ri = 0 ∧ rk = 50)) (h0_51 : ¬ (ri = 0 ∧ rk = 51)) (h0_52 : ¬ (ri = 0 ∧ rk = 52)) (h0_53 : ¬ (ri = 0 ∧ rk = 53)) (h0_54 : ¬ (ri = 0 ∧ rk = 54)) (h0_56 : ¬ (ri = 0 ∧ rk = 56)) (h0_57 : ¬ (ri = 0 ∧ rk = 57)) (h17 : ¬ ri = 17) (h18 : ¬ ri = 18) : (K_RM_give_47 st v1) ri rk = st ri rk := by
  unfold K_RM_give_47
  repeat' split
  all_goals simp only [plUp_ap, plCp_ap, fr_K_RM_take, h0_49, h0_50, h0_51, h0_52, h0_53, h0_54, h0_56, h0_57, h17, h18, false_and, and_false, not_false_eq_true, not_true_eq_false, ↓reduceIte]
theorem fr_K_RM_give_44 (st : plS) (v1 : Int32) (k0 : Int32) (ri rk : Nat) (h0_46 : ¬ (ri = 0 ∧ rk = 46)) (h0_49 : ¬ (ri = 0 ∧ rk = 49)) (h0_50 : ¬ (ri = 0 ∧ rk = 50)) (h0_51 : ¬ (ri = 0 ∧ rk = 51)) (h0_52 : ¬ (ri = 0 ∧ rk = 52)) (h0_53 : ¬ (ri = 0 ∧ rk = 53)) (h0_54 : ¬ (ri = 0 ∧ rk = 54)) (h0_56 : ¬ (ri = 0 ∧ rk = 56)) (h0_57 : ¬ (ri = 0 ∧ rk = 57)) (h17 : ¬ ri = 17) (h18 : ¬ ri = 18) : (K_RM_give_44 st v1 k0) ri rk = st ri rk := by
  unfold K_RM_give_44
  repeat' split
  all_goals simp only [plUp_ap, plCp_ap, fr_K_RM_give_47, h0_46, h0_49, h0_50, h0_51, h0_52, h0_53, h0_54, h0_56, h0_57, h17, h18, false_and, and_false, not_false_eq_true, not_true_eq_false, ↓reduceIte]
theorem fr_K_RM_give_40 (st : plS) (v1 : Int32) (ri rk : Nat) (h0_46 : ¬ (ri = 0 ∧ rk = 46)) (h0_49 : ¬ (ri = 0 ∧ rk = 49)) (h0_50 : ¬ (ri = 0 ∧ rk = 50)) (h0_51 : ¬ (ri = 0 ∧ rk = 51)) (h0_52 : ¬ (ri = 0 ∧ rk = 52)) (h0_53 : ¬ (ri = 0 ∧ rk = 53)) (h0_54 : ¬ (ri = 0 ∧ rk = 54)) (h0_56 : ¬ (ri = 0 ∧ rk = 56)) (h0_57 : ¬ (ri = 0 ∧ rk = 57)) (h17 : ¬ ri = 17) (h18 : ¬ ri = 18) : (K_RM_give_40 st v1) ri rk = st ri rk := by
  unfold K_RM_give_40
  repeat' split
  all_goals simp only [plUp_ap, plCp_ap, fr_K_RM_give_44, h0_46, h0_49, h0_50, h0_51, h0_52, h0_53, h0_54, h0_56, h0_57, h17, h18, false_and, and_false, not_false_eq_true, not_true_eq_false, ↓reduceIte]
theorem fr_K_RM_give_14 (st : plS) (v1 : Int32) (ri rk : Nat) (h0_46 : ¬ (ri = 0 ∧ rk = 46)) (h0_49 : ¬ (ri = 0 ∧ rk = 49)) (h0_50 : ¬ (ri = 0 ∧ rk = 50)) (h0_51 : ¬ (ri = 0 ∧ rk = 51)) (h0_52 : ¬ (ri = 0 ∧ rk = 52)) (h0_53 : ¬ (ri = 0 ∧ rk = 53)) (h0_54 : ¬ (ri = 0 ∧ rk = 54)) (h0_56 : ¬ (ri = 0 ∧ rk = 56)) (h0_57 : ¬ (ri = 0 ∧ rk = 57)) (h17 : ¬ ri = 17) (h18 : ¬ ri = 18) : (K_RM_give_14 st v1) ri rk = st ri rk := by
  unfold K_RM_give_14
  repeat' split
  all_goals simp only [plUp_ap, plCp_ap, fr_K_RM_give_40, fr_K_RM_give_44, h0_46, h0_49, h0_50, h0_51, h0_52, h0_53, h0_54, h0_56, h0_57, h17, h18, false_and, and_false, not_false_eq_true, not_true_eq_false, ↓reduceIte]
theorem fr_K_RM_give (st : plS) (v1 : Int32) (v2 : Int32) (ri rk : Nat) (h0_46 : ¬ (ri = 0 ∧ rk = 46)) (h0_47 : ¬ (ri = 0 ∧ rk = 47)) (h0_48 : ¬ (ri = 0 ∧ rk = 48)) (h0_49 : ¬ (ri = 0 ∧ rk = 49)) (h0_50 : ¬ (ri = 0 ∧ rk = 50)) (h0_51 : ¬ (ri = 0 ∧ rk = 51)) (h0_52 : ¬ (ri = 0 ∧ rk = 52)) (h0_53 : ¬ (ri = 0 ∧ rk = 53)) (h0_54 : ¬ (ri = 0 ∧ rk = 54)) (h0_56 : ¬ (ri = 0 ∧ rk = 56)) (h0_57 : ¬ (ri = 0 ∧ rk = 57)) (h17 : ¬ ri = 17) (h18 : ¬ ri = 18) : (K_RM_give st v1 v2) ri rk = st ri rk := by
  unfold K_RM_give
  repeat' split
  all_goals simp only [plUp_ap, plCp_ap, fr_K_RM_give_14, fr_K_RM_give_80, h0_46, h0_47, h0_48, h0_49, h0_50, h0_51, h0_52, h0_53, h0_54, h0_56, h0_57, h17, h18, false_and, and_false, not_false_eq_true, not_true_eq_false, ↓reduceIte]

