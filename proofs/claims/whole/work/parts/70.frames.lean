theorem plUp_ap (st : plS) (i k : Nat) (v : Int32) (j q : Nat) : plUp st i k v j q = if j = i ∧ q = k then v else st j q := by
  unfold plUp upd
  by_cases h : j = i
  · subst h
    by_cases h2 : q = k
    · simp [h2]
    · simp [h2]
  · simp [h]
theorem plCp_ap (st : plS) (i j sp dp n : Nat) (a q : Nat) : plCp st i j sp dp n a q = if a = j then va_cpy (st i) (st j) sp dp n q else st a q := by
  unfold plCp
  by_cases h : a = j
  · simp [h]
  · simp [h]
theorem lpR_fr {C : Type} (f : C → Bool × C) (pr : C → plS) (ri rk : Nat) (h : ∀ c, pr (f c).2 ri rk = pr c ri rk) : ∀ (n : Nat) (c : C), pr (lpR f n c) ri rk = pr c ri rk := by
  intro n
  induction n with
  | zero => intro c; rfl
  | succ n ih =>
    intro c
    unfold lpR
    by_cases hf : (f c).1 = true
    · rw [if_pos hf, ih, h]
    · rw [if_neg hf, h]
theorem fr_K_SS_makeReady_39L80 (st : plS) (v1 : Int32) (v2 : Int32) (v3 : Int64) (v5 : Int32) (v6 : Int32) (ri rk : Nat) (h2 : ¬ ri = 2) : (K_SS_makeReady_39L80 st v1 v2 v3 v5 v6).2.1 ri rk = st ri rk := by
  unfold K_SS_makeReady_39L80
  repeat' split
  all_goals simp only [plUp_ap, plCp_ap, h2, false_and, and_false, not_false_eq_true, not_true_eq_false, ↓reduceIte]
theorem fr_K_SS_makeReady_39L (st : plS) (v1 : Int32) (v2 : Int32) (v3 : Int64) (v5 : Int32) (v6 : Int32) (ri rk : Nat) (h1_4 : ¬ (ri = 1 ∧ rk = 4)) (h2 : ¬ ri = 2) : (K_SS_makeReady_39L st v1 v2 v3 v5 v6).2.1 ri rk = st ri rk := by
  unfold K_SS_makeReady_39L
  repeat' split
  all_goals simp only [plUp_ap, plCp_ap, fr_K_SS_makeReady_39L80, h1_4, h2, false_and, and_false, not_false_eq_true, not_true_eq_false, ↓reduceIte]
theorem fr_F_SS_makeReady_39 (v1 : Int32) (v2 : Int32) (v3 : Int64) (c : plS × Int32 × Int32) (ri rk : Nat) (h1_4 : ¬ (ri = 1 ∧ rk = 4)) (h2 : ¬ ri = 2) : (F_SS_makeReady_39 v1 v2 v3 c).2.1 ri rk = c.1 ri rk := by
  unfold F_SS_makeReady_39
  repeat' split
  all_goals simp only [plUp_ap, plCp_ap, fr_K_SS_makeReady_39L, h1_4, h2, false_and, and_false, not_false_eq_true, not_true_eq_false, ↓reduceIte]
theorem frL_F_SS_makeReady_39 (v1 : Int32) (v2 : Int32) (v3 : Int64) (nn : Nat) (c : plS × Int32 × Int32) (ri rk : Nat) (h1_4 : ¬ (ri = 1 ∧ rk = 4)) (h2 : ¬ ri = 2) : (lpR (F_SS_makeReady_39 v1 v2 v3) nn c).1 ri rk = c.1 ri rk := lpR_fr (F_SS_makeReady_39 v1 v2 v3) (fun c => c.1) ri rk (fun c => fr_F_SS_makeReady_39 v1 v2 v3 c ri rk h1_4 h2) nn c
theorem fr_K_SS_makeReady_112 (st : plS) (v1 : Int32) (v2 : Int32) (ri rk : Nat) (h2 : ¬ ri = 2) : (K_SS_makeReady_112 st v1 v2) ri rk = st ri rk := by
  unfold K_SS_makeReady_112
  repeat' split
  all_goals simp only [plUp_ap, plCp_ap, h2, false_and, and_false, not_false_eq_true, not_true_eq_false, ↓reduceIte]
theorem fr_K_SS_makeReady_39X (v1 : Int32) (v2 : Int32) (v3 : Int64) (c : plS × Int32 × Int32) (ri rk : Nat) (h1_4 : ¬ (ri = 1 ∧ rk = 4)) (h2 : ¬ ri = 2) : (K_SS_makeReady_39X v1 v2 v3 c) ri rk = c.1 ri rk := by
  unfold K_SS_makeReady_39X
  repeat' split
  all_goals simp only [plUp_ap, plCp_ap, fr_K_SS_makeReady_112, h1_4, h2, false_and, and_false, not_false_eq_true, not_true_eq_false, ↓reduceIte]
theorem fr_K_SS_makeReady_13 (st : plS) (v1 : Int32) (v2 : Int32) (v3 : Int64) (ri rk : Nat) (h1_4 : ¬ (ri = 1 ∧ rk = 4)) (h2 : ¬ ri = 2) : (K_SS_makeReady_13 st v1 v2 v3) ri rk = st ri rk := by
  unfold K_SS_makeReady_13
  repeat' split
  all_goals simp only [plUp_ap, plCp_ap, fr_K_SS_makeReady_39X, fr_F_SS_makeReady_39, frL_F_SS_makeReady_39, h1_4, h2, false_and, and_false, not_false_eq_true, not_true_eq_false, ↓reduceIte]
theorem fr_K_SS_makeReady (st : plS) (v1 : Int32) (v2 : Int32) (v3 : Int64) (ri rk : Nat) (h1_4 : ¬ (ri = 1 ∧ rk = 4)) (h2 : ¬ ri = 2) : (K_SS_makeReady st v1 v2 v3) ri rk = st ri rk := by
  unfold K_SS_makeReady
  repeat' split
  all_goals simp only [plUp_ap, plCp_ap, fr_K_SS_makeReady_13, h1_4, h2, false_and, and_false, not_false_eq_true, not_true_eq_false, ↓reduceIte]
theorem fr_K_SS_enqueue_20 (st : plS) (ri rk : Nat)  : (K_SS_enqueue_20 st).2 ri rk = st ri rk := by
  unfold K_SS_enqueue_20
  repeat' split
  all_goals simp only [plUp_ap, plCp_ap, false_and, and_false, not_false_eq_true, not_true_eq_false, ↓reduceIte]
theorem fr_K_SS_enqueue_57 (st : plS) (ri rk : Nat) (h1_3 : ¬ (ri = 1 ∧ rk = 3)) : (K_SS_enqueue_57 st).2 ri rk = st ri rk := by
  unfold K_SS_enqueue_57
  repeat' split
  all_goals simp only [plUp_ap, plCp_ap, h1_3, false_and, and_false, not_false_eq_true, not_true_eq_false, ↓reduceIte]
theorem fr_K_SS_enqueue_47 (st : plS) (v1 : Int32) (v4 : Int32) (ri rk : Nat) (h1_3 : ¬ (ri = 1 ∧ rk = 3)) (h3 : ¬ ri = 3) : (K_SS_enqueue_47 st v1 v4).2 ri rk = st ri rk := by
  unfold K_SS_enqueue_47
  repeat' split
  all_goals simp only [plUp_ap, plCp_ap, fr_K_SS_enqueue_57, h1_3, h3, false_and, and_false, not_false_eq_true, not_true_eq_false, ↓reduceIte]
theorem fr_K_SS_enqueue (st : plS) (v1 : Int32) (v2 : Int64) (ri rk : Nat) (h1_3 : ¬ (ri = 1 ∧ rk = 3)) (h1_4 : ¬ (ri = 1 ∧ rk = 4)) (h2 : ¬ ri = 2) (h3 : ¬ ri = 3) : (K_SS_enqueue st v1 v2).2 ri rk = st ri rk := by
  unfold K_SS_enqueue
  repeat' split
  all_goals simp only [plUp_ap, plCp_ap, fr_K_SS_enqueue_20, fr_K_SS_enqueue_47, fr_K_SS_makeReady, h1_3, h1_4, h2, h3, false_and, and_false, not_false_eq_true, not_true_eq_false, ↓reduceIte]
theorem fr_K_PL_send_9q  (q : Int32 × plS) (ri rk : Nat)  : (K_PL_send_9q q).2 ri rk = q.2 ri rk := by
  unfold K_PL_send_9q
  repeat' split
  all_goals simp only [plUp_ap, plCp_ap, false_and, and_false, not_false_eq_true, not_true_eq_false, ↓reduceIte]
theorem fr_K_PL_send (st : plS) (v1 : Int32) (v2 : Int64) (ri rk : Nat) (h1_3 : ¬ (ri = 1 ∧ rk = 3)) (h1_4 : ¬ (ri = 1 ∧ rk = 4)) (h2 : ¬ ri = 2) (h3 : ¬ ri = 3) : (K_PL_send st v1 v2).2 ri rk = st ri rk := by
  unfold K_PL_send
  repeat' split
  all_goals simp only [plUp_ap, plCp_ap, fr_K_PL_send_9q, fr_K_SS_enqueue, h1_3, h1_4, h2, h3, false_and, and_false, not_false_eq_true, not_true_eq_false, ↓reduceIte]
theorem fr_K_LA_hear_45 (st : plS) (ri rk : Nat)  : (K_LA_hear_45 st) ri rk = st ri rk := by
  unfold K_LA_hear_45
  repeat' split
  all_goals simp only [plUp_ap, plCp_ap, false_and, and_false, not_false_eq_true, not_true_eq_false, ↓reduceIte]
theorem fr_K_LA_hear_27 (st : plS) (v1 : Int32) (ri rk : Nat) (h7_0 : ¬ (ri = 7 ∧ rk = 0)) : (K_LA_hear_27 st v1) ri rk = st ri rk := by
  unfold K_LA_hear_27
  repeat' split
  all_goals simp only [plUp_ap, plCp_ap, fr_K_LA_hear_45, h7_0, false_and, and_false, not_false_eq_true, not_true_eq_false, ↓reduceIte]
theorem fr_K_LA_hear_22 (st : plS) (v1 : Int32) (ri rk : Nat) (h7_0 : ¬ (ri = 7 ∧ rk = 0)) (h7_1 : ¬ (ri = 7 ∧ rk = 1)) : (K_LA_hear_22 st v1) ri rk = st ri rk := by
  unfold K_LA_hear_22
  repeat' split
  all_goals simp only [plUp_ap, plCp_ap, fr_K_LA_hear_27, h7_0, h7_1, false_and, and_false, not_false_eq_true, not_true_eq_false, ↓reduceIte]
theorem fr_K_LA_hear_19 (st : plS) (v1 : Int32) (k0 : Int32) (ri rk : Nat) (h7_0 : ¬ (ri = 7 ∧ rk = 0)) (h7_1 : ¬ (ri = 7 ∧ rk = 1)) (h7_2 : ¬ (ri = 7 ∧ rk = 2)) : (K_LA_hear_19 st v1 k0) ri rk = st ri rk := by
  unfold K_LA_hear_19
  repeat' split
  all_goals simp only [plUp_ap, plCp_ap, fr_K_LA_hear_22, h7_0, h7_1, h7_2, false_and, and_false, not_false_eq_true, not_true_eq_false, ↓reduceIte]
theorem fr_K_LA_hear (st : plS) (v1 : Int32) (ri rk : Nat) (h7_0 : ¬ (ri = 7 ∧ rk = 0)) (h7_1 : ¬ (ri = 7 ∧ rk = 1)) (h7_2 : ¬ (ri = 7 ∧ rk = 2)) : (K_LA_hear st v1) ri rk = st ri rk := by
  unfold K_LA_hear
  repeat' split
  all_goals simp only [plUp_ap, plCp_ap, fr_K_LA_hear_19, h7_0, h7_1, h7_2, false_and, and_false, not_false_eq_true, not_true_eq_false, ↓reduceIte]
theorem fr_K_NA_justification_51 (st : plS) (v1 : Int32) (ri rk : Nat) (h5_5 : ¬ (ri = 5 ∧ rk = 5)) : (K_NA_justification_51 st v1).2 ri rk = st ri rk := by
  unfold K_NA_justification_51
  repeat' split
  all_goals simp only [plUp_ap, plCp_ap, h5_5, false_and, and_false, not_false_eq_true, not_true_eq_false, ↓reduceIte]
theorem fr_K_NA_justification_40 (st : plS) (k0 : Int32) (ri rk : Nat) (h5_4 : ¬ (ri = 5 ∧ rk = 4)) (h5_5 : ¬ (ri = 5 ∧ rk = 5)) : (K_NA_justification_40 st k0).2 ri rk = st ri rk := by
  unfold K_NA_justification_40
  repeat' split
  all_goals simp only [plUp_ap, plCp_ap, fr_K_NA_justification_51, h5_4, h5_5, false_and, and_false, not_false_eq_true, not_true_eq_false, ↓reduceIte]
theorem fr_K_NA_justification (st : plS) (ri rk : Nat) (h5_4 : ¬ (ri = 5 ∧ rk = 4)) (h5_5 : ¬ (ri = 5 ∧ rk = 5)) : (K_NA_justification st).2 ri rk = st ri rk := by
  unfold K_NA_justification
  repeat' split
  all_goals simp only [plUp_ap, plCp_ap, fr_K_NA_justification_40, h5_4, h5_5, false_and, and_false, not_false_eq_true, not_true_eq_false, ↓reduceIte]
theorem fr_K_SS_begin_85 (st : plS) (ri rk : Nat) (h1_3 : ¬ (ri = 1 ∧ rk = 3)) : (K_SS_begin_85 st) ri rk = st ri rk := by
  unfold K_SS_begin_85
  repeat' split
  all_goals simp only [plUp_ap, plCp_ap, h1_3, false_and, and_false, not_false_eq_true, not_true_eq_false, ↓reduceIte]
theorem fr_K_SS_begin_72 (st : plS) (ri rk : Nat) (h1_2 : ¬ (ri = 1 ∧ rk = 2)) (h1_3 : ¬ (ri = 1 ∧ rk = 3)) : (K_SS_begin_72 st) ri rk = st ri rk := by
  unfold K_SS_begin_72
  repeat' split
  all_goals simp only [plUp_ap, plCp_ap, fr_K_SS_begin_85, h1_2, h1_3, false_and, and_false, not_false_eq_true, not_true_eq_false, ↓reduceIte]
theorem fr_K_SS_begin_49 (st : plS) (ri rk : Nat) (h1_2 : ¬ (ri = 1 ∧ rk = 2)) (h1_3 : ¬ (ri = 1 ∧ rk = 3)) (h4 : ¬ ri = 4) : (K_SS_begin_49 st) ri rk = st ri rk := by
  unfold K_SS_begin_49
  repeat' split
  all_goals simp only [plUp_ap, plCp_ap, fr_K_SS_begin_72, h1_2, h1_3, h4, false_and, and_false, not_false_eq_true, not_true_eq_false, ↓reduceIte]
theorem fr_K_SS_begin_30 (st : plS) (ri rk : Nat) (h1_6 : ¬ (ri = 1 ∧ rk = 6)) : (K_SS_begin_30 st) ri rk = st ri rk := by
  unfold K_SS_begin_30
  repeat' split
  all_goals simp only [plUp_ap, plCp_ap, h1_6, false_and, and_false, not_false_eq_true, not_true_eq_false, ↓reduceIte]
theorem fr_K_SS_begin_21 (st : plS) (ri rk : Nat) (h1_6 : ¬ (ri = 1 ∧ rk = 6)) (h4 : ¬ ri = 4) : (K_SS_begin_21 st) ri rk = st ri rk := by
  unfold K_SS_begin_21
  repeat' split
  all_goals simp only [plUp_ap, plCp_ap, fr_K_SS_begin_30, h1_6, h4, false_and, and_false, not_false_eq_true, not_true_eq_false, ↓reduceIte]
theorem fr_K_SS_begin_5 (st : plS) (ri rk : Nat) (h1_2 : ¬ (ri = 1 ∧ rk = 2)) (h1_3 : ¬ (ri = 1 ∧ rk = 3)) (h1_6 : ¬ (ri = 1 ∧ rk = 6)) (h4 : ¬ ri = 4) : (K_SS_begin_5 st) ri rk = st ri rk := by
  unfold K_SS_begin_5
  repeat' split
  all_goals simp only [plUp_ap, plCp_ap, fr_K_SS_begin_21, fr_K_SS_begin_49, h1_2, h1_3, h1_6, h4, false_and, and_false, not_false_eq_true, not_true_eq_false, ↓reduceIte]
theorem fr_K_SS_begin (st : plS) (ri rk : Nat) (h1_2 : ¬ (ri = 1 ∧ rk = 2)) (h1_3 : ¬ (ri = 1 ∧ rk = 3)) (h1_6 : ¬ (ri = 1 ∧ rk = 6)) (h1_7 : ¬ (ri = 1 ∧ rk = 7)) (h4 : ¬ ri = 4) : (K_SS_begin st) ri rk = st ri rk := by
  unfold K_SS_begin
  repeat' split
  all_goals simp only [plUp_ap, plCp_ap, fr_K_SS_begin_5, h1_2, h1_3, h1_6, h1_7, h4, false_and, and_false, not_false_eq_true, not_true_eq_false, ↓reduceIte]
theorem fr_K_SS_nextByte_15 (st : plS) (ri rk : Nat) (h1_7 : ¬ (ri = 1 ∧ rk = 7)) : (K_SS_nextByte_15 st).2 ri rk = st ri rk := by
  unfold K_SS_nextByte_15
  repeat' split
  all_goals simp only [plUp_ap, plCp_ap, h1_7, false_and, and_false, not_false_eq_true, not_true_eq_false, ↓reduceIte]
theorem fr_K_SS_nextByte (st : plS) (ri rk : Nat) (h1_2 : ¬ (ri = 1 ∧ rk = 2)) (h1_3 : ¬ (ri = 1 ∧ rk = 3)) (h1_6 : ¬ (ri = 1 ∧ rk = 6)) (h1_7 : ¬ (ri = 1 ∧ rk = 7)) (h4 : ¬ ri = 4) : (K_SS_nextByte st).2 ri rk = st ri rk := by
  unfold K_SS_nextByte
  repeat' split
  all_goals simp only [plUp_ap, plCp_ap, fr_K_SS_nextByte_15, fr_K_SS_begin, h1_2, h1_3, h1_6, h1_7, h4, false_and, and_false, not_false_eq_true, not_true_eq_false, ↓reduceIte]
theorem fr_K_CS_nextByte_62 (st : plS) (v1 : Int32) (k0 : Int32) (ri rk : Nat) (h6_1 : ¬ (ri = 6 ∧ rk = 1)) : (K_CS_nextByte_62 st v1 k0).2 ri rk = st ri rk := by
  unfold K_CS_nextByte_62
  repeat' split
  all_goals simp only [plUp_ap, plCp_ap, h6_1, false_and, and_false, not_false_eq_true, not_true_eq_false, ↓reduceIte]
theorem fr_K_CS_nextByte_43 (st : plS) (v1 : Int32) (ri rk : Nat) (h6_1 : ¬ (ri = 6 ∧ rk = 1)) : (K_CS_nextByte_43 st v1).2 ri rk = st ri rk := by
  unfold K_CS_nextByte_43
  repeat' split
  all_goals simp only [plUp_ap, plCp_ap, fr_K_CS_nextByte_62, h6_1, false_and, and_false, not_false_eq_true, not_true_eq_false, ↓reduceIte]
theorem fr_K_CS_nextByte_40 (st : plS) (v1 : Int32) (k0 : Int32) (ri rk : Nat) (h6_1 : ¬ (ri = 6 ∧ rk = 1)) (h6_2 : ¬ (ri = 6 ∧ rk = 2)) : (K_CS_nextByte_40 st v1 k0).2 ri rk = st ri rk := by
  unfold K_CS_nextByte_40
  repeat' split
  all_goals simp only [plUp_ap, plCp_ap, fr_K_CS_nextByte_43, h6_1, h6_2, false_and, and_false, not_false_eq_true, not_true_eq_false, ↓reduceIte]
theorem fr_K_CS_nextByte_21 (st : plS) (k0 : Int32) (ri rk : Nat) (h6_1 : ¬ (ri = 6 ∧ rk = 1)) (h6_2 : ¬ (ri = 6 ∧ rk = 2)) : (K_CS_nextByte_21 st k0).2 ri rk = st ri rk := by
  unfold K_CS_nextByte_21
  repeat' split
  all_goals simp only [plUp_ap, plCp_ap, fr_K_CS_nextByte_40, h6_1, h6_2, false_and, and_false, not_false_eq_true, not_true_eq_false, ↓reduceIte]
theorem fr_K_CS_nextByte_21q  (q : Int32 × plS) (ri rk : Nat) (h6_1 : ¬ (ri = 6 ∧ rk = 1)) (h6_2 : ¬ (ri = 6 ∧ rk = 2)) : (K_CS_nextByte_21q q).2 ri rk = q.2 ri rk := by
  unfold K_CS_nextByte_21q
  repeat' split
  all_goals simp only [plUp_ap, plCp_ap, fr_K_CS_nextByte_21, h6_1, h6_2, false_and, and_false, not_false_eq_true, not_true_eq_false, ↓reduceIte]
theorem fr_K_CS_nextByte (st : plS) (ri rk : Nat) (h1_2 : ¬ (ri = 1 ∧ rk = 2)) (h1_3 : ¬ (ri = 1 ∧ rk = 3)) (h1_6 : ¬ (ri = 1 ∧ rk = 6)) (h1_7 : ¬ (ri = 1 ∧ rk = 7)) (h4 : ¬ ri = 4) (h6_1 : ¬ (ri = 6 ∧ rk = 1)) (h6_2 : ¬ (ri = 6 ∧ rk = 2)) : (K_CS_nextByte st).2 ri rk = st ri rk := by
  unfold K_CS_nextByte
  repeat' split
  all_goals simp only [plUp_ap, plCp_ap, fr_K_CS_nextByte_21, fr_K_CS_nextByte_21q, fr_K_SS_nextByte, h1_2, h1_3, h1_6, h1_7, h4, h6_1, h6_2, false_and, and_false, not_false_eq_true, not_true_eq_false, ↓reduceIte]
theorem fr_K_NA_fill_53L74q (v1 : Int32) (v3 : Int32) (k0 : Int32) (q : Int32 × plS) (ri rk : Nat) (h8 : ¬ ri = 8) : (K_NA_fill_53L74q v1 v3 k0 q).2.1 ri rk = q.2 ri rk := by
  unfold K_NA_fill_53L74q
  repeat' split
  all_goals simp only [plUp_ap, plCp_ap, h8, false_and, and_false, not_false_eq_true, not_true_eq_false, ↓reduceIte]
theorem fr_K_NA_fill_53L (st : plS) (v1 : Int32) (v3 : Int32) (ri rk : Nat) (h1_2 : ¬ (ri = 1 ∧ rk = 2)) (h1_3 : ¬ (ri = 1 ∧ rk = 3)) (h1_6 : ¬ (ri = 1 ∧ rk = 6)) (h1_7 : ¬ (ri = 1 ∧ rk = 7)) (h4 : ¬ ri = 4) (h6_1 : ¬ (ri = 6 ∧ rk = 1)) (h6_2 : ¬ (ri = 6 ∧ rk = 2)) (h8 : ¬ ri = 8) : (K_NA_fill_53L st v1 v3).2.1 ri rk = st ri rk := by
  unfold K_NA_fill_53L
  repeat' split
  all_goals simp only [plUp_ap, plCp_ap, fr_K_NA_fill_53L74q, fr_K_CS_nextByte, h1_2, h1_3, h1_6, h1_7, h4, h6_1, h6_2, h8, false_and, and_false, not_false_eq_true, not_true_eq_false, ↓reduceIte]
theorem fr_F_NA_fill_53 (v1 : Int32) (c : plS × Int32) (ri rk : Nat) (h1_2 : ¬ (ri = 1 ∧ rk = 2)) (h1_3 : ¬ (ri = 1 ∧ rk = 3)) (h1_6 : ¬ (ri = 1 ∧ rk = 6)) (h1_7 : ¬ (ri = 1 ∧ rk = 7)) (h4 : ¬ ri = 4) (h6_1 : ¬ (ri = 6 ∧ rk = 1)) (h6_2 : ¬ (ri = 6 ∧ rk = 2)) (h8 : ¬ ri = 8) : (F_NA_fill_53 v1 c).2.1 ri rk = c.1 ri rk := by
  unfold F_NA_fill_53
  repeat' split
  all_goals simp only [plUp_ap, plCp_ap, fr_K_NA_fill_53L, h1_2, h1_3, h1_6, h1_7, h4, h6_1, h6_2, h8, false_and, and_false, not_false_eq_true, not_true_eq_false, ↓reduceIte]
theorem frL_F_NA_fill_53 (v1 : Int32) (nn : Nat) (c : plS × Int32) (ri rk : Nat) (h1_2 : ¬ (ri = 1 ∧ rk = 2)) (h1_3 : ¬ (ri = 1 ∧ rk = 3)) (h1_6 : ¬ (ri = 1 ∧ rk = 6)) (h1_7 : ¬ (ri = 1 ∧ rk = 7)) (h4 : ¬ ri = 4) (h6_1 : ¬ (ri = 6 ∧ rk = 1)) (h6_2 : ¬ (ri = 6 ∧ rk = 2)) (h8 : ¬ ri = 8) : (lpR (F_NA_fill_53 v1) nn c).1 ri rk = c.1 ri rk := lpR_fr (F_NA_fill_53 v1) (fun c => c.1) ri rk (fun c => fr_F_NA_fill_53 v1 c ri rk h1_2 h1_3 h1_6 h1_7 h4 h6_1 h6_2 h8) nn c
theorem fr_K_NA_fill_53X (v1 : Int32) (c : plS × Int32) (ri rk : Nat) (h5_3 : ¬ (ri = 5 ∧ rk = 3)) : (K_NA_fill_53X v1 c) ri rk = c.1 ri rk := by
  unfold K_NA_fill_53X
  repeat' split
  all_goals simp only [plUp_ap, plCp_ap, h5_3, false_and, and_false, not_false_eq_true, not_true_eq_false, ↓reduceIte]
theorem fr_K_NA_fill_42 (st : plS) (v1 : Int32) (ri rk : Nat) (h1_2 : ¬ (ri = 1 ∧ rk = 2)) (h1_3 : ¬ (ri = 1 ∧ rk = 3)) (h1_6 : ¬ (ri = 1 ∧ rk = 6)) (h1_7 : ¬ (ri = 1 ∧ rk = 7)) (h4 : ¬ ri = 4) (h5_3 : ¬ (ri = 5 ∧ rk = 3)) (h6_1 : ¬ (ri = 6 ∧ rk = 1)) (h6_2 : ¬ (ri = 6 ∧ rk = 2)) (h8 : ¬ ri = 8) : (K_NA_fill_42 st v1) ri rk = st ri rk := by
  unfold K_NA_fill_42
  repeat' split
  all_goals simp only [plUp_ap, plCp_ap, fr_K_NA_fill_53X, fr_F_NA_fill_53, frL_F_NA_fill_53, h1_2, h1_3, h1_6, h1_7, h4, h5_3, h6_1, h6_2, h8, false_and, and_false, not_false_eq_true, not_true_eq_false, ↓reduceIte]
theorem fr_K_NA_fill_35 (st : plS) (v1 : Int32) (ri rk : Nat) (h1_2 : ¬ (ri = 1 ∧ rk = 2)) (h1_3 : ¬ (ri = 1 ∧ rk = 3)) (h1_6 : ¬ (ri = 1 ∧ rk = 6)) (h1_7 : ¬ (ri = 1 ∧ rk = 7)) (h4 : ¬ ri = 4) (h5_3 : ¬ (ri = 5 ∧ rk = 3)) (h6_1 : ¬ (ri = 6 ∧ rk = 1)) (h6_2 : ¬ (ri = 6 ∧ rk = 2)) (h8 : ¬ ri = 8) : (K_NA_fill_35 st v1) ri rk = st ri rk := by
  unfold K_NA_fill_35
  repeat' split
  all_goals simp only [plUp_ap, plCp_ap, fr_K_NA_fill_42, h1_2, h1_3, h1_6, h1_7, h4, h5_3, h6_1, h6_2, h8, false_and, and_false, not_false_eq_true, not_true_eq_false, ↓reduceIte]
theorem fr_K_NA_fill_19 (st : plS) (v1 : Int32) (k0 : Int32) (ri rk : Nat) (h1_2 : ¬ (ri = 1 ∧ rk = 2)) (h1_3 : ¬ (ri = 1 ∧ rk = 3)) (h1_6 : ¬ (ri = 1 ∧ rk = 6)) (h1_7 : ¬ (ri = 1 ∧ rk = 7)) (h4 : ¬ ri = 4) (h5_3 : ¬ (ri = 5 ∧ rk = 3)) (h6_1 : ¬ (ri = 6 ∧ rk = 1)) (h6_2 : ¬ (ri = 6 ∧ rk = 2)) (h8 : ¬ ri = 8) : (K_NA_fill_19 st v1 k0) ri rk = st ri rk := by
  unfold K_NA_fill_19
  repeat' split
  all_goals simp only [plUp_ap, plCp_ap, fr_K_NA_fill_35, h1_2, h1_3, h1_6, h1_7, h4, h5_3, h6_1, h6_2, h8, false_and, and_false, not_false_eq_true, not_true_eq_false, ↓reduceIte]
theorem fr_K_NA_fill (st : plS) (v1 : Int32) (ri rk : Nat) (h1_2 : ¬ (ri = 1 ∧ rk = 2)) (h1_3 : ¬ (ri = 1 ∧ rk = 3)) (h1_6 : ¬ (ri = 1 ∧ rk = 6)) (h1_7 : ¬ (ri = 1 ∧ rk = 7)) (h4 : ¬ ri = 4) (h5_3 : ¬ (ri = 5 ∧ rk = 3)) (h6_1 : ¬ (ri = 6 ∧ rk = 1)) (h6_2 : ¬ (ri = 6 ∧ rk = 2)) (h8 : ¬ ri = 8) : (K_NA_fill st v1) ri rk = st ri rk := by
  unfold K_NA_fill
  repeat' split
  all_goals simp only [plUp_ap, plCp_ap, fr_K_NA_fill_19, h1_2, h1_3, h1_6, h1_7, h4, h5_3, h6_1, h6_2, h8, false_and, and_false, not_false_eq_true, not_true_eq_false, ↓reduceIte]
theorem fr_K_LW_launch_NAc_73L (st : plS) (v3 : Int32) (v4 : Int32) (ri rk : Nat) (h10 : ¬ ri = 10) : (K_LW_launch_NAc_73L st v3 v4).2.1 ri rk = st ri rk := by
  unfold K_LW_launch_NAc_73L
  repeat' split
  all_goals simp only [plUp_ap, plCp_ap, h10, false_and, and_false, not_false_eq_true, not_true_eq_false, ↓reduceIte]
theorem fr_F_LW_launch_NAc_73 (v3 : Int32) (c : plS × Int32) (ri rk : Nat) (h10 : ¬ ri = 10) : (F_LW_launch_NAc_73 v3 c).2.1 ri rk = c.1 ri rk := by
  unfold F_LW_launch_NAc_73
  repeat' split
  all_goals simp only [plUp_ap, plCp_ap, fr_K_LW_launch_NAc_73L, h10, false_and, and_false, not_false_eq_true, not_true_eq_false, ↓reduceIte]
theorem frL_F_LW_launch_NAc_73 (v3 : Int32) (nn : Nat) (c : plS × Int32) (ri rk : Nat) (h10 : ¬ ri = 10) : (lpR (F_LW_launch_NAc_73 v3) nn c).1 ri rk = c.1 ri rk := lpR_fr (F_LW_launch_NAc_73 v3) (fun c => c.1) ri rk (fun c => fr_F_LW_launch_NAc_73 v3 c ri rk h10) nn c
theorem fr_K_LW_launch_NAc_73X (v3 : Int32) (c : plS × Int32) (ri rk : Nat) (h9_3 : ¬ (ri = 9 ∧ rk = 3)) : (K_LW_launch_NAc_73X v3 c) ri rk = c.1 ri rk := by
  unfold K_LW_launch_NAc_73X
  repeat' split
  all_goals simp only [plUp_ap, plCp_ap, h9_3, false_and, and_false, not_false_eq_true, not_true_eq_false, ↓reduceIte]
theorem fr_K_LW_launch_NAc_55 (st : plS) (v1 : Int32) (v3 : Int32) (ri rk : Nat) (h9_3 : ¬ (ri = 9 ∧ rk = 3)) (h10 : ¬ ri = 10) : (K_LW_launch_NAc_55 st v1 v3) ri rk = st ri rk := by
  unfold K_LW_launch_NAc_55
  repeat' split
  all_goals simp only [plUp_ap, plCp_ap, fr_K_LW_launch_NAc_73X, fr_F_LW_launch_NAc_73, frL_F_LW_launch_NAc_73, h9_3, h10, false_and, and_false, not_false_eq_true, not_true_eq_false, ↓reduceIte]
theorem fr_K_LW_launch_NAc_37 (st : plS) (v1 : Int32) (v3 : Int32) (ri rk : Nat) (h9_3 : ¬ (ri = 9 ∧ rk = 3)) (h10 : ¬ ri = 10) : (K_LW_launch_NAc_37 st v1 v3) ri rk = st ri rk := by
  unfold K_LW_launch_NAc_37
  repeat' split
  all_goals simp only [plUp_ap, plCp_ap, fr_K_LW_launch_NAc_55, h9_3, h10, false_and, and_false, not_false_eq_true, not_true_eq_false, ↓reduceIte]
theorem fr_K_LW_launch_NAc_27 (st : plS) (v1 : Int32) (v3 : Int32) (ri rk : Nat) (h9_3 : ¬ (ri = 9 ∧ rk = 3)) (h10 : ¬ ri = 10) : (K_LW_launch_NAc_27 st v1 v3) ri rk = st ri rk := by
  unfold K_LW_launch_NAc_27
  repeat' split
  all_goals simp only [plUp_ap, plCp_ap, fr_K_LW_launch_NAc_37, h9_3, h10, false_and, and_false, not_false_eq_true, not_true_eq_false, ↓reduceIte]
theorem fr_K_LW_launch_NAc_18 (st : plS) (v1 : Int32) (v3 : Int32) (ri rk : Nat) (h9_3 : ¬ (ri = 9 ∧ rk = 3)) (h10 : ¬ ri = 10) : (K_LW_launch_NAc_18 st v1 v3) ri rk = st ri rk := by
  unfold K_LW_launch_NAc_18
  repeat' split
  all_goals simp only [plUp_ap, plCp_ap, fr_K_LW_launch_NAc_27, h9_3, h10, false_and, and_false, not_false_eq_true, not_true_eq_false, ↓reduceIte]
theorem fr_K_LW_launch_NAc (st : plS) (v1 : Int32) (ri rk : Nat) (h9_2 : ¬ (ri = 9 ∧ rk = 2)) (h9_3 : ¬ (ri = 9 ∧ rk = 3)) (h10 : ¬ ri = 10) : (K_LW_launch_NAc st v1) ri rk = st ri rk := by
  unfold K_LW_launch_NAc
  repeat' split
  all_goals simp only [plUp_ap, plCp_ap, fr_K_LW_launch_NAc_18, h9_2, h9_3, h10, false_and, and_false, not_false_eq_true, not_true_eq_false, ↓reduceIte]
theorem fr_K_LP_launch_EMPTY_73L (st : plS) (v3 : Int32) (v4 : Int32) (ri rk : Nat) (h14 : ¬ ri = 14) : (K_LP_launch_EMPTY_73L st v3 v4).2.1 ri rk = st ri rk := by
  unfold K_LP_launch_EMPTY_73L
  repeat' split
  all_goals simp only [plUp_ap, plCp_ap, h14, false_and, and_false, not_false_eq_true, not_true_eq_false, ↓reduceIte]
theorem fr_F_LP_launch_EMPTY_73 (v3 : Int32) (c : plS × Int32) (ri rk : Nat) (h14 : ¬ ri = 14) : (F_LP_launch_EMPTY_73 v3 c).2.1 ri rk = c.1 ri rk := by
  unfold F_LP_launch_EMPTY_73
  repeat' split
  all_goals simp only [plUp_ap, plCp_ap, fr_K_LP_launch_EMPTY_73L, h14, false_and, and_false, not_false_eq_true, not_true_eq_false, ↓reduceIte]
theorem frL_F_LP_launch_EMPTY_73 (v3 : Int32) (nn : Nat) (c : plS × Int32) (ri rk : Nat) (h14 : ¬ ri = 14) : (lpR (F_LP_launch_EMPTY_73 v3) nn c).1 ri rk = c.1 ri rk := lpR_fr (F_LP_launch_EMPTY_73 v3) (fun c => c.1) ri rk (fun c => fr_F_LP_launch_EMPTY_73 v3 c ri rk h14) nn c
theorem fr_K_LP_launch_EMPTY_73X (v3 : Int32) (c : plS × Int32) (ri rk : Nat) (h13_3 : ¬ (ri = 13 ∧ rk = 3)) : (K_LP_launch_EMPTY_73X v3 c) ri rk = c.1 ri rk := by
  unfold K_LP_launch_EMPTY_73X
  repeat' split
  all_goals simp only [plUp_ap, plCp_ap, h13_3, false_and, and_false, not_false_eq_true, not_true_eq_false, ↓reduceIte]
theorem fr_K_LP_launch_EMPTY_55 (st : plS) (v1 : Int32) (v3 : Int32) (ri rk : Nat) (h13_3 : ¬ (ri = 13 ∧ rk = 3)) (h14 : ¬ ri = 14) : (K_LP_launch_EMPTY_55 st v1 v3) ri rk = st ri rk := by
  unfold K_LP_launch_EMPTY_55
  repeat' split
  all_goals simp only [plUp_ap, plCp_ap, fr_K_LP_launch_EMPTY_73X, fr_F_LP_launch_EMPTY_73, frL_F_LP_launch_EMPTY_73, h13_3, h14, false_and, and_false, not_false_eq_true, not_true_eq_false, ↓reduceIte]
theorem fr_K_LP_launch_EMPTY_37 (st : plS) (v1 : Int32) (v3 : Int32) (ri rk : Nat) (h13_3 : ¬ (ri = 13 ∧ rk = 3)) (h14 : ¬ ri = 14) : (K_LP_launch_EMPTY_37 st v1 v3) ri rk = st ri rk := by
  unfold K_LP_launch_EMPTY_37
  repeat' split
  all_goals simp only [plUp_ap, plCp_ap, fr_K_LP_launch_EMPTY_55, h13_3, h14, false_and, and_false, not_false_eq_true, not_true_eq_false, ↓reduceIte]
theorem fr_K_LP_launch_EMPTY_27 (st : plS) (v1 : Int32) (v3 : Int32) (ri rk : Nat) (h13_3 : ¬ (ri = 13 ∧ rk = 3)) (h14 : ¬ ri = 14) : (K_LP_launch_EMPTY_27 st v1 v3) ri rk = st ri rk := by
  unfold K_LP_launch_EMPTY_27
  repeat' split
  all_goals simp only [plUp_ap, plCp_ap, fr_K_LP_launch_EMPTY_37, h13_3, h14, false_and, and_false, not_false_eq_true, not_true_eq_false, ↓reduceIte]
theorem fr_K_LP_launch_EMPTY_18 (st : plS) (v1 : Int32) (v3 : Int32) (ri rk : Nat) (h13_3 : ¬ (ri = 13 ∧ rk = 3)) (h14 : ¬ ri = 14) : (K_LP_launch_EMPTY_18 st v1 v3) ri rk = st ri rk := by
  unfold K_LP_launch_EMPTY_18
  repeat' split
  all_goals simp only [plUp_ap, plCp_ap, fr_K_LP_launch_EMPTY_27, h13_3, h14, false_and, and_false, not_false_eq_true, not_true_eq_false, ↓reduceIte]
theorem fr_K_LP_launch_EMPTY (st : plS) (v1 : Int32) (ri rk : Nat) (h13_2 : ¬ (ri = 13 ∧ rk = 2)) (h13_3 : ¬ (ri = 13 ∧ rk = 3)) (h14 : ¬ ri = 14) : (K_LP_launch_EMPTY st v1) ri rk = st ri rk := by
  unfold K_LP_launch_EMPTY
  repeat' split
  all_goals simp only [plUp_ap, plCp_ap, fr_K_LP_launch_EMPTY_18, h13_2, h13_3, h14, false_and, and_false, not_false_eq_true, not_true_eq_false, ↓reduceIte]
theorem fr_K_LP_launch_NAc_73L (st : plS) (v3 : Int32) (v4 : Int32) (ri rk : Nat) (h14 : ¬ ri = 14) : (K_LP_launch_NAc_73L st v3 v4).2.1 ri rk = st ri rk := by
  unfold K_LP_launch_NAc_73L
  repeat' split
  all_goals simp only [plUp_ap, plCp_ap, h14, false_and, and_false, not_false_eq_true, not_true_eq_false, ↓reduceIte]
theorem fr_F_LP_launch_NAc_73 (v3 : Int32) (c : plS × Int32) (ri rk : Nat) (h14 : ¬ ri = 14) : (F_LP_launch_NAc_73 v3 c).2.1 ri rk = c.1 ri rk := by
  unfold F_LP_launch_NAc_73
  repeat' split
  all_goals simp only [plUp_ap, plCp_ap, fr_K_LP_launch_NAc_73L, h14, false_and, and_false, not_false_eq_true, not_true_eq_false, ↓reduceIte]
theorem frL_F_LP_launch_NAc_73 (v3 : Int32) (nn : Nat) (c : plS × Int32) (ri rk : Nat) (h14 : ¬ ri = 14) : (lpR (F_LP_launch_NAc_73 v3) nn c).1 ri rk = c.1 ri rk := lpR_fr (F_LP_launch_NAc_73 v3) (fun c => c.1) ri rk (fun c => fr_F_LP_launch_NAc_73 v3 c ri rk h14) nn c
theorem fr_K_LP_launch_NAc_73X (v3 : Int32) (c : plS × Int32) (ri rk : Nat) (h13_3 : ¬ (ri = 13 ∧ rk = 3)) : (K_LP_launch_NAc_73X v3 c) ri rk = c.1 ri rk := by
  unfold K_LP_launch_NAc_73X
  repeat' split
  all_goals simp only [plUp_ap, plCp_ap, h13_3, false_and, and_false, not_false_eq_true, not_true_eq_false, ↓reduceIte]
theorem fr_K_LP_launch_NAc_55 (st : plS) (v1 : Int32) (v3 : Int32) (ri rk : Nat) (h13_3 : ¬ (ri = 13 ∧ rk = 3)) (h14 : ¬ ri = 14) : (K_LP_launch_NAc_55 st v1 v3) ri rk = st ri rk := by
  unfold K_LP_launch_NAc_55
  repeat' split
  all_goals simp only [plUp_ap, plCp_ap, fr_K_LP_launch_NAc_73X, fr_F_LP_launch_NAc_73, frL_F_LP_launch_NAc_73, h13_3, h14, false_and, and_false, not_false_eq_true, not_true_eq_false, ↓reduceIte]
theorem fr_K_LP_launch_NAc_37 (st : plS) (v1 : Int32) (v3 : Int32) (ri rk : Nat) (h13_3 : ¬ (ri = 13 ∧ rk = 3)) (h14 : ¬ ri = 14) : (K_LP_launch_NAc_37 st v1 v3) ri rk = st ri rk := by
  unfold K_LP_launch_NAc_37
  repeat' split
  all_goals simp only [plUp_ap, plCp_ap, fr_K_LP_launch_NAc_55, h13_3, h14, false_and, and_false, not_false_eq_true, not_true_eq_false, ↓reduceIte]
theorem fr_K_LP_launch_NAc_27 (st : plS) (v1 : Int32) (v3 : Int32) (ri rk : Nat) (h13_3 : ¬ (ri = 13 ∧ rk = 3)) (h14 : ¬ ri = 14) : (K_LP_launch_NAc_27 st v1 v3) ri rk = st ri rk := by
  unfold K_LP_launch_NAc_27
  repeat' split
  all_goals simp only [plUp_ap, plCp_ap, fr_K_LP_launch_NAc_37, h13_3, h14, false_and, and_false, not_false_eq_true, not_true_eq_false, ↓reduceIte]
theorem fr_K_LP_launch_NAc_18 (st : plS) (v1 : Int32) (v3 : Int32) (ri rk : Nat) (h13_3 : ¬ (ri = 13 ∧ rk = 3)) (h14 : ¬ ri = 14) : (K_LP_launch_NAc_18 st v1 v3) ri rk = st ri rk := by
  unfold K_LP_launch_NAc_18
  repeat' split
  all_goals simp only [plUp_ap, plCp_ap, fr_K_LP_launch_NAc_27, h13_3, h14, false_and, and_false, not_false_eq_true, not_true_eq_false, ↓reduceIte]
theorem fr_K_LP_launch_NAc (st : plS) (v1 : Int32) (ri rk : Nat) (h13_2 : ¬ (ri = 13 ∧ rk = 2)) (h13_3 : ¬ (ri = 13 ∧ rk = 3)) (h14 : ¬ ri = 14) : (K_LP_launch_NAc st v1) ri rk = st ri rk := by
  unfold K_LP_launch_NAc
  repeat' split
  all_goals simp only [plUp_ap, plCp_ap, fr_K_LP_launch_NAc_18, h13_2, h13_3, h14, false_and, and_false, not_false_eq_true, not_true_eq_false, ↓reduceIte]
theorem fr_K_NA_transmit_LW_LP_64 (st : plS) (k1 : Int32) (ri rk : Nat) (h13_2 : ¬ (ri = 13 ∧ rk = 2)) (h13_3 : ¬ (ri = 13 ∧ rk = 3)) (h14 : ¬ ri = 14) : (K_NA_transmit_LW_LP_64 st k1) ri rk = st ri rk := by
  unfold K_NA_transmit_LW_LP_64
  repeat' split
  all_goals simp only [plUp_ap, plCp_ap, fr_K_LP_launch_EMPTY, h13_2, h13_3, h14, false_and, and_false, not_false_eq_true, not_true_eq_false, ↓reduceIte]
theorem fr_K_NA_transmit_LW_LP_64b (st : plS) (k1 : Int32) (ri rk : Nat) (h13_2 : ¬ (ri = 13 ∧ rk = 2)) (h13_3 : ¬ (ri = 13 ∧ rk = 3)) (h14 : ¬ ri = 14) : (K_NA_transmit_LW_LP_64b st k1) ri rk = st ri rk := by
  unfold K_NA_transmit_LW_LP_64b
  repeat' split
  all_goals simp only [plUp_ap, plCp_ap, fr_K_LP_launch_NAc, h13_2, h13_3, h14, false_and, and_false, not_false_eq_true, not_true_eq_false, ↓reduceIte]
theorem fr_K_NA_transmit_LW_LP_44 (st : plS) (v3 : Int32) (k0 : Int32) (k1 : Int32) (ri rk : Nat) (h13_2 : ¬ (ri = 13 ∧ rk = 2)) (h13_3 : ¬ (ri = 13 ∧ rk = 3)) (h14 : ¬ ri = 14) : (K_NA_transmit_LW_LP_44 st v3 k0 k1) ri rk = st ri rk := by
  unfold K_NA_transmit_LW_LP_44
  repeat' split
  all_goals simp only [plUp_ap, plCp_ap, fr_K_NA_transmit_LW_LP_64, fr_K_NA_transmit_LW_LP_64b, h13_2, h13_3, h14, false_and, and_false, not_false_eq_true, not_true_eq_false, ↓reduceIte]
theorem fr_K_NA_transmit_LW_LP_22 (st : plS) (v3 : Int32) (ri rk : Nat) (h13_2 : ¬ (ri = 13 ∧ rk = 2)) (h13_3 : ¬ (ri = 13 ∧ rk = 3)) (h14 : ¬ ri = 14) : (K_NA_transmit_LW_LP_22 st v3) ri rk = st ri rk := by
  unfold K_NA_transmit_LW_LP_22
  repeat' split
  all_goals simp only [plUp_ap, plCp_ap, fr_K_NA_transmit_LW_LP_44, h13_2, h13_3, h14, false_and, and_false, not_false_eq_true, not_true_eq_false, ↓reduceIte]
theorem fr_K_NA_transmit_LW_LP_8 (st : plS) (ri rk : Nat) (h9_2 : ¬ (ri = 9 ∧ rk = 2)) (h9_3 : ¬ (ri = 9 ∧ rk = 3)) (h10 : ¬ ri = 10) (h13_2 : ¬ (ri = 13 ∧ rk = 2)) (h13_3 : ¬ (ri = 13 ∧ rk = 3)) (h14 : ¬ ri = 14) : (K_NA_transmit_LW_LP_8 st) ri rk = st ri rk := by
  unfold K_NA_transmit_LW_LP_8
  repeat' split
  all_goals simp only [plUp_ap, plCp_ap, fr_K_NA_transmit_LW_LP_22, fr_K_LW_launch_NAc, h9_2, h9_3, h10, h13_2, h13_3, h14, false_and, and_false, not_false_eq_true, not_true_eq_false, ↓reduceIte]
theorem fr_K_NA_transmit_LW_LP_5q  (q : Int32 × plS) (ri rk : Nat) (h1_2 : ¬ (ri = 1 ∧ rk = 2)) (h1_3 : ¬ (ri = 1 ∧ rk = 3)) (h1_6 : ¬ (ri = 1 ∧ rk = 6)) (h1_7 : ¬ (ri = 1 ∧ rk = 7)) (h4 : ¬ ri = 4) (h5_3 : ¬ (ri = 5 ∧ rk = 3)) (h6_1 : ¬ (ri = 6 ∧ rk = 1)) (h6_2 : ¬ (ri = 6 ∧ rk = 2)) (h8 : ¬ ri = 8) (h9_2 : ¬ (ri = 9 ∧ rk = 2)) (h9_3 : ¬ (ri = 9 ∧ rk = 3)) (h10 : ¬ ri = 10) (h13_2 : ¬ (ri = 13 ∧ rk = 2)) (h13_3 : ¬ (ri = 13 ∧ rk = 3)) (h14 : ¬ ri = 14) : (K_NA_transmit_LW_LP_5q q) ri rk = q.2 ri rk := by
  unfold K_NA_transmit_LW_LP_5q
  repeat' split
  all_goals simp only [plUp_ap, plCp_ap, fr_K_NA_transmit_LW_LP_8, fr_K_NA_fill, h1_2, h1_3, h1_6, h1_7, h4, h5_3, h6_1, h6_2, h8, h9_2, h9_3, h10, h13_2, h13_3, h14, false_and, and_false, not_false_eq_true, not_true_eq_false, ↓reduceIte]
theorem fr_K_NA_transmit_LW_LP (st : plS) (ri rk : Nat) (h1_2 : ¬ (ri = 1 ∧ rk = 2)) (h1_3 : ¬ (ri = 1 ∧ rk = 3)) (h1_6 : ¬ (ri = 1 ∧ rk = 6)) (h1_7 : ¬ (ri = 1 ∧ rk = 7)) (h4 : ¬ ri = 4) (h5_3 : ¬ (ri = 5 ∧ rk = 3)) (h5_4 : ¬ (ri = 5 ∧ rk = 4)) (h5_5 : ¬ (ri = 5 ∧ rk = 5)) (h6_1 : ¬ (ri = 6 ∧ rk = 1)) (h6_2 : ¬ (ri = 6 ∧ rk = 2)) (h8 : ¬ ri = 8) (h9_2 : ¬ (ri = 9 ∧ rk = 2)) (h9_3 : ¬ (ri = 9 ∧ rk = 3)) (h10 : ¬ ri = 10) (h13_2 : ¬ (ri = 13 ∧ rk = 2)) (h13_3 : ¬ (ri = 13 ∧ rk = 3)) (h14 : ¬ ri = 14) : (K_NA_transmit_LW_LP st) ri rk = st ri rk := by
  unfold K_NA_transmit_LW_LP
  repeat' split
  all_goals simp only [plUp_ap, plCp_ap, fr_K_NA_transmit_LW_LP_5q, fr_K_NA_justification, h1_2, h1_3, h1_6, h1_7, h4, h5_3, h5_4, h5_5, h6_1, h6_2, h8, h9_2, h9_3, h10, h13_2, h13_3, h14, false_and, and_false, not_false_eq_true, not_true_eq_false, ↓reduceIte]
theorem fr_K_JA_fill_LWh_5L (st : plS) (v1 : Int32) (v2 : Int32) (v3 : Int32) (ri rk : Nat) (h11 : ¬ ri = 11) : (K_JA_fill_LWh_5L st v1 v2 v3).2.1 ri rk = st ri rk := by
  unfold K_JA_fill_LWh_5L
  repeat' split
  all_goals simp only [plUp_ap, plCp_ap, h11, false_and, and_false, not_false_eq_true, not_true_eq_false, ↓reduceIte]
theorem fr_F_JA_fill_LWh_5 (v1 : Int32) (v3 : Int32) (c : plS × Int32) (ri rk : Nat) (h11 : ¬ ri = 11) : (F_JA_fill_LWh_5 v1 v3 c).2.1 ri rk = c.1 ri rk := by
  unfold F_JA_fill_LWh_5
  repeat' split
  all_goals simp only [plUp_ap, plCp_ap, fr_K_JA_fill_LWh_5L, h11, false_and, and_false, not_false_eq_true, not_true_eq_false, ↓reduceIte]
theorem frL_F_JA_fill_LWh_5 (v1 : Int32) (v3 : Int32) (nn : Nat) (c : plS × Int32) (ri rk : Nat) (h11 : ¬ ri = 11) : (lpR (F_JA_fill_LWh_5 v1 v3) nn c).1 ri rk = c.1 ri rk := lpR_fr (F_JA_fill_LWh_5 v1 v3) (fun c => c.1) ri rk (fun c => fr_F_JA_fill_LWh_5 v1 v3 c ri rk h11) nn c
theorem fr_K_JA_fill_LWh_5X (v1 : Int32) (v3 : Int32) (c : plS × Int32) (ri rk : Nat)  : (K_JA_fill_LWh_5X v1 v3 c) ri rk = c.1 ri rk := by
  unfold K_JA_fill_LWh_5X
  repeat' split
  all_goals simp only [plUp_ap, plCp_ap, false_and, and_false, not_false_eq_true, not_true_eq_false, ↓reduceIte]
theorem fr_K_JA_fill_LWh (st : plS) (v1 : Int32) (ri rk : Nat) (h11 : ¬ ri = 11) : (K_JA_fill_LWh st v1) ri rk = st ri rk := by
  unfold K_JA_fill_LWh
  repeat' split
  all_goals simp only [plUp_ap, plCp_ap, fr_K_JA_fill_LWh_5X, fr_F_JA_fill_LWh_5, frL_F_JA_fill_LWh_5, h11, false_and, and_false, not_false_eq_true, not_true_eq_false, ↓reduceIte]
theorem fr_K_LW_align_57 (st : plS) (ri rk : Nat)  : (K_LW_align_57 st) ri rk = st ri rk := by
  unfold K_LW_align_57
  repeat' split
  all_goals simp only [plUp_ap, plCp_ap, false_and, and_false, not_false_eq_true, not_true_eq_false, ↓reduceIte]
theorem fr_K_LW_align_52 (st : plS) (ri rk : Nat) (h9_9 : ¬ (ri = 9 ∧ rk = 9)) : (K_LW_align_52 st) ri rk = st ri rk := by
  unfold K_LW_align_52
  repeat' split
  all_goals simp only [plUp_ap, plCp_ap, fr_K_LW_align_57, h9_9, false_and, and_false, not_false_eq_true, not_true_eq_false, ↓reduceIte]
theorem fr_K_LW_align_36 (st : plS) (ri rk : Nat) (h9_9 : ¬ (ri = 9 ∧ rk = 9)) : (K_LW_align_36 st) ri rk = st ri rk := by
  unfold K_LW_align_36
  repeat' split
  all_goals simp only [plUp_ap, plCp_ap, fr_K_LW_align_52, fr_K_LW_align_57, h9_9, false_and, and_false, not_false_eq_true, not_true_eq_false, ↓reduceIte]
theorem fr_K_LW_align_22 (st : plS) (k0 : Int32) (ri rk : Nat) (h9_9 : ¬ (ri = 9 ∧ rk = 9)) : (K_LW_align_22 st k0) ri rk = st ri rk := by
  unfold K_LW_align_22
  repeat' split
  all_goals simp only [plUp_ap, plCp_ap, h9_9, false_and, and_false, not_false_eq_true, not_true_eq_false, ↓reduceIte]
theorem fr_K_LW_align_9 (st : plS) (ri rk : Nat) (h9_9 : ¬ (ri = 9 ∧ rk = 9)) : (K_LW_align_9 st) ri rk = st ri rk := by
  unfold K_LW_align_9
  repeat' split
  all_goals simp only [plUp_ap, plCp_ap, fr_K_LW_align_22, h9_9, false_and, and_false, not_false_eq_true, not_true_eq_false, ↓reduceIte]
theorem fr_K_LW_align (st : plS) (v1 : Int32) (ri rk : Nat) (h9_9 : ¬ (ri = 9 ∧ rk = 9)) (h9_10 : ¬ (ri = 9 ∧ rk = 10)) : (K_LW_align st v1) ri rk = st ri rk := by
  unfold K_LW_align
  repeat' split
  all_goals simp only [plUp_ap, plCp_ap, fr_K_LW_align_36, fr_K_LW_align_9, h9_9, h9_10, false_and, and_false, not_false_eq_true, not_true_eq_false, ↓reduceIte]
theorem fr_K_LW_bringIn_2L (st : plS) (v1 : Int32) (v2 : Int32) (ri rk : Nat) (h12 : ¬ ri = 12) : (K_LW_bringIn_2L st v1 v2).2.1 ri rk = st ri rk := by
  unfold K_LW_bringIn_2L
  repeat' split
  all_goals simp only [plUp_ap, plCp_ap, h12, false_and, and_false, not_false_eq_true, not_true_eq_false, ↓reduceIte]
theorem fr_F_LW_bringIn_2 (v1 : Int32) (c : plS × Int32) (ri rk : Nat) (h12 : ¬ ri = 12) : (F_LW_bringIn_2 v1 c).2.1 ri rk = c.1 ri rk := by
  unfold F_LW_bringIn_2
  repeat' split
  all_goals simp only [plUp_ap, plCp_ap, fr_K_LW_bringIn_2L, h12, false_and, and_false, not_false_eq_true, not_true_eq_false, ↓reduceIte]
theorem frL_F_LW_bringIn_2 (v1 : Int32) (nn : Nat) (c : plS × Int32) (ri rk : Nat) (h12 : ¬ ri = 12) : (lpR (F_LW_bringIn_2 v1) nn c).1 ri rk = c.1 ri rk := lpR_fr (F_LW_bringIn_2 v1) (fun c => c.1) ri rk (fun c => fr_F_LW_bringIn_2 v1 c ri rk h12) nn c
theorem fr_K_LW_bringIn_2X (v1 : Int32) (c : plS × Int32) (ri rk : Nat) (h9_8 : ¬ (ri = 9 ∧ rk = 8)) : (K_LW_bringIn_2X v1 c) ri rk = c.1 ri rk := by
  unfold K_LW_bringIn_2X
  repeat' split
  all_goals simp only [plUp_ap, plCp_ap, h9_8, false_and, and_false, not_false_eq_true, not_true_eq_false, ↓reduceIte]
theorem fr_K_LW_bringIn (st : plS) (v1 : Int32) (ri rk : Nat) (h9_8 : ¬ (ri = 9 ∧ rk = 8)) (h12 : ¬ ri = 12) : (K_LW_bringIn st v1) ri rk = st ri rk := by
  unfold K_LW_bringIn
  repeat' split
  all_goals simp only [plUp_ap, plCp_ap, fr_K_LW_bringIn_2X, fr_F_LW_bringIn_2, frL_F_LW_bringIn_2, h9_8, h12, false_and, and_false, not_false_eq_true, not_true_eq_false, ↓reduceIte]
theorem fr_K_LW_receive_139 (st : plS) (ri rk : Nat)  : (K_LW_receive_139 st) ri rk = st ri rk := by
  unfold K_LW_receive_139
  repeat' split
  all_goals simp only [plUp_ap, plCp_ap, false_and, and_false, not_false_eq_true, not_true_eq_false, ↓reduceIte]
theorem fr_K_LW_receive_109 (st : plS) (v1 : Int32) (v2 : Int32) (ri rk : Nat) (h9_11 : ¬ (ri = 9 ∧ rk = 11)) : (K_LW_receive_109 st v1 v2) ri rk = st ri rk := by
  unfold K_LW_receive_109
  repeat' split
  all_goals simp only [plUp_ap, plCp_ap, fr_K_LW_receive_139, h9_11, false_and, and_false, not_false_eq_true, not_true_eq_false, ↓reduceIte]
theorem fr_K_LW_receive_106 (st : plS) (v1 : Int32) (v2 : Int32) (k0 : Int32) (ri rk : Nat) (h9_9 : ¬ (ri = 9 ∧ rk = 9)) (h9_10 : ¬ (ri = 9 ∧ rk = 10)) (h9_11 : ¬ (ri = 9 ∧ rk = 11)) : (K_LW_receive_106 st v1 v2 k0) ri rk = st ri rk := by
  unfold K_LW_receive_106
  repeat' split
  all_goals simp only [plUp_ap, plCp_ap, fr_K_LW_receive_109, fr_K_LW_align, h9_9, h9_10, h9_11, false_and, and_false, not_false_eq_true, not_true_eq_false, ↓reduceIte]
theorem fr_K_LW_receive_105 (st : plS) (v1 : Int32) (v2 : Int32) (ri rk : Nat) (h9_9 : ¬ (ri = 9 ∧ rk = 9)) (h9_10 : ¬ (ri = 9 ∧ rk = 10)) (h9_11 : ¬ (ri = 9 ∧ rk = 11)) : (K_LW_receive_105 st v1 v2) ri rk = st ri rk := by
  unfold K_LW_receive_105
  repeat' split
  all_goals simp only [plUp_ap, plCp_ap, fr_K_LW_receive_106, h9_9, h9_10, h9_11, false_and, and_false, not_false_eq_true, not_true_eq_false, ↓reduceIte]
theorem fr_K_LW_receive_70 (st : plS) (v1 : Int32) (v2 : Int32) (ri rk : Nat) (h9_9 : ¬ (ri = 9 ∧ rk = 9)) (h9_10 : ¬ (ri = 9 ∧ rk = 10)) (h9_11 : ¬ (ri = 9 ∧ rk = 11)) : (K_LW_receive_70 st v1 v2) ri rk = st ri rk := by
  unfold K_LW_receive_70
  repeat' split
  all_goals simp only [plUp_ap, plCp_ap, fr_K_LW_receive_105, fr_K_LW_receive_106, h9_9, h9_10, h9_11, false_and, and_false, not_false_eq_true, not_true_eq_false, ↓reduceIte]
theorem fr_K_LW_receive_62 (st : plS) (v1 : Int32) (v2 : Int32) (ri rk : Nat) (h9_9 : ¬ (ri = 9 ∧ rk = 9)) (h9_10 : ¬ (ri = 9 ∧ rk = 10)) (h9_11 : ¬ (ri = 9 ∧ rk = 11)) (h11 : ¬ ri = 11) : (K_LW_receive_62 st v1 v2) ri rk = st ri rk := by
  unfold K_LW_receive_62
  repeat' split
  all_goals simp only [plUp_ap, plCp_ap, fr_K_LW_receive_70, fr_K_JA_fill_LWh, h9_9, h9_10, h9_11, h11, false_and, and_false, not_false_eq_true, not_true_eq_false, ↓reduceIte]
theorem fr_K_LW_receive_37 (st : plS) (v1 : Int32) (v2 : Int32) (ri rk : Nat) (h9_8 : ¬ (ri = 9 ∧ rk = 8)) (h9_9 : ¬ (ri = 9 ∧ rk = 9)) (h9_10 : ¬ (ri = 9 ∧ rk = 10)) (h9_11 : ¬ (ri = 9 ∧ rk = 11)) (h11 : ¬ ri = 11) (h12 : ¬ ri = 12) : (K_LW_receive_37 st v1 v2) ri rk = st ri rk := by
  unfold K_LW_receive_37
  repeat' split
  all_goals simp only [plUp_ap, plCp_ap, fr_K_LW_receive_62, fr_K_LW_bringIn, h9_8, h9_9, h9_10, h9_11, h11, h12, false_and, and_false, not_false_eq_true, not_true_eq_false, ↓reduceIte]
theorem fr_K_LW_receive_34 (st : plS) (v1 : Int32) (v2 : Int32) (k0 : Int32) (ri rk : Nat) (h9_7 : ¬ (ri = 9 ∧ rk = 7)) (h9_8 : ¬ (ri = 9 ∧ rk = 8)) (h9_9 : ¬ (ri = 9 ∧ rk = 9)) (h9_10 : ¬ (ri = 9 ∧ rk = 10)) (h9_11 : ¬ (ri = 9 ∧ rk = 11)) (h11 : ¬ ri = 11) (h12 : ¬ ri = 12) : (K_LW_receive_34 st v1 v2 k0) ri rk = st ri rk := by
  unfold K_LW_receive_34
  repeat' split
  all_goals simp only [plUp_ap, plCp_ap, fr_K_LW_receive_37, h9_7, h9_8, h9_9, h9_10, h9_11, h11, h12, false_and, and_false, not_false_eq_true, not_true_eq_false, ↓reduceIte]
theorem fr_K_LW_receive_33 (st : plS) (v1 : Int32) (v2 : Int32) (ri rk : Nat) (h9_7 : ¬ (ri = 9 ∧ rk = 7)) (h9_8 : ¬ (ri = 9 ∧ rk = 8)) (h9_9 : ¬ (ri = 9 ∧ rk = 9)) (h9_10 : ¬ (ri = 9 ∧ rk = 10)) (h9_11 : ¬ (ri = 9 ∧ rk = 11)) (h11 : ¬ ri = 11) (h12 : ¬ ri = 12) : (K_LW_receive_33 st v1 v2) ri rk = st ri rk := by
  unfold K_LW_receive_33
  repeat' split
  all_goals simp only [plUp_ap, plCp_ap, fr_K_LW_receive_34, h9_7, h9_8, h9_9, h9_10, h9_11, h11, h12, false_and, and_false, not_false_eq_true, not_true_eq_false, ↓reduceIte]
theorem fr_K_LW_receive (st : plS) (ri rk : Nat) (h9_7 : ¬ (ri = 9 ∧ rk = 7)) (h9_8 : ¬ (ri = 9 ∧ rk = 8)) (h9_9 : ¬ (ri = 9 ∧ rk = 9)) (h9_10 : ¬ (ri = 9 ∧ rk = 10)) (h9_11 : ¬ (ri = 9 ∧ rk = 11)) (h11 : ¬ ri = 11) (h12 : ¬ ri = 12) : (K_LW_receive st) ri rk = st ri rk := by
  unfold K_LW_receive
  repeat' split
  all_goals simp only [plUp_ap, plCp_ap, fr_K_LW_receive_33, fr_K_LW_receive_34, h9_7, h9_8, h9_9, h9_10, h9_11, h11, h12, false_and, and_false, not_false_eq_true, not_true_eq_false, ↓reduceIte]
theorem fr_K_JA_fill_LPh_5L (st : plS) (v1 : Int32) (v2 : Int32) (v3 : Int32) (ri rk : Nat) (h15 : ¬ ri = 15) : (K_JA_fill_LPh_5L st v1 v2 v3).2.1 ri rk = st ri rk := by
  unfold K_JA_fill_LPh_5L
  repeat' split
  all_goals simp only [plUp_ap, plCp_ap, h15, false_and, and_false, not_false_eq_true, not_true_eq_false, ↓reduceIte]
theorem fr_F_JA_fill_LPh_5 (v1 : Int32) (v3 : Int32) (c : plS × Int32) (ri rk : Nat) (h15 : ¬ ri = 15) : (F_JA_fill_LPh_5 v1 v3 c).2.1 ri rk = c.1 ri rk := by
  unfold F_JA_fill_LPh_5
  repeat' split
  all_goals simp only [plUp_ap, plCp_ap, fr_K_JA_fill_LPh_5L, h15, false_and, and_false, not_false_eq_true, not_true_eq_false, ↓reduceIte]
theorem frL_F_JA_fill_LPh_5 (v1 : Int32) (v3 : Int32) (nn : Nat) (c : plS × Int32) (ri rk : Nat) (h15 : ¬ ri = 15) : (lpR (F_JA_fill_LPh_5 v1 v3) nn c).1 ri rk = c.1 ri rk := lpR_fr (F_JA_fill_LPh_5 v1 v3) (fun c => c.1) ri rk (fun c => fr_F_JA_fill_LPh_5 v1 v3 c ri rk h15) nn c
theorem fr_K_JA_fill_LPh_5X (v1 : Int32) (v3 : Int32) (c : plS × Int32) (ri rk : Nat)  : (K_JA_fill_LPh_5X v1 v3 c) ri rk = c.1 ri rk := by
  unfold K_JA_fill_LPh_5X
  repeat' split
  all_goals simp only [plUp_ap, plCp_ap, false_and, and_false, not_false_eq_true, not_true_eq_false, ↓reduceIte]
theorem fr_K_JA_fill_LPh (st : plS) (v1 : Int32) (ri rk : Nat) (h15 : ¬ ri = 15) : (K_JA_fill_LPh st v1) ri rk = st ri rk := by
  unfold K_JA_fill_LPh
  repeat' split
  all_goals simp only [plUp_ap, plCp_ap, fr_K_JA_fill_LPh_5X, fr_F_JA_fill_LPh_5, frL_F_JA_fill_LPh_5, h15, false_and, and_false, not_false_eq_true, not_true_eq_false, ↓reduceIte]
theorem fr_K_LP_align_57 (st : plS) (ri rk : Nat)  : (K_LP_align_57 st) ri rk = st ri rk := by
  unfold K_LP_align_57
  repeat' split
  all_goals simp only [plUp_ap, plCp_ap, false_and, and_false, not_false_eq_true, not_true_eq_false, ↓reduceIte]
theorem fr_K_LP_align_52 (st : plS) (ri rk : Nat) (h13_9 : ¬ (ri = 13 ∧ rk = 9)) : (K_LP_align_52 st) ri rk = st ri rk := by
  unfold K_LP_align_52
  repeat' split
  all_goals simp only [plUp_ap, plCp_ap, fr_K_LP_align_57, h13_9, false_and, and_false, not_false_eq_true, not_true_eq_false, ↓reduceIte]
theorem fr_K_LP_align_36 (st : plS) (ri rk : Nat) (h13_9 : ¬ (ri = 13 ∧ rk = 9)) : (K_LP_align_36 st) ri rk = st ri rk := by
  unfold K_LP_align_36
  repeat' split
  all_goals simp only [plUp_ap, plCp_ap, fr_K_LP_align_52, fr_K_LP_align_57, h13_9, false_and, and_false, not_false_eq_true, not_true_eq_false, ↓reduceIte]
theorem fr_K_LP_align_22 (st : plS) (k0 : Int32) (ri rk : Nat) (h13_9 : ¬ (ri = 13 ∧ rk = 9)) : (K_LP_align_22 st k0) ri rk = st ri rk := by
  unfold K_LP_align_22
  repeat' split
  all_goals simp only [plUp_ap, plCp_ap, h13_9, false_and, and_false, not_false_eq_true, not_true_eq_false, ↓reduceIte]
theorem fr_K_LP_align_9 (st : plS) (ri rk : Nat) (h13_9 : ¬ (ri = 13 ∧ rk = 9)) : (K_LP_align_9 st) ri rk = st ri rk := by
  unfold K_LP_align_9
  repeat' split
  all_goals simp only [plUp_ap, plCp_ap, fr_K_LP_align_22, h13_9, false_and, and_false, not_false_eq_true, not_true_eq_false, ↓reduceIte]
theorem fr_K_LP_align (st : plS) (v1 : Int32) (ri rk : Nat) (h13_9 : ¬ (ri = 13 ∧ rk = 9)) (h13_10 : ¬ (ri = 13 ∧ rk = 10)) : (K_LP_align st v1) ri rk = st ri rk := by
  unfold K_LP_align
  repeat' split
  all_goals simp only [plUp_ap, plCp_ap, fr_K_LP_align_36, fr_K_LP_align_9, h13_9, h13_10, false_and, and_false, not_false_eq_true, not_true_eq_false, ↓reduceIte]
theorem fr_K_LP_bringIn_2L (st : plS) (v1 : Int32) (v2 : Int32) (ri rk : Nat) (h16 : ¬ ri = 16) : (K_LP_bringIn_2L st v1 v2).2.1 ri rk = st ri rk := by
  unfold K_LP_bringIn_2L
  repeat' split
  all_goals simp only [plUp_ap, plCp_ap, h16, false_and, and_false, not_false_eq_true, not_true_eq_false, ↓reduceIte]
theorem fr_F_LP_bringIn_2 (v1 : Int32) (c : plS × Int32) (ri rk : Nat) (h16 : ¬ ri = 16) : (F_LP_bringIn_2 v1 c).2.1 ri rk = c.1 ri rk := by
  unfold F_LP_bringIn_2
  repeat' split
  all_goals simp only [plUp_ap, plCp_ap, fr_K_LP_bringIn_2L, h16, false_and, and_false, not_false_eq_true, not_true_eq_false, ↓reduceIte]
theorem frL_F_LP_bringIn_2 (v1 : Int32) (nn : Nat) (c : plS × Int32) (ri rk : Nat) (h16 : ¬ ri = 16) : (lpR (F_LP_bringIn_2 v1) nn c).1 ri rk = c.1 ri rk := lpR_fr (F_LP_bringIn_2 v1) (fun c => c.1) ri rk (fun c => fr_F_LP_bringIn_2 v1 c ri rk h16) nn c
theorem fr_K_LP_bringIn_2X (v1 : Int32) (c : plS × Int32) (ri rk : Nat) (h13_8 : ¬ (ri = 13 ∧ rk = 8)) : (K_LP_bringIn_2X v1 c) ri rk = c.1 ri rk := by
  unfold K_LP_bringIn_2X
  repeat' split
  all_goals simp only [plUp_ap, plCp_ap, h13_8, false_and, and_false, not_false_eq_true, not_true_eq_false, ↓reduceIte]
theorem fr_K_LP_bringIn (st : plS) (v1 : Int32) (ri rk : Nat) (h13_8 : ¬ (ri = 13 ∧ rk = 8)) (h16 : ¬ ri = 16) : (K_LP_bringIn st v1) ri rk = st ri rk := by
  unfold K_LP_bringIn
  repeat' split
  all_goals simp only [plUp_ap, plCp_ap, fr_K_LP_bringIn_2X, fr_F_LP_bringIn_2, frL_F_LP_bringIn_2, h13_8, h16, false_and, and_false, not_false_eq_true, not_true_eq_false, ↓reduceIte]
theorem fr_K_LP_receive_139 (st : plS) (ri rk : Nat)  : (K_LP_receive_139 st) ri rk = st ri rk := by
  unfold K_LP_receive_139
  repeat' split
  all_goals simp only [plUp_ap, plCp_ap, false_and, and_false, not_false_eq_true, not_true_eq_false, ↓reduceIte]
theorem fr_K_LP_receive_109 (st : plS) (v1 : Int32) (v2 : Int32) (ri rk : Nat) (h13_11 : ¬ (ri = 13 ∧ rk = 11)) : (K_LP_receive_109 st v1 v2) ri rk = st ri rk := by
  unfold K_LP_receive_109
  repeat' split
  all_goals simp only [plUp_ap, plCp_ap, fr_K_LP_receive_139, h13_11, false_and, and_false, not_false_eq_true, not_true_eq_false, ↓reduceIte]
theorem fr_K_LP_receive_106 (st : plS) (v1 : Int32) (v2 : Int32) (k0 : Int32) (ri rk : Nat) (h13_9 : ¬ (ri = 13 ∧ rk = 9)) (h13_10 : ¬ (ri = 13 ∧ rk = 10)) (h13_11 : ¬ (ri = 13 ∧ rk = 11)) : (K_LP_receive_106 st v1 v2 k0) ri rk = st ri rk := by
  unfold K_LP_receive_106
  repeat' split
  all_goals simp only [plUp_ap, plCp_ap, fr_K_LP_receive_109, fr_K_LP_align, h13_9, h13_10, h13_11, false_and, and_false, not_false_eq_true, not_true_eq_false, ↓reduceIte]
theorem fr_K_LP_receive_105 (st : plS) (v1 : Int32) (v2 : Int32) (ri rk : Nat) (h13_9 : ¬ (ri = 13 ∧ rk = 9)) (h13_10 : ¬ (ri = 13 ∧ rk = 10)) (h13_11 : ¬ (ri = 13 ∧ rk = 11)) : (K_LP_receive_105 st v1 v2) ri rk = st ri rk := by
  unfold K_LP_receive_105
  repeat' split
  all_goals simp only [plUp_ap, plCp_ap, fr_K_LP_receive_106, h13_9, h13_10, h13_11, false_and, and_false, not_false_eq_true, not_true_eq_false, ↓reduceIte]
theorem fr_K_LP_receive_70 (st : plS) (v1 : Int32) (v2 : Int32) (ri rk : Nat) (h13_9 : ¬ (ri = 13 ∧ rk = 9)) (h13_10 : ¬ (ri = 13 ∧ rk = 10)) (h13_11 : ¬ (ri = 13 ∧ rk = 11)) : (K_LP_receive_70 st v1 v2) ri rk = st ri rk := by
  unfold K_LP_receive_70
  repeat' split
  all_goals simp only [plUp_ap, plCp_ap, fr_K_LP_receive_105, fr_K_LP_receive_106, h13_9, h13_10, h13_11, false_and, and_false, not_false_eq_true, not_true_eq_false, ↓reduceIte]
theorem fr_K_LP_receive_62 (st : plS) (v1 : Int32) (v2 : Int32) (ri rk : Nat) (h13_9 : ¬ (ri = 13 ∧ rk = 9)) (h13_10 : ¬ (ri = 13 ∧ rk = 10)) (h13_11 : ¬ (ri = 13 ∧ rk = 11)) (h15 : ¬ ri = 15) : (K_LP_receive_62 st v1 v2) ri rk = st ri rk := by
  unfold K_LP_receive_62
  repeat' split
  all_goals simp only [plUp_ap, plCp_ap, fr_K_LP_receive_70, fr_K_JA_fill_LPh, h13_9, h13_10, h13_11, h15, false_and, and_false, not_false_eq_true, not_true_eq_false, ↓reduceIte]
theorem fr_K_LP_receive_37 (st : plS) (v1 : Int32) (v2 : Int32) (ri rk : Nat) (h13_8 : ¬ (ri = 13 ∧ rk = 8)) (h13_9 : ¬ (ri = 13 ∧ rk = 9)) (h13_10 : ¬ (ri = 13 ∧ rk = 10)) (h13_11 : ¬ (ri = 13 ∧ rk = 11)) (h15 : ¬ ri = 15) (h16 : ¬ ri = 16) : (K_LP_receive_37 st v1 v2) ri rk = st ri rk := by
  unfold K_LP_receive_37
  repeat' split
  all_goals simp only [plUp_ap, plCp_ap, fr_K_LP_receive_62, fr_K_LP_bringIn, h13_8, h13_9, h13_10, h13_11, h15, h16, false_and, and_false, not_false_eq_true, not_true_eq_false, ↓reduceIte]
theorem fr_K_LP_receive_34 (st : plS) (v1 : Int32) (v2 : Int32) (k0 : Int32) (ri rk : Nat) (h13_7 : ¬ (ri = 13 ∧ rk = 7)) (h13_8 : ¬ (ri = 13 ∧ rk = 8)) (h13_9 : ¬ (ri = 13 ∧ rk = 9)) (h13_10 : ¬ (ri = 13 ∧ rk = 10)) (h13_11 : ¬ (ri = 13 ∧ rk = 11)) (h15 : ¬ ri = 15) (h16 : ¬ ri = 16) : (K_LP_receive_34 st v1 v2 k0) ri rk = st ri rk := by
  unfold K_LP_receive_34
  repeat' split
  all_goals simp only [plUp_ap, plCp_ap, fr_K_LP_receive_37, h13_7, h13_8, h13_9, h13_10, h13_11, h15, h16, false_and, and_false, not_false_eq_true, not_true_eq_false, ↓reduceIte]
theorem fr_K_LP_receive_33 (st : plS) (v1 : Int32) (v2 : Int32) (ri rk : Nat) (h13_7 : ¬ (ri = 13 ∧ rk = 7)) (h13_8 : ¬ (ri = 13 ∧ rk = 8)) (h13_9 : ¬ (ri = 13 ∧ rk = 9)) (h13_10 : ¬ (ri = 13 ∧ rk = 10)) (h13_11 : ¬ (ri = 13 ∧ rk = 11)) (h15 : ¬ ri = 15) (h16 : ¬ ri = 16) : (K_LP_receive_33 st v1 v2) ri rk = st ri rk := by
  unfold K_LP_receive_33
  repeat' split
  all_goals simp only [plUp_ap, plCp_ap, fr_K_LP_receive_34, h13_7, h13_8, h13_9, h13_10, h13_11, h15, h16, false_and, and_false, not_false_eq_true, not_true_eq_false, ↓reduceIte]
theorem fr_K_LP_receive (st : plS) (ri rk : Nat) (h13_7 : ¬ (ri = 13 ∧ rk = 7)) (h13_8 : ¬ (ri = 13 ∧ rk = 8)) (h13_9 : ¬ (ri = 13 ∧ rk = 9)) (h13_10 : ¬ (ri = 13 ∧ rk = 10)) (h13_11 : ¬ (ri = 13 ∧ rk = 11)) (h15 : ¬ ri = 15) (h16 : ¬ ri = 16) : (K_LP_receive st) ri rk = st ri rk := by
  unfold K_LP_receive
  repeat' split
  all_goals simp only [plUp_ap, plCp_ap, fr_K_LP_receive_33, fr_K_LP_receive_34, h13_7, h13_8, h13_9, h13_10, h13_11, h15, h16, false_and, and_false, not_false_eq_true, not_true_eq_false, ↓reduceIte]
theorem fr_K_LB_hear_45 (st : plS) (ri rk : Nat)  : (K_LB_hear_45 st) ri rk = st ri rk := by
  unfold K_LB_hear_45
  repeat' split
  all_goals simp only [plUp_ap, plCp_ap, false_and, and_false, not_false_eq_true, not_true_eq_false, ↓reduceIte]
theorem fr_K_LB_hear_27 (st : plS) (v1 : Int32) (ri rk : Nat) (h20_0 : ¬ (ri = 20 ∧ rk = 0)) : (K_LB_hear_27 st v1) ri rk = st ri rk := by
  unfold K_LB_hear_27
  repeat' split
  all_goals simp only [plUp_ap, plCp_ap, fr_K_LB_hear_45, h20_0, false_and, and_false, not_false_eq_true, not_true_eq_false, ↓reduceIte]
theorem fr_K_LB_hear_22 (st : plS) (v1 : Int32) (ri rk : Nat) (h20_0 : ¬ (ri = 20 ∧ rk = 0)) (h20_1 : ¬ (ri = 20 ∧ rk = 1)) : (K_LB_hear_22 st v1) ri rk = st ri rk := by
  unfold K_LB_hear_22
  repeat' split
  all_goals simp only [plUp_ap, plCp_ap, fr_K_LB_hear_27, h20_0, h20_1, false_and, and_false, not_false_eq_true, not_true_eq_false, ↓reduceIte]
theorem fr_K_LB_hear_19 (st : plS) (v1 : Int32) (k0 : Int32) (ri rk : Nat) (h20_0 : ¬ (ri = 20 ∧ rk = 0)) (h20_1 : ¬ (ri = 20 ∧ rk = 1)) (h20_2 : ¬ (ri = 20 ∧ rk = 2)) : (K_LB_hear_19 st v1 k0) ri rk = st ri rk := by
  unfold K_LB_hear_19
  repeat' split
  all_goals simp only [plUp_ap, plCp_ap, fr_K_LB_hear_22, h20_0, h20_1, h20_2, false_and, and_false, not_false_eq_true, not_true_eq_false, ↓reduceIte]
theorem fr_K_LB_hear (st : plS) (v1 : Int32) (ri rk : Nat) (h20_0 : ¬ (ri = 20 ∧ rk = 0)) (h20_1 : ¬ (ri = 20 ∧ rk = 1)) (h20_2 : ¬ (ri = 20 ∧ rk = 2)) : (K_LB_hear st v1) ri rk = st ri rk := by
  unfold K_LB_hear
  repeat' split
  all_goals simp only [plUp_ap, plCp_ap, fr_K_LB_hear_19, h20_0, h20_1, h20_2, false_and, and_false, not_false_eq_true, not_true_eq_false, ↓reduceIte]
theorem fr_K_SW_waitOn_32 (st : plS) (ri rk : Nat) (h19_5 : ¬ (ri = 19 ∧ rk = 5)) : (K_SW_waitOn_32 st).2 ri rk = st ri rk := by
  unfold K_SW_waitOn_32
  repeat' split
  all_goals simp only [plUp_ap, plCp_ap, h19_5, false_and, and_false, not_false_eq_true, not_true_eq_false, ↓reduceIte]
theorem fr_K_SW_waitOn (st : plS) (ri rk : Nat) (h19_5 : ¬ (ri = 19 ∧ rk = 5)) : (K_SW_waitOn st).2 ri rk = st ri rk := by
  unfold K_SW_waitOn
  repeat' split
  all_goals simp only [plUp_ap, plCp_ap, fr_K_SW_waitOn_32, h19_5, false_and, and_false, not_false_eq_true, not_true_eq_false, ↓reduceIte]
theorem fr_K_SW_decide_87 (st : plS) (k0 : Int32) (ri rk : Nat) (h19_7 : ¬ (ri = 19 ∧ rk = 7)) : (K_SW_decide_87 st k0) ri rk = st ri rk := by
  unfold K_SW_decide_87
  repeat' split
  all_goals simp only [plUp_ap, plCp_ap, h19_7, false_and, and_false, not_false_eq_true, not_true_eq_false, ↓reduceIte]
theorem fr_K_SW_decide_74 (st : plS) (k0 : Int32) (ri rk : Nat) (h19_7 : ¬ (ri = 19 ∧ rk = 7)) : (K_SW_decide_74 st k0) ri rk = st ri rk := by
  unfold K_SW_decide_74
  repeat' split
  all_goals simp only [plUp_ap, plCp_ap, fr_K_SW_decide_87, h19_7, false_and, and_false, not_false_eq_true, not_true_eq_false, ↓reduceIte]
theorem fr_K_SW_decide_73 (st : plS) (ri rk : Nat) (h19_7 : ¬ (ri = 19 ∧ rk = 7)) : (K_SW_decide_73 st) ri rk = st ri rk := by
  unfold K_SW_decide_73
  repeat' split
  all_goals simp only [plUp_ap, plCp_ap, fr_K_SW_decide_74, h19_7, false_and, and_false, not_false_eq_true, not_true_eq_false, ↓reduceIte]
theorem fr_K_SW_decide_40 (st : plS) (ri rk : Nat) (h19_7 : ¬ (ri = 19 ∧ rk = 7)) : (K_SW_decide_40 st) ri rk = st ri rk := by
  unfold K_SW_decide_40
  repeat' split
  all_goals simp only [plUp_ap, plCp_ap, fr_K_SW_decide_73, fr_K_SW_decide_74, h19_7, false_and, and_false, not_false_eq_true, not_true_eq_false, ↓reduceIte]
theorem fr_K_SW_decide_37 (st : plS) (k0 : Int32) (ri rk : Nat) (h19_6 : ¬ (ri = 19 ∧ rk = 6)) (h19_7 : ¬ (ri = 19 ∧ rk = 7)) : (K_SW_decide_37 st k0) ri rk = st ri rk := by
  unfold K_SW_decide_37
  repeat' split
  all_goals simp only [plUp_ap, plCp_ap, fr_K_SW_decide_40, h19_6, h19_7, false_and, and_false, not_false_eq_true, not_true_eq_false, ↓reduceIte]
theorem fr_K_SW_decide_33q  (q : Int32 × plS) (ri rk : Nat) (h19_6 : ¬ (ri = 19 ∧ rk = 6)) (h19_7 : ¬ (ri = 19 ∧ rk = 7)) : (K_SW_decide_33q q) ri rk = q.2 ri rk := by
  unfold K_SW_decide_33q
  repeat' split
  all_goals simp only [plUp_ap, plCp_ap, fr_K_SW_decide_37, h19_6, h19_7, false_and, and_false, not_false_eq_true, not_true_eq_false, ↓reduceIte]
theorem fr_K_SW_decide_18 (st : plS) (v2 : Int32) (ri rk : Nat) (h19_5 : ¬ (ri = 19 ∧ rk = 5)) (h19_6 : ¬ (ri = 19 ∧ rk = 6)) (h19_7 : ¬ (ri = 19 ∧ rk = 7)) : (K_SW_decide_18 st v2) ri rk = st ri rk := by
  unfold K_SW_decide_18
  repeat' split
  all_goals simp only [plUp_ap, plCp_ap, fr_K_SW_decide_33q, fr_K_SW_waitOn, fr_K_SW_decide_37, h19_5, h19_6, h19_7, false_and, and_false, not_false_eq_true, not_true_eq_false, ↓reduceIte]
theorem fr_K_SW_decide_15 (st : plS) (v2 : Int32) (k0 : Int32) (ri rk : Nat) (h19_4 : ¬ (ri = 19 ∧ rk = 4)) (h19_5 : ¬ (ri = 19 ∧ rk = 5)) (h19_6 : ¬ (ri = 19 ∧ rk = 6)) (h19_7 : ¬ (ri = 19 ∧ rk = 7)) : (K_SW_decide_15 st v2 k0) ri rk = st ri rk := by
  unfold K_SW_decide_15
  repeat' split
  all_goals simp only [plUp_ap, plCp_ap, fr_K_SW_decide_18, h19_4, h19_5, h19_6, h19_7, false_and, and_false, not_false_eq_true, not_true_eq_false, ↓reduceIte]
theorem fr_K_SW_decide (st : plS) (v1 : Int32) (v2 : Int32) (ri rk : Nat) (h19_4 : ¬ (ri = 19 ∧ rk = 4)) (h19_5 : ¬ (ri = 19 ∧ rk = 5)) (h19_6 : ¬ (ri = 19 ∧ rk = 6)) (h19_7 : ¬ (ri = 19 ∧ rk = 7)) : (K_SW_decide st v1 v2) ri rk = st ri rk := by
  unfold K_SW_decide
  repeat' split
  all_goals simp only [plUp_ap, plCp_ap, fr_K_SW_decide_15, h19_4, h19_5, h19_6, h19_7, false_and, and_false, not_false_eq_true, not_true_eq_false, ↓reduceIte]
theorem fr_K_SR_hunt_15 (st : plS) (ri rk : Nat) (h21_4 : ¬ (ri = 21 ∧ rk = 4)) : (K_SR_hunt_15 st) ri rk = st ri rk := by
  unfold K_SR_hunt_15
  repeat' split
  all_goals simp only [plUp_ap, plCp_ap, h21_4, false_and, and_false, not_false_eq_true, not_true_eq_false, ↓reduceIte]
theorem fr_K_SR_hunt_10 (st : plS) (ri rk : Nat) (h21_3 : ¬ (ri = 21 ∧ rk = 3)) (h21_4 : ¬ (ri = 21 ∧ rk = 4)) : (K_SR_hunt_10 st) ri rk = st ri rk := by
  unfold K_SR_hunt_10
  repeat' split
  all_goals simp only [plUp_ap, plCp_ap, fr_K_SR_hunt_15, h21_3, h21_4, false_and, and_false, not_false_eq_true, not_true_eq_false, ↓reduceIte]
theorem fr_K_SR_hunt_5 (st : plS) (ri rk : Nat) (h21_1 : ¬ (ri = 21 ∧ rk = 1)) (h21_3 : ¬ (ri = 21 ∧ rk = 3)) (h21_4 : ¬ (ri = 21 ∧ rk = 4)) : (K_SR_hunt_5 st) ri rk = st ri rk := by
  unfold K_SR_hunt_5
  repeat' split
  all_goals simp only [plUp_ap, plCp_ap, fr_K_SR_hunt_10, h21_1, h21_3, h21_4, false_and, and_false, not_false_eq_true, not_true_eq_false, ↓reduceIte]
theorem fr_K_SR_hunt (st : plS) (ri rk : Nat) (h21_0 : ¬ (ri = 21 ∧ rk = 0)) (h21_1 : ¬ (ri = 21 ∧ rk = 1)) (h21_3 : ¬ (ri = 21 ∧ rk = 3)) (h21_4 : ¬ (ri = 21 ∧ rk = 4)) : (K_SR_hunt st) ri rk = st ri rk := by
  unfold K_SR_hunt
  repeat' split
  all_goals simp only [plUp_ap, plCp_ap, fr_K_SR_hunt_5, h21_0, h21_1, h21_3, h21_4, false_and, and_false, not_false_eq_true, not_true_eq_false, ↓reduceIte]
theorem fr_K_PR_breakOff_5 (st : plS) (ri rk : Nat) (h21_0 : ¬ (ri = 21 ∧ rk = 0)) (h21_1 : ¬ (ri = 21 ∧ rk = 1)) (h21_3 : ¬ (ri = 21 ∧ rk = 3)) (h21_4 : ¬ (ri = 21 ∧ rk = 4)) : (K_PR_breakOff_5 st) ri rk = st ri rk := by
  unfold K_PR_breakOff_5
  repeat' split
  all_goals simp only [plUp_ap, plCp_ap, fr_K_SR_hunt, h21_0, h21_1, h21_3, h21_4, false_and, and_false, not_false_eq_true, not_true_eq_false, ↓reduceIte]
theorem fr_K_PR_breakOff (st : plS) (ri rk : Nat) (h21_0 : ¬ (ri = 21 ∧ rk = 0)) (h21_1 : ¬ (ri = 21 ∧ rk = 1)) (h21_3 : ¬ (ri = 21 ∧ rk = 3)) (h21_4 : ¬ (ri = 21 ∧ rk = 4)) (h25_6 : ¬ (ri = 25 ∧ rk = 6)) : (K_PR_breakOff st) ri rk = st ri rk := by
  unfold K_PR_breakOff
  repeat' split
  all_goals simp only [plUp_ap, plCp_ap, fr_K_PR_breakOff_5, h21_0, h21_1, h21_3, h21_4, h25_6, false_and, and_false, not_false_eq_true, not_true_eq_false, ↓reduceIte]
theorem fr_K_PR_endRows_5 (st : plS) (ri rk : Nat) (h25_5 : ¬ (ri = 25 ∧ rk = 5)) : (K_PR_endRows_5 st) ri rk = st ri rk := by
  unfold K_PR_endRows_5
  repeat' split
  all_goals simp only [plUp_ap, plCp_ap, h25_5, false_and, and_false, not_false_eq_true, not_true_eq_false, ↓reduceIte]
theorem fr_K_PR_endRows (st : plS) (ri rk : Nat) (h25_3 : ¬ (ri = 25 ∧ rk = 3)) (h25_5 : ¬ (ri = 25 ∧ rk = 5)) : (K_PR_endRows st) ri rk = st ri rk := by
  unfold K_PR_endRows
  repeat' split
  all_goals simp only [plUp_ap, plCp_ap, fr_K_PR_endRows_5, h25_3, h25_5, false_and, and_false, not_false_eq_true, not_true_eq_false, ↓reduceIte]
theorem fr_K_PR_gap_43 (st : plS) (ri rk : Nat) (h21_0 : ¬ (ri = 21 ∧ rk = 0)) (h21_1 : ¬ (ri = 21 ∧ rk = 1)) (h21_3 : ¬ (ri = 21 ∧ rk = 3)) (h21_4 : ¬ (ri = 21 ∧ rk = 4)) (h25_6 : ¬ (ri = 25 ∧ rk = 6)) : (K_PR_gap_43 st) ri rk = st ri rk := by
  unfold K_PR_gap_43
  repeat' split
  all_goals simp only [plUp_ap, plCp_ap, fr_K_PR_breakOff, h21_0, h21_1, h21_3, h21_4, h25_6, false_and, and_false, not_false_eq_true, not_true_eq_false, ↓reduceIte]
theorem fr_K_PR_gap_39 (st : plS) (ri rk : Nat) (h21_0 : ¬ (ri = 21 ∧ rk = 0)) (h21_1 : ¬ (ri = 21 ∧ rk = 1)) (h21_3 : ¬ (ri = 21 ∧ rk = 3)) (h21_4 : ¬ (ri = 21 ∧ rk = 4)) (h25_3 : ¬ (ri = 25 ∧ rk = 3)) (h25_5 : ¬ (ri = 25 ∧ rk = 5)) (h25_6 : ¬ (ri = 25 ∧ rk = 6)) : (K_PR_gap_39 st) ri rk = st ri rk := by
  unfold K_PR_gap_39
  repeat' split
  all_goals simp only [plUp_ap, plCp_ap, fr_K_PR_gap_43, fr_K_PR_endRows, h21_0, h21_1, h21_3, h21_4, h25_3, h25_5, h25_6, false_and, and_false, not_false_eq_true, not_true_eq_false, ↓reduceIte]
theorem fr_K_PR_gap_10 (st : plS) (ri rk : Nat) (h21_0 : ¬ (ri = 21 ∧ rk = 0)) (h21_1 : ¬ (ri = 21 ∧ rk = 1)) (h21_3 : ¬ (ri = 21 ∧ rk = 3)) (h21_4 : ¬ (ri = 21 ∧ rk = 4)) (h25_1 : ¬ (ri = 25 ∧ rk = 1)) (h25_3 : ¬ (ri = 25 ∧ rk = 3)) (h25_5 : ¬ (ri = 25 ∧ rk = 5)) (h25_6 : ¬ (ri = 25 ∧ rk = 6)) : (K_PR_gap_10 st) ri rk = st ri rk := by
  unfold K_PR_gap_10
  repeat' split
  all_goals simp only [plUp_ap, plCp_ap, fr_K_PR_gap_43, fr_K_PR_gap_39, h21_0, h21_1, h21_3, h21_4, h25_1, h25_3, h25_5, h25_6, false_and, and_false, not_false_eq_true, not_true_eq_false, ↓reduceIte]
theorem fr_K_PR_gap (st : plS) (ri rk : Nat) (h21_0 : ¬ (ri = 21 ∧ rk = 0)) (h21_1 : ¬ (ri = 21 ∧ rk = 1)) (h21_3 : ¬ (ri = 21 ∧ rk = 3)) (h21_4 : ¬ (ri = 21 ∧ rk = 4)) (h25_1 : ¬ (ri = 25 ∧ rk = 1)) (h25_2 : ¬ (ri = 25 ∧ rk = 2)) (h25_3 : ¬ (ri = 25 ∧ rk = 3)) (h25_5 : ¬ (ri = 25 ∧ rk = 5)) (h25_6 : ¬ (ri = 25 ∧ rk = 6)) : (K_PR_gap st) ri rk = st ri rk := by
  unfold K_PR_gap
  repeat' split
  all_goals simp only [plUp_ap, plCp_ap, fr_K_PR_gap_10, h21_0, h21_1, h21_3, h21_4, h25_1, h25_2, h25_3, h25_5, h25_6, false_and, and_false, not_false_eq_true, not_true_eq_false, ↓reduceIte]
theorem fr_K_BL_launch_13 (st : plS) (ri rk : Nat) (h17_2 : ¬ (ri = 17 ∧ rk = 2)) : (K_BL_launch_13 st) ri rk = st ri rk := by
  unfold K_BL_launch_13
  repeat' split
  all_goals simp only [plUp_ap, plCp_ap, h17_2, false_and, and_false, not_false_eq_true, not_true_eq_false, ↓reduceIte]
theorem fr_K_BL_launch (st : plS) (v1 : Int32) (ri rk : Nat) (h17_2 : ¬ (ri = 17 ∧ rk = 2)) (h18 : ¬ ri = 18) : (K_BL_launch st v1) ri rk = st ri rk := by
  unfold K_BL_launch
  repeat' split
  all_goals simp only [plUp_ap, plCp_ap, fr_K_BL_launch_13, h17_2, h18, false_and, and_false, not_false_eq_true, not_true_eq_false, ↓reduceIte]
theorem fr_K_PR_countPlain_38 (st : plS) (v2 : Int32) (ri rk : Nat) (h25_4 : ¬ (ri = 25 ∧ rk = 4)) : (K_PR_countPlain_38 st v2) ri rk = st ri rk := by
  unfold K_PR_countPlain_38
  repeat' split
  all_goals simp only [plUp_ap, plCp_ap, h25_4, false_and, and_false, not_false_eq_true, not_true_eq_false, ↓reduceIte]
theorem fr_K_PR_countPlain_35 (st : plS) (v2 : Int32) (k0 : Int32) (ri rk : Nat) (h25_3 : ¬ (ri = 25 ∧ rk = 3)) (h25_4 : ¬ (ri = 25 ∧ rk = 4)) : (K_PR_countPlain_35 st v2 k0) ri rk = st ri rk := by
  unfold K_PR_countPlain_35
  repeat' split
  all_goals simp only [plUp_ap, plCp_ap, fr_K_PR_countPlain_38, h25_3, h25_4, false_and, and_false, not_false_eq_true, not_true_eq_false, ↓reduceIte]
theorem fr_K_PR_countPlain (st : plS) (v1 : Int32) (ri rk : Nat) (h25_3 : ¬ (ri = 25 ∧ rk = 3)) (h25_4 : ¬ (ri = 25 ∧ rk = 4)) : (K_PR_countPlain st v1) ri rk = st ri rk := by
  unfold K_PR_countPlain
  repeat' split
  all_goals simp only [plUp_ap, plCp_ap, fr_K_PR_countPlain_35, h25_3, h25_4, false_and, and_false, not_false_eq_true, not_true_eq_false, ↓reduceIte]
theorem fr_K_PR_doubt_61 (st : plS) (ri rk : Nat)  : (K_PR_doubt_61 st) ri rk = st ri rk := by
  unfold K_PR_doubt_61
  repeat' split
  all_goals simp only [plUp_ap, plCp_ap, false_and, and_false, not_false_eq_true, not_true_eq_false, ↓reduceIte]
theorem fr_K_PR_doubt_57 (st : plS) (ri rk : Nat) (h25_3 : ¬ (ri = 25 ∧ rk = 3)) (h25_5 : ¬ (ri = 25 ∧ rk = 5)) : (K_PR_doubt_57 st) ri rk = st ri rk := by
  unfold K_PR_doubt_57
  repeat' split
  all_goals simp only [plUp_ap, plCp_ap, fr_K_PR_doubt_61, fr_K_PR_endRows, h25_3, h25_5, false_and, and_false, not_false_eq_true, not_true_eq_false, ↓reduceIte]
theorem fr_K_PR_doubt_36 (st : plS) (ri rk : Nat) (h25_3 : ¬ (ri = 25 ∧ rk = 3)) (h25_5 : ¬ (ri = 25 ∧ rk = 5)) : (K_PR_doubt_36 st) ri rk = st ri rk := by
  unfold K_PR_doubt_36
  repeat' split
  all_goals simp only [plUp_ap, plCp_ap, fr_K_PR_doubt_61, fr_K_PR_endRows, h25_3, h25_5, false_and, and_false, not_false_eq_true, not_true_eq_false, ↓reduceIte]
theorem fr_K_PR_doubt_31 (st : plS) (ri rk : Nat) (h25_3 : ¬ (ri = 25 ∧ rk = 3)) (h25_5 : ¬ (ri = 25 ∧ rk = 5)) (h25_6 : ¬ (ri = 25 ∧ rk = 6)) : (K_PR_doubt_31 st) ri rk = st ri rk := by
  unfold K_PR_doubt_31
  repeat' split
  all_goals simp only [plUp_ap, plCp_ap, fr_K_PR_doubt_36, h25_3, h25_5, h25_6, false_and, and_false, not_false_eq_true, not_true_eq_false, ↓reduceIte]
theorem fr_K_PR_doubt_15 (st : plS) (ri rk : Nat) (h25_1 : ¬ (ri = 25 ∧ rk = 1)) (h25_3 : ¬ (ri = 25 ∧ rk = 3)) (h25_5 : ¬ (ri = 25 ∧ rk = 5)) (h25_6 : ¬ (ri = 25 ∧ rk = 6)) : (K_PR_doubt_15 st) ri rk = st ri rk := by
  unfold K_PR_doubt_15
  repeat' split
  all_goals simp only [plUp_ap, plCp_ap, fr_K_PR_doubt_31, fr_K_PR_doubt_57, fr_K_PR_doubt_61, h25_1, h25_3, h25_5, h25_6, false_and, and_false, not_false_eq_true, not_true_eq_false, ↓reduceIte]
theorem fr_K_PR_doubt_10 (st : plS) (v1 : Int32) (ri rk : Nat) (h25_1 : ¬ (ri = 25 ∧ rk = 1)) (h25_3 : ¬ (ri = 25 ∧ rk = 3)) (h25_4 : ¬ (ri = 25 ∧ rk = 4)) (h25_5 : ¬ (ri = 25 ∧ rk = 5)) (h25_6 : ¬ (ri = 25 ∧ rk = 6)) : (K_PR_doubt_10 st v1) ri rk = st ri rk := by
  unfold K_PR_doubt_10
  repeat' split
  all_goals simp only [plUp_ap, plCp_ap, fr_K_PR_doubt_15, fr_K_PR_countPlain, h25_1, h25_3, h25_4, h25_5, h25_6, false_and, and_false, not_false_eq_true, not_true_eq_false, ↓reduceIte]
theorem fr_K_PR_doubt (st : plS) (v1 : Int32) (ri rk : Nat) (h25_1 : ¬ (ri = 25 ∧ rk = 1)) (h25_3 : ¬ (ri = 25 ∧ rk = 3)) (h25_4 : ¬ (ri = 25 ∧ rk = 4)) (h25_5 : ¬ (ri = 25 ∧ rk = 5)) (h25_6 : ¬ (ri = 25 ∧ rk = 6)) : (K_PR_doubt st v1) ri rk = st ri rk := by
  unfold K_PR_doubt
  repeat' split
  all_goals simp only [plUp_ap, plCp_ap, fr_K_PR_doubt_10, h25_1, h25_3, h25_4, h25_5, h25_6, false_and, and_false, not_false_eq_true, not_true_eq_false, ↓reduceIte]
theorem fr_K_PR_seek_25 (st : plS) (ri rk : Nat)  : (K_PR_seek_25 st) ri rk = st ri rk := by
  unfold K_PR_seek_25
  repeat' split
  all_goals simp only [plUp_ap, plCp_ap, false_and, and_false, not_false_eq_true, not_true_eq_false, ↓reduceIte]
theorem fr_K_PR_seek_21 (st : plS) (ri rk : Nat) (h25_3 : ¬ (ri = 25 ∧ rk = 3)) (h25_5 : ¬ (ri = 25 ∧ rk = 5)) : (K_PR_seek_21 st) ri rk = st ri rk := by
  unfold K_PR_seek_21
  repeat' split
  all_goals simp only [plUp_ap, plCp_ap, fr_K_PR_seek_25, fr_K_PR_endRows, h25_3, h25_5, false_and, and_false, not_false_eq_true, not_true_eq_false, ↓reduceIte]
theorem fr_K_PR_seek_5 (st : plS) (ri rk : Nat) (h25_1 : ¬ (ri = 25 ∧ rk = 1)) (h25_3 : ¬ (ri = 25 ∧ rk = 3)) (h25_5 : ¬ (ri = 25 ∧ rk = 5)) : (K_PR_seek_5 st) ri rk = st ri rk := by
  unfold K_PR_seek_5
  repeat' split
  all_goals simp only [plUp_ap, plCp_ap, fr_K_PR_seek_21, fr_K_PR_seek_25, h25_1, h25_3, h25_5, false_and, and_false, not_false_eq_true, not_true_eq_false, ↓reduceIte]
theorem fr_K_PR_seek (st : plS) (v1 : Int32) (ri rk : Nat) (h25_1 : ¬ (ri = 25 ∧ rk = 1)) (h25_3 : ¬ (ri = 25 ∧ rk = 3)) (h25_4 : ¬ (ri = 25 ∧ rk = 4)) (h25_5 : ¬ (ri = 25 ∧ rk = 5)) : (K_PR_seek st v1) ri rk = st ri rk := by
  unfold K_PR_seek
  repeat' split
  all_goals simp only [plUp_ap, plCp_ap, fr_K_PR_seek_5, fr_K_PR_countPlain, h25_1, h25_3, h25_4, h25_5, false_and, and_false, not_false_eq_true, not_true_eq_false, ↓reduceIte]
theorem fr_K_PR_follow_48 (st : plS) (v2 : Int32) (ri rk : Nat)  : (K_PR_follow_48 st v2).2 ri rk = st ri rk := by
  unfold K_PR_follow_48
  repeat' split
  all_goals simp only [plUp_ap, plCp_ap, false_and, and_false, not_false_eq_true, not_true_eq_false, ↓reduceIte]
theorem fr_K_PR_follow_36 (st : plS) (v2 : Int32) (ri rk : Nat) (h25_3 : ¬ (ri = 25 ∧ rk = 3)) (h25_5 : ¬ (ri = 25 ∧ rk = 5)) : (K_PR_follow_36 st v2).2 ri rk = st ri rk := by
  unfold K_PR_follow_36
  repeat' split
  all_goals simp only [plUp_ap, plCp_ap, fr_K_PR_follow_48, fr_K_PR_endRows, h25_3, h25_5, false_and, and_false, not_false_eq_true, not_true_eq_false, ↓reduceIte]
theorem fr_K_PR_follow (st : plS) (v1 : Int32) (ri rk : Nat) (h25_1 : ¬ (ri = 25 ∧ rk = 1)) (h25_3 : ¬ (ri = 25 ∧ rk = 3)) (h25_4 : ¬ (ri = 25 ∧ rk = 4)) (h25_5 : ¬ (ri = 25 ∧ rk = 5)) (h25_6 : ¬ (ri = 25 ∧ rk = 6)) : (K_PR_follow st v1).2 ri rk = st ri rk := by
  unfold K_PR_follow
  repeat' split
  all_goals simp only [plUp_ap, plCp_ap, fr_K_PR_seek, fr_K_PR_follow_36, fr_K_PR_follow_48, fr_K_PR_doubt, h25_1, h25_3, h25_4, h25_5, h25_6, false_and, and_false, not_false_eq_true, not_true_eq_false, ↓reduceIte]

