theorem d_SR_endFrame_0 : decode b_SR_endFrame 0 = .ok (.aload_n 0, 1) := by decide +kernel
theorem d_SR_endFrame_1 : decode b_SR_endFrame 1 = .ok (.getfield 31, 3) := by decide +kernel
theorem d_SR_endFrame_4 : decode b_SR_endFrame 4 = .ok (.iconst 2, 1) := by decide +kernel
theorem d_SR_endFrame_5 : decode b_SR_endFrame 5 = .ok (.if_icmp .lt (79), 3) := by decide +kernel
theorem d_SR_endFrame_8 : decode b_SR_endFrame 8 = .ok (.aload_n 0, 1) := by decide +kernel
theorem d_SR_endFrame_9 : decode b_SR_endFrame 9 = .ok (.getfield 31, 3) := by decide +kernel
theorem d_SR_endFrame_12 : decode b_SR_endFrame 12 = .ok (.bipush (7), 2) := by decide +kernel
theorem d_SR_endFrame_14 : decode b_SR_endFrame 14 = .ok (.if_icmp .gt (70), 3) := by decide +kernel
theorem d_SR_endFrame_17 : decode b_SR_endFrame 17 = .ok (.iload_n 1, 1) := by decide +kernel
theorem d_SR_endFrame_18 : decode b_SR_endFrame 18 = .ok (.aload_n 0, 1) := by decide +kernel
theorem d_SR_endFrame_19 : decode b_SR_endFrame 19 = .ok (.getfield 54, 3) := by decide +kernel
theorem d_SR_endFrame_22 : decode b_SR_endFrame 22 = .ok (.if_icmp .ne (62), 3) := by decide +kernel
theorem d_SR_endFrame_25 : decode b_SR_endFrame 25 = .ok (.aload_n 0, 1) := by decide +kernel
theorem d_SR_endFrame_26 : decode b_SR_endFrame 26 = .ok (.dup, 1) := by decide +kernel
theorem d_SR_endFrame_27 : decode b_SR_endFrame 27 = .ok (.getfield 70, 3) := by decide +kernel
theorem d_SR_endFrame_30 : decode b_SR_endFrame 30 = .ok (.iconst 1, 1) := by decide +kernel
theorem d_SR_endFrame_31 : decode b_SR_endFrame 31 = .ok (.iadd, 1) := by decide +kernel
theorem d_SR_endFrame_32 : decode b_SR_endFrame 32 = .ok (.putfield 70, 3) := by decide +kernel
theorem d_SR_endFrame_35 : decode b_SR_endFrame 35 = .ok (.aload_n 0, 1) := by decide +kernel
theorem d_SR_endFrame_36 : decode b_SR_endFrame 36 = .ok (.getfield 21, 3) := by decide +kernel
theorem d_SR_endFrame_39 : decode b_SR_endFrame 39 = .ok (.aload_n 0, 1) := by decide +kernel
theorem d_SR_endFrame_40 : decode b_SR_endFrame 40 = .ok (.getfield 70, 3) := by decide +kernel
theorem d_SR_endFrame_43 : decode b_SR_endFrame 43 = .ok (.invokestatic 73, 3) := by decide +kernel
theorem d_SR_endFrame_46 : decode b_SR_endFrame 46 = .ok (.aload_n 0, 1) := by decide +kernel
theorem d_SR_endFrame_47 : decode b_SR_endFrame 47 = .ok (.getfield 31, 3) := by decide +kernel
theorem d_SR_endFrame_50 : decode b_SR_endFrame 50 = .ok (.iconst 1, 1) := by decide +kernel
theorem d_SR_endFrame_51 : decode b_SR_endFrame 51 = .ok (.isub, 1) := by decide +kernel
theorem d_SR_endFrame_52 : decode b_SR_endFrame 52 = .ok (.iastore, 1) := by decide +kernel
theorem d_SR_endFrame_53 : decode b_SR_endFrame 53 = .ok (.aload_n 0, 1) := by decide +kernel
theorem d_SR_endFrame_54 : decode b_SR_endFrame 54 = .ok (.getfield 17, 3) := by decide +kernel
theorem d_SR_endFrame_57 : decode b_SR_endFrame 57 = .ok (.iconst 0, 1) := by decide +kernel
theorem d_SR_endFrame_58 : decode b_SR_endFrame 58 = .ok (.aload_n 0, 1) := by decide +kernel
theorem d_SR_endFrame_59 : decode b_SR_endFrame 59 = .ok (.getfield 24, 3) := by decide +kernel
theorem d_SR_endFrame_62 : decode b_SR_endFrame 62 = .ok (.aload_n 0, 1) := by decide +kernel
theorem d_SR_endFrame_63 : decode b_SR_endFrame 63 = .ok (.getfield 70, 3) := by decide +kernel
theorem d_SR_endFrame_66 : decode b_SR_endFrame 66 = .ok (.invokestatic 73, 3) := by decide +kernel
theorem d_SR_endFrame_69 : decode b_SR_endFrame 69 = .ok (.bipush (6), 2) := by decide +kernel
theorem d_SR_endFrame_71 : decode b_SR_endFrame 71 = .ok (.imul, 1) := by decide +kernel
theorem d_SR_endFrame_72 : decode b_SR_endFrame 72 = .ok (.aload_n 0, 1) := by decide +kernel
theorem d_SR_endFrame_73 : decode b_SR_endFrame 73 = .ok (.getfield 31, 3) := by decide +kernel
theorem d_SR_endFrame_76 : decode b_SR_endFrame 76 = .ok (.iconst 1, 1) := by decide +kernel
theorem d_SR_endFrame_77 : decode b_SR_endFrame 77 = .ok (.isub, 1) := by decide +kernel
theorem d_SR_endFrame_78 : decode b_SR_endFrame 78 = .ok (.invokestatic 76, 3) := by decide +kernel
theorem d_SR_endFrame_81 : decode b_SR_endFrame 81 = .ok (.goto (13), 3) := by decide +kernel
theorem d_SR_endFrame_84 : decode b_SR_endFrame 84 = .ok (.aload_n 0, 1) := by decide +kernel
theorem d_SR_endFrame_85 : decode b_SR_endFrame 85 = .ok (.dup, 1) := by decide +kernel
theorem d_SR_endFrame_86 : decode b_SR_endFrame 86 = .ok (.getfield 82, 3) := by decide +kernel
theorem d_SR_endFrame_89 : decode b_SR_endFrame 89 = .ok (.iconst 1, 1) := by decide +kernel
theorem d_SR_endFrame_90 : decode b_SR_endFrame 90 = .ok (.iadd, 1) := by decide +kernel
theorem d_SR_endFrame_91 : decode b_SR_endFrame 91 = .ok (.putfield 82, 3) := by decide +kernel
theorem d_SR_endFrame_94 : decode b_SR_endFrame 94 = .ok (.return_, 1) := by decide +kernel
def K_SR_endFrame_94 (st : plS) : plS := st
set_option maxRecDepth 20000 in
theorem j_SR_endFrame_94 {E : plE} (X : plX E b_SR_endFrame "ProtectedLine$StreamReader" 2 none 1 64) (a : Nat → Nat) (T : plS) (hQ : plRv E (plwC (plg E) a) T) (st : plS)  (hk : T = K_SR_endFrame_94 st) : plJ E 2 (plwC (plg E) a st) 0 0 [] 94 [] := by
  unfold K_SR_endFrame_94 at hk
  exact j_retv (pc := 94) X hQ d_SR_endFrame_94 hk
def K_SR_endFrame_84 (st : plS) : plS := K_SR_endFrame_94 (plUp st 21 9 ((st 21 9) + 1))
set_option maxRecDepth 20000 in
theorem j_SR_endFrame_84 {E : plE} (X : plX E b_SR_endFrame "ProtectedLine$StreamReader" 2 none 1 64) (a : Nat → Nat) (T : plS) (hQ : plRv E (plwC (plg E) a) T) (st : plS)  (hk : T = K_SR_endFrame_84 st) : plJ E 2 (plwC (plg E) a st) 0 0 [(0, .ref (a 21))] 84 [] := by
  unfold K_SR_endFrame_84 at hk
  refine j_aload_n (pc := 84) X d_SR_endFrame_84 rfl 0 rfl ?_
  refine j_dup (pc := 85) X d_SR_endFrame_85 rfl ?_
  refine get_SR_bad (pc := 86) X fl_SR_82 d_SR_endFrame_86 ?_
  refine j_iconst (pc := 89) X d_SR_endFrame_89 ic_1 ?_
  refine j_iadd (pc := 90) X d_SR_endFrame_90 ?_
  refine put_SR_bad (pc := 91) X fl_SR_82 d_SR_endFrame_91 ?_
  refine j_sub [] (lv' := []) rfl ?_
  exact j_SR_endFrame_94 X a T hQ (plUp st 21 9 ((st 21 9) + 1)) hk
def K_SR_endFrame_53 (st : plS) : plS := K_SR_endFrame_94 (plCp st 22 24 (plIx 0) (plIx ((K_SR_slotOf (st 21 8)) * 6)) (plIx ((st 21 3) - 1)))
def P_SR_endFrame_53 (st : plS) : Prop := plCpOK 6 48 0 ((K_SR_slotOf (st 21 8)) * 6) ((st 21 3) - 1)
set_option maxRecDepth 20000 in
theorem j_SR_endFrame_53 {E : plE} (X : plX E b_SR_endFrame "ProtectedLine$StreamReader" 2 none 1 64) (a : Nat → Nat) (T : plS) (hQ : plRv E (plwC (plg E) a) T) (st : plS)  (hs : P_SR_endFrame_53 st) (hk : T = K_SR_endFrame_53 st) : plJ E 2 (plwC (plg E) a st) 0 0 [(0, .ref (a 21))] 53 [] := by
  unfold P_SR_endFrame_53 at hs
  unfold K_SR_endFrame_53 at hk
  refine j_aload_n (pc := 53) X d_SR_endFrame_53 rfl 0 rfl ?_
  refine get_SR_frame (pc := 54) X fl_SR_17 d_SR_endFrame_54 ?_
  refine j_iconst (pc := 57) X d_SR_endFrame_57 ic_0 ?_
  refine j_aload_n (pc := 58) X d_SR_endFrame_58 rfl 0 rfl ?_
  refine get_SR_contents (pc := 59) X fl_SR_24 d_SR_endFrame_59 ?_
  refine j_aload_n (pc := 62) X d_SR_endFrame_62 rfl 0 rfl ?_
  refine get_SR_good (pc := 63) X fl_SR_70 d_SR_endFrame_63 ?_
  refine j_callSp (pc := 66) (As := [.int (st 21 8)]) (rest := [.ref (a 24), .int 0, .ref (a 22)]) X (c_SR_slotOf (plg E) a st (st 21 8)) ml_SR_73 ⟨Nat.le_of_ble_eq_true rfl, Nat.le_of_ble_eq_true rfl⟩ rfl rfl (Nat.le_of_ble_eq_true rfl) d_SR_endFrame_66 ?_
  refine j_bipush (pc := 69) X d_SR_endFrame_69 bp_6 ?_
  refine j_imul (pc := 71) X d_SR_endFrame_71 ?_
  refine j_aload_n (pc := 72) X d_SR_endFrame_72 rfl 0 rfl ?_
  refine get_SR_length (pc := 73) X fl_SR_31 d_SR_endFrame_73 ?_
  refine j_iconst (pc := 76) X d_SR_endFrame_76 ic_1 ?_
  refine j_isub (pc := 77) X d_SR_endFrame_77 ?_
  refine copy_SRf_SRc (pc := 78) X ml_SR_76 hs d_SR_endFrame_78 (Nat.le_of_ble_eq_true rfl) (Nat.le_of_ble_eq_true rfl) ?_
  refine j_goto (pc := 81) (tgt := 94) X d_SR_endFrame_81 rfl ?_
  refine j_sub [] (lv' := []) rfl ?_
  exact j_SR_endFrame_94 X a T hQ (plCp st 22 24 (plIx 0) (plIx ((K_SR_slotOf (st 21 8)) * 6)) (plIx ((st 21 3) - 1))) hk
def K_SR_endFrame_35 (st : plS) : plS := K_SR_endFrame_53 (plUp st 23 (plIx (K_SR_slotOf (st 21 8))) ((st 21 3) - 1))
def P_SR_endFrame_35 (st : plS) : Prop := (vp_in (K_SR_slotOf (st 21 8)) 8 ∧ P_SR_endFrame_53 (plUp st 23 (plIx (K_SR_slotOf (st 21 8))) ((st 21 3) - 1)))
set_option maxRecDepth 20000 in
theorem j_SR_endFrame_35 {E : plE} (X : plX E b_SR_endFrame "ProtectedLine$StreamReader" 2 none 1 64) (a : Nat → Nat) (T : plS) (hQ : plRv E (plwC (plg E) a) T) (st : plS)  (hs : P_SR_endFrame_35 st) (hk : T = K_SR_endFrame_35 st) : plJ E 2 (plwC (plg E) a st) 0 0 [(0, .ref (a 21))] 35 [] := by
  unfold P_SR_endFrame_35 at hs
  unfold K_SR_endFrame_35 at hk
  refine j_aload_n (pc := 35) X d_SR_endFrame_35 rfl 0 rfl ?_
  refine get_SR_sizes (pc := 36) X fl_SR_21 d_SR_endFrame_36 ?_
  refine j_aload_n (pc := 39) X d_SR_endFrame_39 rfl 0 rfl ?_
  refine get_SR_good (pc := 40) X fl_SR_70 d_SR_endFrame_40 ?_
  refine j_callSp (pc := 43) (As := [.int (st 21 8)]) (rest := [.ref (a 23)]) X (c_SR_slotOf (plg E) a st (st 21 8)) ml_SR_73 ⟨Nat.le_of_ble_eq_true rfl, Nat.le_of_ble_eq_true rfl⟩ rfl rfl (Nat.le_of_ble_eq_true rfl) d_SR_endFrame_43 ?_
  refine j_aload_n (pc := 46) X d_SR_endFrame_46 rfl 0 rfl ?_
  refine get_SR_length (pc := 47) X fl_SR_31 d_SR_endFrame_47 ?_
  refine j_iconst (pc := 50) X d_SR_endFrame_50 ic_1 ?_
  refine j_isub (pc := 51) X d_SR_endFrame_51 ?_
  refine ast_SRs (pc := 52) X hs.1 d_SR_endFrame_52 ?_
  have hs := hs.2
  exact j_SR_endFrame_53 X a T hQ (plUp st 23 (plIx (K_SR_slotOf (st 21 8))) ((st 21 3) - 1)) hs hk
def K_SR_endFrame (st : plS) (v1 : Int32) : plS := (if (st 21 3) < 2 then K_SR_endFrame_84 st else (if 7 < (st 21 3) then K_SR_endFrame_84 st else (if v1 = (st 21 6) then K_SR_endFrame_35 (plUp st 21 8 ((st 21 8) + 1)) else K_SR_endFrame_84 st)))
def P_SR_endFrame (st : plS) (v1 : Int32) : Prop := (¬ (st 21 3) < 2 → (¬ 7 < (st 21 3) → (v1 = (st 21 6) → P_SR_endFrame_35 (plUp st 21 8 ((st 21 8) + 1)))))
set_option maxRecDepth 20000 in
theorem j_SR_endFrame {E : plE} (X : plX E b_SR_endFrame "ProtectedLine$StreamReader" 2 none 1 64) (a : Nat → Nat) (T : plS) (hQ : plRv E (plwC (plg E) a) T) (st : plS) (v1 : Int32) (hs : P_SR_endFrame st v1) (hk : T = K_SR_endFrame st v1) : plJ E 2 (plwC (plg E) a st) 0 0 [(0, .ref (a 21)), (1, .int v1)] 0 [] := by
  unfold P_SR_endFrame at hs
  unfold K_SR_endFrame at hk
  refine j_aload_n (pc := 0) X d_SR_endFrame_0 rfl 0 rfl ?_
  refine get_SR_length (pc := 1) X fl_SR_31 d_SR_endFrame_1 ?_
  refine j_iconst (pc := 4) X d_SR_endFrame_4 ic_2 ?_
  refine j_icmp_lt (pc := 5) (tgt := 84) X d_SR_endFrame_5 rfl (fun hc => ?_) (fun hc => ?_)
  · have hk := hk.trans (if_pos hc)
    refine j_sub [0] (lv' := [(0, .ref (a 21))]) rfl ?_
    exact j_SR_endFrame_84 X a T hQ st hk
  · have hk := hk.trans (if_neg hc)
    have hs := hs hc
    refine j_aload_n (pc := 8) X d_SR_endFrame_8 rfl 0 rfl ?_
    refine get_SR_length (pc := 9) X fl_SR_31 d_SR_endFrame_9 ?_
    refine j_bipush (pc := 12) X d_SR_endFrame_12 bp_7 ?_
    refine j_icmp_gt (pc := 14) (tgt := 84) X d_SR_endFrame_14 rfl (fun hc => ?_) (fun hc => ?_)
    · have hk := hk.trans (if_pos hc)
      refine j_sub [0] (lv' := [(0, .ref (a 21))]) rfl ?_
      exact j_SR_endFrame_84 X a T hQ st hk
    · have hk := hk.trans (if_neg hc)
      have hs := hs hc
      refine j_iload_n (pc := 17) X d_SR_endFrame_17 rfl 1 rfl ?_
      refine j_aload_n (pc := 18) X d_SR_endFrame_18 rfl 0 rfl ?_
      refine get_SR_check (pc := 19) X fl_SR_54 d_SR_endFrame_19 ?_
      refine j_icmp_ne (pc := 22) (tgt := 84) X d_SR_endFrame_22 rfl (fun hc => ?_) (fun hc => ?_)
      · have hk := hk.trans (if_neg hc)
        refine j_sub [0] (lv' := [(0, .ref (a 21))]) rfl ?_
        exact j_SR_endFrame_84 X a T hQ st hk
      · have hk := hk.trans (if_pos hc)
        have hs := hs hc
        refine j_aload_n (pc := 25) X d_SR_endFrame_25 rfl 0 rfl ?_
        refine j_dup (pc := 26) X d_SR_endFrame_26 rfl ?_
        refine get_SR_good (pc := 27) X fl_SR_70 d_SR_endFrame_27 ?_
        refine j_iconst (pc := 30) X d_SR_endFrame_30 ic_1 ?_
        refine j_iadd (pc := 31) X d_SR_endFrame_31 ?_
        refine put_SR_good (pc := 32) X fl_SR_70 d_SR_endFrame_32 ?_
        refine j_sub [0] (lv' := [(0, .ref (a 21))]) rfl ?_
        exact j_SR_endFrame_35 X a T hQ (plUp st 21 8 ((st 21 8) + 1)) hs hk
set_option maxRecDepth 20000 in
theorem c_SR_endFrame (g : plG) (a : Nat → Nat) (st : plS) (v1 : Int32) (hs : P_SR_endFrame st v1) : plMv g y_SR_endFrame b_SR_endFrame 2 none 1 64 [.ref (a 21), .int v1] (plwC g a) st (K_SR_endFrame st v1) := by
  refine plMv.of (own := "ProtectedLine$StreamReader") (lv := [(0, .ref (a 21)), (1, .int v1)]) rfl rfl (Nat.le_of_ble_eq_true rfl) rfl (fun E hE X hQ => ?_)
  subst hE
  exact j_SR_endFrame X a _ hQ st v1 hs rfl
theorem d_SR_takeFrameByte_0 : decode b_SR_takeFrameByte 0 = .ok (.iload_n 1, 1) := by decide +kernel
theorem d_SR_takeFrameByte_1 : decode b_SR_takeFrameByte 1 = .ok (.aload_n 0, 1) := by decide +kernel
theorem d_SR_takeFrameByte_2 : decode b_SR_takeFrameByte 2 = .ok (.getfield 60, 3) := by decide +kernel
theorem d_SR_takeFrameByte_5 : decode b_SR_takeFrameByte 5 = .ok (.ixor, 1) := by decide +kernel
theorem d_SR_takeFrameByte_6 : decode b_SR_takeFrameByte 6 = .ok (.istore_n 2, 1) := by decide +kernel
theorem d_SR_takeFrameByte_7 : decode b_SR_takeFrameByte 7 = .ok (.aload_n 0, 1) := by decide +kernel
theorem d_SR_takeFrameByte_8 : decode b_SR_takeFrameByte 8 = .ok (.iload_n 1, 1) := by decide +kernel
theorem d_SR_takeFrameByte_9 : decode b_SR_takeFrameByte 9 = .ok (.putfield 60, 3) := by decide +kernel
theorem d_SR_takeFrameByte_12 : decode b_SR_takeFrameByte 12 = .ok (.aload_n 0, 1) := by decide +kernel
theorem d_SR_takeFrameByte_13 : decode b_SR_takeFrameByte 13 = .ok (.dup, 1) := by decide +kernel
theorem d_SR_takeFrameByte_14 : decode b_SR_takeFrameByte 14 = .ok (.getfield 34, 3) := by decide +kernel
theorem d_SR_takeFrameByte_17 : decode b_SR_takeFrameByte 17 = .ok (.iconst 1, 1) := by decide +kernel
theorem d_SR_takeFrameByte_18 : decode b_SR_takeFrameByte 18 = .ok (.iadd, 1) := by decide +kernel
theorem d_SR_takeFrameByte_19 : decode b_SR_takeFrameByte 19 = .ok (.putfield 34, 3) := by decide +kernel
theorem d_SR_takeFrameByte_22 : decode b_SR_takeFrameByte 22 = .ok (.aload_n 0, 1) := by decide +kernel
theorem d_SR_takeFrameByte_23 : decode b_SR_takeFrameByte 23 = .ok (.getfield 11, 3) := by decide +kernel
theorem d_SR_takeFrameByte_26 : decode b_SR_takeFrameByte 26 = .ok (.iconst 1, 1) := by decide +kernel
theorem d_SR_takeFrameByte_27 : decode b_SR_takeFrameByte 27 = .ok (.if_icmp .ne (4), 3) := by decide +kernel
theorem d_SR_takeFrameByte_30 : decode b_SR_takeFrameByte 30 = .ok (.return_, 1) := by decide +kernel
theorem d_SR_takeFrameByte_31 : decode b_SR_takeFrameByte 31 = .ok (.aload_n 0, 1) := by decide +kernel
theorem d_SR_takeFrameByte_32 : decode b_SR_takeFrameByte 32 = .ok (.getfield 34, 3) := by decide +kernel
theorem d_SR_takeFrameByte_35 : decode b_SR_takeFrameByte 35 = .ok (.aload_n 0, 1) := by decide +kernel
theorem d_SR_takeFrameByte_36 : decode b_SR_takeFrameByte 36 = .ok (.getfield 31, 3) := by decide +kernel
theorem d_SR_takeFrameByte_39 : decode b_SR_takeFrameByte 39 = .ok (.if_icmp .ne (9), 3) := by decide +kernel
theorem d_SR_takeFrameByte_42 : decode b_SR_takeFrameByte 42 = .ok (.aload_n 0, 1) := by decide +kernel
theorem d_SR_takeFrameByte_43 : decode b_SR_takeFrameByte 43 = .ok (.iload_n 2, 1) := by decide +kernel
theorem d_SR_takeFrameByte_44 : decode b_SR_takeFrameByte 44 = .ok (.invokevirtual 63, 3) := by decide +kernel
theorem d_SR_takeFrameByte_47 : decode b_SR_takeFrameByte 47 = .ok (.return_, 1) := by decide +kernel
theorem d_SR_takeFrameByte_48 : decode b_SR_takeFrameByte 48 = .ok (.aload_n 0, 1) := by decide +kernel
theorem d_SR_takeFrameByte_49 : decode b_SR_takeFrameByte 49 = .ok (.getfield 34, 3) := by decide +kernel
theorem d_SR_takeFrameByte_52 : decode b_SR_takeFrameByte 52 = .ok (.bipush (6), 2) := by decide +kernel
theorem d_SR_takeFrameByte_54 : decode b_SR_takeFrameByte 54 = .ok (.if_icmp .gt (15), 3) := by decide +kernel
theorem d_SR_takeFrameByte_57 : decode b_SR_takeFrameByte 57 = .ok (.aload_n 0, 1) := by decide +kernel
theorem d_SR_takeFrameByte_58 : decode b_SR_takeFrameByte 58 = .ok (.getfield 17, 3) := by decide +kernel
theorem d_SR_takeFrameByte_61 : decode b_SR_takeFrameByte 61 = .ok (.aload_n 0, 1) := by decide +kernel
theorem d_SR_takeFrameByte_62 : decode b_SR_takeFrameByte 62 = .ok (.getfield 34, 3) := by decide +kernel
theorem d_SR_takeFrameByte_65 : decode b_SR_takeFrameByte 65 = .ok (.iconst 1, 1) := by decide +kernel
theorem d_SR_takeFrameByte_66 : decode b_SR_takeFrameByte 66 = .ok (.isub, 1) := by decide +kernel
theorem d_SR_takeFrameByte_67 : decode b_SR_takeFrameByte 67 = .ok (.iload_n 2, 1) := by decide +kernel
theorem d_SR_takeFrameByte_68 : decode b_SR_takeFrameByte 68 = .ok (.iastore, 1) := by decide +kernel
theorem d_SR_takeFrameByte_69 : decode b_SR_takeFrameByte 69 = .ok (.aload_n 0, 1) := by decide +kernel
theorem d_SR_takeFrameByte_70 : decode b_SR_takeFrameByte 70 = .ok (.aload_n 0, 1) := by decide +kernel
theorem d_SR_takeFrameByte_71 : decode b_SR_takeFrameByte 71 = .ok (.getfield 54, 3) := by decide +kernel
theorem d_SR_takeFrameByte_74 : decode b_SR_takeFrameByte 74 = .ok (.iload_n 2, 1) := by decide +kernel
theorem d_SR_takeFrameByte_75 : decode b_SR_takeFrameByte 75 = .ok (.ixor, 1) := by decide +kernel
theorem d_SR_takeFrameByte_76 : decode b_SR_takeFrameByte 76 = .ok (.invokestatic 66, 3) := by decide +kernel
theorem d_SR_takeFrameByte_79 : decode b_SR_takeFrameByte 79 = .ok (.putfield 54, 3) := by decide +kernel
theorem d_SR_takeFrameByte_82 : decode b_SR_takeFrameByte 82 = .ok (.return_, 1) := by decide +kernel
def K_SR_takeFrameByte_69 (st : plS) (v2 : Int32) : plS := plUp st 21 6 (K_CO_hash ((st 21 6) ^^^ v2))
def P_SR_takeFrameByte_69 (st : plS) (v2 : Int32) : Prop := P_CO_hash ((st 21 6) ^^^ v2)
set_option maxRecDepth 20000 in
theorem j_SR_takeFrameByte_69 {E : plE} (X : plX E b_SR_takeFrameByte "ProtectedLine$StreamReader" 3 none 2 85) (a : Nat → Nat) (T : plS) (hQ : plRv E (plwC (plg E) a) T) (st : plS) (v2 : Int32) (hs : P_SR_takeFrameByte_69 st v2) (hk : T = K_SR_takeFrameByte_69 st v2) : plJ E 3 (plwC (plg E) a st) 0 0 [(0, .ref (a 21)), (2, .int v2)] 69 [] := by
  unfold P_SR_takeFrameByte_69 at hs
  unfold K_SR_takeFrameByte_69 at hk
  refine j_aload_n (pc := 69) X d_SR_takeFrameByte_69 rfl 0 rfl ?_
  refine j_aload_n (pc := 70) X d_SR_takeFrameByte_70 rfl 0 rfl ?_
  refine get_SR_check (pc := 71) X fl_SR_54 d_SR_takeFrameByte_71 ?_
  refine j_iload_n (pc := 74) X d_SR_takeFrameByte_74 rfl 1 rfl ?_
  refine j_ixor (pc := 75) X d_SR_takeFrameByte_75 ?_
  refine j_callSp (pc := 76) (As := [.int ((st 21 6) ^^^ v2)]) (rest := [.ref (a 21)]) X (c_CO_hash (plg E) a st ((st 21 6) ^^^ v2) hs) ml_SR_66 ⟨Nat.le_of_ble_eq_true rfl, Nat.le_of_ble_eq_true rfl⟩ rfl rfl (Nat.le_of_ble_eq_true rfl) d_SR_takeFrameByte_76 ?_
  refine put_SR_check (pc := 79) X fl_SR_54 d_SR_takeFrameByte_79 ?_
  exact j_retv (pc := 82) X hQ d_SR_takeFrameByte_82 hk
def K_SR_takeFrameByte_22 (st : plS) (v2 : Int32) : plS := (if (st 21 0) = 1 then st else (if (st 21 4) = (st 21 3) then K_SR_endFrame st v2 else (if 6 < (st 21 4) then K_SR_takeFrameByte_69 st v2 else K_SR_takeFrameByte_69 (plUp st 22 (plIx ((st 21 4) - 1)) v2) v2)))
def P_SR_takeFrameByte_22 (st : plS) (v2 : Int32) : Prop := (¬ (st 21 0) = 1 → (((st 21 4) = (st 21 3) → P_SR_endFrame st v2) ∧ (¬ (st 21 4) = (st 21 3) → ((6 < (st 21 4) → P_SR_takeFrameByte_69 st v2) ∧ (¬ 6 < (st 21 4) → (vp_in ((st 21 4) - 1) 6 ∧ P_SR_takeFrameByte_69 (plUp st 22 (plIx ((st 21 4) - 1)) v2) v2))))))
set_option maxRecDepth 20000 in
theorem j_SR_takeFrameByte_22 {E : plE} (X : plX E b_SR_takeFrameByte "ProtectedLine$StreamReader" 3 none 2 85) (a : Nat → Nat) (T : plS) (hQ : plRv E (plwC (plg E) a) T) (st : plS) (v2 : Int32) (hs : P_SR_takeFrameByte_22 st v2) (hk : T = K_SR_takeFrameByte_22 st v2) : plJ E 3 (plwC (plg E) a st) 0 0 [(0, .ref (a 21)), (2, .int v2)] 22 [] := by
  unfold P_SR_takeFrameByte_22 at hs
  unfold K_SR_takeFrameByte_22 at hk
  refine j_aload_n (pc := 22) X d_SR_takeFrameByte_22 rfl 0 rfl ?_
  refine get_SR_state (pc := 23) X fl_SR_11 d_SR_takeFrameByte_23 ?_
  refine j_iconst (pc := 26) X d_SR_takeFrameByte_26 ic_1 ?_
  refine j_icmp_ne (pc := 27) (tgt := 31) X d_SR_takeFrameByte_27 rfl (fun hc => ?_) (fun hc => ?_)
  · have hk := hk.trans (if_neg hc)
    have hs := hs hc
    refine j_aload_n (pc := 31) X d_SR_takeFrameByte_31 rfl 0 rfl ?_
    refine get_SR_done (pc := 32) X fl_SR_34 d_SR_takeFrameByte_32 ?_
    refine j_aload_n (pc := 35) X d_SR_takeFrameByte_35 rfl 0 rfl ?_
    refine get_SR_length (pc := 36) X fl_SR_31 d_SR_takeFrameByte_36 ?_
    refine j_icmp_ne (pc := 39) (tgt := 48) X d_SR_takeFrameByte_39 rfl (fun hc => ?_) (fun hc => ?_)
    · have hk := hk.trans (if_neg hc)
      have hs := hs.2 hc
      refine j_aload_n (pc := 48) X d_SR_takeFrameByte_48 rfl 0 rfl ?_
      refine get_SR_done (pc := 49) X fl_SR_34 d_SR_takeFrameByte_49 ?_
      refine j_bipush (pc := 52) X d_SR_takeFrameByte_52 bp_6 ?_
      refine j_icmp_gt (pc := 54) (tgt := 69) X d_SR_takeFrameByte_54 rfl (fun hc => ?_) (fun hc => ?_)
      · have hk := hk.trans (if_pos hc)
        have hs := hs.1 hc
        exact j_SR_takeFrameByte_69 X a T hQ st v2 hs hk
      · have hk := hk.trans (if_neg hc)
        have hs := hs.2 hc
        refine j_aload_n (pc := 57) X d_SR_takeFrameByte_57 rfl 0 rfl ?_
        refine get_SR_frame (pc := 58) X fl_SR_17 d_SR_takeFrameByte_58 ?_
        refine j_aload_n (pc := 61) X d_SR_takeFrameByte_61 rfl 0 rfl ?_
        refine get_SR_done (pc := 62) X fl_SR_34 d_SR_takeFrameByte_62 ?_
        refine j_iconst (pc := 65) X d_SR_takeFrameByte_65 ic_1 ?_
        refine j_isub (pc := 66) X d_SR_takeFrameByte_66 ?_
        refine j_iload_n (pc := 67) X d_SR_takeFrameByte_67 rfl 1 rfl ?_
        refine ast_SRf (pc := 68) X hs.1 d_SR_takeFrameByte_68 ?_
        have hs := hs.2
        exact j_SR_takeFrameByte_69 X a T hQ (plUp st 22 (plIx ((st 21 4) - 1)) v2) v2 hs hk
    · have hk := hk.trans (if_pos hc)
      have hs := hs.1 hc
      refine j_aload_n (pc := 42) X d_SR_takeFrameByte_42 rfl 0 rfl ?_
      refine j_iload_n (pc := 43) X d_SR_takeFrameByte_43 rfl 1 rfl ?_
      refine j_callVv (pc := 44) (As := [.int v2]) (rest := []) X (c_SR_endFrame (plg E) a st v2 hs) ml_SR_63 21 rfl rfl ⟨Nat.le_of_ble_eq_true rfl, Nat.le_of_ble_eq_true rfl⟩ rfl rfl (Nat.le_of_ble_eq_true rfl) d_SR_takeFrameByte_44 ?_
      exact j_retv (pc := 47) X hQ d_SR_takeFrameByte_47 hk
  · have hk := hk.trans (if_pos hc)
    exact j_retv (pc := 30) X hQ d_SR_takeFrameByte_30 hk
def K_SR_takeFrameByte_12 (st : plS) (v2 : Int32) : plS := K_SR_takeFrameByte_22 (plUp st 21 4 ((st 21 4) + 1)) v2
def P_SR_takeFrameByte_12 (st : plS) (v2 : Int32) : Prop := P_SR_takeFrameByte_22 (plUp st 21 4 ((st 21 4) + 1)) v2
set_option maxRecDepth 20000 in
theorem j_SR_takeFrameByte_12 {E : plE} (X : plX E b_SR_takeFrameByte "ProtectedLine$StreamReader" 3 none 2 85) (a : Nat → Nat) (T : plS) (hQ : plRv E (plwC (plg E) a) T) (st : plS) (v2 : Int32) (hs : P_SR_takeFrameByte_12 st v2) (hk : T = K_SR_takeFrameByte_12 st v2) : plJ E 3 (plwC (plg E) a st) 0 0 [(0, .ref (a 21)), (2, .int v2)] 12 [] := by
  unfold P_SR_takeFrameByte_12 at hs
  unfold K_SR_takeFrameByte_12 at hk
  refine j_aload_n (pc := 12) X d_SR_takeFrameByte_12 rfl 0 rfl ?_
  refine j_dup (pc := 13) X d_SR_takeFrameByte_13 rfl ?_
  refine get_SR_done (pc := 14) X fl_SR_34 d_SR_takeFrameByte_14 ?_
  refine j_iconst (pc := 17) X d_SR_takeFrameByte_17 ic_1 ?_
  refine j_iadd (pc := 18) X d_SR_takeFrameByte_18 ?_
  refine put_SR_done (pc := 19) X fl_SR_34 d_SR_takeFrameByte_19 ?_
  exact j_SR_takeFrameByte_22 X a T hQ (plUp st 21 4 ((st 21 4) + 1)) v2 hs hk
def K_SR_takeFrameByte (st : plS) (v1 : Int32) : plS := K_SR_takeFrameByte_12 (plUp st 21 5 v1) (v1 ^^^ (st 21 5))
def P_SR_takeFrameByte (st : plS) (v1 : Int32) : Prop := P_SR_takeFrameByte_12 (plUp st 21 5 v1) (v1 ^^^ (st 21 5))
set_option maxRecDepth 20000 in
theorem j_SR_takeFrameByte {E : plE} (X : plX E b_SR_takeFrameByte "ProtectedLine$StreamReader" 3 none 2 85) (a : Nat → Nat) (T : plS) (hQ : plRv E (plwC (plg E) a) T) (st : plS) (v1 : Int32) (hs : P_SR_takeFrameByte st v1) (hk : T = K_SR_takeFrameByte st v1) : plJ E 3 (plwC (plg E) a st) 0 0 [(0, .ref (a 21)), (1, .int v1)] 0 [] := by
  unfold P_SR_takeFrameByte at hs
  unfold K_SR_takeFrameByte at hk
  refine j_iload_n (pc := 0) X d_SR_takeFrameByte_0 rfl 1 rfl ?_
  refine j_aload_n (pc := 1) X d_SR_takeFrameByte_1 rfl 0 rfl ?_
  refine get_SR_before (pc := 2) X fl_SR_60 d_SR_takeFrameByte_2 ?_
  refine j_ixor (pc := 5) X d_SR_takeFrameByte_5 ?_
  refine j_istore_n (pc := 6) X d_SR_takeFrameByte_6 rfl (lv' := [(2, .int (v1 ^^^ (st 21 5))), (0, .ref (a 21)), (1, .int v1)]) (Nat.le_of_ble_eq_true rfl) rfl ?_
  refine j_aload_n (pc := 7) X d_SR_takeFrameByte_7 rfl 1 rfl ?_
  refine j_iload_n (pc := 8) X d_SR_takeFrameByte_8 rfl 2 rfl ?_
  refine put_SR_before (pc := 9) X fl_SR_60 d_SR_takeFrameByte_9 ?_
  refine j_sub [1, 0] (lv' := [(0, .ref (a 21)), (2, .int (v1 ^^^ (st 21 5)))]) rfl ?_
  exact j_SR_takeFrameByte_12 X a T hQ (plUp st 21 5 v1) (v1 ^^^ (st 21 5)) hs hk
set_option maxRecDepth 20000 in
theorem c_SR_takeFrameByte (g : plG) (a : Nat → Nat) (st : plS) (v1 : Int32) (hs : P_SR_takeFrameByte st v1) : plMv g y_SR_takeFrameByte b_SR_takeFrameByte 3 none 2 85 [.ref (a 21), .int v1] (plwC g a) st (K_SR_takeFrameByte st v1) := by
  refine plMv.of (own := "ProtectedLine$StreamReader") (lv := [(0, .ref (a 21)), (1, .int v1)]) rfl rfl (Nat.le_of_ble_eq_true rfl) rfl (fun E hE X hQ => ?_)
  subst hE
  exact j_SR_takeFrameByte X a _ hQ st v1 hs rfl
theorem d_SR_give_0 : decode b_SR_give 0 = .ok (.aload_n 0, 1) := by decide +kernel
theorem d_SR_give_1 : decode b_SR_give 1 = .ok (.getfield 34, 3) := by decide +kernel
theorem d_SR_give_4 : decode b_SR_give 4 = .ok (.aload_n 0, 1) := by decide +kernel
theorem d_SR_give_5 : decode b_SR_give 5 = .ok (.getfield 31, 3) := by decide +kernel
theorem d_SR_give_8 : decode b_SR_give 8 = .ok (.if_icmp .ge (11), 3) := by decide +kernel
theorem d_SR_give_11 : decode b_SR_give 11 = .ok (.aload_n 0, 1) := by decide +kernel
theorem d_SR_give_12 : decode b_SR_give 12 = .ok (.iload_n 1, 1) := by decide +kernel
theorem d_SR_give_13 : decode b_SR_give 13 = .ok (.invokevirtual 37, 3) := by decide +kernel
theorem d_SR_give_16 : decode b_SR_give 16 = .ok (.goto (28), 3) := by decide +kernel
theorem d_SR_give_19 : decode b_SR_give 19 = .ok (.aload_n 0, 1) := by decide +kernel
theorem d_SR_give_20 : decode b_SR_give 20 = .ok (.getfield 27, 3) := by decide +kernel
theorem d_SR_give_23 : decode b_SR_give 23 = .ok (.ifCond .eq (11), 3) := by decide +kernel
theorem d_SR_give_26 : decode b_SR_give 26 = .ok (.aload_n 0, 1) := by decide +kernel
theorem d_SR_give_27 : decode b_SR_give 27 = .ok (.iload_n 1, 1) := by decide +kernel
theorem d_SR_give_28 : decode b_SR_give 28 = .ok (.invokevirtual 41, 3) := by decide +kernel
theorem d_SR_give_31 : decode b_SR_give 31 = .ok (.goto (13), 3) := by decide +kernel
theorem d_SR_give_34 : decode b_SR_give 34 = .ok (.aload_n 0, 1) := by decide +kernel
theorem d_SR_give_35 : decode b_SR_give 35 = .ok (.iconst 1, 1) := by decide +kernel
theorem d_SR_give_36 : decode b_SR_give 36 = .ok (.putfield 27, 3) := by decide +kernel
theorem d_SR_give_39 : decode b_SR_give 39 = .ok (.aload_n 0, 1) := by decide +kernel
theorem d_SR_give_40 : decode b_SR_give 40 = .ok (.iload_n 1, 1) := by decide +kernel
theorem d_SR_give_41 : decode b_SR_give 41 = .ok (.putfield 44, 3) := by decide +kernel
theorem d_SR_give_44 : decode b_SR_give 44 = .ok (.return_, 1) := by decide +kernel
def K_SR_give_44 (st : plS) : plS := st
set_option maxRecDepth 20000 in
theorem j_SR_give_44 {E : plE} (X : plX E b_SR_give "ProtectedLine$StreamReader" 2 none 3 107) (a : Nat → Nat) (T : plS) (hQ : plRv E (plwC (plg E) a) T) (st : plS)  (hk : T = K_SR_give_44 st) : plJ E 2 (plwC (plg E) a st) 0 0 [] 44 [] := by
  unfold K_SR_give_44 at hk
  exact j_retv (pc := 44) X hQ d_SR_give_44 hk
def K_SR_give_39 (st : plS) (v1 : Int32) : plS := K_SR_give_44 (plUp st 21 2 v1)
set_option maxRecDepth 20000 in
theorem j_SR_give_39 {E : plE} (X : plX E b_SR_give "ProtectedLine$StreamReader" 2 none 3 107) (a : Nat → Nat) (T : plS) (hQ : plRv E (plwC (plg E) a) T) (st : plS) (v1 : Int32) (hk : T = K_SR_give_39 st v1) : plJ E 2 (plwC (plg E) a st) 0 0 [(0, .ref (a 21)), (1, .int v1)] 39 [] := by
  unfold K_SR_give_39 at hk
  refine j_aload_n (pc := 39) X d_SR_give_39 rfl 0 rfl ?_
  refine j_iload_n (pc := 40) X d_SR_give_40 rfl 1 rfl ?_
  refine put_SR_first (pc := 41) X fl_SR_44 d_SR_give_41 ?_
  refine j_sub [] (lv' := []) rfl ?_
  exact j_SR_give_44 X a T hQ (plUp st 21 2 v1) hk
def K_SR_give (st : plS) (v1 : Int32) : plS := (if (st 21 3) ≤ (st 21 4) then (if (st 21 1) = 0 then K_SR_give_39 (plUp st 21 1 1) v1 else K_SR_give_44 (K_SR_takeHeader st v1)) else K_SR_give_44 (K_SR_takeFrameByte st v1))
def P_SR_give (st : plS) (v1 : Int32) : Prop := (((st 21 3) ≤ (st 21 4) → (¬ (st 21 1) = 0 → P_SR_takeHeader st v1)) ∧ (¬ (st 21 3) ≤ (st 21 4) → P_SR_takeFrameByte st v1))
set_option maxRecDepth 20000 in
theorem j_SR_give {E : plE} (X : plX E b_SR_give "ProtectedLine$StreamReader" 2 none 3 107) (a : Nat → Nat) (T : plS) (hQ : plRv E (plwC (plg E) a) T) (st : plS) (v1 : Int32) (hs : P_SR_give st v1) (hk : T = K_SR_give st v1) : plJ E 2 (plwC (plg E) a st) 0 0 [(0, .ref (a 21)), (1, .int v1)] 0 [] := by
  unfold P_SR_give at hs
  unfold K_SR_give at hk
  refine j_aload_n (pc := 0) X d_SR_give_0 rfl 0 rfl ?_
  refine get_SR_done (pc := 1) X fl_SR_34 d_SR_give_1 ?_
  refine j_aload_n (pc := 4) X d_SR_give_4 rfl 0 rfl ?_
  refine get_SR_length (pc := 5) X fl_SR_31 d_SR_give_5 ?_
  refine j_icmp_ge (pc := 8) (tgt := 19) X d_SR_give_8 rfl (fun hc => ?_) (fun hc => ?_)
  · have hk := hk.trans (if_pos hc)
    have hs := hs.1 hc
    refine j_aload_n (pc := 19) X d_SR_give_19 rfl 0 rfl ?_
    refine get_SR_half (pc := 20) X fl_SR_27 d_SR_give_20 ?_
    refine j_if_eq (pc := 23) (tgt := 34) X d_SR_give_23 rfl (fun hc => ?_) (fun hc => ?_)
    · have hk := hk.trans (if_pos hc)
      refine j_aload_n (pc := 34) X d_SR_give_34 rfl 0 rfl ?_
      refine j_iconst (pc := 35) X d_SR_give_35 ic_1 ?_
      refine put_SR_half (pc := 36) X fl_SR_27 d_SR_give_36 (Or.inr rfl) ?_
      exact j_SR_give_39 X a T hQ (plUp st 21 1 1) v1 hk
    · have hk := hk.trans (if_neg hc)
      have hs := hs hc
      refine j_aload_n (pc := 26) X d_SR_give_26 rfl 0 rfl ?_
      refine j_iload_n (pc := 27) X d_SR_give_27 rfl 1 rfl ?_
      refine j_callVv (pc := 28) (As := [.int v1]) (rest := []) X (c_SR_takeHeader (plg E) a st v1 hs) ml_SR_41 21 rfl rfl ⟨Nat.le_of_ble_eq_true rfl, Nat.le_of_ble_eq_true rfl⟩ rfl rfl (Nat.le_of_ble_eq_true rfl) d_SR_give_28 ?_
      refine j_goto (pc := 31) (tgt := 44) X d_SR_give_31 rfl ?_
      refine j_sub [] (lv' := []) rfl ?_
      exact j_SR_give_44 X a T hQ (K_SR_takeHeader st v1) hk
  · have hk := hk.trans (if_neg hc)
    have hs := hs.2 hc
    refine j_aload_n (pc := 11) X d_SR_give_11 rfl 0 rfl ?_
    refine j_iload_n (pc := 12) X d_SR_give_12 rfl 1 rfl ?_
    refine j_callVv (pc := 13) (As := [.int v1]) (rest := []) X (c_SR_takeFrameByte (plg E) a st v1 hs) ml_SR_37 21 rfl rfl ⟨Nat.le_of_ble_eq_true rfl, Nat.le_of_ble_eq_true rfl⟩ rfl rfl (Nat.le_of_ble_eq_true rfl) d_SR_give_13 ?_
    refine j_goto (pc := 16) (tgt := 44) X d_SR_give_16 rfl ?_
    refine j_sub [] (lv' := []) rfl ?_
    exact j_SR_give_44 X a T hQ (K_SR_takeFrameByte st v1) hk
set_option maxRecDepth 20000 in
theorem c_SR_give (g : plG) (a : Nat → Nat) (st : plS) (v1 : Int32) (hs : P_SR_give st v1) : plMv g y_SR_give b_SR_give 2 none 3 107 [.ref (a 21), .int v1] (plwC g a) st (K_SR_give st v1) := by
  refine plMv.of (own := "ProtectedLine$StreamReader") (lv := [(0, .ref (a 21)), (1, .int v1)]) rfl rfl (Nat.le_of_ble_eq_true rfl) rfl (fun E hE X hQ => ?_)
  subst hE
  exact j_SR_give X a _ hQ st v1 hs rfl
theorem d_PR_beginContainer_0 : decode b_PR_beginContainer 0 = .ok (.aload_n 0, 1) := by decide +kernel
theorem d_PR_beginContainer_1 : decode b_PR_beginContainer 1 = .ok (.getfield 47, 3) := by decide +kernel
theorem d_PR_beginContainer_4 : decode b_PR_beginContainer 4 = .ok (.bipush (6), 2) := by decide +kernel
theorem d_PR_beginContainer_6 : decode b_PR_beginContainer 6 = .ok (.if_icmp .ne (21), 3) := by decide +kernel
theorem d_PR_beginContainer_9 : decode b_PR_beginContainer 9 = .ok (.aload_n 0, 1) := by decide +kernel
theorem d_PR_beginContainer_10 : decode b_PR_beginContainer 10 = .ok (.dup, 1) := by decide +kernel
theorem d_PR_beginContainer_11 : decode b_PR_beginContainer 11 = .ok (.getfield 55, 3) := by decide +kernel
theorem d_PR_beginContainer_14 : decode b_PR_beginContainer 14 = .ok (.iload_n 1, 1) := by decide +kernel
theorem d_PR_beginContainer_15 : decode b_PR_beginContainer 15 = .ok (.aload_n 0, 1) := by decide +kernel
theorem d_PR_beginContainer_16 : decode b_PR_beginContainer 16 = .ok (.getfield 44, 3) := by decide +kernel
theorem d_PR_beginContainer_19 : decode b_PR_beginContainer 19 = .ok (.ixor, 1) := by decide +kernel
theorem d_PR_beginContainer_20 : decode b_PR_beginContainer 20 = .ok (.invokestatic 58, 3) := by decide +kernel
theorem d_PR_beginContainer_23 : decode b_PR_beginContainer 23 = .ok (.iadd, 1) := by decide +kernel
theorem d_PR_beginContainer_24 : decode b_PR_beginContainer 24 = .ok (.putfield 55, 3) := by decide +kernel
theorem d_PR_beginContainer_27 : decode b_PR_beginContainer 27 = .ok (.aload_n 0, 1) := by decide +kernel
theorem d_PR_beginContainer_28 : decode b_PR_beginContainer 28 = .ok (.iload_n 1, 1) := by decide +kernel
theorem d_PR_beginContainer_29 : decode b_PR_beginContainer 29 = .ok (.putfield 44, 3) := by decide +kernel
theorem d_PR_beginContainer_32 : decode b_PR_beginContainer 32 = .ok (.aload_n 0, 1) := by decide +kernel
theorem d_PR_beginContainer_33 : decode b_PR_beginContainer 33 = .ok (.iconst 1, 1) := by decide +kernel
theorem d_PR_beginContainer_34 : decode b_PR_beginContainer 34 = .ok (.putfield 47, 3) := by decide +kernel
theorem d_PR_beginContainer_37 : decode b_PR_beginContainer 37 = .ok (.return_, 1) := by decide +kernel
def K_PR_beginContainer_32 (st : plS) : plS := plUp st 25 6 1
set_option maxRecDepth 20000 in
theorem j_PR_beginContainer_32 {E : plE} (X : plX E b_PR_beginContainer "ProtectedLine$PointerReader" 2 none 1 20) (a : Nat → Nat) (T : plS) (hQ : plRv E (plwC (plg E) a) T) (st : plS)  (hk : T = K_PR_beginContainer_32 st) : plJ E 2 (plwC (plg E) a st) 0 0 [(0, .ref (a 25))] 32 [] := by
  unfold K_PR_beginContainer_32 at hk
  refine j_aload_n (pc := 32) X d_PR_beginContainer_32 rfl 0 rfl ?_
  refine j_iconst (pc := 33) X d_PR_beginContainer_33 ic_1 ?_
  refine put_PR_sinceFirst (pc := 34) X fl_PR_47 d_PR_beginContainer_34 ?_
  exact j_retv (pc := 37) X hQ d_PR_beginContainer_37 hk
def K_PR_beginContainer_27 (st : plS) (v1 : Int32) : plS := K_PR_beginContainer_32 (plUp st 25 7 v1)
set_option maxRecDepth 20000 in
theorem j_PR_beginContainer_27 {E : plE} (X : plX E b_PR_beginContainer "ProtectedLine$PointerReader" 2 none 1 20) (a : Nat → Nat) (T : plS) (hQ : plRv E (plwC (plg E) a) T) (st : plS) (v1 : Int32) (hk : T = K_PR_beginContainer_27 st v1) : plJ E 2 (plwC (plg E) a st) 0 0 [(0, .ref (a 25)), (1, .int v1)] 27 [] := by
  unfold K_PR_beginContainer_27 at hk
  refine j_aload_n (pc := 27) X d_PR_beginContainer_27 rfl 0 rfl ?_
  refine j_iload_n (pc := 28) X d_PR_beginContainer_28 rfl 1 rfl ?_
  refine put_PR_joined (pc := 29) X fl_PR_44 d_PR_beginContainer_29 ?_
  refine j_sub [0] (lv' := [(0, .ref (a 25))]) rfl ?_
  exact j_PR_beginContainer_32 X a T hQ (plUp st 25 7 v1) hk
def K_PR_beginContainer (st : plS) (v1 : Int32) : plS := (if (st 25 6) = 6 then K_PR_beginContainer_27 (plUp st 25 8 ((st 25 8) + (K_JI_bitCount (v1 ^^^ (st 25 7))))) v1 else K_PR_beginContainer_27 st v1)
set_option maxRecDepth 20000 in
theorem j_PR_beginContainer {E : plE} (X : plX E b_PR_beginContainer "ProtectedLine$PointerReader" 2 none 1 20) (a : Nat → Nat) (T : plS) (hQ : plRv E (plwC (plg E) a) T) (st : plS) (v1 : Int32) (hk : T = K_PR_beginContainer st v1) : plJ E 2 (plwC (plg E) a st) 0 0 [(0, .ref (a 25)), (1, .int v1)] 0 [] := by
  unfold K_PR_beginContainer at hk
  refine j_aload_n (pc := 0) X d_PR_beginContainer_0 rfl 0 rfl ?_
  refine get_PR_sinceFirst (pc := 1) X fl_PR_47 d_PR_beginContainer_1 ?_
  refine j_bipush (pc := 4) X d_PR_beginContainer_4 bp_6 ?_
  refine j_icmp_ne (pc := 6) (tgt := 27) X d_PR_beginContainer_6 rfl (fun hc => ?_) (fun hc => ?_)
  · have hk := hk.trans (if_neg hc)
    exact j_PR_beginContainer_27 X a T hQ st v1 hk
  · have hk := hk.trans (if_pos hc)
    refine j_aload_n (pc := 9) X d_PR_beginContainer_9 rfl 0 rfl ?_
    refine j_dup (pc := 10) X d_PR_beginContainer_10 rfl ?_
    refine get_PR_errorBits (pc := 11) X fl_PR_55 d_PR_beginContainer_11 ?_
    refine j_iload_n (pc := 14) X d_PR_beginContainer_14 rfl 1 rfl ?_
    refine j_aload_n (pc := 15) X d_PR_beginContainer_15 rfl 0 rfl ?_
    refine get_PR_joined (pc := 16) X fl_PR_44 d_PR_beginContainer_16 ?_
    refine j_ixor (pc := 19) X d_PR_beginContainer_19 ?_
    refine j_callSp (pc := 20) (As := [.int (v1 ^^^ (st 25 7))]) (rest := [.int (st 25 8), .ref (a 25)]) X (c_JI_bitCount (plg E) a st (v1 ^^^ (st 25 7))) ml_PR_58 ⟨Nat.le_of_ble_eq_true rfl, Nat.le_of_ble_eq_true rfl⟩ rfl rfl (Nat.le_of_ble_eq_true rfl) d_PR_beginContainer_20 ?_
    refine j_iadd (pc := 23) X d_PR_beginContainer_23 ?_
    refine put_PR_errorBits (pc := 24) X fl_PR_55 d_PR_beginContainer_24 ?_
    exact j_PR_beginContainer_27 X a T hQ (plUp st 25 8 ((st 25 8) + (K_JI_bitCount (v1 ^^^ (st 25 7))))) v1 hk
set_option maxRecDepth 20000 in
theorem c_PR_beginContainer (g : plG) (a : Nat → Nat) (st : plS) (v1 : Int32) : plMv g y_PR_beginContainer b_PR_beginContainer 2 none 1 20 [.ref (a 25), .int v1] (plwC g a) st (K_PR_beginContainer st v1) := by
  refine plMv.of (own := "ProtectedLine$PointerReader") (lv := [(0, .ref (a 25)), (1, .int v1)]) rfl rfl (Nat.le_of_ble_eq_true rfl) rfl (fun E hE X hQ => ?_)
  subst hE
  exact j_PR_beginContainer X a _ hQ st v1 rfl
