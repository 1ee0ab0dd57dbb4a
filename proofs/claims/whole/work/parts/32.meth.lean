theorem d_RM_select_0 : decode b_RM_select 0 = .ok (.aload_n 0, 1) := by decide +kernel
theorem d_RM_select_1 : decode b_RM_select 1 = .ok (.getfield 66, 3) := by decide +kernel
theorem d_RM_select_4 : decode b_RM_select 4 = .ok (.ifCond .lt (17), 3) := by decide +kernel
theorem d_RM_select_7 : decode b_RM_select 7 = .ok (.aload_n 0, 1) := by decide +kernel
theorem d_RM_select_8 : decode b_RM_select 8 = .ok (.getfield 66, 3) := by decide +kernel
theorem d_RM_select_11 : decode b_RM_select 11 = .ok (.iconst 1, 1) := by decide +kernel
theorem d_RM_select_12 : decode b_RM_select 12 = .ok (.iand, 1) := by decide +kernel
theorem d_RM_select_13 : decode b_RM_select 13 = .ok (.iconst 1, 1) := by decide +kernel
theorem d_RM_select_14 : decode b_RM_select 14 = .ok (.if_icmp .ne (7), 3) := by decide +kernel
theorem d_RM_select_17 : decode b_RM_select 17 = .ok (.iconst 1, 1) := by decide +kernel
theorem d_RM_select_18 : decode b_RM_select 18 = .ok (.goto (4), 3) := by decide +kernel
theorem d_RM_select_21 : decode b_RM_select 21 = .ok (.iconst 0, 1) := by decide +kernel
theorem d_RM_select_22 : decode b_RM_select 22 = .ok (.istore_n 1, 1) := by decide +kernel
theorem d_RM_select_23 : decode b_RM_select 23 = .ok (.aload_n 0, 1) := by decide +kernel
theorem d_RM_select_24 : decode b_RM_select 24 = .ok (.aload_n 0, 1) := by decide +kernel
theorem d_RM_select_25 : decode b_RM_select 25 = .ok (.getfield 132, 3) := by decide +kernel
theorem d_RM_select_28 : decode b_RM_select 28 = .ok (.iconst 1, 1) := by decide +kernel
theorem d_RM_select_29 : decode b_RM_select 29 = .ok (.if_icmp .lt (19), 3) := by decide +kernel
theorem d_RM_select_32 : decode b_RM_select 32 = .ok (.aload_n 0, 1) := by decide +kernel
theorem d_RM_select_33 : decode b_RM_select 33 = .ok (.getfield 132, 3) := by decide +kernel
theorem d_RM_select_36 : decode b_RM_select 36 = .ok (.iconst 4, 1) := by decide +kernel
theorem d_RM_select_37 : decode b_RM_select 37 = .ok (.if_icmp .gt (11), 3) := by decide +kernel
theorem d_RM_select_40 : decode b_RM_select 40 = .ok (.iload_n 1, 1) := by decide +kernel
theorem d_RM_select_41 : decode b_RM_select 41 = .ok (.ifCond .eq (7), 3) := by decide +kernel
theorem d_RM_select_44 : decode b_RM_select 44 = .ok (.iconst 1, 1) := by decide +kernel
theorem d_RM_select_45 : decode b_RM_select 45 = .ok (.goto (4), 3) := by decide +kernel
theorem d_RM_select_48 : decode b_RM_select 48 = .ok (.iconst 0, 1) := by decide +kernel
theorem d_RM_select_49 : decode b_RM_select 49 = .ok (.putfield 135, 3) := by decide +kernel
theorem d_RM_select_52 : decode b_RM_select 52 = .ok (.bipush (12), 2) := by decide +kernel
theorem d_RM_select_54 : decode b_RM_select 54 = .ok (.aload_n 0, 1) := by decide +kernel
theorem d_RM_select_55 : decode b_RM_select 55 = .ok (.getfield 135, 3) := by decide +kernel
theorem d_RM_select_58 : decode b_RM_select 58 = .ok (.imul, 1) := by decide +kernel
theorem d_RM_select_59 : decode b_RM_select 59 = .ok (.istore_n 2, 1) := by decide +kernel
theorem d_RM_select_60 : decode b_RM_select 60 = .ok (.aload_n 0, 1) := by decide +kernel
theorem d_RM_select_61 : decode b_RM_select 61 = .ok (.getfield 57, 3) := by decide +kernel
theorem d_RM_select_64 : decode b_RM_select 64 = .ok (.aload_n 0, 1) := by decide +kernel
theorem d_RM_select_65 : decode b_RM_select 65 = .ok (.getfield 135, 3) := by decide +kernel
theorem d_RM_select_68 : decode b_RM_select 68 = .ok (.iaload, 1) := by decide +kernel
theorem d_RM_select_69 : decode b_RM_select 69 = .ok (.iconst 2, 1) := by decide +kernel
theorem d_RM_select_70 : decode b_RM_select 70 = .ok (.if_icmp .ne (19), 3) := by decide +kernel
theorem d_RM_select_73 : decode b_RM_select 73 = .ok (.aload_n 0, 1) := by decide +kernel
theorem d_RM_select_74 : decode b_RM_select 74 = .ok (.getfield 48, 3) := by decide +kernel
theorem d_RM_select_77 : decode b_RM_select 77 = .ok (.aload_n 0, 1) := by decide +kernel
theorem d_RM_select_78 : decode b_RM_select 78 = .ok (.getfield 135, 3) := by decide +kernel
theorem d_RM_select_81 : decode b_RM_select 81 = .ok (.baload, 1) := by decide +kernel
theorem d_RM_select_82 : decode b_RM_select 82 = .ok (.ifCond .eq (7), 3) := by decide +kernel
theorem d_RM_select_85 : decode b_RM_select 85 = .ok (.iconst 1, 1) := by decide +kernel
theorem d_RM_select_86 : decode b_RM_select 86 = .ok (.goto (4), 3) := by decide +kernel
theorem d_RM_select_89 : decode b_RM_select 89 = .ok (.iconst 0, 1) := by decide +kernel
theorem d_RM_select_90 : decode b_RM_select 90 = .ok (.istore_n 3, 1) := by decide +kernel
theorem d_RM_select_91 : decode b_RM_select 91 = .ok (.iload_n 3, 1) := by decide +kernel
theorem d_RM_select_92 : decode b_RM_select 92 = .ok (.ifCond .eq (47), 3) := by decide +kernel
theorem d_RM_select_95 : decode b_RM_select 95 = .ok (.aload_n 0, 1) := by decide +kernel
theorem d_RM_select_96 : decode b_RM_select 96 = .ok (.getfield 45, 3) := by decide +kernel
theorem d_RM_select_99 : decode b_RM_select 99 = .ok (.iload_n 2, 1) := by decide +kernel
theorem d_RM_select_100 : decode b_RM_select 100 = .ok (.iconst 4, 1) := by decide +kernel
theorem d_RM_select_101 : decode b_RM_select 101 = .ok (.iadd, 1) := by decide +kernel
theorem d_RM_select_102 : decode b_RM_select 102 = .ok (.iaload, 1) := by decide +kernel
theorem d_RM_select_103 : decode b_RM_select 103 = .ok (.aload_n 0, 1) := by decide +kernel
theorem d_RM_select_104 : decode b_RM_select 104 = .ok (.getfield 32, 3) := by decide +kernel
theorem d_RM_select_107 : decode b_RM_select 107 = .ok (.iconst 4, 1) := by decide +kernel
theorem d_RM_select_108 : decode b_RM_select 108 = .ok (.iaload, 1) := by decide +kernel
theorem d_RM_select_109 : decode b_RM_select 109 = .ok (.ixor, 1) := by decide +kernel
theorem d_RM_select_110 : decode b_RM_select 110 = .ok (.sipush (255), 3) := by decide +kernel
theorem d_RM_select_113 : decode b_RM_select 113 = .ok (.if_icmp .eq (26), 3) := by decide +kernel
theorem d_RM_select_116 : decode b_RM_select 116 = .ok (.aload_n 0, 1) := by decide +kernel
theorem d_RM_select_117 : decode b_RM_select 117 = .ok (.iload_n 2, 1) := by decide +kernel
theorem d_RM_select_118 : decode b_RM_select 118 = .ok (.aload_n 0, 1) := by decide +kernel
theorem d_RM_select_119 : decode b_RM_select 119 = .ok (.getfield 45, 3) := by decide +kernel
theorem d_RM_select_122 : decode b_RM_select 122 = .ok (.iload_n 2, 1) := by decide +kernel
theorem d_RM_select_123 : decode b_RM_select 123 = .ok (.iconst 4, 1) := by decide +kernel
theorem d_RM_select_124 : decode b_RM_select 124 = .ok (.iadd, 1) := by decide +kernel
theorem d_RM_select_125 : decode b_RM_select 125 = .ok (.iaload, 1) := by decide +kernel
theorem d_RM_select_126 : decode b_RM_select 126 = .ok (.aload_n 0, 1) := by decide +kernel
theorem d_RM_select_127 : decode b_RM_select 127 = .ok (.getfield 32, 3) := by decide +kernel
theorem d_RM_select_130 : decode b_RM_select 130 = .ok (.iconst 4, 1) := by decide +kernel
theorem d_RM_select_131 : decode b_RM_select 131 = .ok (.iaload, 1) := by decide +kernel
theorem d_RM_select_132 : decode b_RM_select 132 = .ok (.ixor, 1) := by decide +kernel
theorem d_RM_select_133 : decode b_RM_select 133 = .ok (.invokevirtual 202, 3) := by decide +kernel
theorem d_RM_select_136 : decode b_RM_select 136 = .ok (.goto (7), 3) := by decide +kernel
theorem d_RM_select_139 : decode b_RM_select 139 = .ok (.aload_n 0, 1) := by decide +kernel
theorem d_RM_select_140 : decode b_RM_select 140 = .ok (.invokevirtual 206, 3) := by decide +kernel
theorem d_RM_select_143 : decode b_RM_select 143 = .ok (.return_, 1) := by decide +kernel
def K_RM_select_143 (st : plS) : plS := st
set_option maxRecDepth 20000 in
theorem j_RM_select_143 {E : plE} (X : plX E b_RM_select "ProtectedLineModel" 4 none 7 160) (a : Nat → Nat) (T : plS) (hQ : plRv E (plwR (plg E) a) T) (st : plS)  (hk : T = K_RM_select_143 st) : plJ E 4 (plwR (plg E) a st) 0 0 [] 143 [] := by
  unfold K_RM_select_143 at hk
  exact j_retv (pc := 143) X hQ d_RM_select_143 hk
def K_RM_select_139 (st : plS) : plS := K_RM_select_143 (K_RM_gap st)
set_option maxRecDepth 20000 in
theorem j_RM_select_139 {E : plE} (X : plX E b_RM_select "ProtectedLineModel" 4 none 7 160) (a : Nat → Nat) (T : plS) (hQ : plRv E (plwR (plg E) a) T) (st : plS)  (hk : T = K_RM_select_139 st) : plJ E 4 (plwR (plg E) a st) 0 0 [(0, .ref (a 0))] 139 [] := by
  unfold K_RM_select_139 at hk
  refine j_aload_n (pc := 139) X d_RM_select_139 rfl 0 rfl ?_
  refine j_callVv (pc := 140) (As := []) (rest := []) X (c_RM_gap (plg E) a st) ml_RM_206 0 rfl rfl ⟨Nat.le_of_ble_eq_true rfl, Nat.le_of_ble_eq_true rfl⟩ rfl rfl (Nat.le_of_ble_eq_true rfl) d_RM_select_140 ?_
  refine j_sub [] (lv' := []) rfl ?_
  exact j_RM_select_143 X a T hQ (K_RM_gap st) hk
def K_RM_select_90 (st : plS) (v2 : Int32) (k0 : Int32) : plS := (if k0 = 0 then K_RM_select_139 st else (if ((st 10 (plIx (v2 + 4))) ^^^ (st 6 (plIx 4))) = 255 then K_RM_select_139 st else K_RM_select_143 (K_RM_read st v2 ((st 10 (plIx (v2 + 4))) ^^^ (st 6 (plIx 4))))))
def P_RM_select_90 (st : plS) (v2 : Int32) (k0 : Int32) : Prop := (¬ k0 = 0 → (vp_in (v2 + 4) 24 ∧ (¬ ((st 10 (plIx (v2 + 4))) ^^^ (st 6 (plIx 4))) = 255 → (vp_in (v2 + 4) 24 ∧ P_RM_read st v2 ((st 10 (plIx (v2 + 4))) ^^^ (st 6 (plIx 4)))))))
set_option maxRecDepth 20000 in
theorem j_RM_select_90 {E : plE} (X : plX E b_RM_select "ProtectedLineModel" 4 none 7 160) (a : Nat → Nat) (T : plS) (hQ : plRv E (plwR (plg E) a) T) (st : plS) (v2 : Int32) (k0 : Int32) (hs : P_RM_select_90 st v2 k0) (hk : T = K_RM_select_90 st v2 k0) : plJ E 4 (plwR (plg E) a st) 0 0 [(0, .ref (a 0)), (2, .int v2)] 90 [.int k0] := by
  unfold P_RM_select_90 at hs
  unfold K_RM_select_90 at hk
  refine j_istore_n (pc := 90) X d_RM_select_90 rfl (lv' := [(3, .int k0), (0, .ref (a 0)), (2, .int v2)]) (Nat.le_of_ble_eq_true rfl) rfl ?_
  refine j_iload_n (pc := 91) X d_RM_select_91 rfl 0 rfl ?_
  refine j_if_eq (pc := 92) (tgt := 139) X d_RM_select_92 rfl (fun hc => ?_) (fun hc => ?_)
  · have hk := hk.trans (if_pos hc)
    refine j_sub [1] (lv' := [(0, .ref (a 0))]) rfl ?_
    exact j_RM_select_139 X a T hQ st hk
  · have hk := hk.trans (if_neg hc)
    have hs := hs hc
    refine j_aload_n (pc := 95) X d_RM_select_95 rfl 1 rfl ?_
    refine get_RM_now (pc := 96) X fl_RM_45 d_RM_select_96 ?_
    refine j_iload_n (pc := 99) X d_RM_select_99 rfl 2 rfl ?_
    refine j_iconst (pc := 100) X d_RM_select_100 ic_4 ?_
    refine j_iadd (pc := 101) X d_RM_select_101 ?_
    refine ald_RMnow (pc := 102) X hs.1 d_RM_select_102 ?_
    have hs := hs.2
    refine j_aload_n (pc := 103) X d_RM_select_103 rfl 1 rfl ?_
    refine get_RM_row (pc := 104) X fl_RM_32 d_RM_select_104 ?_
    refine j_iconst (pc := 107) X d_RM_select_107 ic_4 ?_
    refine ald_RMrow (pc := 108) X vi_4_12 d_RM_select_108 ?_
    refine j_ixor (pc := 109) X d_RM_select_109 ?_
    refine j_sipush (pc := 110) X d_RM_select_110 sp_255 ?_
    refine j_icmp_eq (pc := 113) (tgt := 139) X d_RM_select_113 rfl (fun hc => ?_) (fun hc => ?_)
    · have hk := hk.trans (if_pos hc)
      refine j_sub [1] (lv' := [(0, .ref (a 0))]) rfl ?_
      exact j_RM_select_139 X a T hQ st hk
    · have hk := hk.trans (if_neg hc)
      have hs := hs hc
      refine j_aload_n (pc := 116) X d_RM_select_116 rfl 1 rfl ?_
      refine j_iload_n (pc := 117) X d_RM_select_117 rfl 2 rfl ?_
      refine j_aload_n (pc := 118) X d_RM_select_118 rfl 1 rfl ?_
      refine get_RM_now (pc := 119) X fl_RM_45 d_RM_select_119 ?_
      refine j_iload_n (pc := 122) X d_RM_select_122 rfl 2 rfl ?_
      refine j_iconst (pc := 123) X d_RM_select_123 ic_4 ?_
      refine j_iadd (pc := 124) X d_RM_select_124 ?_
      refine ald_RMnow (pc := 125) X hs.1 d_RM_select_125 ?_
      have hs := hs.2
      refine j_aload_n (pc := 126) X d_RM_select_126 rfl 1 rfl ?_
      refine get_RM_row (pc := 127) X fl_RM_32 d_RM_select_127 ?_
      refine j_iconst (pc := 130) X d_RM_select_130 ic_4 ?_
      refine ald_RMrow (pc := 131) X vi_4_12 d_RM_select_131 ?_
      refine j_ixor (pc := 132) X d_RM_select_132 ?_
      refine j_callVv (pc := 133) (As := [.int v2, .int ((st 10 (plIx (v2 + 4))) ^^^ (st 6 (plIx 4)))]) (rest := []) X (c_RM_read (plg E) a st v2 ((st 10 (plIx (v2 + 4))) ^^^ (st 6 (plIx 4))) hs) ml_RM_202 0 rfl rfl ⟨Nat.le_of_ble_eq_true rfl, Nat.le_of_ble_eq_true rfl⟩ rfl rfl (Nat.le_of_ble_eq_true rfl) d_RM_select_133 ?_
      refine j_goto (pc := 136) (tgt := 143) X d_RM_select_136 rfl ?_
      refine j_sub [] (lv' := []) rfl ?_
      exact j_RM_select_143 X a T hQ (K_RM_read st v2 ((st 10 (plIx (v2 + 4))) ^^^ (st 6 (plIx 4)))) hk
def K_RM_select_89 (st : plS) (v2 : Int32) : plS := K_RM_select_90 st v2 0
def P_RM_select_89 (st : plS) (v2 : Int32) : Prop := P_RM_select_90 st v2 0
set_option maxRecDepth 20000 in
theorem j_RM_select_89 {E : plE} (X : plX E b_RM_select "ProtectedLineModel" 4 none 7 160) (a : Nat → Nat) (T : plS) (hQ : plRv E (plwR (plg E) a) T) (st : plS) (v2 : Int32) (hs : P_RM_select_89 st v2) (hk : T = K_RM_select_89 st v2) : plJ E 4 (plwR (plg E) a st) 0 0 [(0, .ref (a 0)), (2, .int v2)] 89 [] := by
  unfold P_RM_select_89 at hs
  unfold K_RM_select_89 at hk
  refine j_iconst (pc := 89) X d_RM_select_89 ic_0 ?_
  exact j_RM_select_90 X a T hQ st v2 0 hs hk
def K_RM_select_52 (st : plS) : plS := (if (st 14 (plIx (st 0 40))) = 2 then (if (st 11 (plIx (st 0 40))) = 0 then K_RM_select_89 st (12 * (st 0 40)) else K_RM_select_90 st (12 * (st 0 40)) 1) else K_RM_select_89 st (12 * (st 0 40)))
def P_RM_select_52 (st : plS) : Prop := (vp_in (st 0 40) 2 ∧ (((st 14 (plIx (st 0 40))) = 2 → (vp_in (st 0 40) 2 ∧ (((st 11 (plIx (st 0 40))) = 0 → P_RM_select_89 st (12 * (st 0 40))) ∧ (¬ (st 11 (plIx (st 0 40))) = 0 → P_RM_select_90 st (12 * (st 0 40)) 1)))) ∧ (¬ (st 14 (plIx (st 0 40))) = 2 → P_RM_select_89 st (12 * (st 0 40)))))
set_option maxRecDepth 20000 in
theorem j_RM_select_52 {E : plE} (X : plX E b_RM_select "ProtectedLineModel" 4 none 7 160) (a : Nat → Nat) (T : plS) (hQ : plRv E (plwR (plg E) a) T) (st : plS)  (hs : P_RM_select_52 st) (hk : T = K_RM_select_52 st) : plJ E 4 (plwR (plg E) a st) 0 0 [(0, .ref (a 0))] 52 [] := by
  unfold P_RM_select_52 at hs
  unfold K_RM_select_52 at hk
  refine j_bipush (pc := 52) X d_RM_select_52 bp_12 ?_
  refine j_aload_n (pc := 54) X d_RM_select_54 rfl 0 rfl ?_
  refine get_RM_selected (pc := 55) X fl_RM_135 d_RM_select_55 ?_
  refine j_imul (pc := 58) X d_RM_select_58 ?_
  refine j_istore_n (pc := 59) X d_RM_select_59 rfl (lv' := [(2, .int (12 * (st 0 40))), (0, .ref (a 0))]) (Nat.le_of_ble_eq_true rfl) rfl ?_
  refine j_aload_n (pc := 60) X d_RM_select_60 rfl 1 rfl ?_
  refine get_RM_state (pc := 61) X fl_RM_57 d_RM_select_61 ?_
  refine j_aload_n (pc := 64) X d_RM_select_64 rfl 1 rfl ?_
  refine get_RM_selected (pc := 65) X fl_RM_135 d_RM_select_65 ?_
  refine ald_RMstate (pc := 68) X hs.1 d_RM_select_68 ?_
  have hs := hs.2
  refine j_iconst (pc := 69) X d_RM_select_69 ic_2 ?_
  refine j_icmp_ne (pc := 70) (tgt := 89) X d_RM_select_70 rfl (fun hc => ?_) (fun hc => ?_)
  · have hk := hk.trans (if_neg hc)
    have hs := hs.2 hc
    refine j_sub [1, 0] (lv' := [(0, .ref (a 0)), (2, .int (12 * (st 0 40)))]) rfl ?_
    exact j_RM_select_89 X a T hQ st (12 * (st 0 40)) hs hk
  · have hk := hk.trans (if_pos hc)
    have hs := hs.1 hc
    refine j_aload_n (pc := 73) X d_RM_select_73 rfl 1 rfl ?_
    refine get_RM_came (pc := 74) X fl_RM_48 d_RM_select_74 ?_
    refine j_aload_n (pc := 77) X d_RM_select_77 rfl 1 rfl ?_
    refine get_RM_selected (pc := 78) X fl_RM_135 d_RM_select_78 ?_
    refine ald_RMcame (pc := 81) X hs.1 d_RM_select_81 ?_
    have hs := hs.2
    refine j_if_eq (pc := 82) (tgt := 89) X d_RM_select_82 rfl (fun hc => ?_) (fun hc => ?_)
    · have hk := hk.trans (if_pos hc)
      have hs := hs.1 hc
      refine j_sub [1, 0] (lv' := [(0, .ref (a 0)), (2, .int (12 * (st 0 40)))]) rfl ?_
      exact j_RM_select_89 X a T hQ st (12 * (st 0 40)) hs hk
    · have hk := hk.trans (if_neg hc)
      have hs := hs.2 hc
      refine j_iconst (pc := 85) X d_RM_select_85 ic_1 ?_
      refine j_goto (pc := 86) (tgt := 90) X d_RM_select_86 rfl ?_
      refine j_sub [1, 0] (lv' := [(0, .ref (a 0)), (2, .int (12 * (st 0 40)))]) rfl ?_
      exact j_RM_select_90 X a T hQ st (12 * (st 0 40)) 1 hs hk
def K_RM_select_49 (st : plS) (k0 : Int32) : plS := K_RM_select_52 (plUp st 0 40 k0)
def P_RM_select_49 (st : plS) (k0 : Int32) : Prop := P_RM_select_52 (plUp st 0 40 k0)
set_option maxRecDepth 20000 in
theorem j_RM_select_49 {E : plE} (X : plX E b_RM_select "ProtectedLineModel" 4 none 7 160) (a : Nat → Nat) (T : plS) (hQ : plRv E (plwR (plg E) a) T) (st : plS) (k0 : Int32) (hs : P_RM_select_49 st k0) (hk : T = K_RM_select_49 st k0) : plJ E 4 (plwR (plg E) a st) 0 0 [(0, .ref (a 0))] 49 [.int k0, .ref (a 0)] := by
  unfold P_RM_select_49 at hs
  unfold K_RM_select_49 at hk
  refine put_RM_selected (pc := 49) X fl_RM_135 d_RM_select_49 ?_
  exact j_RM_select_52 X a T hQ (plUp st 0 40 k0) hs hk
def K_RM_select_48 (st : plS) : plS := K_RM_select_49 st 0
def P_RM_select_48 (st : plS) : Prop := P_RM_select_49 st 0
set_option maxRecDepth 20000 in
theorem j_RM_select_48 {E : plE} (X : plX E b_RM_select "ProtectedLineModel" 4 none 7 160) (a : Nat → Nat) (T : plS) (hQ : plRv E (plwR (plg E) a) T) (st : plS)  (hs : P_RM_select_48 st) (hk : T = K_RM_select_48 st) : plJ E 4 (plwR (plg E) a st) 0 0 [(0, .ref (a 0))] 48 [.ref (a 0)] := by
  unfold P_RM_select_48 at hs
  unfold K_RM_select_48 at hk
  refine j_iconst (pc := 48) X d_RM_select_48 ic_0 ?_
  exact j_RM_select_49 X a T hQ st 0 hs hk
def K_RM_select_22 (st : plS) (k0 : Int32) : plS := (if (st 0 38) < 1 then K_RM_select_48 st else (if 4 < (st 0 38) then K_RM_select_48 st else (if k0 = 0 then K_RM_select_48 st else K_RM_select_49 st 1)))
def P_RM_select_22 (st : plS) (k0 : Int32) : Prop := (((st 0 38) < 1 → P_RM_select_48 st) ∧ (¬ (st 0 38) < 1 → ((4 < (st 0 38) → P_RM_select_48 st) ∧ (¬ 4 < (st 0 38) → ((k0 = 0 → P_RM_select_48 st) ∧ (¬ k0 = 0 → P_RM_select_49 st 1))))))
set_option maxRecDepth 20000 in
theorem j_RM_select_22 {E : plE} (X : plX E b_RM_select "ProtectedLineModel" 4 none 7 160) (a : Nat → Nat) (T : plS) (hQ : plRv E (plwR (plg E) a) T) (st : plS) (k0 : Int32) (hs : P_RM_select_22 st k0) (hk : T = K_RM_select_22 st k0) : plJ E 4 (plwR (plg E) a st) 0 0 [(0, .ref (a 0))] 22 [.int k0] := by
  unfold P_RM_select_22 at hs
  unfold K_RM_select_22 at hk
  refine j_istore_n (pc := 22) X d_RM_select_22 rfl (lv' := [(1, .int k0), (0, .ref (a 0))]) (Nat.le_of_ble_eq_true rfl) rfl ?_
  refine j_aload_n (pc := 23) X d_RM_select_23 rfl 1 rfl ?_
  refine j_aload_n (pc := 24) X d_RM_select_24 rfl 1 rfl ?_
  refine get_RM_request (pc := 25) X fl_RM_132 d_RM_select_25 ?_
  refine j_iconst (pc := 28) X d_RM_select_28 ic_1 ?_
  refine j_icmp_lt (pc := 29) (tgt := 48) X d_RM_select_29 rfl (fun hc => ?_) (fun hc => ?_)
  · have hk := hk.trans (if_pos hc)
    have hs := hs.1 hc
    refine j_sub [1] (lv' := [(0, .ref (a 0))]) rfl ?_
    exact j_RM_select_48 X a T hQ st hs hk
  · have hk := hk.trans (if_neg hc)
    have hs := hs.2 hc
    refine j_aload_n (pc := 32) X d_RM_select_32 rfl 1 rfl ?_
    refine get_RM_request (pc := 33) X fl_RM_132 d_RM_select_33 ?_
    refine j_iconst (pc := 36) X d_RM_select_36 ic_4 ?_
    refine j_icmp_gt (pc := 37) (tgt := 48) X d_RM_select_37 rfl (fun hc => ?_) (fun hc => ?_)
    · have hk := hk.trans (if_pos hc)
      have hs := hs.1 hc
      refine j_sub [1] (lv' := [(0, .ref (a 0))]) rfl ?_
      exact j_RM_select_48 X a T hQ st hs hk
    · have hk := hk.trans (if_neg hc)
      have hs := hs.2 hc
      refine j_iload_n (pc := 40) X d_RM_select_40 rfl 0 rfl ?_
      refine j_if_eq (pc := 41) (tgt := 48) X d_RM_select_41 rfl (fun hc => ?_) (fun hc => ?_)
      · have hk := hk.trans (if_pos hc)
        have hs := hs.1 hc
        refine j_sub [1] (lv' := [(0, .ref (a 0))]) rfl ?_
        exact j_RM_select_48 X a T hQ st hs hk
      · have hk := hk.trans (if_neg hc)
        have hs := hs.2 hc
        refine j_iconst (pc := 44) X d_RM_select_44 ic_1 ?_
        refine j_goto (pc := 45) (tgt := 49) X d_RM_select_45 rfl ?_
        refine j_sub [1] (lv' := [(0, .ref (a 0))]) rfl ?_
        exact j_RM_select_49 X a T hQ st 1 hs hk
def K_RM_select_21 (st : plS) : plS := K_RM_select_22 st 0
def P_RM_select_21 (st : plS) : Prop := P_RM_select_22 st 0
set_option maxRecDepth 20000 in
theorem j_RM_select_21 {E : plE} (X : plX E b_RM_select "ProtectedLineModel" 4 none 7 160) (a : Nat → Nat) (T : plS) (hQ : plRv E (plwR (plg E) a) T) (st : plS)  (hs : P_RM_select_21 st) (hk : T = K_RM_select_21 st) : plJ E 4 (plwR (plg E) a st) 0 0 [(0, .ref (a 0))] 21 [] := by
  unfold P_RM_select_21 at hs
  unfold K_RM_select_21 at hk
  refine j_iconst (pc := 21) X d_RM_select_21 ic_0 ?_
  exact j_RM_select_22 X a T hQ st 0 hs hk
def K_RM_select (st : plS) : plS := (if (st 0 34) < 0 then K_RM_select_21 st else (if ((st 0 34) &&& 1) = 1 then K_RM_select_22 st 1 else K_RM_select_21 st))
def P_RM_select (st : plS) : Prop := (((st 0 34) < 0 → P_RM_select_21 st) ∧ (¬ (st 0 34) < 0 → ((((st 0 34) &&& 1) = 1 → P_RM_select_22 st 1) ∧ (¬ ((st 0 34) &&& 1) = 1 → P_RM_select_21 st))))
set_option maxRecDepth 20000 in
theorem j_RM_select {E : plE} (X : plX E b_RM_select "ProtectedLineModel" 4 none 7 160) (a : Nat → Nat) (T : plS) (hQ : plRv E (plwR (plg E) a) T) (st : plS)  (hs : P_RM_select st) (hk : T = K_RM_select st) : plJ E 4 (plwR (plg E) a st) 0 0 [(0, .ref (a 0))] 0 [] := by
  unfold P_RM_select at hs
  unfold K_RM_select at hk
  refine j_aload_n (pc := 0) X d_RM_select_0 rfl 0 rfl ?_
  refine get_RM_acceptedB (pc := 1) X fl_RM_66 d_RM_select_1 ?_
  refine j_if_lt (pc := 4) (tgt := 21) X d_RM_select_4 rfl (fun hc => ?_) (fun hc => ?_)
  · have hk := hk.trans (if_pos hc)
    have hs := hs.1 hc
    exact j_RM_select_21 X a T hQ st hs hk
  · have hk := hk.trans (if_neg hc)
    have hs := hs.2 hc
    refine j_aload_n (pc := 7) X d_RM_select_7 rfl 0 rfl ?_
    refine get_RM_acceptedB (pc := 8) X fl_RM_66 d_RM_select_8 ?_
    refine j_iconst (pc := 11) X d_RM_select_11 ic_1 ?_
    refine j_iand (pc := 12) X d_RM_select_12 ?_
    refine j_iconst (pc := 13) X d_RM_select_13 ic_1 ?_
    refine j_icmp_ne (pc := 14) (tgt := 21) X d_RM_select_14 rfl (fun hc => ?_) (fun hc => ?_)
    · have hk := hk.trans (if_neg hc)
      have hs := hs.2 hc
      exact j_RM_select_21 X a T hQ st hs hk
    · have hk := hk.trans (if_pos hc)
      have hs := hs.1 hc
      refine j_iconst (pc := 17) X d_RM_select_17 ic_1 ?_
      refine j_goto (pc := 18) (tgt := 22) X d_RM_select_18 rfl ?_
      exact j_RM_select_22 X a T hQ st 1 hs hk
set_option maxRecDepth 20000 in
theorem c_RM_select (g : plG) (a : Nat → Nat) (st : plS)  (hs : P_RM_select st ) : plMv g y_RM_select b_RM_select 4 none 7 160 [.ref (a 0)] (plwR g a) st (K_RM_select st ) := by
  refine plMv.of (own := "ProtectedLineModel") (lv := [(0, .ref (a 0))]) rfl rfl (Nat.le_of_ble_eq_true rfl) rfl (fun E hE X hQ => ?_)
  subst hE
  exact j_RM_select X a _ hQ st  hs rfl
theorem d_RM_tick_0 : decode b_RM_tick 0 = .ok (.iload_n 1, 1) := by decide +kernel
theorem d_RM_tick_1 : decode b_RM_tick 1 = .ok (.iconst 1, 1) := by decide +kernel
theorem d_RM_tick_2 : decode b_RM_tick 2 = .ok (.if_icmp .lt (9), 3) := by decide +kernel
theorem d_RM_tick_5 : decode b_RM_tick 5 = .ok (.iload_n 1, 1) := by decide +kernel
theorem d_RM_tick_6 : decode b_RM_tick 6 = .ok (.bipush (40), 2) := by decide +kernel
theorem d_RM_tick_8 : decode b_RM_tick 8 = .ok (.if_icmp .le (5), 3) := by decide +kernel
theorem d_RM_tick_11 : decode b_RM_tick 11 = .ok (.iconst 0, 1) := by decide +kernel
theorem d_RM_tick_12 : decode b_RM_tick 12 = .ok (.ireturn, 1) := by decide +kernel
theorem d_RM_tick_13 : decode b_RM_tick 13 = .ok (.iconst 0, 1) := by decide +kernel
theorem d_RM_tick_14 : decode b_RM_tick 14 = .ok (.istore_n 2, 1) := by decide +kernel
theorem d_RM_tick_15 : decode b_RM_tick 15 = .ok (.iload_n 2, 1) := by decide +kernel
theorem d_RM_tick_16 : decode b_RM_tick 16 = .ok (.iload_n 1, 1) := by decide +kernel
theorem d_RM_tick_17 : decode b_RM_tick 17 = .ok (.if_icmp .ge (67), 3) := by decide +kernel
theorem d_RM_tick_20 : decode b_RM_tick 20 = .ok (.aload_n 0, 1) := by decide +kernel
theorem d_RM_tick_21 : decode b_RM_tick 21 = .ok (.dup, 1) := by decide +kernel
theorem d_RM_tick_22 : decode b_RM_tick 22 = .ok (.getfield 111, 3) := by decide +kernel
theorem d_RM_tick_25 : decode b_RM_tick 25 = .ok (.iconst 1, 1) := by decide +kernel
theorem d_RM_tick_26 : decode b_RM_tick 26 = .ok (.iadd, 1) := by decide +kernel
theorem d_RM_tick_27 : decode b_RM_tick 27 = .ok (.putfield 111, 3) := by decide +kernel
theorem d_RM_tick_30 : decode b_RM_tick 30 = .ok (.aload_n 0, 1) := by decide +kernel
theorem d_RM_tick_31 : decode b_RM_tick 31 = .ok (.invokevirtual 114, 3) := by decide +kernel
theorem d_RM_tick_34 : decode b_RM_tick 34 = .ok (.aload_n 0, 1) := by decide +kernel
theorem d_RM_tick_35 : decode b_RM_tick 35 = .ok (.invokevirtual 117, 3) := by decide +kernel
theorem d_RM_tick_38 : decode b_RM_tick 38 = .ok (.aload_n 0, 1) := by decide +kernel
theorem d_RM_tick_39 : decode b_RM_tick 39 = .ok (.invokevirtual 120, 3) := by decide +kernel
theorem d_RM_tick_42 : decode b_RM_tick 42 = .ok (.aload_n 0, 1) := by decide +kernel
theorem d_RM_tick_43 : decode b_RM_tick 43 = .ok (.invokevirtual 123, 3) := by decide +kernel
theorem d_RM_tick_46 : decode b_RM_tick 46 = .ok (.aload_n 0, 1) := by decide +kernel
theorem d_RM_tick_47 : decode b_RM_tick 47 = .ok (.invokevirtual 126, 3) := by decide +kernel
theorem d_RM_tick_50 : decode b_RM_tick 50 = .ok (.aload_n 0, 1) := by decide +kernel
theorem d_RM_tick_51 : decode b_RM_tick 51 = .ok (.invokevirtual 129, 3) := by decide +kernel
theorem d_RM_tick_54 : decode b_RM_tick 54 = .ok (.aload_n 0, 1) := by decide +kernel
theorem d_RM_tick_55 : decode b_RM_tick 55 = .ok (.getfield 29, 3) := by decide +kernel
theorem d_RM_tick_58 : decode b_RM_tick 58 = .ok (.aload_n 0, 1) := by decide +kernel
theorem d_RM_tick_59 : decode b_RM_tick 59 = .ok (.getfield 111, 3) := by decide +kernel
theorem d_RM_tick_62 : decode b_RM_tick 62 = .ok (.bipush (7), 2) := by decide +kernel
theorem d_RM_tick_64 : decode b_RM_tick 64 = .ok (.iand, 1) := by decide +kernel
theorem d_RM_tick_65 : decode b_RM_tick 65 = .ok (.bipush (16), 2) := by decide +kernel
theorem d_RM_tick_67 : decode b_RM_tick 67 = .ok (.aload_n 0, 1) := by decide +kernel
theorem d_RM_tick_68 : decode b_RM_tick 68 = .ok (.getfield 132, 3) := by decide +kernel
theorem d_RM_tick_71 : decode b_RM_tick 71 = .ok (.imul, 1) := by decide +kernel
theorem d_RM_tick_72 : decode b_RM_tick 72 = .ok (.aload_n 0, 1) := by decide +kernel
theorem d_RM_tick_73 : decode b_RM_tick 73 = .ok (.getfield 135, 3) := by decide +kernel
theorem d_RM_tick_76 : decode b_RM_tick 76 = .ok (.iadd, 1) := by decide +kernel
theorem d_RM_tick_77 : decode b_RM_tick 77 = .ok (.iastore, 1) := by decide +kernel
theorem d_RM_tick_78 : decode b_RM_tick 78 = .ok (.iinc 2 (1), 3) := by decide +kernel
theorem d_RM_tick_81 : decode b_RM_tick 81 = .ok (.goto (-66), 3) := by decide +kernel
theorem d_RM_tick_84 : decode b_RM_tick 84 = .ok (.iconst 1, 1) := by decide +kernel
theorem d_RM_tick_85 : decode b_RM_tick 85 = .ok (.ireturn, 1) := by decide +kernel
def K_RM_tick_11 (st : plS) : Int32 × plS := (0, st)
set_option maxRecDepth 20000 in
theorem j_RM_tick_11 {E : plE} (X : plX E b_RM_tick "ProtectedLineModel" 3 (some .boolean) 8 183) (a : Nat → Nat) (T : Int32 × plS) (hQ : plRi E (plwR (plg E) a) T) (st : plS)  (hk : T = K_RM_tick_11 st) : plJ E 3 (plwR (plg E) a st) 0 0 [] 11 [] := by
  unfold K_RM_tick_11 at hk
  refine j_iconst (pc := 11) X d_RM_tick_11 ic_0 ?_
  exact j_retz (pc := 12) X hQ d_RM_tick_12 (Or.inl rfl) hk
def K_RM_tick_15L54 (st : plS) (v1 : Int32) (v2 : Int32) : Bool × (plS × Int32) := (true, (plUp st 5 (plIx ((st 0 3) &&& 7)) ((16 * (st 0 38)) + (st 0 40)), v2 + 1))
def P_RM_tick_15L54 (st : plS) (v1 : Int32) (v2 : Int32) : Prop := vp_in ((st 0 3) &&& 7) 8
set_option maxRecDepth 20000 in
theorem j_RM_tick_15L54 {E : plE} (X : plX E b_RM_tick "ProtectedLineModel" 3 (some .boolean) 8 183) (a : Nat → Nat) (T : Bool × (plS × Int32)) (v1 : Int32) (hb : ∀ (c0 : plS) (c1 : Int32), T = (true, (c0, c1)) → plJ E 3 (plwR (plg E) a c0) 0 0 [(0, .ref (a 0)), (1, .int v1), (2, .int c1)] 15 []) (hx : ∀ (c0 : plS) (c1 : Int32), T = (false, (c0, c1)) → plJ E 3 (plwR (plg E) a c0) 0 0 [(0, .ref (a 0)), (1, .int v1), (2, .int c1)] 84 []) (st : plS) (v2 : Int32) (hs : P_RM_tick_15L54 st v1 v2) (hk : T = K_RM_tick_15L54 st v1 v2) : plJ E 3 (plwR (plg E) a st) 0 0 [(0, .ref (a 0)), (1, .int v1), (2, .int v2)] 54 [] := by
  unfold P_RM_tick_15L54 at hs
  unfold K_RM_tick_15L54 at hk
  refine j_aload_n (pc := 54) X d_RM_tick_54 rfl 0 rfl ?_
  refine get_RM_back (pc := 55) X fl_RM_29 d_RM_tick_55 ?_
  refine j_aload_n (pc := 58) X d_RM_tick_58 rfl 0 rfl ?_
  refine get_RM_time (pc := 59) X fl_RM_111 d_RM_tick_59 ?_
  refine j_bipush (pc := 62) X d_RM_tick_62 bp_7 ?_
  refine j_iand (pc := 64) X d_RM_tick_64 ?_
  refine j_bipush (pc := 65) X d_RM_tick_65 bp_16 ?_
  refine j_aload_n (pc := 67) X d_RM_tick_67 rfl 0 rfl ?_
  refine get_RM_request (pc := 68) X fl_RM_132 d_RM_tick_68 ?_
  refine j_imul (pc := 71) X d_RM_tick_71 ?_
  refine j_aload_n (pc := 72) X d_RM_tick_72 rfl 0 rfl ?_
  refine get_RM_selected (pc := 73) X fl_RM_135 d_RM_tick_73 ?_
  refine j_iadd (pc := 76) X d_RM_tick_76 ?_
  refine ast_RMback (pc := 77) X hs d_RM_tick_77 ?_
  refine j_iinc (pc := 78) X d_RM_tick_78 2 rfl ic_1 (lv' := [(2, .int (v2 + 1)), (0, .ref (a 0)), (1, .int v1)]) (Nat.le_of_ble_eq_true rfl) rfl ?_
  refine j_goto (pc := 81) (tgt := 15) X d_RM_tick_81 rfl ?_
  refine j_sub [1, 2, 0] (lv' := [(0, .ref (a 0)), (1, .int v1), (2, .int (v2 + 1))]) rfl ?_
  exact hb (plUp st 5 (plIx ((st 0 3) &&& 7)) ((16 * (st 0 38)) + (st 0 40))) (v2 + 1) hk
def K_RM_tick_15L50 (st : plS) (v1 : Int32) (v2 : Int32) : Bool × (plS × Int32) := K_RM_tick_15L54 (K_RM_select st) v1 v2
def P_RM_tick_15L50 (st : plS) (v1 : Int32) (v2 : Int32) : Prop := (P_RM_select st ∧ P_RM_tick_15L54 (K_RM_select st) v1 v2)
set_option maxRecDepth 20000 in
theorem j_RM_tick_15L50 {E : plE} (X : plX E b_RM_tick "ProtectedLineModel" 3 (some .boolean) 8 183) (a : Nat → Nat) (T : Bool × (plS × Int32)) (v1 : Int32) (hb : ∀ (c0 : plS) (c1 : Int32), T = (true, (c0, c1)) → plJ E 3 (plwR (plg E) a c0) 0 0 [(0, .ref (a 0)), (1, .int v1), (2, .int c1)] 15 []) (hx : ∀ (c0 : plS) (c1 : Int32), T = (false, (c0, c1)) → plJ E 3 (plwR (plg E) a c0) 0 0 [(0, .ref (a 0)), (1, .int v1), (2, .int c1)] 84 []) (st : plS) (v2 : Int32) (hs : P_RM_tick_15L50 st v1 v2) (hk : T = K_RM_tick_15L50 st v1 v2) : plJ E 3 (plwR (plg E) a st) 0 0 [(0, .ref (a 0)), (1, .int v1), (2, .int v2)] 50 [] := by
  unfold P_RM_tick_15L50 at hs
  unfold K_RM_tick_15L50 at hk
  refine j_aload_n (pc := 50) X d_RM_tick_50 rfl 0 rfl ?_
  refine j_callVv (pc := 51) (As := []) (rest := []) X (c_RM_select (plg E) a st hs.1) ml_RM_129 0 rfl rfl ⟨Nat.le_of_ble_eq_true rfl, Nat.le_of_ble_eq_true rfl⟩ rfl rfl (Nat.le_of_ble_eq_true rfl) d_RM_tick_51 ?_
  have hs := hs.2
  exact j_RM_tick_15L54 X a T v1 hb hx (K_RM_select st) v2 hs hk
def K_RM_tick_15L46 (st : plS) (v1 : Int32) (v2 : Int32) : Bool × (plS × Int32) := K_RM_tick_15L50 (K_RM_decide st) v1 v2
def P_RM_tick_15L46 (st : plS) (v1 : Int32) (v2 : Int32) : Prop := P_RM_tick_15L50 (K_RM_decide st) v1 v2
set_option maxRecDepth 20000 in
theorem j_RM_tick_15L46 {E : plE} (X : plX E b_RM_tick "ProtectedLineModel" 3 (some .boolean) 8 183) (a : Nat → Nat) (T : Bool × (plS × Int32)) (v1 : Int32) (hb : ∀ (c0 : plS) (c1 : Int32), T = (true, (c0, c1)) → plJ E 3 (plwR (plg E) a c0) 0 0 [(0, .ref (a 0)), (1, .int v1), (2, .int c1)] 15 []) (hx : ∀ (c0 : plS) (c1 : Int32), T = (false, (c0, c1)) → plJ E 3 (plwR (plg E) a c0) 0 0 [(0, .ref (a 0)), (1, .int v1), (2, .int c1)] 84 []) (st : plS) (v2 : Int32) (hs : P_RM_tick_15L46 st v1 v2) (hk : T = K_RM_tick_15L46 st v1 v2) : plJ E 3 (plwR (plg E) a st) 0 0 [(0, .ref (a 0)), (1, .int v1), (2, .int v2)] 46 [] := by
  unfold P_RM_tick_15L46 at hs
  unfold K_RM_tick_15L46 at hk
  refine j_aload_n (pc := 46) X d_RM_tick_46 rfl 0 rfl ?_
  refine j_callVv (pc := 47) (As := []) (rest := []) X (c_RM_decide (plg E) a st) ml_RM_126 0 rfl rfl ⟨Nat.le_of_ble_eq_true rfl, Nat.le_of_ble_eq_true rfl⟩ rfl rfl (Nat.le_of_ble_eq_true rfl) d_RM_tick_47 ?_
  exact j_RM_tick_15L50 X a T v1 hb hx (K_RM_decide st) v2 hs hk
def K_RM_tick_15L42 (st : plS) (v1 : Int32) (v2 : Int32) : Bool × (plS × Int32) := K_RM_tick_15L46 (K_RM_listen st) v1 v2
def P_RM_tick_15L42 (st : plS) (v1 : Int32) (v2 : Int32) : Prop := P_RM_tick_15L46 (K_RM_listen st) v1 v2
set_option maxRecDepth 20000 in
theorem j_RM_tick_15L42 {E : plE} (X : plX E b_RM_tick "ProtectedLineModel" 3 (some .boolean) 8 183) (a : Nat → Nat) (T : Bool × (plS × Int32)) (v1 : Int32) (hb : ∀ (c0 : plS) (c1 : Int32), T = (true, (c0, c1)) → plJ E 3 (plwR (plg E) a c0) 0 0 [(0, .ref (a 0)), (1, .int v1), (2, .int c1)] 15 []) (hx : ∀ (c0 : plS) (c1 : Int32), T = (false, (c0, c1)) → plJ E 3 (plwR (plg E) a c0) 0 0 [(0, .ref (a 0)), (1, .int v1), (2, .int c1)] 84 []) (st : plS) (v2 : Int32) (hs : P_RM_tick_15L42 st v1 v2) (hk : T = K_RM_tick_15L42 st v1 v2) : plJ E 3 (plwR (plg E) a st) 0 0 [(0, .ref (a 0)), (1, .int v1), (2, .int v2)] 42 [] := by
  unfold P_RM_tick_15L42 at hs
  unfold K_RM_tick_15L42 at hk
  refine j_aload_n (pc := 42) X d_RM_tick_42 rfl 0 rfl ?_
  refine j_callVv (pc := 43) (As := []) (rest := []) X (c_RM_listen (plg E) a st) ml_RM_123 0 rfl rfl ⟨Nat.le_of_ble_eq_true rfl, Nat.le_of_ble_eq_true rfl⟩ rfl rfl (Nat.le_of_ble_eq_true rfl) d_RM_tick_43 ?_
  exact j_RM_tick_15L46 X a T v1 hb hx (K_RM_listen st) v2 hs hk
def K_RM_tick_15L38 (st : plS) (v1 : Int32) (v2 : Int32) : Bool × (plS × Int32) := K_RM_tick_15L42 (K_RM_arrive st) v1 v2
def P_RM_tick_15L38 (st : plS) (v1 : Int32) (v2 : Int32) : Prop := (P_RM_arrive st ∧ P_RM_tick_15L42 (K_RM_arrive st) v1 v2)
set_option maxRecDepth 20000 in
theorem j_RM_tick_15L38 {E : plE} (X : plX E b_RM_tick "ProtectedLineModel" 3 (some .boolean) 8 183) (a : Nat → Nat) (T : Bool × (plS × Int32)) (v1 : Int32) (hb : ∀ (c0 : plS) (c1 : Int32), T = (true, (c0, c1)) → plJ E 3 (plwR (plg E) a c0) 0 0 [(0, .ref (a 0)), (1, .int v1), (2, .int c1)] 15 []) (hx : ∀ (c0 : plS) (c1 : Int32), T = (false, (c0, c1)) → plJ E 3 (plwR (plg E) a c0) 0 0 [(0, .ref (a 0)), (1, .int v1), (2, .int c1)] 84 []) (st : plS) (v2 : Int32) (hs : P_RM_tick_15L38 st v1 v2) (hk : T = K_RM_tick_15L38 st v1 v2) : plJ E 3 (plwR (plg E) a st) 0 0 [(0, .ref (a 0)), (1, .int v1), (2, .int v2)] 38 [] := by
  unfold P_RM_tick_15L38 at hs
  unfold K_RM_tick_15L38 at hk
  refine j_aload_n (pc := 38) X d_RM_tick_38 rfl 0 rfl ?_
  refine j_callVv (pc := 39) (As := []) (rest := []) X (c_RM_arrive (plg E) a st hs.1) ml_RM_120 0 rfl rfl ⟨Nat.le_of_ble_eq_true rfl, Nat.le_of_ble_eq_true rfl⟩ rfl rfl (Nat.le_of_ble_eq_true rfl) d_RM_tick_39 ?_
  have hs := hs.2
  exact j_RM_tick_15L42 X a T v1 hb hx (K_RM_arrive st) v2 hs hk
def K_RM_tick_15L34 (st : plS) (v1 : Int32) (v2 : Int32) : Bool × (plS × Int32) := K_RM_tick_15L38 (K_RM_build st) v1 v2
def P_RM_tick_15L34 (st : plS) (v1 : Int32) (v2 : Int32) : Prop := (P_RM_build st ∧ P_RM_tick_15L38 (K_RM_build st) v1 v2)
set_option maxRecDepth 20000 in
theorem j_RM_tick_15L34 {E : plE} (X : plX E b_RM_tick "ProtectedLineModel" 3 (some .boolean) 8 183) (a : Nat → Nat) (T : Bool × (plS × Int32)) (v1 : Int32) (hb : ∀ (c0 : plS) (c1 : Int32), T = (true, (c0, c1)) → plJ E 3 (plwR (plg E) a c0) 0 0 [(0, .ref (a 0)), (1, .int v1), (2, .int c1)] 15 []) (hx : ∀ (c0 : plS) (c1 : Int32), T = (false, (c0, c1)) → plJ E 3 (plwR (plg E) a c0) 0 0 [(0, .ref (a 0)), (1, .int v1), (2, .int c1)] 84 []) (st : plS) (v2 : Int32) (hs : P_RM_tick_15L34 st v1 v2) (hk : T = K_RM_tick_15L34 st v1 v2) : plJ E 3 (plwR (plg E) a st) 0 0 [(0, .ref (a 0)), (1, .int v1), (2, .int v2)] 34 [] := by
  unfold P_RM_tick_15L34 at hs
  unfold K_RM_tick_15L34 at hk
  refine j_aload_n (pc := 34) X d_RM_tick_34 rfl 0 rfl ?_
  refine j_callVv (pc := 35) (As := []) (rest := []) X (c_RM_build (plg E) a st hs.1) ml_RM_117 0 rfl rfl ⟨Nat.le_of_ble_eq_true rfl, Nat.le_of_ble_eq_true rfl⟩ rfl rfl (Nat.le_of_ble_eq_true rfl) d_RM_tick_35 ?_
  have hs := hs.2
  exact j_RM_tick_15L38 X a T v1 hb hx (K_RM_build st) v2 hs hk
def K_RM_tick_15L30 (st : plS) (v1 : Int32) (v2 : Int32) : Bool × (plS × Int32) := K_RM_tick_15L34 (K_RM_hear st) v1 v2
def P_RM_tick_15L30 (st : plS) (v1 : Int32) (v2 : Int32) : Prop := (P_RM_hear st ∧ P_RM_tick_15L34 (K_RM_hear st) v1 v2)
set_option maxRecDepth 20000 in
theorem j_RM_tick_15L30 {E : plE} (X : plX E b_RM_tick "ProtectedLineModel" 3 (some .boolean) 8 183) (a : Nat → Nat) (T : Bool × (plS × Int32)) (v1 : Int32) (hb : ∀ (c0 : plS) (c1 : Int32), T = (true, (c0, c1)) → plJ E 3 (plwR (plg E) a c0) 0 0 [(0, .ref (a 0)), (1, .int v1), (2, .int c1)] 15 []) (hx : ∀ (c0 : plS) (c1 : Int32), T = (false, (c0, c1)) → plJ E 3 (plwR (plg E) a c0) 0 0 [(0, .ref (a 0)), (1, .int v1), (2, .int c1)] 84 []) (st : plS) (v2 : Int32) (hs : P_RM_tick_15L30 st v1 v2) (hk : T = K_RM_tick_15L30 st v1 v2) : plJ E 3 (plwR (plg E) a st) 0 0 [(0, .ref (a 0)), (1, .int v1), (2, .int v2)] 30 [] := by
  unfold P_RM_tick_15L30 at hs
  unfold K_RM_tick_15L30 at hk
  refine j_aload_n (pc := 30) X d_RM_tick_30 rfl 0 rfl ?_
  refine j_callVv (pc := 31) (As := []) (rest := []) X (c_RM_hear (plg E) a st hs.1) ml_RM_114 0 rfl rfl ⟨Nat.le_of_ble_eq_true rfl, Nat.le_of_ble_eq_true rfl⟩ rfl rfl (Nat.le_of_ble_eq_true rfl) d_RM_tick_31 ?_
  have hs := hs.2
  exact j_RM_tick_15L34 X a T v1 hb hx (K_RM_hear st) v2 hs hk
def K_RM_tick_15L (st : plS) (v1 : Int32) (v2 : Int32) : Bool × (plS × Int32) := (if v1 ≤ v2 then (false, (st, v2)) else K_RM_tick_15L30 (plUp st 0 3 ((st 0 3) + 1)) v1 v2)
def P_RM_tick_15L (st : plS) (v1 : Int32) (v2 : Int32) : Prop := (¬ v1 ≤ v2 → P_RM_tick_15L30 (plUp st 0 3 ((st 0 3) + 1)) v1 v2)
set_option maxRecDepth 20000 in
theorem j_RM_tick_15L {E : plE} (X : plX E b_RM_tick "ProtectedLineModel" 3 (some .boolean) 8 183) (a : Nat → Nat) (T : Bool × (plS × Int32)) (v1 : Int32) (hb : ∀ (c0 : plS) (c1 : Int32), T = (true, (c0, c1)) → plJ E 3 (plwR (plg E) a c0) 0 0 [(0, .ref (a 0)), (1, .int v1), (2, .int c1)] 15 []) (hx : ∀ (c0 : plS) (c1 : Int32), T = (false, (c0, c1)) → plJ E 3 (plwR (plg E) a c0) 0 0 [(0, .ref (a 0)), (1, .int v1), (2, .int c1)] 84 []) (st : plS) (v2 : Int32) (hs : P_RM_tick_15L st v1 v2) (hk : T = K_RM_tick_15L st v1 v2) : plJ E 3 (plwR (plg E) a st) 0 0 [(0, .ref (a 0)), (1, .int v1), (2, .int v2)] 15 [] := by
  unfold P_RM_tick_15L at hs
  unfold K_RM_tick_15L at hk
  refine j_iload_n (pc := 15) X d_RM_tick_15 rfl 2 rfl ?_
  refine j_iload_n (pc := 16) X d_RM_tick_16 rfl 1 rfl ?_
  refine j_icmp_ge (pc := 17) (tgt := 84) X d_RM_tick_17 rfl (fun hc => ?_) (fun hc => ?_)
  · have hk := hk.trans (if_pos hc)
    exact hx st v2 hk
  · have hk := hk.trans (if_neg hc)
    have hs := hs hc
    refine j_aload_n (pc := 20) X d_RM_tick_20 rfl 0 rfl ?_
    refine j_dup (pc := 21) X d_RM_tick_21 rfl ?_
    refine get_RM_time (pc := 22) X fl_RM_111 d_RM_tick_22 ?_
    refine j_iconst (pc := 25) X d_RM_tick_25 ic_1 ?_
    refine j_iadd (pc := 26) X d_RM_tick_26 ?_
    refine put_RM_time (pc := 27) X fl_RM_111 d_RM_tick_27 ?_
    exact j_RM_tick_15L30 X a T v1 hb hx (plUp st 0 3 ((st 0 3) + 1)) v2 hs hk
def F_RM_tick_15 (v1 : Int32) (c : plS × Int32) : Bool × (plS × Int32) := K_RM_tick_15L c.1 v1 c.2
def G_RM_tick_15 (v1 : Int32) (c : plS × Int32) : Prop := P_RM_tick_15L c.1 v1 c.2
def K_RM_tick_15X (v1 : Int32) (c : plS × Int32) : Int32 × plS := (1, c.1)
set_option maxRecDepth 20000 in
theorem j_RM_tick_15X {E : plE} (X : plX E b_RM_tick "ProtectedLineModel" 3 (some .boolean) 8 183) (a : Nat → Nat) (T : Int32 × plS) (hQ : plRi E (plwR (plg E) a) T) (v1 : Int32) (c : plS × Int32) (hk : T = K_RM_tick_15X v1 c) : plJ E 3 (plwR (plg E) a c.1) 0 0 [(0, .ref (a 0)), (1, .int v1), (2, .int c.2)] 84 [] := by
  unfold K_RM_tick_15X at hk
  refine j_iconst (pc := 84) X d_RM_tick_84 ic_1 ?_
  exact j_retz (pc := 85) X hQ d_RM_tick_85 (Or.inr rfl) hk
def K_RM_tick (st : plS) (v1 : Int32) : Int32 × plS := (if v1 < 1 then K_RM_tick_11 st else (if v1 ≤ 40 then K_RM_tick_15X v1 (lpR (F_RM_tick_15 v1) 64 (st, 0)) else K_RM_tick_11 st))
def P_RM_tick (st : plS) (v1 : Int32) : Prop := (¬ v1 < 1 → (v1 ≤ 40 → lpP (G_RM_tick_15 v1) (F_RM_tick_15 v1) 64 (st, 0)))
set_option maxRecDepth 20000 in
theorem j_RM_tick {E : plE} (X : plX E b_RM_tick "ProtectedLineModel" 3 (some .boolean) 8 183) (a : Nat → Nat) (T : Int32 × plS) (hQ : plRi E (plwR (plg E) a) T) (st : plS) (v1 : Int32) (hs : P_RM_tick st v1) (hk : T = K_RM_tick st v1) : plJ E 3 (plwR (plg E) a st) 0 0 [(0, .ref (a 0)), (1, .int v1)] 0 [] := by
  unfold P_RM_tick at hs
  unfold K_RM_tick at hk
  refine j_iload_n (pc := 0) X d_RM_tick_0 rfl 1 rfl ?_
  refine j_iconst (pc := 1) X d_RM_tick_1 ic_1 ?_
  refine j_icmp_lt (pc := 2) (tgt := 11) X d_RM_tick_2 rfl (fun hc => ?_) (fun hc => ?_)
  · have hk := hk.trans (if_pos hc)
    refine j_sub [] (lv' := []) rfl ?_
    exact j_RM_tick_11 X a T hQ st hk
  · have hk := hk.trans (if_neg hc)
    have hs := hs hc
    refine j_iload_n (pc := 5) X d_RM_tick_5 rfl 1 rfl ?_
    refine j_bipush (pc := 6) X d_RM_tick_6 bp_40 ?_
    refine j_icmp_le (pc := 8) (tgt := 13) X d_RM_tick_8 rfl (fun hc => ?_) (fun hc => ?_)
    · have hk := hk.trans (if_pos hc)
      have hs := hs hc
      refine j_iconst (pc := 13) X d_RM_tick_13 ic_0 ?_
      refine j_istore_n (pc := 14) X d_RM_tick_14 rfl (lv' := [(2, .int 0), (0, .ref (a 0)), (1, .int v1)]) (Nat.le_of_ble_eq_true rfl) rfl ?_
      refine j_sub [1, 2, 0] (lv' := [(0, .ref (a 0)), (1, .int v1), (2, .int 0)]) rfl ?_
      exact lpJ (G_RM_tick_15 v1) (F_RM_tick_15 v1) (fun c => plJ E 3 (plwR (plg E) a c.1) 0 0 [(0, .ref (a 0)), (1, .int v1), (2, .int c.2)] 15 []) (fun c => plJ E 3 (plwR (plg E) a c.1) 0 0 [(0, .ref (a 0)), (1, .int v1), (2, .int c.2)] 84 []) (fun c hp h1 h2 => j_RM_tick_15L X a (F_RM_tick_15 v1 c) v1 (fun c0 c1 => h1 (c0, c1)) (fun c0 c1 => h2 (c0, c1)) c.1 c.2 hp rfl) 64 (st, 0) hs (j_RM_tick_15X X a T hQ v1 (lpR (F_RM_tick_15 v1) 64 (st, 0)) hk)
    · have hk := hk.trans (if_neg hc)
      refine j_sub [] (lv' := []) rfl ?_
      exact j_RM_tick_11 X a T hQ st hk
set_option maxRecDepth 20000 in
theorem c_RM_tick (g : plG) (a : Nat → Nat) (st : plS) (v1 : Int32) (hs : P_RM_tick st v1) : plMi g y_RM_tick b_RM_tick 3 (some .boolean) 8 183 [.ref (a 0), .int v1] (plwR g a) st (K_RM_tick st v1) := by
  refine plMi.of (own := "ProtectedLineModel") (lv := [(0, .ref (a 0)), (1, .int v1)]) rfl rfl (Nat.le_of_ble_eq_true rfl) rfl (fun E hE X hQ => ?_)
  subst hE
  exact j_RM_tick X a _ hQ st v1 hs rfl
theorem d_RM_waiting_0 : decode b_RM_waiting 0 = .ok (.aload_n 0, 1) := by decide +kernel
theorem d_RM_waiting_1 : decode b_RM_waiting 1 = .ok (.getfield 93, 3) := by decide +kernel
theorem d_RM_waiting_4 : decode b_RM_waiting 4 = .ok (.ireturn, 1) := by decide +kernel
def K_RM_waiting (st : plS) : Int32 := st 0 4
set_option maxRecDepth 20000 in
theorem j_RM_waiting {E : plE} (X : plX E b_RM_waiting "ProtectedLineModel" 1 (some .int) 0 0) (a : Nat → Nat) (T : Int32) (st : plS) (hQ : plRp E (plwR (plg E) a) st T)  (hk : T = K_RM_waiting st) : plJ E 1 (plwR (plg E) a st) 0 0 [(0, .ref (a 0))] 0 [] := by
  unfold K_RM_waiting at hk
  refine j_aload_n (pc := 0) X d_RM_waiting_0 rfl 0 rfl ?_
  refine get_RM_waiting (pc := 1) X fl_RM_93 d_RM_waiting_1 ?_
  exact j_retip (pc := 4) X hQ d_RM_waiting_4 hk
set_option maxRecDepth 20000 in
theorem c_RM_waiting (g : plG) (a : Nat → Nat) (st : plS)  : plMp g y_RM_waiting b_RM_waiting 1 (some .int) 0 0 [.ref (a 0)] (plwR g a) st (K_RM_waiting st ) := by
  refine plMp.of (own := "ProtectedLineModel") (lv := [(0, .ref (a 0))]) rfl rfl (Nat.le_of_ble_eq_true rfl) rfl (fun E hE X hQ => ?_)
  subst hE
  exact j_RM_waiting X a _ st hQ  rfl
theorem d_RM_sent_0 : decode b_RM_sent 0 = .ok (.iload_n 1, 1) := by decide +kernel
theorem d_RM_sent_1 : decode b_RM_sent 1 = .ok (.invokestatic 98, 3) := by decide +kernel
theorem d_RM_sent_4 : decode b_RM_sent 4 = .ok (.ifCond .eq (42), 3) := by decide +kernel
theorem d_RM_sent_7 : decode b_RM_sent 7 = .ok (.iload_n 2, 1) := by decide +kernel
theorem d_RM_sent_8 : decode b_RM_sent 8 = .ok (.invokestatic 102, 3) := by decide +kernel
theorem d_RM_sent_11 : decode b_RM_sent 11 = .ok (.ifCond .eq (35), 3) := by decide +kernel
theorem d_RM_sent_14 : decode b_RM_sent 14 = .ok (.aload_n 0, 1) := by decide +kernel
theorem d_RM_sent_15 : decode b_RM_sent 15 = .ok (.getfield 111, 3) := by decide +kernel
theorem d_RM_sent_18 : decode b_RM_sent 18 = .ok (.ifCond .le (28), 3) := by decide +kernel
theorem d_RM_sent_21 : decode b_RM_sent 21 = .ok (.aload_n 0, 1) := by decide +kernel
theorem d_RM_sent_22 : decode b_RM_sent 22 = .ok (.getfield 26, 3) := by decide +kernel
theorem d_RM_sent_25 : decode b_RM_sent 25 = .ok (.bipush (12), 2) := by decide +kernel
theorem d_RM_sent_27 : decode b_RM_sent 27 = .ok (.bipush (8), 2) := by decide +kernel
theorem d_RM_sent_29 : decode b_RM_sent 29 = .ok (.iload_n 1, 1) := by decide +kernel
theorem d_RM_sent_30 : decode b_RM_sent 30 = .ok (.imul, 1) := by decide +kernel
theorem d_RM_sent_31 : decode b_RM_sent 31 = .ok (.aload_n 0, 1) := by decide +kernel
theorem d_RM_sent_32 : decode b_RM_sent 32 = .ok (.getfield 111, 3) := by decide +kernel
theorem d_RM_sent_35 : decode b_RM_sent 35 = .ok (.bipush (7), 2) := by decide +kernel
theorem d_RM_sent_37 : decode b_RM_sent 37 = .ok (.iand, 1) := by decide +kernel
theorem d_RM_sent_38 : decode b_RM_sent 38 = .ok (.iadd, 1) := by decide +kernel
theorem d_RM_sent_39 : decode b_RM_sent 39 = .ok (.imul, 1) := by decide +kernel
theorem d_RM_sent_40 : decode b_RM_sent 40 = .ok (.iload_n 2, 1) := by decide +kernel
theorem d_RM_sent_41 : decode b_RM_sent 41 = .ok (.iadd, 1) := by decide +kernel
theorem d_RM_sent_42 : decode b_RM_sent 42 = .ok (.iaload, 1) := by decide +kernel
theorem d_RM_sent_43 : decode b_RM_sent 43 = .ok (.goto (4), 3) := by decide +kernel
theorem d_RM_sent_46 : decode b_RM_sent 46 = .ok (.iconst (-1), 1) := by decide +kernel
theorem d_RM_sent_47 : decode b_RM_sent 47 = .ok (.ireturn, 1) := by decide +kernel
def K_RM_sent_47 (st : plS) (k0 : Int32) : Int32 := k0
set_option maxRecDepth 20000 in
theorem j_RM_sent_47 {E : plE} (X : plX E b_RM_sent "ProtectedLineModel" 3 (some .int) 1 20) (a : Nat → Nat) (T : Int32) (st : plS) (hQ : plRp E (plwR (plg E) a) st T) (k0 : Int32) (hk : T = K_RM_sent_47 st k0) : plJ E 3 (plwR (plg E) a st) 0 0 [] 47 [.int k0] := by
  unfold K_RM_sent_47 at hk
  exact j_retip (pc := 47) X hQ d_RM_sent_47 hk
def K_RM_sent_46 (st : plS) : Int32 := K_RM_sent_47 st ((-1))
set_option maxRecDepth 20000 in
theorem j_RM_sent_46 {E : plE} (X : plX E b_RM_sent "ProtectedLineModel" 3 (some .int) 1 20) (a : Nat → Nat) (T : Int32) (st : plS) (hQ : plRp E (plwR (plg E) a) st T)  (hk : T = K_RM_sent_46 st) : plJ E 3 (plwR (plg E) a st) 0 0 [] 46 [] := by
  unfold K_RM_sent_46 at hk
  refine j_iconst (pc := 46) X d_RM_sent_46 ic_m1 ?_
  exact j_RM_sent_47 X a T st hQ ((-1)) hk
def K_RM_sent (st : plS) (v1 : Int32) (v2 : Int32) : Int32 := (if (K_RM_isLine v1) = 0 then K_RM_sent_46 st else (if (K_RM_isPlace v2) = 0 then K_RM_sent_46 st else (if (st 0 3) ≤ 0 then K_RM_sent_46 st else K_RM_sent_47 st (st 4 (plIx ((12 * ((8 * v1) + ((st 0 3) &&& 7))) + v2))))))
def P_RM_sent (st : plS) (v1 : Int32) (v2 : Int32) : Prop := (P_RM_isLine v1 ∧ (¬ (K_RM_isLine v1) = 0 → (P_RM_isPlace v2 ∧ (¬ (K_RM_isPlace v2) = 0 → (¬ (st 0 3) ≤ 0 → vp_in ((12 * ((8 * v1) + ((st 0 3) &&& 7))) + v2) 192)))))
set_option maxRecDepth 20000 in
theorem j_RM_sent {E : plE} (X : plX E b_RM_sent "ProtectedLineModel" 3 (some .int) 1 20) (a : Nat → Nat) (T : Int32) (st : plS) (hQ : plRp E (plwR (plg E) a) st T) (v1 : Int32) (v2 : Int32) (hs : P_RM_sent st v1 v2) (hk : T = K_RM_sent st v1 v2) : plJ E 3 (plwR (plg E) a st) 0 0 [(0, .ref (a 0)), (1, .int v1), (2, .int v2)] 0 [] := by
  unfold P_RM_sent at hs
  unfold K_RM_sent at hk
  refine j_iload_n (pc := 0) X d_RM_sent_0 rfl 1 rfl ?_
  refine j_callSp (pc := 1) (As := [.int v1]) (rest := []) X (c_RM_isLine (plg E) a st v1 hs.1) ml_RM_98 ⟨Nat.le_of_ble_eq_true rfl, Nat.le_of_ble_eq_true rfl⟩ rfl rfl (Nat.le_of_ble_eq_true rfl) d_RM_sent_1 ?_
  have hs := hs.2
  refine j_if_eq (pc := 4) (tgt := 46) X d_RM_sent_4 rfl (fun hc => ?_) (fun hc => ?_)
  · have hk := hk.trans (if_pos hc)
    refine j_sub [] (lv' := []) rfl ?_
    exact j_RM_sent_46 X a T st hQ hk
  · have hk := hk.trans (if_neg hc)
    have hs := hs hc
    refine j_iload_n (pc := 7) X d_RM_sent_7 rfl 2 rfl ?_
    refine j_callSp (pc := 8) (As := [.int v2]) (rest := []) X (c_RM_isPlace (plg E) a st v2 hs.1) ml_RM_102 ⟨Nat.le_of_ble_eq_true rfl, Nat.le_of_ble_eq_true rfl⟩ rfl rfl (Nat.le_of_ble_eq_true rfl) d_RM_sent_8 ?_
    have hs := hs.2
    refine j_if_eq (pc := 11) (tgt := 46) X d_RM_sent_11 rfl (fun hc => ?_) (fun hc => ?_)
    · have hk := hk.trans (if_pos hc)
      refine j_sub [] (lv' := []) rfl ?_
      exact j_RM_sent_46 X a T st hQ hk
    · have hk := hk.trans (if_neg hc)
      have hs := hs hc
      refine j_aload_n (pc := 14) X d_RM_sent_14 rfl 0 rfl ?_
      refine get_RM_time (pc := 15) X fl_RM_111 d_RM_sent_15 ?_
      refine j_if_le (pc := 18) (tgt := 46) X d_RM_sent_18 rfl (fun hc => ?_) (fun hc => ?_)
      · have hk := hk.trans (if_pos hc)
        refine j_sub [] (lv' := []) rfl ?_
        exact j_RM_sent_46 X a T st hQ hk
      · have hk := hk.trans (if_neg hc)
        have hs := hs hc
        refine j_aload_n (pc := 21) X d_RM_sent_21 rfl 0 rfl ?_
        refine get_RM_sent (pc := 22) X fl_RM_26 d_RM_sent_22 ?_
        refine j_bipush (pc := 25) X d_RM_sent_25 bp_12 ?_
        refine j_bipush (pc := 27) X d_RM_sent_27 bp_8 ?_
        refine j_iload_n (pc := 29) X d_RM_sent_29 rfl 1 rfl ?_
        refine j_imul (pc := 30) X d_RM_sent_30 ?_
        refine j_aload_n (pc := 31) X d_RM_sent_31 rfl 0 rfl ?_
        refine get_RM_time (pc := 32) X fl_RM_111 d_RM_sent_32 ?_
        refine j_bipush (pc := 35) X d_RM_sent_35 bp_7 ?_
        refine j_iand (pc := 37) X d_RM_sent_37 ?_
        refine j_iadd (pc := 38) X d_RM_sent_38 ?_
        refine j_imul (pc := 39) X d_RM_sent_39 ?_
        refine j_iload_n (pc := 40) X d_RM_sent_40 rfl 2 rfl ?_
        refine j_iadd (pc := 41) X d_RM_sent_41 ?_
        refine ald_RMsent (pc := 42) X hs d_RM_sent_42 ?_
        refine j_goto (pc := 43) (tgt := 47) X d_RM_sent_43 rfl ?_
        refine j_sub [] (lv' := []) rfl ?_
        exact j_RM_sent_47 X a T st hQ (st 4 (plIx ((12 * ((8 * v1) + ((st 0 3) &&& 7))) + v2))) hk
set_option maxRecDepth 20000 in
theorem c_RM_sent (g : plG) (a : Nat → Nat) (st : plS) (v1 : Int32) (v2 : Int32) (hs : P_RM_sent st v1 v2) : plMp g y_RM_sent b_RM_sent 3 (some .int) 1 20 [.ref (a 0), .int v1, .int v2] (plwR g a) st (K_RM_sent st v1 v2) := by
  refine plMp.of (own := "ProtectedLineModel") (lv := [(0, .ref (a 0)), (1, .int v1), (2, .int v2)]) rfl rfl (Nat.le_of_ble_eq_true rfl) rfl (fun E hE X hQ => ?_)
  subst hE
  exact j_RM_sent X a _ st hQ v1 v2 hs rfl
theorem d_RM_alignment_0 : decode b_RM_alignment 0 = .ok (.iload_n 1, 1) := by decide +kernel
theorem d_RM_alignment_1 : decode b_RM_alignment 1 = .ok (.invokestatic 98, 3) := by decide +kernel
theorem d_RM_alignment_4 : decode b_RM_alignment 4 = .ok (.ifCond .eq (12), 3) := by decide +kernel
theorem d_RM_alignment_7 : decode b_RM_alignment 7 = .ok (.aload_n 0, 1) := by decide +kernel
theorem d_RM_alignment_8 : decode b_RM_alignment 8 = .ok (.getfield 57, 3) := by decide +kernel
theorem d_RM_alignment_11 : decode b_RM_alignment 11 = .ok (.iload_n 1, 1) := by decide +kernel
theorem d_RM_alignment_12 : decode b_RM_alignment 12 = .ok (.iaload, 1) := by decide +kernel
theorem d_RM_alignment_13 : decode b_RM_alignment 13 = .ok (.goto (4), 3) := by decide +kernel
theorem d_RM_alignment_16 : decode b_RM_alignment 16 = .ok (.iconst (-1), 1) := by decide +kernel
theorem d_RM_alignment_17 : decode b_RM_alignment 17 = .ok (.ireturn, 1) := by decide +kernel
def K_RM_alignment_17 (st : plS) (k0 : Int32) : Int32 := k0
set_option maxRecDepth 20000 in
theorem j_RM_alignment_17 {E : plE} (X : plX E b_RM_alignment "ProtectedLineModel" 2 (some .int) 1 20) (a : Nat → Nat) (T : Int32) (st : plS) (hQ : plRp E (plwR (plg E) a) st T) (k0 : Int32) (hk : T = K_RM_alignment_17 st k0) : plJ E 2 (plwR (plg E) a st) 0 0 [] 17 [.int k0] := by
  unfold K_RM_alignment_17 at hk
  exact j_retip (pc := 17) X hQ d_RM_alignment_17 hk
def K_RM_alignment (st : plS) (v1 : Int32) : Int32 := (if (K_RM_isLine v1) = 0 then K_RM_alignment_17 st ((-1)) else K_RM_alignment_17 st (st 14 (plIx v1)))
def P_RM_alignment (st : plS) (v1 : Int32) : Prop := (P_RM_isLine v1 ∧ (¬ (K_RM_isLine v1) = 0 → vp_in v1 2))
set_option maxRecDepth 20000 in
theorem j_RM_alignment {E : plE} (X : plX E b_RM_alignment "ProtectedLineModel" 2 (some .int) 1 20) (a : Nat → Nat) (T : Int32) (st : plS) (hQ : plRp E (plwR (plg E) a) st T) (v1 : Int32) (hs : P_RM_alignment st v1) (hk : T = K_RM_alignment st v1) : plJ E 2 (plwR (plg E) a st) 0 0 [(0, .ref (a 0)), (1, .int v1)] 0 [] := by
  unfold P_RM_alignment at hs
  unfold K_RM_alignment at hk
  refine j_iload_n (pc := 0) X d_RM_alignment_0 rfl 1 rfl ?_
  refine j_callSp (pc := 1) (As := [.int v1]) (rest := []) X (c_RM_isLine (plg E) a st v1 hs.1) ml_RM_98 ⟨Nat.le_of_ble_eq_true rfl, Nat.le_of_ble_eq_true rfl⟩ rfl rfl (Nat.le_of_ble_eq_true rfl) d_RM_alignment_1 ?_
  have hs := hs.2
  refine j_if_eq (pc := 4) (tgt := 16) X d_RM_alignment_4 rfl (fun hc => ?_) (fun hc => ?_)
  · have hk := hk.trans (if_pos hc)
    refine j_iconst (pc := 16) X d_RM_alignment_16 ic_m1 ?_
    refine j_sub [] (lv' := []) rfl ?_
    exact j_RM_alignment_17 X a T st hQ ((-1)) hk
  · have hk := hk.trans (if_neg hc)
    have hs := hs hc
    refine j_aload_n (pc := 7) X d_RM_alignment_7 rfl 0 rfl ?_
    refine get_RM_state (pc := 8) X fl_RM_57 d_RM_alignment_8 ?_
    refine j_iload_n (pc := 11) X d_RM_alignment_11 rfl 1 rfl ?_
    refine ald_RMstate (pc := 12) X hs d_RM_alignment_12 ?_
    refine j_goto (pc := 13) (tgt := 17) X d_RM_alignment_13 rfl ?_
    refine j_sub [] (lv' := []) rfl ?_
    exact j_RM_alignment_17 X a T st hQ (st 14 (plIx v1)) hk
set_option maxRecDepth 20000 in
theorem c_RM_alignment (g : plG) (a : Nat → Nat) (st : plS) (v1 : Int32) (hs : P_RM_alignment st v1) : plMp g y_RM_alignment b_RM_alignment 2 (some .int) 1 20 [.ref (a 0), .int v1] (plwR g a) st (K_RM_alignment st v1) := by
  refine plMp.of (own := "ProtectedLineModel") (lv := [(0, .ref (a 0)), (1, .int v1)]) rfl rfl (Nat.le_of_ble_eq_true rfl) rfl (fun E hE X hQ => ?_)
  subst hE
  exact j_RM_alignment X a _ st hQ v1 hs rfl
theorem d_RM_errors_0 : decode b_RM_errors 0 = .ok (.iload_n 1, 1) := by decide +kernel
theorem d_RM_errors_1 : decode b_RM_errors 1 = .ok (.invokestatic 98, 3) := by decide +kernel
theorem d_RM_errors_4 : decode b_RM_errors 4 = .ok (.ifCond .eq (12), 3) := by decide +kernel
theorem d_RM_errors_7 : decode b_RM_errors 7 = .ok (.aload_n 0, 1) := by decide +kernel
theorem d_RM_errors_8 : decode b_RM_errors 8 = .ok (.getfield 63, 3) := by decide +kernel
theorem d_RM_errors_11 : decode b_RM_errors 11 = .ok (.iload_n 1, 1) := by decide +kernel
theorem d_RM_errors_12 : decode b_RM_errors 12 = .ok (.iaload, 1) := by decide +kernel
theorem d_RM_errors_13 : decode b_RM_errors 13 = .ok (.goto (4), 3) := by decide +kernel
theorem d_RM_errors_16 : decode b_RM_errors 16 = .ok (.iconst (-1), 1) := by decide +kernel
theorem d_RM_errors_17 : decode b_RM_errors 17 = .ok (.ireturn, 1) := by decide +kernel
def K_RM_errors_17 (st : plS) (k0 : Int32) : Int32 := k0
set_option maxRecDepth 20000 in
theorem j_RM_errors_17 {E : plE} (X : plX E b_RM_errors "ProtectedLineModel" 2 (some .int) 1 20) (a : Nat → Nat) (T : Int32) (st : plS) (hQ : plRp E (plwR (plg E) a) st T) (k0 : Int32) (hk : T = K_RM_errors_17 st k0) : plJ E 2 (plwR (plg E) a st) 0 0 [] 17 [.int k0] := by
  unfold K_RM_errors_17 at hk
  exact j_retip (pc := 17) X hQ d_RM_errors_17 hk
def K_RM_errors (st : plS) (v1 : Int32) : Int32 := (if (K_RM_isLine v1) = 0 then K_RM_errors_17 st ((-1)) else K_RM_errors_17 st (st 16 (plIx v1)))
def P_RM_errors (st : plS) (v1 : Int32) : Prop := (P_RM_isLine v1 ∧ (¬ (K_RM_isLine v1) = 0 → vp_in v1 2))
set_option maxRecDepth 20000 in
theorem j_RM_errors {E : plE} (X : plX E b_RM_errors "ProtectedLineModel" 2 (some .int) 1 20) (a : Nat → Nat) (T : Int32) (st : plS) (hQ : plRp E (plwR (plg E) a) st T) (v1 : Int32) (hs : P_RM_errors st v1) (hk : T = K_RM_errors st v1) : plJ E 2 (plwR (plg E) a st) 0 0 [(0, .ref (a 0)), (1, .int v1)] 0 [] := by
  unfold P_RM_errors at hs
  unfold K_RM_errors at hk
  refine j_iload_n (pc := 0) X d_RM_errors_0 rfl 1 rfl ?_
  refine j_callSp (pc := 1) (As := [.int v1]) (rest := []) X (c_RM_isLine (plg E) a st v1 hs.1) ml_RM_98 ⟨Nat.le_of_ble_eq_true rfl, Nat.le_of_ble_eq_true rfl⟩ rfl rfl (Nat.le_of_ble_eq_true rfl) d_RM_errors_1 ?_
  have hs := hs.2
  refine j_if_eq (pc := 4) (tgt := 16) X d_RM_errors_4 rfl (fun hc => ?_) (fun hc => ?_)
  · have hk := hk.trans (if_pos hc)
    refine j_iconst (pc := 16) X d_RM_errors_16 ic_m1 ?_
    refine j_sub [] (lv' := []) rfl ?_
    exact j_RM_errors_17 X a T st hQ ((-1)) hk
  · have hk := hk.trans (if_neg hc)
    have hs := hs hc
    refine j_aload_n (pc := 7) X d_RM_errors_7 rfl 0 rfl ?_
    refine get_RM_errors (pc := 8) X fl_RM_63 d_RM_errors_8 ?_
    refine j_iload_n (pc := 11) X d_RM_errors_11 rfl 1 rfl ?_
    refine ald_RMerrors (pc := 12) X hs d_RM_errors_12 ?_
    refine j_goto (pc := 13) (tgt := 17) X d_RM_errors_13 rfl ?_
    refine j_sub [] (lv' := []) rfl ?_
    exact j_RM_errors_17 X a T st hQ (st 16 (plIx v1)) hk
set_option maxRecDepth 20000 in
theorem c_RM_errors (g : plG) (a : Nat → Nat) (st : plS) (v1 : Int32) (hs : P_RM_errors st v1) : plMp g y_RM_errors b_RM_errors 2 (some .int) 1 20 [.ref (a 0), .int v1] (plwR g a) st (K_RM_errors st v1) := by
  refine plMp.of (own := "ProtectedLineModel") (lv := [(0, .ref (a 0)), (1, .int v1)]) rfl rfl (Nat.le_of_ble_eq_true rfl) rfl (fun E hE X hQ => ?_)
  subst hE
  exact j_RM_errors X a _ st hQ v1 hs rfl
theorem d_RM_request_0 : decode b_RM_request 0 = .ok (.aload_n 0, 1) := by decide +kernel
theorem d_RM_request_1 : decode b_RM_request 1 = .ok (.getfield 132, 3) := by decide +kernel
theorem d_RM_request_4 : decode b_RM_request 4 = .ok (.ireturn, 1) := by decide +kernel
def K_RM_request (st : plS) : Int32 := st 0 38
set_option maxRecDepth 20000 in
theorem j_RM_request {E : plE} (X : plX E b_RM_request "ProtectedLineModel" 1 (some .int) 0 0) (a : Nat → Nat) (T : Int32) (st : plS) (hQ : plRp E (plwR (plg E) a) st T)  (hk : T = K_RM_request st) : plJ E 1 (plwR (plg E) a st) 0 0 [(0, .ref (a 0))] 0 [] := by
  unfold K_RM_request at hk
  refine j_aload_n (pc := 0) X d_RM_request_0 rfl 0 rfl ?_
  refine get_RM_request (pc := 1) X fl_RM_132 d_RM_request_1 ?_
  exact j_retip (pc := 4) X hQ d_RM_request_4 hk
set_option maxRecDepth 20000 in
theorem c_RM_request (g : plG) (a : Nat → Nat) (st : plS)  : plMp g y_RM_request b_RM_request 1 (some .int) 0 0 [.ref (a 0)] (plwR g a) st (K_RM_request st ) := by
  refine plMp.of (own := "ProtectedLineModel") (lv := [(0, .ref (a 0))]) rfl rfl (Nat.le_of_ble_eq_true rfl) rfl (fun E hE X hQ => ?_)
  subst hE
  exact j_RM_request X a _ st hQ  rfl
