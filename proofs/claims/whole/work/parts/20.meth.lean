theorem d_PL_passTick_0 : decode b_PL_passTick 0 = .ok (.aload_n 0, 1) := by decide +kernel
theorem d_PL_passTick_1 : decode b_PL_passTick 1 = .ok (.getfield 26, 3) := by decide +kernel
theorem d_PL_passTick_4 : decode b_PL_passTick 4 = .ok (.getfield 148, 3) := by decide +kernel
theorem d_PL_passTick_7 : decode b_PL_passTick 7 = .ok (.aload_n 0, 1) := by decide +kernel
theorem d_PL_passTick_8 : decode b_PL_passTick 8 = .ok (.getfield 49, 3) := by decide +kernel
theorem d_PL_passTick_11 : decode b_PL_passTick 11 = .ok (.aload_n 0, 1) := by decide +kernel
theorem d_PL_passTick_12 : decode b_PL_passTick 12 = .ok (.getfield 43, 3) := by decide +kernel
theorem d_PL_passTick_15 : decode b_PL_passTick 15 = .ok (.getfield 93, 3) := by decide +kernel
theorem d_PL_passTick_18 : decode b_PL_passTick 18 = .ok (.invokevirtual 152, 3) := by decide +kernel
theorem d_PL_passTick_21 : decode b_PL_passTick 21 = .ok (.invokevirtual 156, 3) := by decide +kernel
theorem d_PL_passTick_24 : decode b_PL_passTick 24 = .ok (.aload_n 0, 1) := by decide +kernel
theorem d_PL_passTick_25 : decode b_PL_passTick 25 = .ok (.getfield 26, 3) := by decide +kernel
theorem d_PL_passTick_28 : decode b_PL_passTick 28 = .ok (.aload_n 0, 1) := by decide +kernel
theorem d_PL_passTick_29 : decode b_PL_passTick 29 = .ok (.getfield 39, 3) := by decide +kernel
theorem d_PL_passTick_32 : decode b_PL_passTick 32 = .ok (.aload_n 0, 1) := by decide +kernel
theorem d_PL_passTick_33 : decode b_PL_passTick 33 = .ok (.getfield 43, 3) := by decide +kernel
theorem d_PL_passTick_36 : decode b_PL_passTick 36 = .ok (.invokevirtual 161, 3) := by decide +kernel
theorem d_PL_passTick_39 : decode b_PL_passTick 39 = .ok (.aload_n 0, 1) := by decide +kernel
theorem d_PL_passTick_40 : decode b_PL_passTick 40 = .ok (.getfield 39, 3) := by decide +kernel
theorem d_PL_passTick_43 : decode b_PL_passTick 43 = .ok (.invokevirtual 165, 3) := by decide +kernel
theorem d_PL_passTick_46 : decode b_PL_passTick 46 = .ok (.aload_n 0, 1) := by decide +kernel
theorem d_PL_passTick_47 : decode b_PL_passTick 47 = .ok (.getfield 43, 3) := by decide +kernel
theorem d_PL_passTick_50 : decode b_PL_passTick 50 = .ok (.invokevirtual 165, 3) := by decide +kernel
theorem d_PL_passTick_53 : decode b_PL_passTick 53 = .ok (.aload_n 0, 1) := by decide +kernel
theorem d_PL_passTick_54 : decode b_PL_passTick 54 = .ok (.getfield 58, 3) := by decide +kernel
theorem d_PL_passTick_57 : decode b_PL_passTick 57 = .ok (.getfield 168, 3) := by decide +kernel
theorem d_PL_passTick_60 : decode b_PL_passTick 60 = .ok (.aload_n 0, 1) := by decide +kernel
theorem d_PL_passTick_61 : decode b_PL_passTick 61 = .ok (.getfield 43, 3) := by decide +kernel
theorem d_PL_passTick_64 : decode b_PL_passTick 64 = .ok (.invokevirtual 169, 3) := by decide +kernel
theorem d_PL_passTick_67 : decode b_PL_passTick 67 = .ok (.ifCond .eq (14), 3) := by decide +kernel
theorem d_PL_passTick_70 : decode b_PL_passTick 70 = .ok (.aload_n 0, 1) := by decide +kernel
theorem d_PL_passTick_71 : decode b_PL_passTick 71 = .ok (.getfield 43, 3) := by decide +kernel
theorem d_PL_passTick_74 : decode b_PL_passTick 74 = .ok (.iconst 3, 1) := by decide +kernel
theorem d_PL_passTick_75 : decode b_PL_passTick 75 = .ok (.invokevirtual 172, 3) := by decide +kernel
theorem d_PL_passTick_78 : decode b_PL_passTick 78 = .ok (.goto (4), 3) := by decide +kernel
theorem d_PL_passTick_81 : decode b_PL_passTick 81 = .ok (.iconst (-1), 1) := by decide +kernel
theorem d_PL_passTick_82 : decode b_PL_passTick 82 = .ok (.invokevirtual 156, 3) := by decide +kernel
theorem d_PL_passTick_85 : decode b_PL_passTick 85 = .ok (.aload_n 0, 1) := by decide +kernel
theorem d_PL_passTick_86 : decode b_PL_passTick 86 = .ok (.getfield 58, 3) := by decide +kernel
theorem d_PL_passTick_89 : decode b_PL_passTick 89 = .ok (.aload_n 0, 1) := by decide +kernel
theorem d_PL_passTick_90 : decode b_PL_passTick 90 = .ok (.getfield 39, 3) := by decide +kernel
theorem d_PL_passTick_93 : decode b_PL_passTick 93 = .ok (.invokevirtual 175, 3) := by decide +kernel
theorem d_PL_passTick_96 : decode b_PL_passTick 96 = .ok (.aload_n 0, 1) := by decide +kernel
theorem d_PL_passTick_97 : decode b_PL_passTick 97 = .ok (.getfield 43, 3) := by decide +kernel
theorem d_PL_passTick_100 : decode b_PL_passTick 100 = .ok (.invokevirtual 175, 3) := by decide +kernel
theorem d_PL_passTick_103 : decode b_PL_passTick 103 = .ok (.invokevirtual 178, 3) := by decide +kernel
theorem d_PL_passTick_106 : decode b_PL_passTick 106 = .ok (.aload_n 0, 1) := by decide +kernel
theorem d_PL_passTick_107 : decode b_PL_passTick 107 = .ok (.aload_n 0, 1) := by decide +kernel
theorem d_PL_passTick_108 : decode b_PL_passTick 108 = .ok (.getfield 58, 3) := by decide +kernel
theorem d_PL_passTick_111 : decode b_PL_passTick 111 = .ok (.getfield 130, 3) := by decide +kernel
theorem d_PL_passTick_114 : decode b_PL_passTick 114 = .ok (.invokevirtual 89, 3) := by decide +kernel
theorem d_PL_passTick_117 : decode b_PL_passTick 117 = .ok (.astore_n 1, 1) := by decide +kernel
theorem d_PL_passTick_118 : decode b_PL_passTick 118 = .ok (.aload_n 1, 1) := by decide +kernel
theorem d_PL_passTick_119 : decode b_PL_passTick 119 = .ok (.invokevirtual 169, 3) := by decide +kernel
theorem d_PL_passTick_122 : decode b_PL_passTick 122 = .ok (.ifCond .eq (25), 3) := by decide +kernel
theorem d_PL_passTick_125 : decode b_PL_passTick 125 = .ok (.aload_n 1, 1) := by decide +kernel
theorem d_PL_passTick_126 : decode b_PL_passTick 126 = .ok (.iconst 4, 1) := by decide +kernel
theorem d_PL_passTick_127 : decode b_PL_passTick 127 = .ok (.invokevirtual 172, 3) := by decide +kernel
theorem d_PL_passTick_130 : decode b_PL_passTick 130 = .ok (.sipush (255), 3) := by decide +kernel
theorem d_PL_passTick_133 : decode b_PL_passTick 133 = .ok (.if_icmp .eq (14), 3) := by decide +kernel
theorem d_PL_passTick_136 : decode b_PL_passTick 136 = .ok (.aload_n 0, 1) := by decide +kernel
theorem d_PL_passTick_137 : decode b_PL_passTick 137 = .ok (.getfield 74, 3) := by decide +kernel
theorem d_PL_passTick_140 : decode b_PL_passTick 140 = .ok (.aload_n 1, 1) := by decide +kernel
theorem d_PL_passTick_141 : decode b_PL_passTick 141 = .ok (.invokevirtual 182, 3) := by decide +kernel
theorem d_PL_passTick_144 : decode b_PL_passTick 144 = .ok (.goto (10), 3) := by decide +kernel
theorem d_PL_passTick_147 : decode b_PL_passTick 147 = .ok (.aload_n 0, 1) := by decide +kernel
theorem d_PL_passTick_148 : decode b_PL_passTick 148 = .ok (.getfield 74, 3) := by decide +kernel
theorem d_PL_passTick_151 : decode b_PL_passTick 151 = .ok (.invokevirtual 186, 3) := by decide +kernel
theorem d_PL_passTick_154 : decode b_PL_passTick 154 = .ok (.aload_n 0, 1) := by decide +kernel
theorem d_PL_passTick_155 : decode b_PL_passTick 155 = .ok (.getfield 49, 3) := by decide +kernel
theorem d_PL_passTick_158 : decode b_PL_passTick 158 = .ok (.aload_n 0, 1) := by decide +kernel
theorem d_PL_passTick_159 : decode b_PL_passTick 159 = .ok (.getfield 58, 3) := by decide +kernel
theorem d_PL_passTick_162 : decode b_PL_passTick 162 = .ok (.invokevirtual 189, 3) := by decide +kernel
theorem d_PL_passTick_165 : decode b_PL_passTick 165 = .ok (.invokevirtual 193, 3) := by decide +kernel
theorem d_PL_passTick_168 : decode b_PL_passTick 168 = .ok (.return_, 1) := by decide +kernel
def K_PL_passTick_154 (st : plS) : plS := K_BL_launch st (K_SW_kByte st)
def P_PL_passTick_154 (st : plS) : Prop := P_BL_launch st (K_SW_kByte st)
set_option maxRecDepth 20000 in
theorem j_PL_passTick_154 {E : plE} (X : plX E b_PL_passTick "ProtectedLine" 2 none 6 173) (a : Nat → Nat) (T : plS) (hQ : plRv E (plwC (plg E) a) T) (st : plS)  (hs : P_PL_passTick_154 st) (hk : T = K_PL_passTick_154 st) : plJ E 2 (plwC (plg E) a st) 0 0 [(0, .ref (a 0))] 154 [] := by
  unfold P_PL_passTick_154 at hs
  unfold K_PL_passTick_154 at hk
  refine j_aload_n (pc := 154) X d_PL_passTick_154 rfl 0 rfl ?_
  refine get_PL_back (pc := 155) X fl_PL_49 d_PL_passTick_155 ?_
  refine j_aload_n (pc := 158) X d_PL_passTick_158 rfl 0 rfl ?_
  refine get_PL_nodeB (pc := 159) X fl_PL_58 d_PL_passTick_159 ?_
  refine j_callVp (pc := 162) (As := []) (rest := [.ref (a 17)]) X (c_SW_kByte (plg E) a st) ml_PL_189 19 rfl rfl ⟨Nat.le_of_ble_eq_true rfl, Nat.le_of_ble_eq_true rfl⟩ rfl rfl (Nat.le_of_ble_eq_true rfl) d_PL_passTick_162 ?_
  refine j_callVv (pc := 165) (As := [.int (K_SW_kByte st)]) (rest := []) X (c_BL_launch (plg E) a st (K_SW_kByte st) hs) ml_PL_193 17 rfl rfl ⟨Nat.le_of_ble_eq_true rfl, Nat.le_of_ble_eq_true rfl⟩ rfl rfl (Nat.le_of_ble_eq_true rfl) d_PL_passTick_165 ?_
  exact j_retv (pc := 168) X hQ d_PL_passTick_168 hk
def K_PL_passTick_147 (st : plS) : plS := K_PL_passTick_154 (K_PR_gap st)
def P_PL_passTick_147 (st : plS) : Prop := P_PL_passTick_154 (K_PR_gap st)
set_option maxRecDepth 20000 in
theorem j_PL_passTick_147 {E : plE} (X : plX E b_PL_passTick "ProtectedLine" 2 none 6 173) (a : Nat → Nat) (T : plS) (hQ : plRv E (plwC (plg E) a) T) (st : plS)  (hs : P_PL_passTick_147 st) (hk : T = K_PL_passTick_147 st) : plJ E 2 (plwC (plg E) a st) 0 0 [(0, .ref (a 0))] 147 [] := by
  unfold P_PL_passTick_147 at hs
  unfold K_PL_passTick_147 at hk
  refine j_aload_n (pc := 147) X d_PL_passTick_147 rfl 0 rfl ?_
  refine get_PL_reader (pc := 148) X fl_PL_74 d_PL_passTick_148 ?_
  refine j_callVv (pc := 151) (As := []) (rest := []) X (c_PR_gap (plg E) a st) ml_PL_186 25 rfl rfl ⟨Nat.le_of_ble_eq_true rfl, Nat.le_of_ble_eq_true rfl⟩ rfl rfl (Nat.le_of_ble_eq_true rfl) d_PL_passTick_151 ?_
  exact j_PL_passTick_154 X a T hQ (K_PR_gap st) hs hk
def K_PL_passTick_106 (st : plS) : plS := (if (st 19 7) = 0 then (if (K_LW_readable st) = 0 then K_PL_passTick_147 st else (if (K_LW_plainAt st 4) = 255 then K_PL_passTick_147 st else K_PL_passTick_154 (K_PR_take_LW st))) else (if (K_LP_readable st) = 0 then K_PL_passTick_147 st else (if (K_LP_plainAt st 4) = 255 then K_PL_passTick_147 st else K_PL_passTick_154 (K_PR_take_LP st))))
def P_PL_passTick_106 (st : plS) : Prop := (((st 19 7) = 0 → (P_LW_readable st ∧ (((K_LW_readable st) = 0 → P_PL_passTick_147 st) ∧ (¬ (K_LW_readable st) = 0 → (P_LW_plainAt st 4 ∧ (((K_LW_plainAt st 4) = 255 → P_PL_passTick_147 st) ∧ (¬ (K_LW_plainAt st 4) = 255 → (P_PR_take_LW st ∧ P_PL_passTick_154 (K_PR_take_LW st))))))))) ∧ (¬ (st 19 7) = 0 → (P_LP_readable st ∧ (((K_LP_readable st) = 0 → P_PL_passTick_147 st) ∧ (¬ (K_LP_readable st) = 0 → (P_LP_plainAt st 4 ∧ (((K_LP_plainAt st 4) = 255 → P_PL_passTick_147 st) ∧ (¬ (K_LP_plainAt st 4) = 255 → (P_PR_take_LP st ∧ P_PL_passTick_154 (K_PR_take_LP st))))))))))
set_option maxRecDepth 20000 in
theorem j_PL_passTick_106 {E : plE} (X : plX E b_PL_passTick "ProtectedLine" 2 none 6 173) (a : Nat → Nat) (T : plS) (hQ : plRv E (plwC (plg E) a) T) (st : plS)  (hs : P_PL_passTick_106 st) (hk : T = K_PL_passTick_106 st) : plJ E 2 (plwC (plg E) a st) 0 0 [(0, .ref (a 0))] 106 [] := by
  unfold P_PL_passTick_106 at hs
  unfold K_PL_passTick_106 at hk
  refine j_aload_n (pc := 106) X d_PL_passTick_106 rfl 0 rfl ?_
  refine j_aload_n (pc := 107) X d_PL_passTick_107 rfl 0 rfl ?_
  refine get_PL_nodeB (pc := 108) X fl_PL_58 d_PL_passTick_108 ?_
  refine get_SW_chosen (pc := 111) X fl_PL_130 d_PL_passTick_111 ?_
  by_cases hc : (st 19 7) = 0
  · have hk := hk.trans (if_pos hc)
    have hs := hs.1 hc
    refine j_callVr (pc := 114) (As := [.int (st 19 7)]) (rest := []) X (c_PL_lineAt_toLW (plg E) a st (st 19 7) (fun h => h hc)) ml_PL_89 0 rfl rfl ⟨Nat.le_of_ble_eq_true rfl, Nat.le_of_ble_eq_true rfl⟩ rfl rfl (Nat.le_of_ble_eq_true rfl) d_PL_passTick_114 ?_
    refine j_astore_n (pc := 117) X d_PL_passTick_117 rfl (lv' := [(1, .ref (a 9)), (0, .ref (a 0))]) (Nat.le_of_ble_eq_true rfl) rfl ?_
    refine j_aload_n (pc := 118) X d_PL_passTick_118 rfl 0 rfl ?_
    refine j_callVp (pc := 119) (As := []) (rest := []) X (c_LW_readable (plg E) a st hs.1) ml_PL_169 9 rfl rfl ⟨Nat.le_of_ble_eq_true rfl, Nat.le_of_ble_eq_true rfl⟩ rfl rfl (Nat.le_of_ble_eq_true rfl) d_PL_passTick_119 ?_
    have hs := hs.2
    refine j_if_eq (pc := 122) (tgt := 147) X d_PL_passTick_122 rfl (fun hc => ?_) (fun hc => ?_)
    · have hk := hk.trans (if_pos hc)
      have hs := hs.1 hc
      refine j_sub [1] (lv' := [(0, .ref (a 0))]) rfl ?_
      exact j_PL_passTick_147 X a T hQ st hs hk
    · have hk := hk.trans (if_neg hc)
      have hs := hs.2 hc
      refine j_aload_n (pc := 125) X d_PL_passTick_125 rfl 0 rfl ?_
      refine j_iconst (pc := 126) X d_PL_passTick_126 ic_4 ?_
      refine j_callVp (pc := 127) (As := [.int 4]) (rest := []) X (c_LW_plainAt (plg E) a st 4 hs.1) ml_PL_172 9 rfl rfl ⟨Nat.le_of_ble_eq_true rfl, Nat.le_of_ble_eq_true rfl⟩ rfl rfl (Nat.le_of_ble_eq_true rfl) d_PL_passTick_127 ?_
      have hs := hs.2
      refine j_sipush (pc := 130) X d_PL_passTick_130 sp_255 ?_
      refine j_icmp_eq (pc := 133) (tgt := 147) X d_PL_passTick_133 rfl (fun hc => ?_) (fun hc => ?_)
      · have hk := hk.trans (if_pos hc)
        have hs := hs.1 hc
        refine j_sub [1] (lv' := [(0, .ref (a 0))]) rfl ?_
        exact j_PL_passTick_147 X a T hQ st hs hk
      · have hk := hk.trans (if_neg hc)
        have hs := hs.2 hc
        refine j_aload_n (pc := 136) X d_PL_passTick_136 rfl 1 rfl ?_
        refine get_PL_reader (pc := 137) X fl_PL_74 d_PL_passTick_137 ?_
        refine j_aload_n (pc := 140) X d_PL_passTick_140 rfl 0 rfl ?_
        refine j_callVv (pc := 141) (As := [.ref (a 9)]) (rest := []) X (c_PR_take_LW (plg E) a st hs.1) ml_PL_182 25 rfl rfl ⟨Nat.le_of_ble_eq_true rfl, Nat.le_of_ble_eq_true rfl⟩ rfl rfl (Nat.le_of_ble_eq_true rfl) d_PL_passTick_141 ?_
        have hs := hs.2
        refine j_goto (pc := 144) (tgt := 154) X d_PL_passTick_144 rfl ?_
        refine j_sub [1] (lv' := [(0, .ref (a 0))]) rfl ?_
        exact j_PL_passTick_154 X a T hQ (K_PR_take_LW st) hs hk
  · have hk := hk.trans (if_neg hc)
    have hs := hs.2 hc
    refine j_callVr (pc := 114) (As := [.int (st 19 7)]) (rest := []) X (c_PL_lineAt_toLP (plg E) a st (st 19 7) hc) ml_PL_89 0 rfl rfl ⟨Nat.le_of_ble_eq_true rfl, Nat.le_of_ble_eq_true rfl⟩ rfl rfl (Nat.le_of_ble_eq_true rfl) d_PL_passTick_114 ?_
    refine j_astore_n (pc := 117) X d_PL_passTick_117 rfl (lv' := [(1, .ref (a 13)), (0, .ref (a 0))]) (Nat.le_of_ble_eq_true rfl) rfl ?_
    refine j_aload_n (pc := 118) X d_PL_passTick_118 rfl 0 rfl ?_
    refine j_callVp (pc := 119) (As := []) (rest := []) X (c_LP_readable (plg E) a st hs.1) ml_PL_169 13 rfl rfl ⟨Nat.le_of_ble_eq_true rfl, Nat.le_of_ble_eq_true rfl⟩ rfl rfl (Nat.le_of_ble_eq_true rfl) d_PL_passTick_119 ?_
    have hs := hs.2
    refine j_if_eq (pc := 122) (tgt := 147) X d_PL_passTick_122 rfl (fun hc => ?_) (fun hc => ?_)
    · have hk := hk.trans (if_pos hc)
      have hs := hs.1 hc
      refine j_sub [1] (lv' := [(0, .ref (a 0))]) rfl ?_
      exact j_PL_passTick_147 X a T hQ st hs hk
    · have hk := hk.trans (if_neg hc)
      have hs := hs.2 hc
      refine j_aload_n (pc := 125) X d_PL_passTick_125 rfl 0 rfl ?_
      refine j_iconst (pc := 126) X d_PL_passTick_126 ic_4 ?_
      refine j_callVp (pc := 127) (As := [.int 4]) (rest := []) X (c_LP_plainAt (plg E) a st 4 hs.1) ml_PL_172 13 rfl rfl ⟨Nat.le_of_ble_eq_true rfl, Nat.le_of_ble_eq_true rfl⟩ rfl rfl (Nat.le_of_ble_eq_true rfl) d_PL_passTick_127 ?_
      have hs := hs.2
      refine j_sipush (pc := 130) X d_PL_passTick_130 sp_255 ?_
      refine j_icmp_eq (pc := 133) (tgt := 147) X d_PL_passTick_133 rfl (fun hc => ?_) (fun hc => ?_)
      · have hk := hk.trans (if_pos hc)
        have hs := hs.1 hc
        refine j_sub [1] (lv' := [(0, .ref (a 0))]) rfl ?_
        exact j_PL_passTick_147 X a T hQ st hs hk
      · have hk := hk.trans (if_neg hc)
        have hs := hs.2 hc
        refine j_aload_n (pc := 136) X d_PL_passTick_136 rfl 1 rfl ?_
        refine get_PL_reader (pc := 137) X fl_PL_74 d_PL_passTick_137 ?_
        refine j_aload_n (pc := 140) X d_PL_passTick_140 rfl 0 rfl ?_
        refine j_callVv (pc := 141) (As := [.ref (a 13)]) (rest := []) X (c_PR_take_LP (plg E) a st hs.1) ml_PL_182 25 rfl rfl ⟨Nat.le_of_ble_eq_true rfl, Nat.le_of_ble_eq_true rfl⟩ rfl rfl (Nat.le_of_ble_eq_true rfl) d_PL_passTick_141 ?_
        have hs := hs.2
        refine j_goto (pc := 144) (tgt := 154) X d_PL_passTick_144 rfl ?_
        refine j_sub [1] (lv' := [(0, .ref (a 0))]) rfl ?_
        exact j_PL_passTick_154 X a T hQ (K_PR_take_LP st) hs hk
def K_PL_passTick_85 (st : plS) : plS := K_PL_passTick_106 (K_SW_decide st (K_LW_failed st) (K_LP_failed st))
def P_PL_passTick_85 (st : plS) : Prop := (P_LW_failed st ∧ (P_LP_failed st ∧ P_PL_passTick_106 (K_SW_decide st (K_LW_failed st) (K_LP_failed st))))
set_option maxRecDepth 20000 in
theorem j_PL_passTick_85 {E : plE} (X : plX E b_PL_passTick "ProtectedLine" 2 none 6 173) (a : Nat → Nat) (T : plS) (hQ : plRv E (plwC (plg E) a) T) (st : plS)  (hs : P_PL_passTick_85 st) (hk : T = K_PL_passTick_85 st) : plJ E 2 (plwC (plg E) a st) 0 0 [(0, .ref (a 0))] 85 [] := by
  unfold P_PL_passTick_85 at hs
  unfold K_PL_passTick_85 at hk
  refine j_aload_n (pc := 85) X d_PL_passTick_85 rfl 0 rfl ?_
  refine get_PL_nodeB (pc := 86) X fl_PL_58 d_PL_passTick_86 ?_
  refine j_aload_n (pc := 89) X d_PL_passTick_89 rfl 0 rfl ?_
  refine get_PL_working (pc := 90) X fl_PL_39 d_PL_passTick_90 ?_
  refine j_callVp (pc := 93) (As := []) (rest := [.ref (a 19)]) X (c_LW_failed (plg E) a st hs.1) ml_PL_175 9 rfl rfl ⟨Nat.le_of_ble_eq_true rfl, Nat.le_of_ble_eq_true rfl⟩ rfl rfl (Nat.le_of_ble_eq_true rfl) d_PL_passTick_93 ?_
  have hs := hs.2
  refine j_aload_n (pc := 96) X d_PL_passTick_96 rfl 0 rfl ?_
  refine get_PL_protection (pc := 97) X fl_PL_43 d_PL_passTick_97 ?_
  refine j_callVp (pc := 100) (As := []) (rest := [.int (K_LW_failed st), .ref (a 19)]) X (c_LP_failed (plg E) a st hs.1) ml_PL_175 13 rfl rfl ⟨Nat.le_of_ble_eq_true rfl, Nat.le_of_ble_eq_true rfl⟩ rfl rfl (Nat.le_of_ble_eq_true rfl) d_PL_passTick_100 ?_
  have hs := hs.2
  refine j_callVv (pc := 103) (As := [.int (K_LW_failed st), .int (K_LP_failed st)]) (rest := []) X (c_SW_decide (plg E) a st (K_LW_failed st) (K_LP_failed st)) ml_PL_178 19 rfl rfl ⟨Nat.le_of_ble_eq_true rfl, Nat.le_of_ble_eq_true rfl⟩ rfl rfl (Nat.le_of_ble_eq_true rfl) d_PL_passTick_103 ?_
  exact j_PL_passTick_106 X a T hQ (K_SW_decide st (K_LW_failed st) (K_LP_failed st)) hs hk
def K_PL_passTick_82 (st : plS) (k0 : Int32) : plS := K_PL_passTick_85 (K_LB_hear st k0)
def P_PL_passTick_82 (st : plS) (k0 : Int32) : Prop := P_PL_passTick_85 (K_LB_hear st k0)
set_option maxRecDepth 20000 in
theorem j_PL_passTick_82 {E : plE} (X : plX E b_PL_passTick "ProtectedLine" 2 none 6 173) (a : Nat → Nat) (T : plS) (hQ : plRv E (plwC (plg E) a) T) (st : plS) (k0 : Int32) (hs : P_PL_passTick_82 st k0) (hk : T = K_PL_passTick_82 st k0) : plJ E 2 (plwC (plg E) a st) 0 0 [(0, .ref (a 0))] 82 [.int k0, .ref (a 20)] := by
  unfold P_PL_passTick_82 at hs
  unfold K_PL_passTick_82 at hk
  refine j_callVv (pc := 82) (As := [.int k0]) (rest := []) X (c_LB_hear (plg E) a st k0) ml_PL_156 20 rfl rfl ⟨Nat.le_of_ble_eq_true rfl, Nat.le_of_ble_eq_true rfl⟩ rfl rfl (Nat.le_of_ble_eq_true rfl) d_PL_passTick_82 ?_
  exact j_PL_passTick_85 X a T hQ (K_LB_hear st k0) hs hk
def K_PL_passTick_53 (st : plS) : plS := (if (K_LP_readable st) = 0 then K_PL_passTick_82 st ((-1)) else K_PL_passTick_82 st (K_LP_plainAt st 3))
def P_PL_passTick_53 (st : plS) : Prop := (P_LP_readable st ∧ (((K_LP_readable st) = 0 → P_PL_passTick_82 st ((-1))) ∧ (¬ (K_LP_readable st) = 0 → (P_LP_plainAt st 3 ∧ P_PL_passTick_82 st (K_LP_plainAt st 3)))))
set_option maxRecDepth 20000 in
theorem j_PL_passTick_53 {E : plE} (X : plX E b_PL_passTick "ProtectedLine" 2 none 6 173) (a : Nat → Nat) (T : plS) (hQ : plRv E (plwC (plg E) a) T) (st : plS)  (hs : P_PL_passTick_53 st) (hk : T = K_PL_passTick_53 st) : plJ E 2 (plwC (plg E) a st) 0 0 [(0, .ref (a 0))] 53 [] := by
  unfold P_PL_passTick_53 at hs
  unfold K_PL_passTick_53 at hk
  refine j_aload_n (pc := 53) X d_PL_passTick_53 rfl 0 rfl ?_
  refine get_PL_nodeB (pc := 54) X fl_PL_58 d_PL_passTick_54 ?_
  refine get_SW_heard (pc := 57) X fl_PL_168 d_PL_passTick_57 ?_
  refine j_aload_n (pc := 60) X d_PL_passTick_60 rfl 0 rfl ?_
  refine get_PL_protection (pc := 61) X fl_PL_43 d_PL_passTick_61 ?_
  refine j_callVp (pc := 64) (As := []) (rest := [.ref (a 20)]) X (c_LP_readable (plg E) a st hs.1) ml_PL_169 13 rfl rfl ⟨Nat.le_of_ble_eq_true rfl, Nat.le_of_ble_eq_true rfl⟩ rfl rfl (Nat.le_of_ble_eq_true rfl) d_PL_passTick_64 ?_
  have hs := hs.2
  refine j_if_eq (pc := 67) (tgt := 81) X d_PL_passTick_67 rfl (fun hc => ?_) (fun hc => ?_)
  · have hk := hk.trans (if_pos hc)
    have hs := hs.1 hc
    refine j_iconst (pc := 81) X d_PL_passTick_81 ic_m1 ?_
    exact j_PL_passTick_82 X a T hQ st ((-1)) hs hk
  · have hk := hk.trans (if_neg hc)
    have hs := hs.2 hc
    refine j_aload_n (pc := 70) X d_PL_passTick_70 rfl 0 rfl ?_
    refine get_PL_protection (pc := 71) X fl_PL_43 d_PL_passTick_71 ?_
    refine j_iconst (pc := 74) X d_PL_passTick_74 ic_3 ?_
    refine j_callVp (pc := 75) (As := [.int 3]) (rest := [.ref (a 20)]) X (c_LP_plainAt (plg E) a st 3 hs.1) ml_PL_172 13 rfl rfl ⟨Nat.le_of_ble_eq_true rfl, Nat.le_of_ble_eq_true rfl⟩ rfl rfl (Nat.le_of_ble_eq_true rfl) d_PL_passTick_75 ?_
    have hs := hs.2
    refine j_goto (pc := 78) (tgt := 82) X d_PL_passTick_78 rfl ?_
    exact j_PL_passTick_82 X a T hQ st (K_LP_plainAt st 3) hs hk
def K_PL_passTick_46 (st : plS) : plS := K_PL_passTick_53 (K_LP_receive st)
def P_PL_passTick_46 (st : plS) : Prop := (P_LP_receive st ∧ P_PL_passTick_53 (K_LP_receive st))
set_option maxRecDepth 20000 in
theorem j_PL_passTick_46 {E : plE} (X : plX E b_PL_passTick "ProtectedLine" 2 none 6 173) (a : Nat → Nat) (T : plS) (hQ : plRv E (plwC (plg E) a) T) (st : plS)  (hs : P_PL_passTick_46 st) (hk : T = K_PL_passTick_46 st) : plJ E 2 (plwC (plg E) a st) 0 0 [(0, .ref (a 0))] 46 [] := by
  unfold P_PL_passTick_46 at hs
  unfold K_PL_passTick_46 at hk
  refine j_aload_n (pc := 46) X d_PL_passTick_46 rfl 0 rfl ?_
  refine get_PL_protection (pc := 47) X fl_PL_43 d_PL_passTick_47 ?_
  refine j_callVv (pc := 50) (As := []) (rest := []) X (c_LP_receive (plg E) a st hs.1) ml_PL_165 13 rfl rfl ⟨Nat.le_of_ble_eq_true rfl, Nat.le_of_ble_eq_true rfl⟩ rfl rfl (Nat.le_of_ble_eq_true rfl) d_PL_passTick_50 ?_
  have hs := hs.2
  exact j_PL_passTick_53 X a T hQ (K_LP_receive st) hs hk
def K_PL_passTick_39 (st : plS) : plS := K_PL_passTick_46 (K_LW_receive st)
def P_PL_passTick_39 (st : plS) : Prop := (P_LW_receive st ∧ P_PL_passTick_46 (K_LW_receive st))
set_option maxRecDepth 20000 in
theorem j_PL_passTick_39 {E : plE} (X : plX E b_PL_passTick "ProtectedLine" 2 none 6 173) (a : Nat → Nat) (T : plS) (hQ : plRv E (plwC (plg E) a) T) (st : plS)  (hs : P_PL_passTick_39 st) (hk : T = K_PL_passTick_39 st) : plJ E 2 (plwC (plg E) a st) 0 0 [(0, .ref (a 0))] 39 [] := by
  unfold P_PL_passTick_39 at hs
  unfold K_PL_passTick_39 at hk
  refine j_aload_n (pc := 39) X d_PL_passTick_39 rfl 0 rfl ?_
  refine get_PL_working (pc := 40) X fl_PL_39 d_PL_passTick_40 ?_
  refine j_callVv (pc := 43) (As := []) (rest := []) X (c_LW_receive (plg E) a st hs.1) ml_PL_165 9 rfl rfl ⟨Nat.le_of_ble_eq_true rfl, Nat.le_of_ble_eq_true rfl⟩ rfl rfl (Nat.le_of_ble_eq_true rfl) d_PL_passTick_43 ?_
  have hs := hs.2
  exact j_PL_passTick_46 X a T hQ (K_LW_receive st) hs hk
def K_PL_passTick_24 (st : plS) : plS := K_PL_passTick_39 (K_NA_transmit_LW_LP st)
def P_PL_passTick_24 (st : plS) : Prop := (P_NA_transmit_LW_LP st ∧ P_PL_passTick_39 (K_NA_transmit_LW_LP st))
set_option maxRecDepth 20000 in
theorem j_PL_passTick_24 {E : plE} (X : plX E b_PL_passTick "ProtectedLine" 2 none 6 173) (a : Nat → Nat) (T : plS) (hQ : plRv E (plwC (plg E) a) T) (st : plS)  (hs : P_PL_passTick_24 st) (hk : T = K_PL_passTick_24 st) : plJ E 2 (plwC (plg E) a st) 0 0 [(0, .ref (a 0))] 24 [] := by
  unfold P_PL_passTick_24 at hs
  unfold K_PL_passTick_24 at hk
  refine j_aload_n (pc := 24) X d_PL_passTick_24 rfl 0 rfl ?_
  refine get_PL_nodeA (pc := 25) X fl_PL_26 d_PL_passTick_25 ?_
  refine j_aload_n (pc := 28) X d_PL_passTick_28 rfl 0 rfl ?_
  refine get_PL_working (pc := 29) X fl_PL_39 d_PL_passTick_29 ?_
  refine j_aload_n (pc := 32) X d_PL_passTick_32 rfl 0 rfl ?_
  refine get_PL_protection (pc := 33) X fl_PL_43 d_PL_passTick_33 ?_
  refine j_callVv (pc := 36) (As := [.ref (a 9), .ref (a 13)]) (rest := []) X (c_NA_transmit_LW_LP (plg E) a st hs.1) ml_PL_161 5 rfl rfl ⟨Nat.le_of_ble_eq_true rfl, Nat.le_of_ble_eq_true rfl⟩ rfl rfl (Nat.le_of_ble_eq_true rfl) d_PL_passTick_36 ?_
  have hs := hs.2
  exact j_PL_passTick_39 X a T hQ (K_NA_transmit_LW_LP st) hs hk
def K_PL_passTick (st : plS) : plS := K_PL_passTick_24 (K_LA_hear st (K_BL_arriving st (st 13 4)))
def P_PL_passTick (st : plS) : Prop := (P_BL_arriving st (st 13 4) ∧ P_PL_passTick_24 (K_LA_hear st (K_BL_arriving st (st 13 4))))
set_option maxRecDepth 20000 in
theorem j_PL_passTick {E : plE} (X : plX E b_PL_passTick "ProtectedLine" 2 none 6 173) (a : Nat → Nat) (T : plS) (hQ : plRv E (plwC (plg E) a) T) (st : plS)  (hs : P_PL_passTick st) (hk : T = K_PL_passTick st) : plJ E 2 (plwC (plg E) a st) 0 0 [(0, .ref (a 0))] 0 [] := by
  unfold P_PL_passTick at hs
  unfold K_PL_passTick at hk
  refine j_aload_n (pc := 0) X d_PL_passTick_0 rfl 0 rfl ?_
  refine get_PL_nodeA (pc := 1) X fl_PL_26 d_PL_passTick_1 ?_
  refine get_NA_heard (pc := 4) X fl_PL_148 d_PL_passTick_4 ?_
  refine j_aload_n (pc := 7) X d_PL_passTick_7 rfl 0 rfl ?_
  refine get_PL_back (pc := 8) X fl_PL_49 d_PL_passTick_8 ?_
  refine j_aload_n (pc := 11) X d_PL_passTick_11 rfl 0 rfl ?_
  refine get_PL_protection (pc := 12) X fl_PL_43 d_PL_passTick_12 ?_
  refine get_LP_broken (pc := 15) X fl_PL_93 d_PL_passTick_15 ?_
  refine j_callVp (pc := 18) (As := [.int (st 13 4)]) (rest := [.ref (a 7)]) X (c_BL_arriving (plg E) a st (st 13 4) hs.1) ml_PL_152 17 rfl rfl ⟨Nat.le_of_ble_eq_true rfl, Nat.le_of_ble_eq_true rfl⟩ rfl rfl (Nat.le_of_ble_eq_true rfl) d_PL_passTick_18 ?_
  have hs := hs.2
  refine j_callVv (pc := 21) (As := [.int (K_BL_arriving st (st 13 4))]) (rest := []) X (c_LA_hear (plg E) a st (K_BL_arriving st (st 13 4))) ml_PL_156 7 rfl rfl ⟨Nat.le_of_ble_eq_true rfl, Nat.le_of_ble_eq_true rfl⟩ rfl rfl (Nat.le_of_ble_eq_true rfl) d_PL_passTick_21 ?_
  exact j_PL_passTick_24 X a T hQ (K_LA_hear st (K_BL_arriving st (st 13 4))) hs hk
set_option maxRecDepth 20000 in
theorem c_PL_passTick (g : plG) (a : Nat → Nat) (st : plS)  (hs : P_PL_passTick st ) : plMv g y_PL_passTick b_PL_passTick 2 none 6 173 [.ref (a 0)] (plwC g a) st (K_PL_passTick st ) := by
  refine plMv.of (own := "ProtectedLine") (lv := [(0, .ref (a 0))]) rfl rfl (Nat.le_of_ble_eq_true rfl) rfl (fun E hE X hQ => ?_)
  subst hE
  exact j_PL_passTick X a _ hQ st  hs rfl
theorem d_PL_tick_0 : decode b_PL_tick 0 = .ok (.iload_n 1, 1) := by decide +kernel
theorem d_PL_tick_1 : decode b_PL_tick 1 = .ok (.iconst 1, 1) := by decide +kernel
theorem d_PL_tick_2 : decode b_PL_tick 2 = .ok (.if_icmp .lt (9), 3) := by decide +kernel
theorem d_PL_tick_5 : decode b_PL_tick 5 = .ok (.iload_n 1, 1) := by decide +kernel
theorem d_PL_tick_6 : decode b_PL_tick 6 = .ok (.bipush (40), 2) := by decide +kernel
theorem d_PL_tick_8 : decode b_PL_tick 8 = .ok (.if_icmp .le (5), 3) := by decide +kernel
theorem d_PL_tick_11 : decode b_PL_tick 11 = .ok (.iconst 0, 1) := by decide +kernel
theorem d_PL_tick_12 : decode b_PL_tick 12 = .ok (.ireturn, 1) := by decide +kernel
theorem d_PL_tick_13 : decode b_PL_tick 13 = .ok (.iconst 0, 1) := by decide +kernel
theorem d_PL_tick_14 : decode b_PL_tick 14 = .ok (.istore_n 2, 1) := by decide +kernel
theorem d_PL_tick_15 : decode b_PL_tick 15 = .ok (.iload_n 2, 1) := by decide +kernel
theorem d_PL_tick_16 : decode b_PL_tick 16 = .ok (.iload_n 1, 1) := by decide +kernel
theorem d_PL_tick_17 : decode b_PL_tick 17 = .ok (.if_icmp .ge (13), 3) := by decide +kernel
theorem d_PL_tick_20 : decode b_PL_tick 20 = .ok (.aload_n 0, 1) := by decide +kernel
theorem d_PL_tick_21 : decode b_PL_tick 21 = .ok (.invokevirtual 82, 3) := by decide +kernel
theorem d_PL_tick_24 : decode b_PL_tick 24 = .ok (.iinc 2 (1), 3) := by decide +kernel
theorem d_PL_tick_27 : decode b_PL_tick 27 = .ok (.goto (-12), 3) := by decide +kernel
theorem d_PL_tick_30 : decode b_PL_tick 30 = .ok (.iconst 1, 1) := by decide +kernel
theorem d_PL_tick_31 : decode b_PL_tick 31 = .ok (.ireturn, 1) := by decide +kernel
def K_PL_tick_11 (st : plS) : Int32 × plS := (0, st)
set_option maxRecDepth 20000 in
theorem j_PL_tick_11 {E : plE} (X : plX E b_PL_tick "ProtectedLine" 3 (some .boolean) 7 194) (a : Nat → Nat) (T : Int32 × plS) (hQ : plRi E (plwC (plg E) a) T) (st : plS)  (hk : T = K_PL_tick_11 st) : plJ E 3 (plwC (plg E) a st) 0 0 [] 11 [] := by
  unfold K_PL_tick_11 at hk
  refine j_iconst (pc := 11) X d_PL_tick_11 ic_0 ?_
  exact j_retz (pc := 12) X hQ d_PL_tick_12 (Or.inl rfl) hk
def K_PL_tick_15L (st : plS) (v1 : Int32) (v2 : Int32) : Bool × (plS × Int32) := (if v1 ≤ v2 then (false, (st, v2)) else (true, (K_PL_passTick st, v2 + 1)))
def P_PL_tick_15L (st : plS) (v1 : Int32) (v2 : Int32) : Prop := (¬ v1 ≤ v2 → P_PL_passTick st)
set_option maxRecDepth 20000 in
theorem j_PL_tick_15L {E : plE} (X : plX E b_PL_tick "ProtectedLine" 3 (some .boolean) 7 194) (a : Nat → Nat) (T : Bool × (plS × Int32)) (v1 : Int32) (hb : ∀ (c0 : plS) (c1 : Int32), T = (true, (c0, c1)) → plJ E 3 (plwC (plg E) a c0) 0 0 [(0, .ref (a 0)), (1, .int v1), (2, .int c1)] 15 []) (hx : ∀ (c0 : plS) (c1 : Int32), T = (false, (c0, c1)) → plJ E 3 (plwC (plg E) a c0) 0 0 [(0, .ref (a 0)), (1, .int v1), (2, .int c1)] 30 []) (st : plS) (v2 : Int32) (hs : P_PL_tick_15L st v1 v2) (hk : T = K_PL_tick_15L st v1 v2) : plJ E 3 (plwC (plg E) a st) 0 0 [(0, .ref (a 0)), (1, .int v1), (2, .int v2)] 15 [] := by
  unfold P_PL_tick_15L at hs
  unfold K_PL_tick_15L at hk
  refine j_iload_n (pc := 15) X d_PL_tick_15 rfl 2 rfl ?_
  refine j_iload_n (pc := 16) X d_PL_tick_16 rfl 1 rfl ?_
  refine j_icmp_ge (pc := 17) (tgt := 30) X d_PL_tick_17 rfl (fun hc => ?_) (fun hc => ?_)
  · have hk := hk.trans (if_pos hc)
    exact hx st v2 hk
  · have hk := hk.trans (if_neg hc)
    have hs := hs hc
    refine j_aload_n (pc := 20) X d_PL_tick_20 rfl 0 rfl ?_
    refine j_callVv (pc := 21) (As := []) (rest := []) X (c_PL_passTick (plg E) a st hs) ml_PL_82 0 rfl rfl ⟨Nat.le_of_ble_eq_true rfl, Nat.le_of_ble_eq_true rfl⟩ rfl rfl (Nat.le_of_ble_eq_true rfl) d_PL_tick_21 ?_
    refine j_iinc (pc := 24) X d_PL_tick_24 2 rfl ic_1 (lv' := [(2, .int (v2 + 1)), (0, .ref (a 0)), (1, .int v1)]) (Nat.le_of_ble_eq_true rfl) rfl ?_
    refine j_goto (pc := 27) (tgt := 15) X d_PL_tick_27 rfl ?_
    refine j_sub [1, 2, 0] (lv' := [(0, .ref (a 0)), (1, .int v1), (2, .int (v2 + 1))]) rfl ?_
    exact hb (K_PL_passTick st) (v2 + 1) hk
def F_PL_tick_15 (v1 : Int32) (c : plS × Int32) : Bool × (plS × Int32) := K_PL_tick_15L c.1 v1 c.2
def G_PL_tick_15 (v1 : Int32) (c : plS × Int32) : Prop := P_PL_tick_15L c.1 v1 c.2
def K_PL_tick_15X (v1 : Int32) (c : plS × Int32) : Int32 × plS := (1, c.1)
set_option maxRecDepth 20000 in
theorem j_PL_tick_15X {E : plE} (X : plX E b_PL_tick "ProtectedLine" 3 (some .boolean) 7 194) (a : Nat → Nat) (T : Int32 × plS) (hQ : plRi E (plwC (plg E) a) T) (v1 : Int32) (c : plS × Int32) (hk : T = K_PL_tick_15X v1 c) : plJ E 3 (plwC (plg E) a c.1) 0 0 [(0, .ref (a 0)), (1, .int v1), (2, .int c.2)] 30 [] := by
  unfold K_PL_tick_15X at hk
  refine j_iconst (pc := 30) X d_PL_tick_30 ic_1 ?_
  exact j_retz (pc := 31) X hQ d_PL_tick_31 (Or.inr rfl) hk
def K_PL_tick (st : plS) (v1 : Int32) : Int32 × plS := (if v1 < 1 then K_PL_tick_11 st else (if v1 ≤ 40 then K_PL_tick_15X v1 (lpR (F_PL_tick_15 v1) 64 (st, 0)) else K_PL_tick_11 st))
def P_PL_tick (st : plS) (v1 : Int32) : Prop := (¬ v1 < 1 → (v1 ≤ 40 → lpP (G_PL_tick_15 v1) (F_PL_tick_15 v1) 64 (st, 0)))
set_option maxRecDepth 20000 in
theorem j_PL_tick {E : plE} (X : plX E b_PL_tick "ProtectedLine" 3 (some .boolean) 7 194) (a : Nat → Nat) (T : Int32 × plS) (hQ : plRi E (plwC (plg E) a) T) (st : plS) (v1 : Int32) (hs : P_PL_tick st v1) (hk : T = K_PL_tick st v1) : plJ E 3 (plwC (plg E) a st) 0 0 [(0, .ref (a 0)), (1, .int v1)] 0 [] := by
  unfold P_PL_tick at hs
  unfold K_PL_tick at hk
  refine j_iload_n (pc := 0) X d_PL_tick_0 rfl 1 rfl ?_
  refine j_iconst (pc := 1) X d_PL_tick_1 ic_1 ?_
  refine j_icmp_lt (pc := 2) (tgt := 11) X d_PL_tick_2 rfl (fun hc => ?_) (fun hc => ?_)
  · have hk := hk.trans (if_pos hc)
    refine j_sub [] (lv' := []) rfl ?_
    exact j_PL_tick_11 X a T hQ st hk
  · have hk := hk.trans (if_neg hc)
    have hs := hs hc
    refine j_iload_n (pc := 5) X d_PL_tick_5 rfl 1 rfl ?_
    refine j_bipush (pc := 6) X d_PL_tick_6 bp_40 ?_
    refine j_icmp_le (pc := 8) (tgt := 13) X d_PL_tick_8 rfl (fun hc => ?_) (fun hc => ?_)
    · have hk := hk.trans (if_pos hc)
      have hs := hs hc
      refine j_iconst (pc := 13) X d_PL_tick_13 ic_0 ?_
      refine j_istore_n (pc := 14) X d_PL_tick_14 rfl (lv' := [(2, .int 0), (0, .ref (a 0)), (1, .int v1)]) (Nat.le_of_ble_eq_true rfl) rfl ?_
      refine j_sub [1, 2, 0] (lv' := [(0, .ref (a 0)), (1, .int v1), (2, .int 0)]) rfl ?_
      exact lpJ (G_PL_tick_15 v1) (F_PL_tick_15 v1) (fun c => plJ E 3 (plwC (plg E) a c.1) 0 0 [(0, .ref (a 0)), (1, .int v1), (2, .int c.2)] 15 []) (fun c => plJ E 3 (plwC (plg E) a c.1) 0 0 [(0, .ref (a 0)), (1, .int v1), (2, .int c.2)] 30 []) (fun c hp h1 h2 => j_PL_tick_15L X a (F_PL_tick_15 v1 c) v1 (fun c0 c1 => h1 (c0, c1)) (fun c0 c1 => h2 (c0, c1)) c.1 c.2 hp rfl) 64 (st, 0) hs (j_PL_tick_15X X a T hQ v1 (lpR (F_PL_tick_15 v1) 64 (st, 0)) hk)
    · have hk := hk.trans (if_neg hc)
      refine j_sub [] (lv' := []) rfl ?_
      exact j_PL_tick_11 X a T hQ st hk
set_option maxRecDepth 20000 in
theorem c_PL_tick (g : plG) (a : Nat → Nat) (st : plS) (v1 : Int32) (hs : P_PL_tick st v1) : plMi g y_PL_tick b_PL_tick 3 (some .boolean) 7 194 [.ref (a 0), .int v1] (plwC g a) st (K_PL_tick st v1) := by
  refine plMi.of (own := "ProtectedLine") (lv := [(0, .ref (a 0)), (1, .int v1)]) rfl rfl (Nat.le_of_ble_eq_true rfl) rfl (fun E hE X hQ => ?_)
  subst hE
  exact j_PL_tick X a _ hQ st v1 hs rfl
theorem d_PL_isLine_0 : decode b_PL_isLine 0 = .ok (.iload_n 0, 1) := by decide +kernel
theorem d_PL_isLine_1 : decode b_PL_isLine 1 = .ok (.ifCond .eq (8), 3) := by decide +kernel
theorem d_PL_isLine_4 : decode b_PL_isLine 4 = .ok (.iload_n 0, 1) := by decide +kernel
theorem d_PL_isLine_5 : decode b_PL_isLine 5 = .ok (.iconst 1, 1) := by decide +kernel
theorem d_PL_isLine_6 : decode b_PL_isLine 6 = .ok (.if_icmp .ne (7), 3) := by decide +kernel
theorem d_PL_isLine_9 : decode b_PL_isLine 9 = .ok (.iconst 1, 1) := by decide +kernel
theorem d_PL_isLine_10 : decode b_PL_isLine 10 = .ok (.goto (4), 3) := by decide +kernel
theorem d_PL_isLine_13 : decode b_PL_isLine 13 = .ok (.iconst 0, 1) := by decide +kernel
theorem d_PL_isLine_14 : decode b_PL_isLine 14 = .ok (.ireturn, 1) := by decide +kernel
def K_PL_isLine_14 (k0 : Int32) : Int32 := k0
def P_PL_isLine_14 (k0 : Int32) : Prop := plB k0
set_option maxRecDepth 20000 in
theorem j_PL_isLine_14 {E : plE} (X : plX E b_PL_isLine "ProtectedLine" 1 (some .boolean) 0 0) (a : Nat → Nat) (T : Int32) (st : plS) (hQ : plRp E (plwC (plg E) a) st T) (k0 : Int32) (hs : P_PL_isLine_14 k0) (hk : T = K_PL_isLine_14 k0) : plJ E 1 (plwC (plg E) a st) 0 0 [] 14 [.int k0] := by
  unfold P_PL_isLine_14 at hs
  unfold K_PL_isLine_14 at hk
  exact j_retzp (pc := 14) X hQ d_PL_isLine_14 hs hk
def K_PL_isLine_9  : Int32 := K_PL_isLine_14 1
def P_PL_isLine_9  : Prop := P_PL_isLine_14 1
set_option maxRecDepth 20000 in
theorem j_PL_isLine_9 {E : plE} (X : plX E b_PL_isLine "ProtectedLine" 1 (some .boolean) 0 0) (a : Nat → Nat) (T : Int32) (st : plS) (hQ : plRp E (plwC (plg E) a) st T)  (hs : P_PL_isLine_9 ) (hk : T = K_PL_isLine_9 ) : plJ E 1 (plwC (plg E) a st) 0 0 [] 9 [] := by
  unfold P_PL_isLine_9 at hs
  unfold K_PL_isLine_9 at hk
  refine j_iconst (pc := 9) X d_PL_isLine_9 ic_1 ?_
  refine j_goto (pc := 10) (tgt := 14) X d_PL_isLine_10 rfl ?_
  exact j_PL_isLine_14 X a T st hQ 1 hs hk
def K_PL_isLine (v0 : Int32) : Int32 := (if v0 = 0 then K_PL_isLine_9 else (if v0 = 1 then K_PL_isLine_9 else K_PL_isLine_14 0))
def P_PL_isLine (v0 : Int32) : Prop := ((v0 = 0 → P_PL_isLine_9) ∧ (¬ v0 = 0 → ((v0 = 1 → P_PL_isLine_9) ∧ (¬ v0 = 1 → P_PL_isLine_14 0))))
set_option maxRecDepth 20000 in
theorem j_PL_isLine {E : plE} (X : plX E b_PL_isLine "ProtectedLine" 1 (some .boolean) 0 0) (a : Nat → Nat) (T : Int32) (st : plS) (hQ : plRp E (plwC (plg E) a) st T) (v0 : Int32) (hs : P_PL_isLine v0) (hk : T = K_PL_isLine v0) : plJ E 1 (plwC (plg E) a st) 0 0 [(0, .int v0)] 0 [] := by
  unfold P_PL_isLine at hs
  unfold K_PL_isLine at hk
  refine j_iload_n (pc := 0) X d_PL_isLine_0 rfl 0 rfl ?_
  refine j_if_eq (pc := 1) (tgt := 9) X d_PL_isLine_1 rfl (fun hc => ?_) (fun hc => ?_)
  · have hk := hk.trans (if_pos hc)
    have hs := hs.1 hc
    refine j_sub [] (lv' := []) rfl ?_
    exact j_PL_isLine_9 X a T st hQ hs hk
  · have hk := hk.trans (if_neg hc)
    have hs := hs.2 hc
    refine j_iload_n (pc := 4) X d_PL_isLine_4 rfl 0 rfl ?_
    refine j_iconst (pc := 5) X d_PL_isLine_5 ic_1 ?_
    refine j_icmp_ne (pc := 6) (tgt := 13) X d_PL_isLine_6 rfl (fun hc => ?_) (fun hc => ?_)
    · have hk := hk.trans (if_neg hc)
      have hs := hs.2 hc
      refine j_iconst (pc := 13) X d_PL_isLine_13 ic_0 ?_
      refine j_sub [] (lv' := []) rfl ?_
      exact j_PL_isLine_14 X a T st hQ 0 hs hk
    · have hk := hk.trans (if_pos hc)
      have hs := hs.1 hc
      refine j_sub [] (lv' := []) rfl ?_
      exact j_PL_isLine_9 X a T st hQ hs hk
set_option maxRecDepth 20000 in
theorem c_PL_isLine (g : plG) (a : Nat → Nat) (st : plS) (v0 : Int32) (hs : P_PL_isLine v0) : plMp g y_PL_isLine b_PL_isLine 1 (some .boolean) 0 0 [.int v0] (plwC g a) st (K_PL_isLine v0) := by
  refine plMp.of (own := "ProtectedLine") (lv := [(0, .int v0)]) rfl rfl (Nat.le_of_ble_eq_true rfl) rfl (fun E hE X hQ => ?_)
  subst hE
  exact j_PL_isLine X a _ st hQ v0 hs rfl
theorem d_PL_cut_0 : decode b_PL_cut 0 = .ok (.iload_n 1, 1) := by decide +kernel
theorem d_PL_cut_1 : decode b_PL_cut 1 = .ok (.invokestatic 85, 3) := by decide +kernel
theorem d_PL_cut_4 : decode b_PL_cut 4 = .ok (.ifCond .eq (15), 3) := by decide +kernel
theorem d_PL_cut_7 : decode b_PL_cut 7 = .ok (.aload_n 0, 1) := by decide +kernel
theorem d_PL_cut_8 : decode b_PL_cut 8 = .ok (.iload_n 1, 1) := by decide +kernel
theorem d_PL_cut_9 : decode b_PL_cut 9 = .ok (.invokevirtual 89, 3) := by decide +kernel
theorem d_PL_cut_12 : decode b_PL_cut 12 = .ok (.getfield 93, 3) := by decide +kernel
theorem d_PL_cut_15 : decode b_PL_cut 15 = .ok (.iload_n 2, 1) := by decide +kernel
theorem d_PL_cut_16 : decode b_PL_cut 16 = .ok (.if_icmp .ne (5), 3) := by decide +kernel
theorem d_PL_cut_19 : decode b_PL_cut 19 = .ok (.iconst 0, 1) := by decide +kernel
theorem d_PL_cut_20 : decode b_PL_cut 20 = .ok (.ireturn, 1) := by decide +kernel
theorem d_PL_cut_21 : decode b_PL_cut 21 = .ok (.aload_n 0, 1) := by decide +kernel
theorem d_PL_cut_22 : decode b_PL_cut 22 = .ok (.iload_n 1, 1) := by decide +kernel
theorem d_PL_cut_23 : decode b_PL_cut 23 = .ok (.invokevirtual 89, 3) := by decide +kernel
theorem d_PL_cut_26 : decode b_PL_cut 26 = .ok (.iload_n 2, 1) := by decide +kernel
theorem d_PL_cut_27 : decode b_PL_cut 27 = .ok (.putfield 93, 3) := by decide +kernel
theorem d_PL_cut_30 : decode b_PL_cut 30 = .ok (.iconst 1, 1) := by decide +kernel
theorem d_PL_cut_31 : decode b_PL_cut 31 = .ok (.ireturn, 1) := by decide +kernel
def K_PL_cut_19 (st : plS) : Int32 × plS := (0, st)
set_option maxRecDepth 20000 in
theorem j_PL_cut_19 {E : plE} (X : plX E b_PL_cut "ProtectedLine" 3 (some .boolean) 1 21) (a : Nat → Nat) (T : Int32 × plS) (hQ : plRi E (plwC (plg E) a) T) (st : plS)  (hk : T = K_PL_cut_19 st) : plJ E 3 (plwC (plg E) a st) 0 0 [] 19 [] := by
  unfold K_PL_cut_19 at hk
  refine j_iconst (pc := 19) X d_PL_cut_19 ic_0 ?_
  exact j_retz (pc := 20) X hQ d_PL_cut_20 (Or.inl rfl) hk
def K_PL_cut (st : plS) (v1 : Int32) (v2 : Int32) : Int32 × plS := (if (K_PL_isLine v1) = 0 then K_PL_cut_19 st else (if v1 = 0 then (if (st 9 4) = v2 then K_PL_cut_19 st else (if v1 = 0 then (1, plUp st 9 4 v2) else (1, plUp st 13 4 v2))) else (if (st 13 4) = v2 then K_PL_cut_19 st else (if v1 = 0 then (1, plUp st 9 4 v2) else (1, plUp st 13 4 v2)))))
def P_PL_cut (st : plS) (v1 : Int32) (v2 : Int32) : Prop := (P_PL_isLine v1 ∧ (¬ (K_PL_isLine v1) = 0 → ((v1 = 0 → (¬ (st 9 4) = v2 → ((v1 = 0 → plB v2) ∧ (¬ v1 = 0 → plB v2)))) ∧ (¬ v1 = 0 → (¬ (st 13 4) = v2 → ((v1 = 0 → plB v2) ∧ (¬ v1 = 0 → plB v2)))))))
set_option maxRecDepth 20000 in
theorem j_PL_cut {E : plE} (X : plX E b_PL_cut "ProtectedLine" 3 (some .boolean) 1 21) (a : Nat → Nat) (T : Int32 × plS) (hQ : plRi E (plwC (plg E) a) T) (st : plS) (v1 : Int32) (v2 : Int32) (hs : P_PL_cut st v1 v2) (hk : T = K_PL_cut st v1 v2) : plJ E 3 (plwC (plg E) a st) 0 0 [(0, .ref (a 0)), (1, .int v1), (2, .int v2)] 0 [] := by
  unfold P_PL_cut at hs
  unfold K_PL_cut at hk
  refine j_iload_n (pc := 0) X d_PL_cut_0 rfl 1 rfl ?_
  refine j_callSp (pc := 1) (As := [.int v1]) (rest := []) X (c_PL_isLine (plg E) a st v1 hs.1) ml_PL_85 ⟨Nat.le_of_ble_eq_true rfl, Nat.le_of_ble_eq_true rfl⟩ rfl rfl (Nat.le_of_ble_eq_true rfl) d_PL_cut_1 ?_
  have hs := hs.2
  refine j_if_eq (pc := 4) (tgt := 19) X d_PL_cut_4 rfl (fun hc => ?_) (fun hc => ?_)
  · have hk := hk.trans (if_pos hc)
    refine j_sub [] (lv' := []) rfl ?_
    exact j_PL_cut_19 X a T hQ st hk
  · have hk := hk.trans (if_neg hc)
    have hs := hs hc
    refine j_aload_n (pc := 7) X d_PL_cut_7 rfl 0 rfl ?_
    refine j_iload_n (pc := 8) X d_PL_cut_8 rfl 1 rfl ?_
    by_cases hc : v1 = 0
    · have hk := hk.trans (if_pos hc)
      have hs := hs.1 hc
      refine j_callVr (pc := 9) (As := [.int v1]) (rest := []) X (c_PL_lineAt_toLW (plg E) a st v1 (fun h => h hc)) ml_PL_89 0 rfl rfl ⟨Nat.le_of_ble_eq_true rfl, Nat.le_of_ble_eq_true rfl⟩ rfl rfl (Nat.le_of_ble_eq_true rfl) d_PL_cut_9 ?_
      refine get_LW_broken (pc := 12) X fl_PL_93 d_PL_cut_12 ?_
      refine j_iload_n (pc := 15) X d_PL_cut_15 rfl 2 rfl ?_
      refine j_icmp_ne (pc := 16) (tgt := 21) X d_PL_cut_16 rfl (fun hc => ?_) (fun hc => ?_)
      · have hk := hk.trans (if_neg hc)
        have hs := hs hc
        refine j_aload_n (pc := 21) X d_PL_cut_21 rfl 0 rfl ?_
        refine j_iload_n (pc := 22) X d_PL_cut_22 rfl 1 rfl ?_
        by_cases hc : v1 = 0
        · have hk := hk.trans (if_pos hc)
          have hs := hs.1 hc
          refine j_callVr (pc := 23) (As := [.int v1]) (rest := []) X (c_PL_lineAt_toLW (plg E) a st v1 (fun h => h hc)) ml_PL_89 0 rfl rfl ⟨Nat.le_of_ble_eq_true rfl, Nat.le_of_ble_eq_true rfl⟩ rfl rfl (Nat.le_of_ble_eq_true rfl) d_PL_cut_23 ?_
          refine j_iload_n (pc := 26) X d_PL_cut_26 rfl 2 rfl ?_
          refine put_LW_broken (pc := 27) X fl_PL_93 d_PL_cut_27 hs ?_
          refine j_iconst (pc := 30) X d_PL_cut_30 ic_1 ?_
          exact j_retz (pc := 31) X hQ d_PL_cut_31 (Or.inr rfl) hk
        · have hk := hk.trans (if_neg hc)
          have hs := hs.2 hc
          refine j_callVr (pc := 23) (As := [.int v1]) (rest := []) X (c_PL_lineAt_toLP (plg E) a st v1 hc) ml_PL_89 0 rfl rfl ⟨Nat.le_of_ble_eq_true rfl, Nat.le_of_ble_eq_true rfl⟩ rfl rfl (Nat.le_of_ble_eq_true rfl) d_PL_cut_23 ?_
          refine j_iload_n (pc := 26) X d_PL_cut_26 rfl 2 rfl ?_
          refine put_LP_broken (pc := 27) X fl_PL_93 d_PL_cut_27 hs ?_
          refine j_iconst (pc := 30) X d_PL_cut_30 ic_1 ?_
          exact j_retz (pc := 31) X hQ d_PL_cut_31 (Or.inr rfl) hk
      · have hk := hk.trans (if_pos hc)
        refine j_sub [] (lv' := []) rfl ?_
        exact j_PL_cut_19 X a T hQ st hk
    · have hk := hk.trans (if_neg hc)
      have hs := hs.2 hc
      refine j_callVr (pc := 9) (As := [.int v1]) (rest := []) X (c_PL_lineAt_toLP (plg E) a st v1 hc) ml_PL_89 0 rfl rfl ⟨Nat.le_of_ble_eq_true rfl, Nat.le_of_ble_eq_true rfl⟩ rfl rfl (Nat.le_of_ble_eq_true rfl) d_PL_cut_9 ?_
      refine get_LP_broken (pc := 12) X fl_PL_93 d_PL_cut_12 ?_
      refine j_iload_n (pc := 15) X d_PL_cut_15 rfl 2 rfl ?_
      refine j_icmp_ne (pc := 16) (tgt := 21) X d_PL_cut_16 rfl (fun hc => ?_) (fun hc => ?_)
      · have hk := hk.trans (if_neg hc)
        have hs := hs hc
        refine j_aload_n (pc := 21) X d_PL_cut_21 rfl 0 rfl ?_
        refine j_iload_n (pc := 22) X d_PL_cut_22 rfl 1 rfl ?_
        by_cases hc : v1 = 0
        · have hk := hk.trans (if_pos hc)
          have hs := hs.1 hc
          refine j_callVr (pc := 23) (As := [.int v1]) (rest := []) X (c_PL_lineAt_toLW (plg E) a st v1 (fun h => h hc)) ml_PL_89 0 rfl rfl ⟨Nat.le_of_ble_eq_true rfl, Nat.le_of_ble_eq_true rfl⟩ rfl rfl (Nat.le_of_ble_eq_true rfl) d_PL_cut_23 ?_
          refine j_iload_n (pc := 26) X d_PL_cut_26 rfl 2 rfl ?_
          refine put_LW_broken (pc := 27) X fl_PL_93 d_PL_cut_27 hs ?_
          refine j_iconst (pc := 30) X d_PL_cut_30 ic_1 ?_
          exact j_retz (pc := 31) X hQ d_PL_cut_31 (Or.inr rfl) hk
        · have hk := hk.trans (if_neg hc)
          have hs := hs.2 hc
          refine j_callVr (pc := 23) (As := [.int v1]) (rest := []) X (c_PL_lineAt_toLP (plg E) a st v1 hc) ml_PL_89 0 rfl rfl ⟨Nat.le_of_ble_eq_true rfl, Nat.le_of_ble_eq_true rfl⟩ rfl rfl (Nat.le_of_ble_eq_true rfl) d_PL_cut_23 ?_
          refine j_iload_n (pc := 26) X d_PL_cut_26 rfl 2 rfl ?_
          refine put_LP_broken (pc := 27) X fl_PL_93 d_PL_cut_27 hs ?_
          refine j_iconst (pc := 30) X d_PL_cut_30 ic_1 ?_
          exact j_retz (pc := 31) X hQ d_PL_cut_31 (Or.inr rfl) hk
      · have hk := hk.trans (if_pos hc)
        refine j_sub [] (lv' := []) rfl ?_
        exact j_PL_cut_19 X a T hQ st hk
set_option maxRecDepth 20000 in
theorem c_PL_cut (g : plG) (a : Nat → Nat) (st : plS) (v1 : Int32) (v2 : Int32) (hs : P_PL_cut st v1 v2) : plMi g y_PL_cut b_PL_cut 3 (some .boolean) 1 21 [.ref (a 0), .int v1, .int v2] (plwC g a) st (K_PL_cut st v1 v2) := by
  refine plMi.of (own := "ProtectedLine") (lv := [(0, .ref (a 0)), (1, .int v1), (2, .int v2)]) rfl rfl (Nat.le_of_ble_eq_true rfl) rfl (fun E hE X hQ => ?_)
  subst hE
  exact j_PL_cut X a _ hQ st v1 v2 hs rfl
theorem d_PL_isPlace_0 : decode b_PL_isPlace 0 = .ok (.iload_n 0, 1) := by decide +kernel
theorem d_PL_isPlace_1 : decode b_PL_isPlace 1 = .ok (.ifCond .lt (13), 3) := by decide +kernel
theorem d_PL_isPlace_4 : decode b_PL_isPlace 4 = .ok (.iload_n 0, 1) := by decide +kernel
theorem d_PL_isPlace_5 : decode b_PL_isPlace 5 = .ok (.bipush (12), 2) := by decide +kernel
theorem d_PL_isPlace_7 : decode b_PL_isPlace 7 = .ok (.if_icmp .ge (7), 3) := by decide +kernel
theorem d_PL_isPlace_10 : decode b_PL_isPlace 10 = .ok (.iconst 1, 1) := by decide +kernel
theorem d_PL_isPlace_11 : decode b_PL_isPlace 11 = .ok (.goto (4), 3) := by decide +kernel
theorem d_PL_isPlace_14 : decode b_PL_isPlace 14 = .ok (.iconst 0, 1) := by decide +kernel
theorem d_PL_isPlace_15 : decode b_PL_isPlace 15 = .ok (.ireturn, 1) := by decide +kernel
def K_PL_isPlace_15 (k0 : Int32) : Int32 := k0
def P_PL_isPlace_15 (k0 : Int32) : Prop := plB k0
set_option maxRecDepth 20000 in
theorem j_PL_isPlace_15 {E : plE} (X : plX E b_PL_isPlace "ProtectedLine" 1 (some .boolean) 0 0) (a : Nat → Nat) (T : Int32) (st : plS) (hQ : plRp E (plwC (plg E) a) st T) (k0 : Int32) (hs : P_PL_isPlace_15 k0) (hk : T = K_PL_isPlace_15 k0) : plJ E 1 (plwC (plg E) a st) 0 0 [] 15 [.int k0] := by
  unfold P_PL_isPlace_15 at hs
  unfold K_PL_isPlace_15 at hk
  exact j_retzp (pc := 15) X hQ d_PL_isPlace_15 hs hk
def K_PL_isPlace_14  : Int32 := K_PL_isPlace_15 0
def P_PL_isPlace_14  : Prop := P_PL_isPlace_15 0
set_option maxRecDepth 20000 in
theorem j_PL_isPlace_14 {E : plE} (X : plX E b_PL_isPlace "ProtectedLine" 1 (some .boolean) 0 0) (a : Nat → Nat) (T : Int32) (st : plS) (hQ : plRp E (plwC (plg E) a) st T)  (hs : P_PL_isPlace_14 ) (hk : T = K_PL_isPlace_14 ) : plJ E 1 (plwC (plg E) a st) 0 0 [] 14 [] := by
  unfold P_PL_isPlace_14 at hs
  unfold K_PL_isPlace_14 at hk
  refine j_iconst (pc := 14) X d_PL_isPlace_14 ic_0 ?_
  exact j_PL_isPlace_15 X a T st hQ 0 hs hk
def K_PL_isPlace (v0 : Int32) : Int32 := (if v0 < 0 then K_PL_isPlace_14 else (if 12 ≤ v0 then K_PL_isPlace_14 else K_PL_isPlace_15 1))
def P_PL_isPlace (v0 : Int32) : Prop := ((v0 < 0 → P_PL_isPlace_14) ∧ (¬ v0 < 0 → ((12 ≤ v0 → P_PL_isPlace_14) ∧ (¬ 12 ≤ v0 → P_PL_isPlace_15 1))))
set_option maxRecDepth 20000 in
theorem j_PL_isPlace {E : plE} (X : plX E b_PL_isPlace "ProtectedLine" 1 (some .boolean) 0 0) (a : Nat → Nat) (T : Int32) (st : plS) (hQ : plRp E (plwC (plg E) a) st T) (v0 : Int32) (hs : P_PL_isPlace v0) (hk : T = K_PL_isPlace v0) : plJ E 1 (plwC (plg E) a st) 0 0 [(0, .int v0)] 0 [] := by
  unfold P_PL_isPlace at hs
  unfold K_PL_isPlace at hk
  refine j_iload_n (pc := 0) X d_PL_isPlace_0 rfl 0 rfl ?_
  refine j_if_lt (pc := 1) (tgt := 14) X d_PL_isPlace_1 rfl (fun hc => ?_) (fun hc => ?_)
  · have hk := hk.trans (if_pos hc)
    have hs := hs.1 hc
    refine j_sub [] (lv' := []) rfl ?_
    exact j_PL_isPlace_14 X a T st hQ hs hk
  · have hk := hk.trans (if_neg hc)
    have hs := hs.2 hc
    refine j_iload_n (pc := 4) X d_PL_isPlace_4 rfl 0 rfl ?_
    refine j_bipush (pc := 5) X d_PL_isPlace_5 bp_12 ?_
    refine j_icmp_ge (pc := 7) (tgt := 14) X d_PL_isPlace_7 rfl (fun hc => ?_) (fun hc => ?_)
    · have hk := hk.trans (if_pos hc)
      have hs := hs.1 hc
      refine j_sub [] (lv' := []) rfl ?_
      exact j_PL_isPlace_14 X a T st hQ hs hk
    · have hk := hk.trans (if_neg hc)
      have hs := hs.2 hc
      refine j_iconst (pc := 10) X d_PL_isPlace_10 ic_1 ?_
      refine j_goto (pc := 11) (tgt := 15) X d_PL_isPlace_11 rfl ?_
      refine j_sub [] (lv' := []) rfl ?_
      exact j_PL_isPlace_15 X a T st hQ 1 hs hk
set_option maxRecDepth 20000 in
theorem c_PL_isPlace (g : plG) (a : Nat → Nat) (st : plS) (v0 : Int32) (hs : P_PL_isPlace v0) : plMp g y_PL_isPlace b_PL_isPlace 1 (some .boolean) 0 0 [.int v0] (plwC g a) st (K_PL_isPlace v0) := by
  refine plMp.of (own := "ProtectedLine") (lv := [(0, .int v0)]) rfl rfl (Nat.le_of_ble_eq_true rfl) rfl (fun E hE X hQ => ?_)
  subst hE
  exact j_PL_isPlace X a _ st hQ v0 hs rfl
theorem d_PL_damage_0 : decode b_PL_damage 0 = .ok (.iload_n 1, 1) := by decide +kernel
theorem d_PL_damage_1 : decode b_PL_damage 1 = .ok (.invokestatic 85, 3) := by decide +kernel
theorem d_PL_damage_4 : decode b_PL_damage 4 = .ok (.ifCond .eq (21), 3) := by decide +kernel
theorem d_PL_damage_7 : decode b_PL_damage 7 = .ok (.iload_n 2, 1) := by decide +kernel
theorem d_PL_damage_8 : decode b_PL_damage 8 = .ok (.invokestatic 97, 3) := by decide +kernel
theorem d_PL_damage_11 : decode b_PL_damage 11 = .ok (.ifCond .eq (14), 3) := by decide +kernel
theorem d_PL_damage_14 : decode b_PL_damage 14 = .ok (.iload_n 3, 1) := by decide +kernel
theorem d_PL_damage_15 : decode b_PL_damage 15 = .ok (.ifCond .lt (10), 3) := by decide +kernel
theorem d_PL_damage_18 : decode b_PL_damage 18 = .ok (.iload_n 3, 1) := by decide +kernel
theorem d_PL_damage_19 : decode b_PL_damage 19 = .ok (.sipush (255), 3) := by decide +kernel
theorem d_PL_damage_22 : decode b_PL_damage 22 = .ok (.if_icmp .le (5), 3) := by decide +kernel
theorem d_PL_damage_25 : decode b_PL_damage 25 = .ok (.iconst 0, 1) := by decide +kernel
theorem d_PL_damage_26 : decode b_PL_damage 26 = .ok (.ireturn, 1) := by decide +kernel
theorem d_PL_damage_27 : decode b_PL_damage 27 = .ok (.aload_n 0, 1) := by decide +kernel
theorem d_PL_damage_28 : decode b_PL_damage 28 = .ok (.iload_n 1, 1) := by decide +kernel
theorem d_PL_damage_29 : decode b_PL_damage 29 = .ok (.invokevirtual 89, 3) := by decide +kernel
theorem d_PL_damage_32 : decode b_PL_damage 32 = .ok (.getfield 100, 3) := by decide +kernel
theorem d_PL_damage_35 : decode b_PL_damage 35 = .ok (.iload_n 2, 1) := by decide +kernel
theorem d_PL_damage_36 : decode b_PL_damage 36 = .ok (.dup2, 1) := by decide +kernel
theorem d_PL_damage_37 : decode b_PL_damage 37 = .ok (.iaload, 1) := by decide +kernel
theorem d_PL_damage_38 : decode b_PL_damage 38 = .ok (.iload_n 3, 1) := by decide +kernel
theorem d_PL_damage_39 : decode b_PL_damage 39 = .ok (.ixor, 1) := by decide +kernel
theorem d_PL_damage_40 : decode b_PL_damage 40 = .ok (.iastore, 1) := by decide +kernel
theorem d_PL_damage_41 : decode b_PL_damage 41 = .ok (.iconst 1, 1) := by decide +kernel
theorem d_PL_damage_42 : decode b_PL_damage 42 = .ok (.ireturn, 1) := by decide +kernel
def K_PL_damage_25 (st : plS) : Int32 × plS := (0, st)
set_option maxRecDepth 20000 in
theorem j_PL_damage_25 {E : plE} (X : plX E b_PL_damage "ProtectedLine" 4 (some .boolean) 1 21) (a : Nat → Nat) (T : Int32 × plS) (hQ : plRi E (plwC (plg E) a) T) (st : plS)  (hk : T = K_PL_damage_25 st) : plJ E 4 (plwC (plg E) a st) 0 0 [] 25 [] := by
  unfold K_PL_damage_25 at hk
  refine j_iconst (pc := 25) X d_PL_damage_25 ic_0 ?_
  exact j_retz (pc := 26) X hQ d_PL_damage_26 (Or.inl rfl) hk
def K_PL_damage (st : plS) (v1 : Int32) (v2 : Int32) (v3 : Int32) : Int32 × plS := (if (K_PL_isLine v1) = 0 then K_PL_damage_25 st else (if (K_PL_isPlace v2) = 0 then K_PL_damage_25 st else (if v3 < 0 then K_PL_damage_25 st else (if v3 ≤ 255 then (if v1 = 0 then (1, plUp st 11 (plIx v2) ((st 11 (plIx v2)) ^^^ v3)) else (1, plUp st 15 (plIx v2) ((st 15 (plIx v2)) ^^^ v3))) else K_PL_damage_25 st))))
def P_PL_damage (st : plS) (v1 : Int32) (v2 : Int32) (v3 : Int32) : Prop := (P_PL_isLine v1 ∧ (¬ (K_PL_isLine v1) = 0 → (P_PL_isPlace v2 ∧ (¬ (K_PL_isPlace v2) = 0 → (¬ v3 < 0 → (v3 ≤ 255 → ((v1 = 0 → (vp_in v2 12 ∧ vp_in v2 12)) ∧ (¬ v1 = 0 → (vp_in v2 12 ∧ vp_in v2 12)))))))))
set_option maxRecDepth 20000 in
theorem j_PL_damage {E : plE} (X : plX E b_PL_damage "ProtectedLine" 4 (some .boolean) 1 21) (a : Nat → Nat) (T : Int32 × plS) (hQ : plRi E (plwC (plg E) a) T) (st : plS) (v1 : Int32) (v2 : Int32) (v3 : Int32) (hs : P_PL_damage st v1 v2 v3) (hk : T = K_PL_damage st v1 v2 v3) : plJ E 4 (plwC (plg E) a st) 0 0 [(0, .ref (a 0)), (1, .int v1), (2, .int v2), (3, .int v3)] 0 [] := by
  unfold P_PL_damage at hs
  unfold K_PL_damage at hk
  refine j_iload_n (pc := 0) X d_PL_damage_0 rfl 1 rfl ?_
  refine j_callSp (pc := 1) (As := [.int v1]) (rest := []) X (c_PL_isLine (plg E) a st v1 hs.1) ml_PL_85 ⟨Nat.le_of_ble_eq_true rfl, Nat.le_of_ble_eq_true rfl⟩ rfl rfl (Nat.le_of_ble_eq_true rfl) d_PL_damage_1 ?_
  have hs := hs.2
  refine j_if_eq (pc := 4) (tgt := 25) X d_PL_damage_4 rfl (fun hc => ?_) (fun hc => ?_)
  · have hk := hk.trans (if_pos hc)
    refine j_sub [] (lv' := []) rfl ?_
    exact j_PL_damage_25 X a T hQ st hk
  · have hk := hk.trans (if_neg hc)
    have hs := hs hc
    refine j_iload_n (pc := 7) X d_PL_damage_7 rfl 2 rfl ?_
    refine j_callSp (pc := 8) (As := [.int v2]) (rest := []) X (c_PL_isPlace (plg E) a st v2 hs.1) ml_PL_97 ⟨Nat.le_of_ble_eq_true rfl, Nat.le_of_ble_eq_true rfl⟩ rfl rfl (Nat.le_of_ble_eq_true rfl) d_PL_damage_8 ?_
    have hs := hs.2
    refine j_if_eq (pc := 11) (tgt := 25) X d_PL_damage_11 rfl (fun hc => ?_) (fun hc => ?_)
    · have hk := hk.trans (if_pos hc)
      refine j_sub [] (lv' := []) rfl ?_
      exact j_PL_damage_25 X a T hQ st hk
    · have hk := hk.trans (if_neg hc)
      have hs := hs hc
      refine j_iload_n (pc := 14) X d_PL_damage_14 rfl 3 rfl ?_
      refine j_if_lt (pc := 15) (tgt := 25) X d_PL_damage_15 rfl (fun hc => ?_) (fun hc => ?_)
      · have hk := hk.trans (if_pos hc)
        refine j_sub [] (lv' := []) rfl ?_
        exact j_PL_damage_25 X a T hQ st hk
      · have hk := hk.trans (if_neg hc)
        have hs := hs hc
        refine j_iload_n (pc := 18) X d_PL_damage_18 rfl 3 rfl ?_
        refine j_sipush (pc := 19) X d_PL_damage_19 sp_255 ?_
        refine j_icmp_le (pc := 22) (tgt := 27) X d_PL_damage_22 rfl (fun hc => ?_) (fun hc => ?_)
        · have hk := hk.trans (if_pos hc)
          have hs := hs hc
          refine j_aload_n (pc := 27) X d_PL_damage_27 rfl 0 rfl ?_
          refine j_iload_n (pc := 28) X d_PL_damage_28 rfl 1 rfl ?_
          by_cases hc : v1 = 0
          · have hk := hk.trans (if_pos hc)
            have hs := hs.1 hc
            refine j_callVr (pc := 29) (As := [.int v1]) (rest := []) X (c_PL_lineAt_toLW (plg E) a st v1 (fun h => h hc)) ml_PL_89 0 rfl rfl ⟨Nat.le_of_ble_eq_true rfl, Nat.le_of_ble_eq_true rfl⟩ rfl rfl (Nat.le_of_ble_eq_true rfl) d_PL_damage_29 ?_
            refine get_LW_harm (pc := 32) X fl_PL_100 d_PL_damage_32 ?_
            refine j_iload_n (pc := 35) X d_PL_damage_35 rfl 2 rfl ?_
            refine j_dup2 (pc := 36) X d_PL_damage_36 rfl rfl ?_
            refine ald_LWh (pc := 37) X hs.1 d_PL_damage_37 ?_
            have hs := hs.2
            refine j_iload_n (pc := 38) X d_PL_damage_38 rfl 3 rfl ?_
            refine j_ixor (pc := 39) X d_PL_damage_39 ?_
            refine ast_LWh (pc := 40) X hs d_PL_damage_40 ?_
            refine j_iconst (pc := 41) X d_PL_damage_41 ic_1 ?_
            exact j_retz (pc := 42) X hQ d_PL_damage_42 (Or.inr rfl) hk
          · have hk := hk.trans (if_neg hc)
            have hs := hs.2 hc
            refine j_callVr (pc := 29) (As := [.int v1]) (rest := []) X (c_PL_lineAt_toLP (plg E) a st v1 hc) ml_PL_89 0 rfl rfl ⟨Nat.le_of_ble_eq_true rfl, Nat.le_of_ble_eq_true rfl⟩ rfl rfl (Nat.le_of_ble_eq_true rfl) d_PL_damage_29 ?_
            refine get_LP_harm (pc := 32) X fl_PL_100 d_PL_damage_32 ?_
            refine j_iload_n (pc := 35) X d_PL_damage_35 rfl 2 rfl ?_
            refine j_dup2 (pc := 36) X d_PL_damage_36 rfl rfl ?_
            refine ald_LPh (pc := 37) X hs.1 d_PL_damage_37 ?_
            have hs := hs.2
            refine j_iload_n (pc := 38) X d_PL_damage_38 rfl 3 rfl ?_
            refine j_ixor (pc := 39) X d_PL_damage_39 ?_
            refine ast_LPh (pc := 40) X hs d_PL_damage_40 ?_
            refine j_iconst (pc := 41) X d_PL_damage_41 ic_1 ?_
            exact j_retz (pc := 42) X hQ d_PL_damage_42 (Or.inr rfl) hk
        · have hk := hk.trans (if_neg hc)
          refine j_sub [] (lv' := []) rfl ?_
          exact j_PL_damage_25 X a T hQ st hk
set_option maxRecDepth 20000 in
theorem c_PL_damage (g : plG) (a : Nat → Nat) (st : plS) (v1 : Int32) (v2 : Int32) (v3 : Int32) (hs : P_PL_damage st v1 v2 v3) : plMi g y_PL_damage b_PL_damage 4 (some .boolean) 1 21 [.ref (a 0), .int v1, .int v2, .int v3] (plwC g a) st (K_PL_damage st v1 v2 v3) := by
  refine plMi.of (own := "ProtectedLine") (lv := [(0, .ref (a 0)), (1, .int v1), (2, .int v2), (3, .int v3)]) rfl rfl (Nat.le_of_ble_eq_true rfl) rfl (fun E hE X hQ => ?_)
  subst hE
  exact j_PL_damage X a _ hQ st v1 v2 v3 hs rfl
