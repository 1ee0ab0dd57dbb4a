theorem d_NA_owe_0 : decode b_NA_owe 0 = .ok (.iload_n 1, 1) := by decide +kernel
theorem d_NA_owe_1 : decode b_NA_owe 1 = .ok (.bipush (-8), 2) := by decide +kernel
theorem d_NA_owe_3 : decode b_NA_owe 3 = .ok (.aload_n 0, 1) := by decide +kernel
theorem d_NA_owe_4 : decode b_NA_owe 4 = .ok (.getfield 26, 3) := by decide +kernel
theorem d_NA_owe_7 : decode b_NA_owe 7 = .ok (.isub, 1) := by decide +kernel
theorem d_NA_owe_8 : decode b_NA_owe 8 = .ok (.if_icmp .lt (14), 3) := by decide +kernel
theorem d_NA_owe_11 : decode b_NA_owe 11 = .ok (.iload_n 1, 1) := by decide +kernel
theorem d_NA_owe_12 : decode b_NA_owe 12 = .ok (.bipush (8), 2) := by decide +kernel
theorem d_NA_owe_14 : decode b_NA_owe 14 = .ok (.aload_n 0, 1) := by decide +kernel
theorem d_NA_owe_15 : decode b_NA_owe 15 = .ok (.getfield 26, 3) := by decide +kernel
theorem d_NA_owe_18 : decode b_NA_owe 18 = .ok (.isub, 1) := by decide +kernel
theorem d_NA_owe_19 : decode b_NA_owe 19 = .ok (.if_icmp .le (5), 3) := by decide +kernel
theorem d_NA_owe_22 : decode b_NA_owe 22 = .ok (.iconst 0, 1) := by decide +kernel
theorem d_NA_owe_23 : decode b_NA_owe 23 = .ok (.ireturn, 1) := by decide +kernel
theorem d_NA_owe_24 : decode b_NA_owe 24 = .ok (.aload_n 0, 1) := by decide +kernel
theorem d_NA_owe_25 : decode b_NA_owe 25 = .ok (.dup, 1) := by decide +kernel
theorem d_NA_owe_26 : decode b_NA_owe 26 = .ok (.getfield 26, 3) := by decide +kernel
theorem d_NA_owe_29 : decode b_NA_owe 29 = .ok (.iload_n 1, 1) := by decide +kernel
theorem d_NA_owe_30 : decode b_NA_owe 30 = .ok (.iadd, 1) := by decide +kernel
theorem d_NA_owe_31 : decode b_NA_owe 31 = .ok (.putfield 26, 3) := by decide +kernel
theorem d_NA_owe_34 : decode b_NA_owe 34 = .ok (.iconst 1, 1) := by decide +kernel
theorem d_NA_owe_35 : decode b_NA_owe 35 = .ok (.ireturn, 1) := by decide +kernel
def K_NA_owe_22 (st : plS) : Int32 × plS := (0, st)
set_option maxRecDepth 20000 in
theorem j_NA_owe_22 {E : plE} (X : plX E b_NA_owe "ProtectedLine$NodeA" 2 (some .boolean) 0 0) (a : Nat → Nat) (T : Int32 × plS) (hQ : plRi E (plwC (plg E) a) T) (st : plS)  (hk : T = K_NA_owe_22 st) : plJ E 2 (plwC (plg E) a st) 0 0 [] 22 [] := by
  unfold K_NA_owe_22 at hk
  refine j_iconst (pc := 22) X d_NA_owe_22 ic_0 ?_
  exact j_retz (pc := 23) X hQ d_NA_owe_23 (Or.inl rfl) hk
def K_NA_owe (st : plS) (v1 : Int32) : Int32 × plS := (if v1 < (((-8)) - (st 5 4)) then K_NA_owe_22 st else (if v1 ≤ (8 - (st 5 4)) then (1, plUp st 5 4 ((st 5 4) + v1)) else K_NA_owe_22 st))
set_option maxRecDepth 20000 in
theorem j_NA_owe {E : plE} (X : plX E b_NA_owe "ProtectedLine$NodeA" 2 (some .boolean) 0 0) (a : Nat → Nat) (T : Int32 × plS) (hQ : plRi E (plwC (plg E) a) T) (st : plS) (v1 : Int32) (hk : T = K_NA_owe st v1) : plJ E 2 (plwC (plg E) a st) 0 0 [(0, .ref (a 5)), (1, .int v1)] 0 [] := by
  unfold K_NA_owe at hk
  refine j_iload_n (pc := 0) X d_NA_owe_0 rfl 1 rfl ?_
  refine j_bipush (pc := 1) X d_NA_owe_1 bp_m8 ?_
  refine j_aload_n (pc := 3) X d_NA_owe_3 rfl 0 rfl ?_
  refine get_NA_debt (pc := 4) X fl_NA_26 d_NA_owe_4 ?_
  refine j_isub (pc := 7) X d_NA_owe_7 ?_
  refine j_icmp_lt (pc := 8) (tgt := 22) X d_NA_owe_8 rfl (fun hc => ?_) (fun hc => ?_)
  · have hk := hk.trans (if_pos hc)
    refine j_sub [] (lv' := []) rfl ?_
    exact j_NA_owe_22 X a T hQ st hk
  · have hk := hk.trans (if_neg hc)
    refine j_iload_n (pc := 11) X d_NA_owe_11 rfl 1 rfl ?_
    refine j_bipush (pc := 12) X d_NA_owe_12 bp_8 ?_
    refine j_aload_n (pc := 14) X d_NA_owe_14 rfl 0 rfl ?_
    refine get_NA_debt (pc := 15) X fl_NA_26 d_NA_owe_15 ?_
    refine j_isub (pc := 18) X d_NA_owe_18 ?_
    refine j_icmp_le (pc := 19) (tgt := 24) X d_NA_owe_19 rfl (fun hc => ?_) (fun hc => ?_)
    · have hk := hk.trans (if_pos hc)
      refine j_aload_n (pc := 24) X d_NA_owe_24 rfl 0 rfl ?_
      refine j_dup (pc := 25) X d_NA_owe_25 rfl ?_
      refine get_NA_debt (pc := 26) X fl_NA_26 d_NA_owe_26 ?_
      refine j_iload_n (pc := 29) X d_NA_owe_29 rfl 1 rfl ?_
      refine j_iadd (pc := 30) X d_NA_owe_30 ?_
      refine put_NA_debt (pc := 31) X fl_NA_26 d_NA_owe_31 ?_
      refine j_iconst (pc := 34) X d_NA_owe_34 ic_1 ?_
      exact j_retz (pc := 35) X hQ d_NA_owe_35 (Or.inr rfl) hk
    · have hk := hk.trans (if_neg hc)
      refine j_sub [] (lv' := []) rfl ?_
      exact j_NA_owe_22 X a T hQ st hk
set_option maxRecDepth 20000 in
theorem c_NA_owe (g : plG) (a : Nat → Nat) (st : plS) (v1 : Int32) : plMi g y_NA_owe b_NA_owe 2 (some .boolean) 0 0 [.ref (a 5), .int v1] (plwC g a) st (K_NA_owe st v1) := by
  refine plMi.of (own := "ProtectedLine$NodeA") (lv := [(0, .ref (a 5)), (1, .int v1)]) rfl rfl (Nat.le_of_ble_eq_true rfl) rfl (fun E hE X hQ => ?_)
  subst hE
  exact j_NA_owe X a _ hQ st v1 rfl
theorem d_PL_drift_0 : decode b_PL_drift 0 = .ok (.aload_n 0, 1) := by decide +kernel
theorem d_PL_drift_1 : decode b_PL_drift 1 = .ok (.getfield 26, 3) := by decide +kernel
theorem d_PL_drift_4 : decode b_PL_drift 4 = .ok (.iload_n 1, 1) := by decide +kernel
theorem d_PL_drift_5 : decode b_PL_drift 5 = .ok (.invokevirtual 104, 3) := by decide +kernel
theorem d_PL_drift_8 : decode b_PL_drift 8 = .ok (.ireturn, 1) := by decide +kernel
def K_PL_drift_8q  (q : Int32 × plS) : Int32 × plS := (q.1, q.2)
def P_PL_drift_8q  (q : Int32 × plS) : Prop := plB q.1
set_option maxRecDepth 20000 in
theorem j_PL_drift_8q {E : plE} (X : plX E b_PL_drift "ProtectedLine" 2 (some .boolean) 1 21) (a : Nat → Nat) (T : Int32 × plS) (hQ : plRi E (plwC (plg E) a) T)  (q : Int32 × plS) (hs : P_PL_drift_8q  q) (hk : T = K_PL_drift_8q  q) : plJ E 2 (plwC (plg E) a q.2) 0 0 [] 8 [.int q.1] := by
  unfold P_PL_drift_8q at hs
  unfold K_PL_drift_8q at hk
  exact j_retz (pc := 8) X hQ d_PL_drift_8 hs hk
def K_PL_drift (st : plS) (v1 : Int32) : Int32 × plS := K_PL_drift_8q (K_NA_owe st v1)
def P_PL_drift (st : plS) (v1 : Int32) : Prop := P_PL_drift_8q (K_NA_owe st v1)
set_option maxRecDepth 20000 in
theorem j_PL_drift {E : plE} (X : plX E b_PL_drift "ProtectedLine" 2 (some .boolean) 1 21) (a : Nat → Nat) (T : Int32 × plS) (hQ : plRi E (plwC (plg E) a) T) (st : plS) (v1 : Int32) (hs : P_PL_drift st v1) (hk : T = K_PL_drift st v1) : plJ E 2 (plwC (plg E) a st) 0 0 [(0, .ref (a 0)), (1, .int v1)] 0 [] := by
  unfold P_PL_drift at hs
  unfold K_PL_drift at hk
  refine j_aload_n (pc := 0) X d_PL_drift_0 rfl 0 rfl ?_
  refine get_PL_nodeA (pc := 1) X fl_PL_26 d_PL_drift_1 ?_
  refine j_iload_n (pc := 4) X d_PL_drift_4 rfl 1 rfl ?_
  refine j_callVi (pc := 5) (As := [.int v1]) (rest := []) X (c_NA_owe (plg E) a st v1) ml_PL_104 5 rfl rfl ⟨Nat.le_of_ble_eq_true rfl, Nat.le_of_ble_eq_true rfl⟩ rfl rfl (Nat.le_of_ble_eq_true rfl) d_PL_drift_5 ?_
  refine j_sub [] (lv' := []) rfl ?_
  exact j_PL_drift_8q X a T hQ (K_NA_owe st v1) hs hk
set_option maxRecDepth 20000 in
theorem c_PL_drift (g : plG) (a : Nat → Nat) (st : plS) (v1 : Int32) (hs : P_PL_drift st v1) : plMi g y_PL_drift b_PL_drift 2 (some .boolean) 1 21 [.ref (a 0), .int v1] (plwC g a) st (K_PL_drift st v1) := by
  refine plMi.of (own := "ProtectedLine") (lv := [(0, .ref (a 0)), (1, .int v1)]) rfl rfl (Nat.le_of_ble_eq_true rfl) rfl (fun E hE X hQ => ?_)
  subst hE
  exact j_PL_drift X a _ hQ st v1 hs rfl
theorem d_PL_command_0 : decode b_PL_command 0 = .ok (.iload_n 1, 1) := by decide +kernel
theorem d_PL_command_1 : decode b_PL_command 1 = .ok (.ifCond .lt (8), 3) := by decide +kernel
theorem d_PL_command_4 : decode b_PL_command 4 = .ok (.iload_n 1, 1) := by decide +kernel
theorem d_PL_command_5 : decode b_PL_command 5 = .ok (.iconst 3, 1) := by decide +kernel
theorem d_PL_command_6 : decode b_PL_command 6 = .ok (.if_icmp .le (5), 3) := by decide +kernel
theorem d_PL_command_9 : decode b_PL_command 9 = .ok (.iconst 0, 1) := by decide +kernel
theorem d_PL_command_10 : decode b_PL_command 10 = .ok (.ireturn, 1) := by decide +kernel
theorem d_PL_command_11 : decode b_PL_command 11 = .ok (.aload_n 0, 1) := by decide +kernel
theorem d_PL_command_12 : decode b_PL_command 12 = .ok (.getfield 58, 3) := by decide +kernel
theorem d_PL_command_15 : decode b_PL_command 15 = .ok (.iload_n 1, 1) := by decide +kernel
theorem d_PL_command_16 : decode b_PL_command 16 = .ok (.putfield 107, 3) := by decide +kernel
theorem d_PL_command_19 : decode b_PL_command 19 = .ok (.iconst 1, 1) := by decide +kernel
theorem d_PL_command_20 : decode b_PL_command 20 = .ok (.ireturn, 1) := by decide +kernel
def K_PL_command_9 (st : plS) : Int32 × plS := (0, st)
set_option maxRecDepth 20000 in
theorem j_PL_command_9 {E : plE} (X : plX E b_PL_command "ProtectedLine" 2 (some .boolean) 0 0) (a : Nat → Nat) (T : Int32 × plS) (hQ : plRi E (plwC (plg E) a) T) (st : plS)  (hk : T = K_PL_command_9 st) : plJ E 2 (plwC (plg E) a st) 0 0 [] 9 [] := by
  unfold K_PL_command_9 at hk
  refine j_iconst (pc := 9) X d_PL_command_9 ic_0 ?_
  exact j_retz (pc := 10) X hQ d_PL_command_10 (Or.inl rfl) hk
def K_PL_command (st : plS) (v1 : Int32) : Int32 × plS := (if v1 < 0 then K_PL_command_9 st else (if v1 ≤ 3 then (1, plUp st 19 3 v1) else K_PL_command_9 st))
set_option maxRecDepth 20000 in
theorem j_PL_command {E : plE} (X : plX E b_PL_command "ProtectedLine" 2 (some .boolean) 0 0) (a : Nat → Nat) (T : Int32 × plS) (hQ : plRi E (plwC (plg E) a) T) (st : plS) (v1 : Int32) (hk : T = K_PL_command st v1) : plJ E 2 (plwC (plg E) a st) 0 0 [(0, .ref (a 0)), (1, .int v1)] 0 [] := by
  unfold K_PL_command at hk
  refine j_iload_n (pc := 0) X d_PL_command_0 rfl 1 rfl ?_
  refine j_if_lt (pc := 1) (tgt := 9) X d_PL_command_1 rfl (fun hc => ?_) (fun hc => ?_)
  · have hk := hk.trans (if_pos hc)
    refine j_sub [] (lv' := []) rfl ?_
    exact j_PL_command_9 X a T hQ st hk
  · have hk := hk.trans (if_neg hc)
    refine j_iload_n (pc := 4) X d_PL_command_4 rfl 1 rfl ?_
    refine j_iconst (pc := 5) X d_PL_command_5 ic_3 ?_
    refine j_icmp_le (pc := 6) (tgt := 11) X d_PL_command_6 rfl (fun hc => ?_) (fun hc => ?_)
    · have hk := hk.trans (if_pos hc)
      refine j_aload_n (pc := 11) X d_PL_command_11 rfl 0 rfl ?_
      refine get_PL_nodeB (pc := 12) X fl_PL_58 d_PL_command_12 ?_
      refine j_iload_n (pc := 15) X d_PL_command_15 rfl 1 rfl ?_
      refine put_SW_order (pc := 16) X fl_PL_107 d_PL_command_16 ?_
      refine j_iconst (pc := 19) X d_PL_command_19 ic_1 ?_
      exact j_retz (pc := 20) X hQ d_PL_command_20 (Or.inr rfl) hk
    · have hk := hk.trans (if_neg hc)
      refine j_sub [] (lv' := []) rfl ?_
      exact j_PL_command_9 X a T hQ st hk
set_option maxRecDepth 20000 in
theorem c_PL_command (g : plG) (a : Nat → Nat) (st : plS) (v1 : Int32) : plMi g y_PL_command b_PL_command 2 (some .boolean) 0 0 [.ref (a 0), .int v1] (plwC g a) st (K_PL_command st v1) := by
  refine plMi.of (own := "ProtectedLine") (lv := [(0, .ref (a 0)), (1, .int v1)]) rfl rfl (Nat.le_of_ble_eq_true rfl) rfl (fun E hE X hQ => ?_)
  subst hE
  exact j_PL_command X a _ hQ st v1 rfl
theorem d_PL_waiting_0 : decode b_PL_waiting 0 = .ok (.aload_n 0, 1) := by decide +kernel
theorem d_PL_waiting_1 : decode b_PL_waiting 1 = .ok (.getfield 10, 3) := by decide +kernel
theorem d_PL_waiting_4 : decode b_PL_waiting 4 = .ok (.getfield 111, 3) := by decide +kernel
theorem d_PL_waiting_7 : decode b_PL_waiting 7 = .ok (.ireturn, 1) := by decide +kernel
def K_PL_waiting (st : plS) : Int32 := st 1 3
set_option maxRecDepth 20000 in
theorem j_PL_waiting {E : plE} (X : plX E b_PL_waiting "ProtectedLine" 1 (some .int) 0 0) (a : Nat → Nat) (T : Int32) (st : plS) (hQ : plRp E (plwC (plg E) a) st T)  (hk : T = K_PL_waiting st) : plJ E 1 (plwC (plg E) a st) 0 0 [(0, .ref (a 0))] 0 [] := by
  unfold K_PL_waiting at hk
  refine j_aload_n (pc := 0) X d_PL_waiting_0 rfl 0 rfl ?_
  refine get_PL_source (pc := 1) X fl_PL_10 d_PL_waiting_1 ?_
  refine get_SS_queued (pc := 4) X fl_PL_111 d_PL_waiting_4 ?_
  exact j_retip (pc := 7) X hQ d_PL_waiting_7 hk
set_option maxRecDepth 20000 in
theorem c_PL_waiting (g : plG) (a : Nat → Nat) (st : plS)  : plMp g y_PL_waiting b_PL_waiting 1 (some .int) 0 0 [.ref (a 0)] (plwC g a) st (K_PL_waiting st ) := by
  refine plMp.of (own := "ProtectedLine") (lv := [(0, .ref (a 0))]) rfl rfl (Nat.le_of_ble_eq_true rfl) rfl (fun E hE X hQ => ?_)
  subst hE
  exact j_PL_waiting X a _ st hQ  rfl
theorem d_LN_latestByte_0 : decode b_LN_latestByte 0 = .ok (.aload_n 0, 1) := by decide +kernel
theorem d_LN_latestByte_1 : decode b_LN_latestByte 1 = .ok (.getfield 25, 3) := by decide +kernel
theorem d_LN_latestByte_4 : decode b_LN_latestByte 4 = .ok (.ifCond .ne (7), 3) := by decide +kernel
theorem d_LN_latestByte_7 : decode b_LN_latestByte 7 = .ok (.iconst (-1), 1) := by decide +kernel
theorem d_LN_latestByte_8 : decode b_LN_latestByte 8 = .ok (.goto (19), 3) := by decide +kernel
theorem d_LN_latestByte_11 : decode b_LN_latestByte 11 = .ok (.aload_n 0, 1) := by decide +kernel
theorem d_LN_latestByte_12 : decode b_LN_latestByte 12 = .ok (.getfield 11, 3) := by decide +kernel
theorem d_LN_latestByte_15 : decode b_LN_latestByte 15 = .ok (.aload_n 0, 1) := by decide +kernel
theorem d_LN_latestByte_16 : decode b_LN_latestByte 16 = .ok (.getfield 25, 3) := by decide +kernel
theorem d_LN_latestByte_19 : decode b_LN_latestByte 19 = .ok (.iconst 1, 1) := by decide +kernel
theorem d_LN_latestByte_20 : decode b_LN_latestByte 20 = .ok (.isub, 1) := by decide +kernel
theorem d_LN_latestByte_21 : decode b_LN_latestByte 21 = .ok (.invokestatic 28, 3) := by decide +kernel
theorem d_LN_latestByte_24 : decode b_LN_latestByte 24 = .ok (.iload_n 1, 1) := by decide +kernel
theorem d_LN_latestByte_25 : decode b_LN_latestByte 25 = .ok (.iadd, 1) := by decide +kernel
theorem d_LN_latestByte_26 : decode b_LN_latestByte 26 = .ok (.iaload, 1) := by decide +kernel
theorem d_LN_latestByte_27 : decode b_LN_latestByte 27 = .ok (.ireturn, 1) := by decide +kernel
def K_LW_latestByte_27 (st : plS) (k0 : Int32) : Int32 := k0
set_option maxRecDepth 20000 in
theorem j_LW_latestByte_27 {E : plE} (X : plX E b_LN_latestByte "ProtectedLine$Line" 2 (some .int) 1 20) (a : Nat → Nat) (T : Int32) (st : plS) (hQ : plRp E (plwC (plg E) a) st T) (k0 : Int32) (hk : T = K_LW_latestByte_27 st k0) : plJ E 2 (plwC (plg E) a st) 0 0 [] 27 [.int k0] := by
  unfold K_LW_latestByte_27 at hk
  exact j_retip (pc := 27) X hQ d_LN_latestByte_27 hk
def K_LW_latestByte (st : plS) (v1 : Int32) : Int32 := (if (st 9 2) = 0 then K_LW_latestByte_27 st ((-1)) else K_LW_latestByte_27 st (st 10 (plIx ((K_LN_slotOf ((st 9 2) - 1)) + v1))))
def P_LW_latestByte (st : plS) (v1 : Int32) : Prop := (¬ (st 9 2) = 0 → vp_in ((K_LN_slotOf ((st 9 2) - 1)) + v1) 96)
set_option maxRecDepth 20000 in
theorem j_LW_latestByte {E : plE} (X : plX E b_LN_latestByte "ProtectedLine$Line" 2 (some .int) 1 20) (a : Nat → Nat) (T : Int32) (st : plS) (hQ : plRp E (plwC (plg E) a) st T) (v1 : Int32) (hs : P_LW_latestByte st v1) (hk : T = K_LW_latestByte st v1) : plJ E 2 (plwC (plg E) a st) 0 0 [(0, .ref (a 9)), (1, .int v1)] 0 [] := by
  unfold P_LW_latestByte at hs
  unfold K_LW_latestByte at hk
  refine j_aload_n (pc := 0) X d_LN_latestByte_0 rfl 0 rfl ?_
  refine get_LW_launched (pc := 1) X fl_LN_25 d_LN_latestByte_1 ?_
  refine j_if_ne (pc := 4) (tgt := 11) X d_LN_latestByte_4 rfl (fun hc => ?_) (fun hc => ?_)
  · have hk := hk.trans (if_neg hc)
    have hs := hs hc
    refine j_aload_n (pc := 11) X d_LN_latestByte_11 rfl 0 rfl ?_
    refine get_LW_underWay (pc := 12) X fl_LN_11 d_LN_latestByte_12 ?_
    refine j_aload_n (pc := 15) X d_LN_latestByte_15 rfl 0 rfl ?_
    refine get_LW_launched (pc := 16) X fl_LN_25 d_LN_latestByte_16 ?_
    refine j_iconst (pc := 19) X d_LN_latestByte_19 ic_1 ?_
    refine j_isub (pc := 20) X d_LN_latestByte_20 ?_
    refine j_callSp (pc := 21) (As := [.int ((st 9 2) - 1)]) (rest := [.ref (a 10)]) X (c_LN_slotOf (plg E) a st ((st 9 2) - 1)) ml_LN_28 ⟨Nat.le_of_ble_eq_true rfl, Nat.le_of_ble_eq_true rfl⟩ rfl rfl (Nat.le_of_ble_eq_true rfl) d_LN_latestByte_21 ?_
    refine j_iload_n (pc := 24) X d_LN_latestByte_24 rfl 1 rfl ?_
    refine j_iadd (pc := 25) X d_LN_latestByte_25 ?_
    refine ald_LWu (pc := 26) X hs d_LN_latestByte_26 ?_
    refine j_sub [] (lv' := []) rfl ?_
    exact j_LW_latestByte_27 X a T st hQ (st 10 (plIx ((K_LN_slotOf ((st 9 2) - 1)) + v1))) hk
  · have hk := hk.trans (if_pos hc)
    refine j_iconst (pc := 7) X d_LN_latestByte_7 ic_m1 ?_
    refine j_goto (pc := 8) (tgt := 27) X d_LN_latestByte_8 rfl ?_
    refine j_sub [] (lv' := []) rfl ?_
    exact j_LW_latestByte_27 X a T st hQ ((-1)) hk
set_option maxRecDepth 20000 in
theorem c_LW_latestByte (g : plG) (a : Nat → Nat) (st : plS) (v1 : Int32) (hs : P_LW_latestByte st v1) : plMp g y_LN_latestByte b_LN_latestByte 2 (some .int) 1 20 [.ref (a 9), .int v1] (plwC g a) st (K_LW_latestByte st v1) := by
  refine plMp.of (own := "ProtectedLine$Line") (lv := [(0, .ref (a 9)), (1, .int v1)]) rfl rfl (Nat.le_of_ble_eq_true rfl) rfl (fun E hE X hQ => ?_)
  subst hE
  exact j_LW_latestByte X a _ st hQ v1 hs rfl
def K_LP_latestByte_27 (st : plS) (k0 : Int32) : Int32 := k0
set_option maxRecDepth 20000 in
theorem j_LP_latestByte_27 {E : plE} (X : plX E b_LN_latestByte "ProtectedLine$Line" 2 (some .int) 1 20) (a : Nat → Nat) (T : Int32) (st : plS) (hQ : plRp E (plwC (plg E) a) st T) (k0 : Int32) (hk : T = K_LP_latestByte_27 st k0) : plJ E 2 (plwC (plg E) a st) 0 0 [] 27 [.int k0] := by
  unfold K_LP_latestByte_27 at hk
  exact j_retip (pc := 27) X hQ d_LN_latestByte_27 hk
def K_LP_latestByte (st : plS) (v1 : Int32) : Int32 := (if (st 13 2) = 0 then K_LP_latestByte_27 st ((-1)) else K_LP_latestByte_27 st (st 14 (plIx ((K_LN_slotOf ((st 13 2) - 1)) + v1))))
def P_LP_latestByte (st : plS) (v1 : Int32) : Prop := (¬ (st 13 2) = 0 → vp_in ((K_LN_slotOf ((st 13 2) - 1)) + v1) 96)
set_option maxRecDepth 20000 in
theorem j_LP_latestByte {E : plE} (X : plX E b_LN_latestByte "ProtectedLine$Line" 2 (some .int) 1 20) (a : Nat → Nat) (T : Int32) (st : plS) (hQ : plRp E (plwC (plg E) a) st T) (v1 : Int32) (hs : P_LP_latestByte st v1) (hk : T = K_LP_latestByte st v1) : plJ E 2 (plwC (plg E) a st) 0 0 [(0, .ref (a 13)), (1, .int v1)] 0 [] := by
  unfold P_LP_latestByte at hs
  unfold K_LP_latestByte at hk
  refine j_aload_n (pc := 0) X d_LN_latestByte_0 rfl 0 rfl ?_
  refine get_LP_launched (pc := 1) X fl_LN_25 d_LN_latestByte_1 ?_
  refine j_if_ne (pc := 4) (tgt := 11) X d_LN_latestByte_4 rfl (fun hc => ?_) (fun hc => ?_)
  · have hk := hk.trans (if_neg hc)
    have hs := hs hc
    refine j_aload_n (pc := 11) X d_LN_latestByte_11 rfl 0 rfl ?_
    refine get_LP_underWay (pc := 12) X fl_LN_11 d_LN_latestByte_12 ?_
    refine j_aload_n (pc := 15) X d_LN_latestByte_15 rfl 0 rfl ?_
    refine get_LP_launched (pc := 16) X fl_LN_25 d_LN_latestByte_16 ?_
    refine j_iconst (pc := 19) X d_LN_latestByte_19 ic_1 ?_
    refine j_isub (pc := 20) X d_LN_latestByte_20 ?_
    refine j_callSp (pc := 21) (As := [.int ((st 13 2) - 1)]) (rest := [.ref (a 14)]) X (c_LN_slotOf (plg E) a st ((st 13 2) - 1)) ml_LN_28 ⟨Nat.le_of_ble_eq_true rfl, Nat.le_of_ble_eq_true rfl⟩ rfl rfl (Nat.le_of_ble_eq_true rfl) d_LN_latestByte_21 ?_
    refine j_iload_n (pc := 24) X d_LN_latestByte_24 rfl 1 rfl ?_
    refine j_iadd (pc := 25) X d_LN_latestByte_25 ?_
    refine ald_LPu (pc := 26) X hs d_LN_latestByte_26 ?_
    refine j_sub [] (lv' := []) rfl ?_
    exact j_LP_latestByte_27 X a T st hQ (st 14 (plIx ((K_LN_slotOf ((st 13 2) - 1)) + v1))) hk
  · have hk := hk.trans (if_pos hc)
    refine j_iconst (pc := 7) X d_LN_latestByte_7 ic_m1 ?_
    refine j_goto (pc := 8) (tgt := 27) X d_LN_latestByte_8 rfl ?_
    refine j_sub [] (lv' := []) rfl ?_
    exact j_LP_latestByte_27 X a T st hQ ((-1)) hk
set_option maxRecDepth 20000 in
theorem c_LP_latestByte (g : plG) (a : Nat → Nat) (st : plS) (v1 : Int32) (hs : P_LP_latestByte st v1) : plMp g y_LN_latestByte b_LN_latestByte 2 (some .int) 1 20 [.ref (a 13), .int v1] (plwC g a) st (K_LP_latestByte st v1) := by
  refine plMp.of (own := "ProtectedLine$Line") (lv := [(0, .ref (a 13)), (1, .int v1)]) rfl rfl (Nat.le_of_ble_eq_true rfl) rfl (fun E hE X hQ => ?_)
  subst hE
  exact j_LP_latestByte X a _ st hQ v1 hs rfl
theorem d_PL_sent_0 : decode b_PL_sent 0 = .ok (.iload_n 1, 1) := by decide +kernel
theorem d_PL_sent_1 : decode b_PL_sent 1 = .ok (.invokestatic 85, 3) := by decide +kernel
theorem d_PL_sent_4 : decode b_PL_sent 4 = .ok (.ifCond .eq (22), 3) := by decide +kernel
theorem d_PL_sent_7 : decode b_PL_sent 7 = .ok (.iload_n 2, 1) := by decide +kernel
theorem d_PL_sent_8 : decode b_PL_sent 8 = .ok (.invokestatic 97, 3) := by decide +kernel
theorem d_PL_sent_11 : decode b_PL_sent 11 = .ok (.ifCond .eq (15), 3) := by decide +kernel
theorem d_PL_sent_14 : decode b_PL_sent 14 = .ok (.aload_n 0, 1) := by decide +kernel
theorem d_PL_sent_15 : decode b_PL_sent 15 = .ok (.iload_n 1, 1) := by decide +kernel
theorem d_PL_sent_16 : decode b_PL_sent 16 = .ok (.invokevirtual 89, 3) := by decide +kernel
theorem d_PL_sent_19 : decode b_PL_sent 19 = .ok (.iload_n 2, 1) := by decide +kernel
theorem d_PL_sent_20 : decode b_PL_sent 20 = .ok (.invokevirtual 114, 3) := by decide +kernel
theorem d_PL_sent_23 : decode b_PL_sent 23 = .ok (.goto (4), 3) := by decide +kernel
theorem d_PL_sent_26 : decode b_PL_sent 26 = .ok (.iconst (-1), 1) := by decide +kernel
theorem d_PL_sent_27 : decode b_PL_sent 27 = .ok (.ireturn, 1) := by decide +kernel
def K_PL_sent_27 (st : plS) (k0 : Int32) : Int32 := k0
set_option maxRecDepth 20000 in
theorem j_PL_sent_27 {E : plE} (X : plX E b_PL_sent "ProtectedLine" 3 (some .int) 2 41) (a : Nat → Nat) (T : Int32) (st : plS) (hQ : plRp E (plwC (plg E) a) st T) (k0 : Int32) (hk : T = K_PL_sent_27 st k0) : plJ E 3 (plwC (plg E) a st) 0 0 [] 27 [.int k0] := by
  unfold K_PL_sent_27 at hk
  exact j_retip (pc := 27) X hQ d_PL_sent_27 hk
def K_PL_sent_26 (st : plS) : Int32 := K_PL_sent_27 st ((-1))
set_option maxRecDepth 20000 in
theorem j_PL_sent_26 {E : plE} (X : plX E b_PL_sent "ProtectedLine" 3 (some .int) 2 41) (a : Nat → Nat) (T : Int32) (st : plS) (hQ : plRp E (plwC (plg E) a) st T)  (hk : T = K_PL_sent_26 st) : plJ E 3 (plwC (plg E) a st) 0 0 [] 26 [] := by
  unfold K_PL_sent_26 at hk
  refine j_iconst (pc := 26) X d_PL_sent_26 ic_m1 ?_
  exact j_PL_sent_27 X a T st hQ ((-1)) hk
def K_PL_sent (st : plS) (v1 : Int32) (v2 : Int32) : Int32 := (if (K_PL_isLine v1) = 0 then K_PL_sent_26 st else (if (K_PL_isPlace v2) = 0 then K_PL_sent_26 st else (if v1 = 0 then K_PL_sent_27 st (K_LW_latestByte st v2) else K_PL_sent_27 st (K_LP_latestByte st v2))))
def P_PL_sent (st : plS) (v1 : Int32) (v2 : Int32) : Prop := (P_PL_isLine v1 ∧ (¬ (K_PL_isLine v1) = 0 → (P_PL_isPlace v2 ∧ (¬ (K_PL_isPlace v2) = 0 → ((v1 = 0 → P_LW_latestByte st v2) ∧ (¬ v1 = 0 → P_LP_latestByte st v2))))))
set_option maxRecDepth 20000 in
theorem j_PL_sent {E : plE} (X : plX E b_PL_sent "ProtectedLine" 3 (some .int) 2 41) (a : Nat → Nat) (T : Int32) (st : plS) (hQ : plRp E (plwC (plg E) a) st T) (v1 : Int32) (v2 : Int32) (hs : P_PL_sent st v1 v2) (hk : T = K_PL_sent st v1 v2) : plJ E 3 (plwC (plg E) a st) 0 0 [(0, .ref (a 0)), (1, .int v1), (2, .int v2)] 0 [] := by
  unfold P_PL_sent at hs
  unfold K_PL_sent at hk
  refine j_iload_n (pc := 0) X d_PL_sent_0 rfl 1 rfl ?_
  refine j_callSp (pc := 1) (As := [.int v1]) (rest := []) X (c_PL_isLine (plg E) a st v1 hs.1) ml_PL_85 ⟨Nat.le_of_ble_eq_true rfl, Nat.le_of_ble_eq_true rfl⟩ rfl rfl (Nat.le_of_ble_eq_true rfl) d_PL_sent_1 ?_
  have hs := hs.2
  refine j_if_eq (pc := 4) (tgt := 26) X d_PL_sent_4 rfl (fun hc => ?_) (fun hc => ?_)
  · have hk := hk.trans (if_pos hc)
    refine j_sub [] (lv' := []) rfl ?_
    exact j_PL_sent_26 X a T st hQ hk
  · have hk := hk.trans (if_neg hc)
    have hs := hs hc
    refine j_iload_n (pc := 7) X d_PL_sent_7 rfl 2 rfl ?_
    refine j_callSp (pc := 8) (As := [.int v2]) (rest := []) X (c_PL_isPlace (plg E) a st v2 hs.1) ml_PL_97 ⟨Nat.le_of_ble_eq_true rfl, Nat.le_of_ble_eq_true rfl⟩ rfl rfl (Nat.le_of_ble_eq_true rfl) d_PL_sent_8 ?_
    have hs := hs.2
    refine j_if_eq (pc := 11) (tgt := 26) X d_PL_sent_11 rfl (fun hc => ?_) (fun hc => ?_)
    · have hk := hk.trans (if_pos hc)
      refine j_sub [] (lv' := []) rfl ?_
      exact j_PL_sent_26 X a T st hQ hk
    · have hk := hk.trans (if_neg hc)
      have hs := hs hc
      refine j_aload_n (pc := 14) X d_PL_sent_14 rfl 0 rfl ?_
      refine j_iload_n (pc := 15) X d_PL_sent_15 rfl 1 rfl ?_
      by_cases hc : v1 = 0
      · have hk := hk.trans (if_pos hc)
        have hs := hs.1 hc
        refine j_callVr (pc := 16) (As := [.int v1]) (rest := []) X (c_PL_lineAt_toLW (plg E) a st v1 (fun h => h hc)) ml_PL_89 0 rfl rfl ⟨Nat.le_of_ble_eq_true rfl, Nat.le_of_ble_eq_true rfl⟩ rfl rfl (Nat.le_of_ble_eq_true rfl) d_PL_sent_16 ?_
        refine j_iload_n (pc := 19) X d_PL_sent_19 rfl 2 rfl ?_
        refine j_callVp (pc := 20) (As := [.int v2]) (rest := []) X (c_LW_latestByte (plg E) a st v2 hs) ml_PL_114 9 rfl rfl ⟨Nat.le_of_ble_eq_true rfl, Nat.le_of_ble_eq_true rfl⟩ rfl rfl (Nat.le_of_ble_eq_true rfl) d_PL_sent_20 ?_
        refine j_goto (pc := 23) (tgt := 27) X d_PL_sent_23 rfl ?_
        refine j_sub [] (lv' := []) rfl ?_
        exact j_PL_sent_27 X a T st hQ (K_LW_latestByte st v2) hk
      · have hk := hk.trans (if_neg hc)
        have hs := hs.2 hc
        refine j_callVr (pc := 16) (As := [.int v1]) (rest := []) X (c_PL_lineAt_toLP (plg E) a st v1 hc) ml_PL_89 0 rfl rfl ⟨Nat.le_of_ble_eq_true rfl, Nat.le_of_ble_eq_true rfl⟩ rfl rfl (Nat.le_of_ble_eq_true rfl) d_PL_sent_16 ?_
        refine j_iload_n (pc := 19) X d_PL_sent_19 rfl 2 rfl ?_
        refine j_callVp (pc := 20) (As := [.int v2]) (rest := []) X (c_LP_latestByte (plg E) a st v2 hs) ml_PL_114 13 rfl rfl ⟨Nat.le_of_ble_eq_true rfl, Nat.le_of_ble_eq_true rfl⟩ rfl rfl (Nat.le_of_ble_eq_true rfl) d_PL_sent_20 ?_
        refine j_goto (pc := 23) (tgt := 27) X d_PL_sent_23 rfl ?_
        refine j_sub [] (lv' := []) rfl ?_
        exact j_PL_sent_27 X a T st hQ (K_LP_latestByte st v2) hk
set_option maxRecDepth 20000 in
theorem c_PL_sent (g : plG) (a : Nat → Nat) (st : plS) (v1 : Int32) (v2 : Int32) (hs : P_PL_sent st v1 v2) : plMp g y_PL_sent b_PL_sent 3 (some .int) 2 41 [.ref (a 0), .int v1, .int v2] (plwC g a) st (K_PL_sent st v1 v2) := by
  refine plMp.of (own := "ProtectedLine") (lv := [(0, .ref (a 0)), (1, .int v1), (2, .int v2)]) rfl rfl (Nat.le_of_ble_eq_true rfl) rfl (fun E hE X hQ => ?_)
  subst hE
  exact j_PL_sent X a _ st hQ v1 v2 hs rfl
theorem d_PL_alignment_0 : decode b_PL_alignment 0 = .ok (.iload_n 1, 1) := by decide +kernel
theorem d_PL_alignment_1 : decode b_PL_alignment 1 = .ok (.invokestatic 85, 3) := by decide +kernel
theorem d_PL_alignment_4 : decode b_PL_alignment 4 = .ok (.ifCond .eq (14), 3) := by decide +kernel
theorem d_PL_alignment_7 : decode b_PL_alignment 7 = .ok (.aload_n 0, 1) := by decide +kernel
theorem d_PL_alignment_8 : decode b_PL_alignment 8 = .ok (.iload_n 1, 1) := by decide +kernel
theorem d_PL_alignment_9 : decode b_PL_alignment 9 = .ok (.invokevirtual 89, 3) := by decide +kernel
theorem d_PL_alignment_12 : decode b_PL_alignment 12 = .ok (.getfield 117, 3) := by decide +kernel
theorem d_PL_alignment_15 : decode b_PL_alignment 15 = .ok (.goto (4), 3) := by decide +kernel
theorem d_PL_alignment_18 : decode b_PL_alignment 18 = .ok (.iconst (-1), 1) := by decide +kernel
theorem d_PL_alignment_19 : decode b_PL_alignment 19 = .ok (.ireturn, 1) := by decide +kernel
def K_PL_alignment_19 (st : plS) (k0 : Int32) : Int32 := k0
set_option maxRecDepth 20000 in
theorem j_PL_alignment_19 {E : plE} (X : plX E b_PL_alignment "ProtectedLine" 2 (some .int) 1 21) (a : Nat → Nat) (T : Int32) (st : plS) (hQ : plRp E (plwC (plg E) a) st T) (k0 : Int32) (hk : T = K_PL_alignment_19 st k0) : plJ E 2 (plwC (plg E) a st) 0 0 [] 19 [.int k0] := by
  unfold K_PL_alignment_19 at hk
  exact j_retip (pc := 19) X hQ d_PL_alignment_19 hk
def K_PL_alignment (st : plS) (v1 : Int32) : Int32 := (if (K_PL_isLine v1) = 0 then K_PL_alignment_19 st ((-1)) else (if v1 = 0 then K_PL_alignment_19 st (st 9 9) else K_PL_alignment_19 st (st 13 9)))
def P_PL_alignment (st : plS) (v1 : Int32) : Prop := P_PL_isLine v1
set_option maxRecDepth 20000 in
theorem j_PL_alignment {E : plE} (X : plX E b_PL_alignment "ProtectedLine" 2 (some .int) 1 21) (a : Nat → Nat) (T : Int32) (st : plS) (hQ : plRp E (plwC (plg E) a) st T) (v1 : Int32) (hs : P_PL_alignment st v1) (hk : T = K_PL_alignment st v1) : plJ E 2 (plwC (plg E) a st) 0 0 [(0, .ref (a 0)), (1, .int v1)] 0 [] := by
  unfold P_PL_alignment at hs
  unfold K_PL_alignment at hk
  refine j_iload_n (pc := 0) X d_PL_alignment_0 rfl 1 rfl ?_
  refine j_callSp (pc := 1) (As := [.int v1]) (rest := []) X (c_PL_isLine (plg E) a st v1 hs) ml_PL_85 ⟨Nat.le_of_ble_eq_true rfl, Nat.le_of_ble_eq_true rfl⟩ rfl rfl (Nat.le_of_ble_eq_true rfl) d_PL_alignment_1 ?_
  refine j_if_eq (pc := 4) (tgt := 18) X d_PL_alignment_4 rfl (fun hc => ?_) (fun hc => ?_)
  · have hk := hk.trans (if_pos hc)
    refine j_iconst (pc := 18) X d_PL_alignment_18 ic_m1 ?_
    refine j_sub [] (lv' := []) rfl ?_
    exact j_PL_alignment_19 X a T st hQ ((-1)) hk
  · have hk := hk.trans (if_neg hc)
    refine j_aload_n (pc := 7) X d_PL_alignment_7 rfl 0 rfl ?_
    refine j_iload_n (pc := 8) X d_PL_alignment_8 rfl 1 rfl ?_
    by_cases hc : v1 = 0
    · have hk := hk.trans (if_pos hc)
      refine j_callVr (pc := 9) (As := [.int v1]) (rest := []) X (c_PL_lineAt_toLW (plg E) a st v1 (fun h => h hc)) ml_PL_89 0 rfl rfl ⟨Nat.le_of_ble_eq_true rfl, Nat.le_of_ble_eq_true rfl⟩ rfl rfl (Nat.le_of_ble_eq_true rfl) d_PL_alignment_9 ?_
      refine get_LW_state (pc := 12) X fl_PL_117 d_PL_alignment_12 ?_
      refine j_goto (pc := 15) (tgt := 19) X d_PL_alignment_15 rfl ?_
      refine j_sub [] (lv' := []) rfl ?_
      exact j_PL_alignment_19 X a T st hQ (st 9 9) hk
    · have hk := hk.trans (if_neg hc)
      refine j_callVr (pc := 9) (As := [.int v1]) (rest := []) X (c_PL_lineAt_toLP (plg E) a st v1 hc) ml_PL_89 0 rfl rfl ⟨Nat.le_of_ble_eq_true rfl, Nat.le_of_ble_eq_true rfl⟩ rfl rfl (Nat.le_of_ble_eq_true rfl) d_PL_alignment_9 ?_
      refine get_LP_state (pc := 12) X fl_PL_117 d_PL_alignment_12 ?_
      refine j_goto (pc := 15) (tgt := 19) X d_PL_alignment_15 rfl ?_
      refine j_sub [] (lv' := []) rfl ?_
      exact j_PL_alignment_19 X a T st hQ (st 13 9) hk
set_option maxRecDepth 20000 in
theorem c_PL_alignment (g : plG) (a : Nat → Nat) (st : plS) (v1 : Int32) (hs : P_PL_alignment st v1) : plMp g y_PL_alignment b_PL_alignment 2 (some .int) 1 21 [.ref (a 0), .int v1] (plwC g a) st (K_PL_alignment st v1) := by
  refine plMp.of (own := "ProtectedLine") (lv := [(0, .ref (a 0)), (1, .int v1)]) rfl rfl (Nat.le_of_ble_eq_true rfl) rfl (fun E hE X hQ => ?_)
  subst hE
  exact j_PL_alignment X a _ st hQ v1 hs rfl
theorem d_PL_errors_0 : decode b_PL_errors 0 = .ok (.iload_n 1, 1) := by decide +kernel
theorem d_PL_errors_1 : decode b_PL_errors 1 = .ok (.invokestatic 85, 3) := by decide +kernel
theorem d_PL_errors_4 : decode b_PL_errors 4 = .ok (.ifCond .eq (14), 3) := by decide +kernel
theorem d_PL_errors_7 : decode b_PL_errors 7 = .ok (.aload_n 0, 1) := by decide +kernel
theorem d_PL_errors_8 : decode b_PL_errors 8 = .ok (.iload_n 1, 1) := by decide +kernel
theorem d_PL_errors_9 : decode b_PL_errors 9 = .ok (.invokevirtual 89, 3) := by decide +kernel
theorem d_PL_errors_12 : decode b_PL_errors 12 = .ok (.getfield 120, 3) := by decide +kernel
theorem d_PL_errors_15 : decode b_PL_errors 15 = .ok (.goto (4), 3) := by decide +kernel
theorem d_PL_errors_18 : decode b_PL_errors 18 = .ok (.iconst (-1), 1) := by decide +kernel
theorem d_PL_errors_19 : decode b_PL_errors 19 = .ok (.ireturn, 1) := by decide +kernel
def K_PL_errors_19 (st : plS) (k0 : Int32) : Int32 := k0
set_option maxRecDepth 20000 in
theorem j_PL_errors_19 {E : plE} (X : plX E b_PL_errors "ProtectedLine" 2 (some .int) 1 21) (a : Nat → Nat) (T : Int32) (st : plS) (hQ : plRp E (plwC (plg E) a) st T) (k0 : Int32) (hk : T = K_PL_errors_19 st k0) : plJ E 2 (plwC (plg E) a st) 0 0 [] 19 [.int k0] := by
  unfold K_PL_errors_19 at hk
  exact j_retip (pc := 19) X hQ d_PL_errors_19 hk
def K_PL_errors (st : plS) (v1 : Int32) : Int32 := (if (K_PL_isLine v1) = 0 then K_PL_errors_19 st ((-1)) else (if v1 = 0 then K_PL_errors_19 st (st 9 11) else K_PL_errors_19 st (st 13 11)))
def P_PL_errors (st : plS) (v1 : Int32) : Prop := P_PL_isLine v1
set_option maxRecDepth 20000 in
theorem j_PL_errors {E : plE} (X : plX E b_PL_errors "ProtectedLine" 2 (some .int) 1 21) (a : Nat → Nat) (T : Int32) (st : plS) (hQ : plRp E (plwC (plg E) a) st T) (v1 : Int32) (hs : P_PL_errors st v1) (hk : T = K_PL_errors st v1) : plJ E 2 (plwC (plg E) a st) 0 0 [(0, .ref (a 0)), (1, .int v1)] 0 [] := by
  unfold P_PL_errors at hs
  unfold K_PL_errors at hk
  refine j_iload_n (pc := 0) X d_PL_errors_0 rfl 1 rfl ?_
  refine j_callSp (pc := 1) (As := [.int v1]) (rest := []) X (c_PL_isLine (plg E) a st v1 hs) ml_PL_85 ⟨Nat.le_of_ble_eq_true rfl, Nat.le_of_ble_eq_true rfl⟩ rfl rfl (Nat.le_of_ble_eq_true rfl) d_PL_errors_1 ?_
  refine j_if_eq (pc := 4) (tgt := 18) X d_PL_errors_4 rfl (fun hc => ?_) (fun hc => ?_)
  · have hk := hk.trans (if_pos hc)
    refine j_iconst (pc := 18) X d_PL_errors_18 ic_m1 ?_
    refine j_sub [] (lv' := []) rfl ?_
    exact j_PL_errors_19 X a T st hQ ((-1)) hk
  · have hk := hk.trans (if_neg hc)
    refine j_aload_n (pc := 7) X d_PL_errors_7 rfl 0 rfl ?_
    refine j_iload_n (pc := 8) X d_PL_errors_8 rfl 1 rfl ?_
    by_cases hc : v1 = 0
    · have hk := hk.trans (if_pos hc)
      refine j_callVr (pc := 9) (As := [.int v1]) (rest := []) X (c_PL_lineAt_toLW (plg E) a st v1 (fun h => h hc)) ml_PL_89 0 rfl rfl ⟨Nat.le_of_ble_eq_true rfl, Nat.le_of_ble_eq_true rfl⟩ rfl rfl (Nat.le_of_ble_eq_true rfl) d_PL_errors_9 ?_
      refine get_LW_errorBits (pc := 12) X fl_PL_120 d_PL_errors_12 ?_
      refine j_goto (pc := 15) (tgt := 19) X d_PL_errors_15 rfl ?_
      refine j_sub [] (lv' := []) rfl ?_
      exact j_PL_errors_19 X a T st hQ (st 9 11) hk
    · have hk := hk.trans (if_neg hc)
      refine j_callVr (pc := 9) (As := [.int v1]) (rest := []) X (c_PL_lineAt_toLP (plg E) a st v1 hc) ml_PL_89 0 rfl rfl ⟨Nat.le_of_ble_eq_true rfl, Nat.le_of_ble_eq_true rfl⟩ rfl rfl (Nat.le_of_ble_eq_true rfl) d_PL_errors_9 ?_
      refine get_LP_errorBits (pc := 12) X fl_PL_120 d_PL_errors_12 ?_
      refine j_goto (pc := 15) (tgt := 19) X d_PL_errors_15 rfl ?_
      refine j_sub [] (lv' := []) rfl ?_
      exact j_PL_errors_19 X a T st hQ (st 13 11) hk
set_option maxRecDepth 20000 in
theorem c_PL_errors (g : plG) (a : Nat → Nat) (st : plS) (v1 : Int32) (hs : P_PL_errors st v1) : plMp g y_PL_errors b_PL_errors 2 (some .int) 1 21 [.ref (a 0), .int v1] (plwC g a) st (K_PL_errors st v1) := by
  refine plMp.of (own := "ProtectedLine") (lv := [(0, .ref (a 0)), (1, .int v1)]) rfl rfl (Nat.le_of_ble_eq_true rfl) rfl (fun E hE X hQ => ?_)
  subst hE
  exact j_PL_errors X a _ st hQ v1 hs rfl
theorem d_PL_request_0 : decode b_PL_request 0 = .ok (.aload_n 0, 1) := by decide +kernel
theorem d_PL_request_1 : decode b_PL_request 1 = .ok (.getfield 58, 3) := by decide +kernel
theorem d_PL_request_4 : decode b_PL_request 4 = .ok (.getfield 123, 3) := by decide +kernel
theorem d_PL_request_7 : decode b_PL_request 7 = .ok (.ireturn, 1) := by decide +kernel
def K_PL_request (st : plS) : Int32 := st 19 6
set_option maxRecDepth 20000 in
theorem j_PL_request {E : plE} (X : plX E b_PL_request "ProtectedLine" 1 (some .int) 0 0) (a : Nat → Nat) (T : Int32) (st : plS) (hQ : plRp E (plwC (plg E) a) st T)  (hk : T = K_PL_request st) : plJ E 1 (plwC (plg E) a st) 0 0 [(0, .ref (a 0))] 0 [] := by
  unfold K_PL_request at hk
  refine j_aload_n (pc := 0) X d_PL_request_0 rfl 0 rfl ?_
  refine get_PL_nodeB (pc := 1) X fl_PL_58 d_PL_request_1 ?_
  refine get_SW_asked (pc := 4) X fl_PL_123 d_PL_request_4 ?_
  exact j_retip (pc := 7) X hQ d_PL_request_7 hk
set_option maxRecDepth 20000 in
theorem c_PL_request (g : plG) (a : Nat → Nat) (st : plS)  : plMp g y_PL_request b_PL_request 1 (some .int) 0 0 [.ref (a 0)] (plwC g a) st (K_PL_request st ) := by
  refine plMp.of (own := "ProtectedLine") (lv := [(0, .ref (a 0))]) rfl rfl (Nat.le_of_ble_eq_true rfl) rfl (fun E hE X hQ => ?_)
  subst hE
  exact j_PL_request X a _ st hQ  rfl
theorem d_PL_bridged_0 : decode b_PL_bridged 0 = .ok (.aload_n 0, 1) := by decide +kernel
theorem d_PL_bridged_1 : decode b_PL_bridged 1 = .ok (.getfield 26, 3) := by decide +kernel
theorem d_PL_bridged_4 : decode b_PL_bridged 4 = .ok (.invokevirtual 126, 3) := by decide +kernel
theorem d_PL_bridged_7 : decode b_PL_bridged 7 = .ok (.ireturn, 1) := by decide +kernel
def K_PL_bridged (st : plS) : Int32 := K_NA_bridgeOn st
def P_PL_bridged (st : plS) : Prop := (P_NA_bridgeOn st ∧ plB (K_NA_bridgeOn st))
set_option maxRecDepth 20000 in
theorem j_PL_bridged {E : plE} (X : plX E b_PL_bridged "ProtectedLine" 1 (some .boolean) 1 21) (a : Nat → Nat) (T : Int32) (st : plS) (hQ : plRp E (plwC (plg E) a) st T)  (hs : P_PL_bridged st) (hk : T = K_PL_bridged st) : plJ E 1 (plwC (plg E) a st) 0 0 [(0, .ref (a 0))] 0 [] := by
  unfold P_PL_bridged at hs
  unfold K_PL_bridged at hk
  refine j_aload_n (pc := 0) X d_PL_bridged_0 rfl 0 rfl ?_
  refine get_PL_nodeA (pc := 1) X fl_PL_26 d_PL_bridged_1 ?_
  refine j_callVp (pc := 4) (As := []) (rest := []) X (c_NA_bridgeOn (plg E) a st hs.1) ml_PL_126 5 rfl rfl ⟨Nat.le_of_ble_eq_true rfl, Nat.le_of_ble_eq_true rfl⟩ rfl rfl (Nat.le_of_ble_eq_true rfl) d_PL_bridged_4 ?_
  have hs := hs.2
  exact j_retzp (pc := 7) X hQ d_PL_bridged_7 hs hk
set_option maxRecDepth 20000 in
theorem c_PL_bridged (g : plG) (a : Nat → Nat) (st : plS)  (hs : P_PL_bridged st ) : plMp g y_PL_bridged b_PL_bridged 1 (some .boolean) 1 21 [.ref (a 0)] (plwC g a) st (K_PL_bridged st ) := by
  refine plMp.of (own := "ProtectedLine") (lv := [(0, .ref (a 0))]) rfl rfl (Nat.le_of_ble_eq_true rfl) rfl (fun E hE X hQ => ?_)
  subst hE
  exact j_PL_bridged X a _ st hQ  hs rfl
theorem d_PL_selected_0 : decode b_PL_selected 0 = .ok (.aload_n 0, 1) := by decide +kernel
theorem d_PL_selected_1 : decode b_PL_selected 1 = .ok (.getfield 58, 3) := by decide +kernel
theorem d_PL_selected_4 : decode b_PL_selected 4 = .ok (.getfield 130, 3) := by decide +kernel
theorem d_PL_selected_7 : decode b_PL_selected 7 = .ok (.ireturn, 1) := by decide +kernel
def K_PL_selected (st : plS) : Int32 := st 19 7
set_option maxRecDepth 20000 in
theorem j_PL_selected {E : plE} (X : plX E b_PL_selected "ProtectedLine" 1 (some .int) 0 0) (a : Nat → Nat) (T : Int32) (st : plS) (hQ : plRp E (plwC (plg E) a) st T)  (hk : T = K_PL_selected st) : plJ E 1 (plwC (plg E) a st) 0 0 [(0, .ref (a 0))] 0 [] := by
  unfold K_PL_selected at hk
  refine j_aload_n (pc := 0) X d_PL_selected_0 rfl 0 rfl ?_
  refine get_PL_nodeB (pc := 1) X fl_PL_58 d_PL_selected_1 ?_
  refine get_SW_chosen (pc := 4) X fl_PL_130 d_PL_selected_4 ?_
  exact j_retip (pc := 7) X hQ d_PL_selected_7 hk
set_option maxRecDepth 20000 in
theorem c_PL_selected (g : plG) (a : Nat → Nat) (st : plS)  : plMp g y_PL_selected b_PL_selected 1 (some .int) 0 0 [.ref (a 0)] (plwC g a) st (K_PL_selected st ) := by
  refine plMp.of (own := "ProtectedLine") (lv := [(0, .ref (a 0))]) rfl rfl (Nat.le_of_ble_eq_true rfl) rfl (fun E hE X hQ => ?_)
  subst hE
  exact j_PL_selected X a _ st hQ  rfl
theorem d_PL_pointer_0 : decode b_PL_pointer 0 = .ok (.aload_n 0, 1) := by decide +kernel
theorem d_PL_pointer_1 : decode b_PL_pointer 1 = .ok (.getfield 74, 3) := by decide +kernel
theorem d_PL_pointer_4 : decode b_PL_pointer 4 = .ok (.getfield 133, 3) := by decide +kernel
theorem d_PL_pointer_7 : decode b_PL_pointer 7 = .ok (.ireturn, 1) := by decide +kernel
def K_PL_pointer (st : plS) : Int32 := st 25 1
set_option maxRecDepth 20000 in
theorem j_PL_pointer {E : plE} (X : plX E b_PL_pointer "ProtectedLine" 1 (some .int) 0 0) (a : Nat → Nat) (T : Int32) (st : plS) (hQ : plRp E (plwC (plg E) a) st T)  (hk : T = K_PL_pointer st) : plJ E 1 (plwC (plg E) a st) 0 0 [(0, .ref (a 0))] 0 [] := by
  unfold K_PL_pointer at hk
  refine j_aload_n (pc := 0) X d_PL_pointer_0 rfl 0 rfl ?_
  refine get_PL_reader (pc := 1) X fl_PL_74 d_PL_pointer_1 ?_
  refine get_PR_v (pc := 4) X fl_PL_133 d_PL_pointer_4 ?_
  exact j_retip (pc := 7) X hQ d_PL_pointer_7 hk
set_option maxRecDepth 20000 in
theorem c_PL_pointer (g : plG) (a : Nat → Nat) (st : plS)  : plMp g y_PL_pointer b_PL_pointer 1 (some .int) 0 0 [.ref (a 0)] (plwC g a) st (K_PL_pointer st ) := by
  refine plMp.of (own := "ProtectedLine") (lv := [(0, .ref (a 0))]) rfl rfl (Nat.le_of_ble_eq_true rfl) rfl (fun E hE X hQ => ?_)
  subst hE
  exact j_PL_pointer X a _ st hQ  rfl
theorem d_PL_pathErrors_0 : decode b_PL_pathErrors 0 = .ok (.aload_n 0, 1) := by decide +kernel
theorem d_PL_pathErrors_1 : decode b_PL_pathErrors 1 = .ok (.getfield 74, 3) := by decide +kernel
theorem d_PL_pathErrors_4 : decode b_PL_pathErrors 4 = .ok (.getfield 136, 3) := by decide +kernel
theorem d_PL_pathErrors_7 : decode b_PL_pathErrors 7 = .ok (.ireturn, 1) := by decide +kernel
def K_PL_pathErrors (st : plS) : Int32 := st 25 8
set_option maxRecDepth 20000 in
theorem j_PL_pathErrors {E : plE} (X : plX E b_PL_pathErrors "ProtectedLine" 1 (some .int) 0 0) (a : Nat → Nat) (T : Int32) (st : plS) (hQ : plRp E (plwC (plg E) a) st T)  (hk : T = K_PL_pathErrors st) : plJ E 1 (plwC (plg E) a st) 0 0 [(0, .ref (a 0))] 0 [] := by
  unfold K_PL_pathErrors at hk
  refine j_aload_n (pc := 0) X d_PL_pathErrors_0 rfl 0 rfl ?_
  refine get_PL_reader (pc := 1) X fl_PL_74 d_PL_pathErrors_1 ?_
  refine get_PR_errorBits (pc := 4) X fl_PL_136 d_PL_pathErrors_4 ?_
  exact j_retip (pc := 7) X hQ d_PL_pathErrors_7 hk
set_option maxRecDepth 20000 in
theorem c_PL_pathErrors (g : plG) (a : Nat → Nat) (st : plS)  : plMp g y_PL_pathErrors b_PL_pathErrors 1 (some .int) 0 0 [.ref (a 0)] (plwC g a) st (K_PL_pathErrors st ) := by
  refine plMp.of (own := "ProtectedLine") (lv := [(0, .ref (a 0))]) rfl rfl (Nat.le_of_ble_eq_true rfl) rfl (fun E hE X hQ => ?_)
  subst hE
  exact j_PL_pathErrors X a _ st hQ  rfl
theorem d_PL_sync_0 : decode b_PL_sync 0 = .ok (.aload_n 0, 1) := by decide +kernel
theorem d_PL_sync_1 : decode b_PL_sync 1 = .ok (.getfield 65, 3) := by decide +kernel
theorem d_PL_sync_4 : decode b_PL_sync 4 = .ok (.getfield 137, 3) := by decide +kernel
theorem d_PL_sync_7 : decode b_PL_sync 7 = .ok (.ireturn, 1) := by decide +kernel
def K_PL_sync (st : plS) : Int32 := st 21 0
set_option maxRecDepth 20000 in
theorem j_PL_sync {E : plE} (X : plX E b_PL_sync "ProtectedLine" 1 (some .int) 0 0) (a : Nat → Nat) (T : Int32) (st : plS) (hQ : plRp E (plwC (plg E) a) st T)  (hk : T = K_PL_sync st) : plJ E 1 (plwC (plg E) a st) 0 0 [(0, .ref (a 0))] 0 [] := by
  unfold K_PL_sync at hk
  refine j_aload_n (pc := 0) X d_PL_sync_0 rfl 0 rfl ?_
  refine get_PL_stream (pc := 1) X fl_PL_65 d_PL_sync_1 ?_
  refine get_SR_state (pc := 4) X fl_PL_137 d_PL_sync_4 ?_
  exact j_retip (pc := 7) X hQ d_PL_sync_7 hk
set_option maxRecDepth 20000 in
theorem c_PL_sync (g : plG) (a : Nat → Nat) (st : plS)  : plMp g y_PL_sync b_PL_sync 1 (some .int) 0 0 [.ref (a 0)] (plwC g a) st (K_PL_sync st ) := by
  refine plMp.of (own := "ProtectedLine") (lv := [(0, .ref (a 0))]) rfl rfl (Nat.le_of_ble_eq_true rfl) rfl (fun E hE X hQ => ?_)
  subst hE
  exact j_PL_sync X a _ st hQ  rfl
theorem d_PL_delivered_0 : decode b_PL_delivered 0 = .ok (.aload_n 0, 1) := by decide +kernel
theorem d_PL_delivered_1 : decode b_PL_delivered 1 = .ok (.getfield 65, 3) := by decide +kernel
theorem d_PL_delivered_4 : decode b_PL_delivered 4 = .ok (.getfield 138, 3) := by decide +kernel
theorem d_PL_delivered_7 : decode b_PL_delivered 7 = .ok (.ireturn, 1) := by decide +kernel
def K_PL_delivered (st : plS) : Int32 := st 21 8
set_option maxRecDepth 20000 in
theorem j_PL_delivered {E : plE} (X : plX E b_PL_delivered "ProtectedLine" 1 (some .int) 0 0) (a : Nat → Nat) (T : Int32) (st : plS) (hQ : plRp E (plwC (plg E) a) st T)  (hk : T = K_PL_delivered st) : plJ E 1 (plwC (plg E) a st) 0 0 [(0, .ref (a 0))] 0 [] := by
  unfold K_PL_delivered at hk
  refine j_aload_n (pc := 0) X d_PL_delivered_0 rfl 0 rfl ?_
  refine get_PL_stream (pc := 1) X fl_PL_65 d_PL_delivered_1 ?_
  refine get_SR_good (pc := 4) X fl_PL_138 d_PL_delivered_4 ?_
  exact j_retip (pc := 7) X hQ d_PL_delivered_7 hk
set_option maxRecDepth 20000 in
theorem c_PL_delivered (g : plG) (a : Nat → Nat) (st : plS)  : plMp g y_PL_delivered b_PL_delivered 1 (some .int) 0 0 [.ref (a 0)] (plwC g a) st (K_PL_delivered st ) := by
  refine plMp.of (own := "ProtectedLine") (lv := [(0, .ref (a 0))]) rfl rfl (Nat.le_of_ble_eq_true rfl) rfl (fun E hE X hQ => ?_)
  subst hE
  exact j_PL_delivered X a _ st hQ  rfl
theorem d_PL_dropped_0 : decode b_PL_dropped 0 = .ok (.aload_n 0, 1) := by decide +kernel
theorem d_PL_dropped_1 : decode b_PL_dropped 1 = .ok (.getfield 65, 3) := by decide +kernel
theorem d_PL_dropped_4 : decode b_PL_dropped 4 = .ok (.getfield 141, 3) := by decide +kernel
theorem d_PL_dropped_7 : decode b_PL_dropped 7 = .ok (.ireturn, 1) := by decide +kernel
def K_PL_dropped (st : plS) : Int32 := st 21 9
set_option maxRecDepth 20000 in
theorem j_PL_dropped {E : plE} (X : plX E b_PL_dropped "ProtectedLine" 1 (some .int) 0 0) (a : Nat → Nat) (T : Int32) (st : plS) (hQ : plRp E (plwC (plg E) a) st T)  (hk : T = K_PL_dropped st) : plJ E 1 (plwC (plg E) a st) 0 0 [(0, .ref (a 0))] 0 [] := by
  unfold K_PL_dropped at hk
  refine j_aload_n (pc := 0) X d_PL_dropped_0 rfl 0 rfl ?_
  refine get_PL_stream (pc := 1) X fl_PL_65 d_PL_dropped_1 ?_
  refine get_SR_bad (pc := 4) X fl_PL_141 d_PL_dropped_4 ?_
  exact j_retip (pc := 7) X hQ d_PL_dropped_7 hk
set_option maxRecDepth 20000 in
theorem c_PL_dropped (g : plG) (a : Nat → Nat) (st : plS)  : plMp g y_PL_dropped b_PL_dropped 1 (some .int) 0 0 [.ref (a 0)] (plwC g a) st (K_PL_dropped st ) := by
  refine plMp.of (own := "ProtectedLine") (lv := [(0, .ref (a 0))]) rfl rfl (Nat.le_of_ble_eq_true rfl) rfl (fun E hE X hQ => ?_)
  subst hE
  exact j_PL_dropped X a _ st hQ  rfl
theorem d_SR_kept_0 : decode b_SR_kept 0 = .ok (.iload_n 1, 1) := by decide +kernel
theorem d_SR_kept_1 : decode b_SR_kept 1 = .ok (.ifCond .lt (17), 3) := by decide +kernel
theorem d_SR_kept_4 : decode b_SR_kept 4 = .ok (.iload_n 1, 1) := by decide +kernel
theorem d_SR_kept_5 : decode b_SR_kept 5 = .ok (.bipush (8), 2) := by decide +kernel
theorem d_SR_kept_7 : decode b_SR_kept 7 = .ok (.if_icmp .ge (11), 3) := by decide +kernel
theorem d_SR_kept_10 : decode b_SR_kept 10 = .ok (.iload_n 1, 1) := by decide +kernel
theorem d_SR_kept_11 : decode b_SR_kept 11 = .ok (.aload_n 0, 1) := by decide +kernel
theorem d_SR_kept_12 : decode b_SR_kept 12 = .ok (.getfield 70, 3) := by decide +kernel
theorem d_SR_kept_15 : decode b_SR_kept 15 = .ok (.if_icmp .lt (5), 3) := by decide +kernel
theorem d_SR_kept_18 : decode b_SR_kept 18 = .ok (.iconst (-1), 1) := by decide +kernel
theorem d_SR_kept_19 : decode b_SR_kept 19 = .ok (.ireturn, 1) := by decide +kernel
theorem d_SR_kept_20 : decode b_SR_kept 20 = .ok (.aload_n 0, 1) := by decide +kernel
theorem d_SR_kept_21 : decode b_SR_kept 21 = .ok (.getfield 70, 3) := by decide +kernel
theorem d_SR_kept_24 : decode b_SR_kept 24 = .ok (.iload_n 1, 1) := by decide +kernel
theorem d_SR_kept_25 : decode b_SR_kept 25 = .ok (.isub, 1) := by decide +kernel
theorem d_SR_kept_26 : decode b_SR_kept 26 = .ok (.invokestatic 73, 3) := by decide +kernel
theorem d_SR_kept_29 : decode b_SR_kept 29 = .ok (.istore_n 3, 1) := by decide +kernel
theorem d_SR_kept_30 : decode b_SR_kept 30 = .ok (.iload_n 2, 1) := by decide +kernel
theorem d_SR_kept_31 : decode b_SR_kept 31 = .ok (.iconst (-1), 1) := by decide +kernel
theorem d_SR_kept_32 : decode b_SR_kept 32 = .ok (.if_icmp .ne (10), 3) := by decide +kernel
theorem d_SR_kept_35 : decode b_SR_kept 35 = .ok (.aload_n 0, 1) := by decide +kernel
theorem d_SR_kept_36 : decode b_SR_kept 36 = .ok (.getfield 21, 3) := by decide +kernel
theorem d_SR_kept_39 : decode b_SR_kept 39 = .ok (.iload_n 3, 1) := by decide +kernel
theorem d_SR_kept_40 : decode b_SR_kept 40 = .ok (.iaload, 1) := by decide +kernel
theorem d_SR_kept_41 : decode b_SR_kept 41 = .ok (.ireturn, 1) := by decide +kernel
theorem d_SR_kept_42 : decode b_SR_kept 42 = .ok (.iload_n 2, 1) := by decide +kernel
theorem d_SR_kept_43 : decode b_SR_kept 43 = .ok (.ifCond .lt (27), 3) := by decide +kernel
theorem d_SR_kept_46 : decode b_SR_kept 46 = .ok (.iload_n 2, 1) := by decide +kernel
theorem d_SR_kept_47 : decode b_SR_kept 47 = .ok (.aload_n 0, 1) := by decide +kernel
theorem d_SR_kept_48 : decode b_SR_kept 48 = .ok (.getfield 21, 3) := by decide +kernel
theorem d_SR_kept_51 : decode b_SR_kept 51 = .ok (.iload_n 3, 1) := by decide +kernel
theorem d_SR_kept_52 : decode b_SR_kept 52 = .ok (.iaload, 1) := by decide +kernel
theorem d_SR_kept_53 : decode b_SR_kept 53 = .ok (.if_icmp .ge (17), 3) := by decide +kernel
theorem d_SR_kept_56 : decode b_SR_kept 56 = .ok (.aload_n 0, 1) := by decide +kernel
theorem d_SR_kept_57 : decode b_SR_kept 57 = .ok (.getfield 24, 3) := by decide +kernel
theorem d_SR_kept_60 : decode b_SR_kept 60 = .ok (.iload_n 3, 1) := by decide +kernel
theorem d_SR_kept_61 : decode b_SR_kept 61 = .ok (.bipush (6), 2) := by decide +kernel
theorem d_SR_kept_63 : decode b_SR_kept 63 = .ok (.imul, 1) := by decide +kernel
theorem d_SR_kept_64 : decode b_SR_kept 64 = .ok (.iload_n 2, 1) := by decide +kernel
theorem d_SR_kept_65 : decode b_SR_kept 65 = .ok (.iadd, 1) := by decide +kernel
theorem d_SR_kept_66 : decode b_SR_kept 66 = .ok (.iaload, 1) := by decide +kernel
theorem d_SR_kept_67 : decode b_SR_kept 67 = .ok (.goto (4), 3) := by decide +kernel
theorem d_SR_kept_70 : decode b_SR_kept 70 = .ok (.iconst (-1), 1) := by decide +kernel
theorem d_SR_kept_71 : decode b_SR_kept 71 = .ok (.ireturn, 1) := by decide +kernel
def K_SR_kept_18 (st : plS) : Int32 := (-1)
set_option maxRecDepth 20000 in
theorem j_SR_kept_18 {E : plE} (X : plX E b_SR_kept "ProtectedLine$StreamReader" 4 (some .int) 1 20) (a : Nat → Nat) (T : Int32) (st : plS) (hQ : plRp E (plwC (plg E) a) st T)  (hk : T = K_SR_kept_18 st) : plJ E 4 (plwC (plg E) a st) 0 0 [] 18 [] := by
  unfold K_SR_kept_18 at hk
  refine j_iconst (pc := 18) X d_SR_kept_18 ic_m1 ?_
  exact j_retip (pc := 19) X hQ d_SR_kept_19 hk
def K_SR_kept_71 (st : plS) (k0 : Int32) : Int32 := k0
set_option maxRecDepth 20000 in
theorem j_SR_kept_71 {E : plE} (X : plX E b_SR_kept "ProtectedLine$StreamReader" 4 (some .int) 1 20) (a : Nat → Nat) (T : Int32) (st : plS) (hQ : plRp E (plwC (plg E) a) st T) (k0 : Int32) (hk : T = K_SR_kept_71 st k0) : plJ E 4 (plwC (plg E) a st) 0 0 [] 71 [.int k0] := by
  unfold K_SR_kept_71 at hk
  exact j_retip (pc := 71) X hQ d_SR_kept_71 hk
def K_SR_kept_70 (st : plS) : Int32 := K_SR_kept_71 st ((-1))
set_option maxRecDepth 20000 in
theorem j_SR_kept_70 {E : plE} (X : plX E b_SR_kept "ProtectedLine$StreamReader" 4 (some .int) 1 20) (a : Nat → Nat) (T : Int32) (st : plS) (hQ : plRp E (plwC (plg E) a) st T)  (hk : T = K_SR_kept_70 st) : plJ E 4 (plwC (plg E) a st) 0 0 [] 70 [] := by
  unfold K_SR_kept_70 at hk
  refine j_iconst (pc := 70) X d_SR_kept_70 ic_m1 ?_
  exact j_SR_kept_71 X a T st hQ ((-1)) hk
def K_SR_kept (st : plS) (v1 : Int32) (v2 : Int32) : Int32 := (if v1 < 0 then K_SR_kept_18 st else (if 8 ≤ v1 then K_SR_kept_18 st else (if v1 < (st 21 8) then (if v2 = ((-1)) then st 23 (plIx (K_SR_slotOf ((st 21 8) - v1))) else (if v2 < 0 then K_SR_kept_70 st else (if (st 23 (plIx (K_SR_slotOf ((st 21 8) - v1)))) ≤ v2 then K_SR_kept_70 st else K_SR_kept_71 st (st 24 (plIx (((K_SR_slotOf ((st 21 8) - v1)) * 6) + v2)))))) else K_SR_kept_18 st)))
def P_SR_kept (st : plS) (v1 : Int32) (v2 : Int32) : Prop := (¬ v1 < 0 → (¬ 8 ≤ v1 → (v1 < (st 21 8) → ((v2 = ((-1)) → vp_in (K_SR_slotOf ((st 21 8) - v1)) 8) ∧ (¬ v2 = ((-1)) → (¬ v2 < 0 → (vp_in (K_SR_slotOf ((st 21 8) - v1)) 8 ∧ (¬ (st 23 (plIx (K_SR_slotOf ((st 21 8) - v1)))) ≤ v2 → vp_in (((K_SR_slotOf ((st 21 8) - v1)) * 6) + v2) 48))))))))
set_option maxRecDepth 20000 in
theorem j_SR_kept {E : plE} (X : plX E b_SR_kept "ProtectedLine$StreamReader" 4 (some .int) 1 20) (a : Nat → Nat) (T : Int32) (st : plS) (hQ : plRp E (plwC (plg E) a) st T) (v1 : Int32) (v2 : Int32) (hs : P_SR_kept st v1 v2) (hk : T = K_SR_kept st v1 v2) : plJ E 4 (plwC (plg E) a st) 0 0 [(0, .ref (a 21)), (1, .int v1), (2, .int v2)] 0 [] := by
  unfold P_SR_kept at hs
  unfold K_SR_kept at hk
  refine j_iload_n (pc := 0) X d_SR_kept_0 rfl 1 rfl ?_
  refine j_if_lt (pc := 1) (tgt := 18) X d_SR_kept_1 rfl (fun hc => ?_) (fun hc => ?_)
  · have hk := hk.trans (if_pos hc)
    refine j_sub [] (lv' := []) rfl ?_
    exact j_SR_kept_18 X a T st hQ hk
  · have hk := hk.trans (if_neg hc)
    have hs := hs hc
    refine j_iload_n (pc := 4) X d_SR_kept_4 rfl 1 rfl ?_
    refine j_bipush (pc := 5) X d_SR_kept_5 bp_8 ?_
    refine j_icmp_ge (pc := 7) (tgt := 18) X d_SR_kept_7 rfl (fun hc => ?_) (fun hc => ?_)
    · have hk := hk.trans (if_pos hc)
      refine j_sub [] (lv' := []) rfl ?_
      exact j_SR_kept_18 X a T st hQ hk
    · have hk := hk.trans (if_neg hc)
      have hs := hs hc
      refine j_iload_n (pc := 10) X d_SR_kept_10 rfl 1 rfl ?_
      refine j_aload_n (pc := 11) X d_SR_kept_11 rfl 0 rfl ?_
      refine get_SR_good (pc := 12) X fl_SR_70 d_SR_kept_12 ?_
      refine j_icmp_lt (pc := 15) (tgt := 20) X d_SR_kept_15 rfl (fun hc => ?_) (fun hc => ?_)
      · have hk := hk.trans (if_pos hc)
        have hs := hs hc
        refine j_aload_n (pc := 20) X d_SR_kept_20 rfl 0 rfl ?_
        refine get_SR_good (pc := 21) X fl_SR_70 d_SR_kept_21 ?_
        refine j_iload_n (pc := 24) X d_SR_kept_24 rfl 1 rfl ?_
        refine j_isub (pc := 25) X d_SR_kept_25 ?_
        refine j_callSp (pc := 26) (As := [.int ((st 21 8) - v1)]) (rest := []) X (c_SR_slotOf (plg E) a st ((st 21 8) - v1)) ml_SR_73 ⟨Nat.le_of_ble_eq_true rfl, Nat.le_of_ble_eq_true rfl⟩ rfl rfl (Nat.le_of_ble_eq_true rfl) d_SR_kept_26 ?_
        refine j_istore_n (pc := 29) X d_SR_kept_29 rfl (lv' := [(3, .int (K_SR_slotOf ((st 21 8) - v1))), (0, .ref (a 21)), (1, .int v1), (2, .int v2)]) (Nat.le_of_ble_eq_true rfl) rfl ?_
        refine j_iload_n (pc := 30) X d_SR_kept_30 rfl 3 rfl ?_
        refine j_iconst (pc := 31) X d_SR_kept_31 ic_m1 ?_
        refine j_icmp_ne (pc := 32) (tgt := 42) X d_SR_kept_32 rfl (fun hc => ?_) (fun hc => ?_)
        · have hk := hk.trans (if_neg hc)
          have hs := hs.2 hc
          refine j_iload_n (pc := 42) X d_SR_kept_42 rfl 3 rfl ?_
          refine j_if_lt (pc := 43) (tgt := 70) X d_SR_kept_43 rfl (fun hc => ?_) (fun hc => ?_)
          · have hk := hk.trans (if_pos hc)
            refine j_sub [] (lv' := []) rfl ?_
            exact j_SR_kept_70 X a T st hQ hk
          · have hk := hk.trans (if_neg hc)
            have hs := hs hc
            refine j_iload_n (pc := 46) X d_SR_kept_46 rfl 3 rfl ?_
            refine j_aload_n (pc := 47) X d_SR_kept_47 rfl 1 rfl ?_
            refine get_SR_sizes (pc := 48) X fl_SR_21 d_SR_kept_48 ?_
            refine j_iload_n (pc := 51) X d_SR_kept_51 rfl 0 rfl ?_
            refine ald_SRs (pc := 52) X hs.1 d_SR_kept_52 ?_
            have hs := hs.2
            refine j_icmp_ge (pc := 53) (tgt := 70) X d_SR_kept_53 rfl (fun hc => ?_) (fun hc => ?_)
            · have hk := hk.trans (if_pos hc)
              refine j_sub [] (lv' := []) rfl ?_
              exact j_SR_kept_70 X a T st hQ hk
            · have hk := hk.trans (if_neg hc)
              have hs := hs hc
              refine j_aload_n (pc := 56) X d_SR_kept_56 rfl 1 rfl ?_
              refine get_SR_contents (pc := 57) X fl_SR_24 d_SR_kept_57 ?_
              refine j_iload_n (pc := 60) X d_SR_kept_60 rfl 0 rfl ?_
              refine j_bipush (pc := 61) X d_SR_kept_61 bp_6 ?_
              refine j_imul (pc := 63) X d_SR_kept_63 ?_
              refine j_iload_n (pc := 64) X d_SR_kept_64 rfl 3 rfl ?_
              refine j_iadd (pc := 65) X d_SR_kept_65 ?_
              refine ald_SRc (pc := 66) X hs d_SR_kept_66 ?_
              refine j_goto (pc := 67) (tgt := 71) X d_SR_kept_67 rfl ?_
              refine j_sub [] (lv' := []) rfl ?_
              exact j_SR_kept_71 X a T st hQ (st 24 (plIx (((K_SR_slotOf ((st 21 8) - v1)) * 6) + v2))) hk
        · have hk := hk.trans (if_pos hc)
          have hs := hs.1 hc
          refine j_aload_n (pc := 35) X d_SR_kept_35 rfl 1 rfl ?_
          refine get_SR_sizes (pc := 36) X fl_SR_21 d_SR_kept_36 ?_
          refine j_iload_n (pc := 39) X d_SR_kept_39 rfl 0 rfl ?_
          refine ald_SRs (pc := 40) X hs d_SR_kept_40 ?_
          exact j_retip (pc := 41) X hQ d_SR_kept_41 hk
      · have hk := hk.trans (if_neg hc)
        refine j_sub [] (lv' := []) rfl ?_
        exact j_SR_kept_18 X a T st hQ hk
set_option maxRecDepth 20000 in
theorem c_SR_kept (g : plG) (a : Nat → Nat) (st : plS) (v1 : Int32) (v2 : Int32) (hs : P_SR_kept st v1 v2) : plMp g y_SR_kept b_SR_kept 4 (some .int) 1 20 [.ref (a 21), .int v1, .int v2] (plwC g a) st (K_SR_kept st v1 v2) := by
  refine plMp.of (own := "ProtectedLine$StreamReader") (lv := [(0, .ref (a 21)), (1, .int v1), (2, .int v2)]) rfl rfl (Nat.le_of_ble_eq_true rfl) rfl (fun E hE X hQ => ?_)
  subst hE
  exact j_SR_kept X a _ st hQ v1 v2 hs rfl
theorem d_PL_got_0 : decode b_PL_got 0 = .ok (.aload_n 0, 1) := by decide +kernel
theorem d_PL_got_1 : decode b_PL_got 1 = .ok (.getfield 65, 3) := by decide +kernel
theorem d_PL_got_4 : decode b_PL_got 4 = .ok (.iload_n 1, 1) := by decide +kernel
theorem d_PL_got_5 : decode b_PL_got 5 = .ok (.iload_n 2, 1) := by decide +kernel
theorem d_PL_got_6 : decode b_PL_got 6 = .ok (.invokevirtual 144, 3) := by decide +kernel
theorem d_PL_got_9 : decode b_PL_got 9 = .ok (.ireturn, 1) := by decide +kernel
def K_PL_got (st : plS) (v1 : Int32) (v2 : Int32) : Int32 := K_SR_kept st v1 v2
def P_PL_got (st : plS) (v1 : Int32) (v2 : Int32) : Prop := P_SR_kept st v1 v2
set_option maxRecDepth 20000 in
theorem j_PL_got {E : plE} (X : plX E b_PL_got "ProtectedLine" 3 (some .int) 2 43) (a : Nat → Nat) (T : Int32) (st : plS) (hQ : plRp E (plwC (plg E) a) st T) (v1 : Int32) (v2 : Int32) (hs : P_PL_got st v1 v2) (hk : T = K_PL_got st v1 v2) : plJ E 3 (plwC (plg E) a st) 0 0 [(0, .ref (a 0)), (1, .int v1), (2, .int v2)] 0 [] := by
  unfold P_PL_got at hs
  unfold K_PL_got at hk
  refine j_aload_n (pc := 0) X d_PL_got_0 rfl 0 rfl ?_
  refine get_PL_stream (pc := 1) X fl_PL_65 d_PL_got_1 ?_
  refine j_iload_n (pc := 4) X d_PL_got_4 rfl 1 rfl ?_
  refine j_iload_n (pc := 5) X d_PL_got_5 rfl 2 rfl ?_
  refine j_callVp (pc := 6) (As := [.int v1, .int v2]) (rest := []) X (c_SR_kept (plg E) a st v1 v2 hs) ml_PL_144 21 rfl rfl ⟨Nat.le_of_ble_eq_true rfl, Nat.le_of_ble_eq_true rfl⟩ rfl rfl (Nat.le_of_ble_eq_true rfl) d_PL_got_6 ?_
  exact j_retip (pc := 9) X hQ d_PL_got_9 hk
set_option maxRecDepth 20000 in
theorem c_PL_got (g : plG) (a : Nat → Nat) (st : plS) (v1 : Int32) (v2 : Int32) (hs : P_PL_got st v1 v2) : plMp g y_PL_got b_PL_got 3 (some .int) 2 43 [.ref (a 0), .int v1, .int v2] (plwC g a) st (K_PL_got st v1 v2) := by
  refine plMp.of (own := "ProtectedLine") (lv := [(0, .ref (a 0)), (1, .int v1), (2, .int v2)]) rfl rfl (Nat.le_of_ble_eq_true rfl) rfl (fun E hE X hQ => ?_)
  subst hE
  exact j_PL_got X a _ st hQ v1 v2 hs rfl
