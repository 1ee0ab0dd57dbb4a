def K_LP_bringIn_2L (st : plS) (v1 : Int32) (v2 : Int32) : Bool × (plS × Int32) := (if 12 ≤ v2 then (false, (st, v2)) else (true, (plUp st 16 (plIx v2) ((st 14 (plIx (v1 + v2))) ^^^ (st 15 (plIx v2))), v2 + 1)))
def P_LP_bringIn_2L (st : plS) (v1 : Int32) (v2 : Int32) : Prop := (¬ 12 ≤ v2 → (vp_in (v1 + v2) 96 ∧ (vp_in v2 12 ∧ vp_in v2 12)))
set_option maxRecDepth 20000 in
theorem j_LP_bringIn_2L {E : plE} (X : plX E b_LN_bringIn "ProtectedLine$Line" 3 none 1 23) (a : Nat → Nat) (T : Bool × (plS × Int32)) (v1 : Int32) (hb : ∀ (c0 : plS) (c1 : Int32), T = (true, (c0, c1)) → plJ E 3 (plwC (plg E) a c0) 0 0 [(0, .ref (a 13)), (1, .int v1), (2, .int c1)] 2 []) (hx : ∀ (c0 : plS) (c1 : Int32), T = (false, (c0, c1)) → plJ E 3 (plwC (plg E) a c0) 0 0 [(0, .ref (a 13)), (1, .int v1), (2, .int c1)] 35 []) (st : plS) (v2 : Int32) (hs : P_LP_bringIn_2L st v1 v2) (hk : T = K_LP_bringIn_2L st v1 v2) : plJ E 3 (plwC (plg E) a st) 0 0 [(0, .ref (a 13)), (1, .int v1), (2, .int v2)] 2 [] := by
  unfold P_LP_bringIn_2L at hs
  unfold K_LP_bringIn_2L at hk
  refine j_iload_n (pc := 2) X d_LN_bringIn_2 rfl 2 rfl ?_
  refine j_bipush (pc := 3) X d_LN_bringIn_3 bp_12 ?_
  refine j_icmp_ge (pc := 5) (tgt := 35) X d_LN_bringIn_5 rfl (fun hc => ?_) (fun hc => ?_)
  · have hk := hk.trans (if_pos hc)
    exact hx st v2 hk
  · have hk := hk.trans (if_neg hc)
    have hs := hs hc
    refine j_aload_n (pc := 8) X d_LN_bringIn_8 rfl 0 rfl ?_
    refine get_LP_arrived (pc := 9) X fl_LN_18 d_LN_bringIn_9 ?_
    refine j_iload_n (pc := 12) X d_LN_bringIn_12 rfl 2 rfl ?_
    refine j_aload_n (pc := 13) X d_LN_bringIn_13 rfl 0 rfl ?_
    refine get_LP_underWay (pc := 14) X fl_LN_11 d_LN_bringIn_14 ?_
    refine j_iload_n (pc := 17) X d_LN_bringIn_17 rfl 1 rfl ?_
    refine j_iload_n (pc := 18) X d_LN_bringIn_18 rfl 2 rfl ?_
    refine j_iadd (pc := 19) X d_LN_bringIn_19 ?_
    refine ald_LPu (pc := 20) X hs.1 d_LN_bringIn_20 ?_
    have hs := hs.2
    refine j_aload_n (pc := 21) X d_LN_bringIn_21 rfl 0 rfl ?_
    refine get_LP_harm (pc := 22) X fl_LN_15 d_LN_bringIn_22 ?_
    refine j_iload_n (pc := 25) X d_LN_bringIn_25 rfl 2 rfl ?_
    refine ald_LPh (pc := 26) X hs.1 d_LN_bringIn_26 ?_
    have hs := hs.2
    refine j_ixor (pc := 27) X d_LN_bringIn_27 ?_
    refine ast_LPa (pc := 28) X hs d_LN_bringIn_28 ?_
    refine j_iinc (pc := 29) X d_LN_bringIn_29 2 rfl ic_1 (lv' := [(2, .int (v2 + 1)), (0, .ref (a 13)), (1, .int v1)]) (Nat.le_of_ble_eq_true rfl) rfl ?_
    refine j_goto (pc := 32) (tgt := 2) X d_LN_bringIn_32 rfl ?_
    refine j_sub [1, 2, 0] (lv' := [(0, .ref (a 13)), (1, .int v1), (2, .int (v2 + 1))]) rfl ?_
    exact hb (plUp st 16 (plIx v2) ((st 14 (plIx (v1 + v2))) ^^^ (st 15 (plIx v2)))) (v2 + 1) hk
def F_LP_bringIn_2 (v1 : Int32) (c : plS × Int32) : Bool × (plS × Int32) := K_LP_bringIn_2L c.1 v1 c.2
def G_LP_bringIn_2 (v1 : Int32) (c : plS × Int32) : Prop := P_LP_bringIn_2L c.1 v1 c.2
def K_LP_bringIn_2X (v1 : Int32) (c : plS × Int32) : plS := plUp c.1 13 8 (K_LN_joinedFrom_LPa c.1 0)
def P_LP_bringIn_2X (v1 : Int32) (c : plS × Int32) : Prop := P_LN_joinedFrom_LPa c.1 0
set_option maxRecDepth 20000 in
theorem j_LP_bringIn_2X {E : plE} (X : plX E b_LN_bringIn "ProtectedLine$Line" 3 none 1 23) (a : Nat → Nat) (T : plS) (hQ : plRv E (plwC (plg E) a) T) (v1 : Int32) (c : plS × Int32) (hs : P_LP_bringIn_2X v1 c) (hk : T = K_LP_bringIn_2X v1 c) : plJ E 3 (plwC (plg E) a c.1) 0 0 [(0, .ref (a 13)), (1, .int v1), (2, .int c.2)] 35 [] := by
  unfold P_LP_bringIn_2X at hs
  unfold K_LP_bringIn_2X at hk
  refine j_aload_n (pc := 35) X d_LN_bringIn_35 rfl 0 rfl ?_
  refine j_aload_n (pc := 36) X d_LN_bringIn_36 rfl 0 rfl ?_
  refine get_LP_arrived (pc := 37) X fl_LN_18 d_LN_bringIn_37 ?_
  refine j_iconst (pc := 40) X d_LN_bringIn_40 ic_0 ?_
  refine j_callSp (pc := 41) (As := [.ref (a 16), .int 0]) (rest := [.ref (a 13)]) X (c_LN_joinedFrom_LPa (plg E) a c.1 0 hs) ml_LN_38 ⟨Nat.le_of_ble_eq_true rfl, Nat.le_of_ble_eq_true rfl⟩ rfl rfl (Nat.le_of_ble_eq_true rfl) d_LN_bringIn_41 ?_
  refine put_LP_joinedArrived (pc := 44) X fl_LN_46 d_LN_bringIn_44 ?_
  exact j_retv (pc := 47) X hQ d_LN_bringIn_47 hk
def K_LP_bringIn (st : plS) (v1 : Int32) : plS := K_LP_bringIn_2X v1 (lpR (F_LP_bringIn_2 v1) 64 (st, 0))
def P_LP_bringIn (st : plS) (v1 : Int32) : Prop := (lpP (G_LP_bringIn_2 v1) (F_LP_bringIn_2 v1) 64 (st, 0) ∧ P_LP_bringIn_2X v1 (lpR (F_LP_bringIn_2 v1) 64 (st, 0)))
set_option maxRecDepth 20000 in
theorem j_LP_bringIn {E : plE} (X : plX E b_LN_bringIn "ProtectedLine$Line" 3 none 1 23) (a : Nat → Nat) (T : plS) (hQ : plRv E (plwC (plg E) a) T) (st : plS) (v1 : Int32) (hs : P_LP_bringIn st v1) (hk : T = K_LP_bringIn st v1) : plJ E 3 (plwC (plg E) a st) 0 0 [(0, .ref (a 13)), (1, .int v1)] 0 [] := by
  unfold P_LP_bringIn at hs
  unfold K_LP_bringIn at hk
  refine j_iconst (pc := 0) X d_LN_bringIn_0 ic_0 ?_
  refine j_istore_n (pc := 1) X d_LN_bringIn_1 rfl (lv' := [(2, .int 0), (0, .ref (a 13)), (1, .int v1)]) (Nat.le_of_ble_eq_true rfl) rfl ?_
  refine j_sub [1, 2, 0] (lv' := [(0, .ref (a 13)), (1, .int v1), (2, .int 0)]) rfl ?_
  exact lpJ (G_LP_bringIn_2 v1) (F_LP_bringIn_2 v1) (fun c => plJ E 3 (plwC (plg E) a c.1) 0 0 [(0, .ref (a 13)), (1, .int v1), (2, .int c.2)] 2 []) (fun c => plJ E 3 (plwC (plg E) a c.1) 0 0 [(0, .ref (a 13)), (1, .int v1), (2, .int c.2)] 35 []) (fun c hp h1 h2 => j_LP_bringIn_2L X a (F_LP_bringIn_2 v1 c) v1 (fun c0 c1 => h1 (c0, c1)) (fun c0 c1 => h2 (c0, c1)) c.1 c.2 hp rfl) 64 (st, 0) hs.1 (j_LP_bringIn_2X X a T hQ v1 (lpR (F_LP_bringIn_2 v1) 64 (st, 0)) hs.2 hk)
set_option maxRecDepth 20000 in
theorem c_LP_bringIn (g : plG) (a : Nat → Nat) (st : plS) (v1 : Int32) (hs : P_LP_bringIn st v1) : plMv g y_LN_bringIn b_LN_bringIn 3 none 1 23 [.ref (a 13), .int v1] (plwC g a) st (K_LP_bringIn st v1) := by
  refine plMv.of (own := "ProtectedLine$Line") (lv := [(0, .ref (a 13)), (1, .int v1)]) rfl rfl (Nat.le_of_ble_eq_true rfl) rfl (fun E hE X hQ => ?_)
  subst hE
  exact j_LP_bringIn X a _ hQ st v1 hs rfl
def K_LP_receive_139 (st : plS) : plS := st
set_option maxRecDepth 20000 in
theorem j_LP_receive_139 {E : plE} (X : plX E b_LN_receive "ProtectedLine$Line" 3 none 2 45) (a : Nat → Nat) (T : plS) (hQ : plRv E (plwC (plg E) a) T) (st : plS)  (hk : T = K_LP_receive_139 st) : plJ E 3 (plwC (plg E) a st) 0 0 [] 139 [] := by
  unfold K_LP_receive_139 at hk
  exact j_retv (pc := 139) X hQ d_LN_receive_139 hk
def K_LP_receive_109 (st : plS) (v1 : Int32) (v2 : Int32) : plS := (if (K_LP_readable st) = 0 then K_LP_receive_139 st else (if v1 = 0 then K_LP_receive_139 st else K_LP_receive_139 (plUp st 13 11 ((st 13 11) + (K_JI_bitCount ((K_LP_plainAt st 2) ^^^ v2))))))
def P_LP_receive_109 (st : plS) (v1 : Int32) (v2 : Int32) : Prop := (P_LP_readable st ∧ (¬ (K_LP_readable st) = 0 → (¬ v1 = 0 → P_LP_plainAt st 2)))
set_option maxRecDepth 20000 in
theorem j_LP_receive_109 {E : plE} (X : plX E b_LN_receive "ProtectedLine$Line" 3 none 2 45) (a : Nat → Nat) (T : plS) (hQ : plRv E (plwC (plg E) a) T) (st : plS) (v1 : Int32) (v2 : Int32) (hs : P_LP_receive_109 st v1 v2) (hk : T = K_LP_receive_109 st v1 v2) : plJ E 3 (plwC (plg E) a st) 0 0 [(0, .ref (a 13)), (1, .int v1), (2, .int v2)] 109 [] := by
  unfold P_LP_receive_109 at hs
  unfold K_LP_receive_109 at hk
  refine j_aload_n (pc := 109) X d_LN_receive_109 rfl 0 rfl ?_
  refine j_callVp (pc := 110) (As := []) (rest := []) X (c_LP_readable (plg E) a st hs.1) ml_LN_66 13 rfl rfl ⟨Nat.le_of_ble_eq_true rfl, Nat.le_of_ble_eq_true rfl⟩ rfl rfl (Nat.le_of_ble_eq_true rfl) d_LN_receive_110 ?_
  have hs := hs.2
  refine j_if_eq (pc := 113) (tgt := 139) X d_LN_receive_113 rfl (fun hc => ?_) (fun hc => ?_)
  · have hk := hk.trans (if_pos hc)
    refine j_sub [] (lv' := []) rfl ?_
    exact j_LP_receive_139 X a T hQ st hk
  · have hk := hk.trans (if_neg hc)
    have hs := hs hc
    refine j_iload_n (pc := 116) X d_LN_receive_116 rfl 1 rfl ?_
    refine j_if_eq (pc := 117) (tgt := 139) X d_LN_receive_117 rfl (fun hc => ?_) (fun hc => ?_)
    · have hk := hk.trans (if_pos hc)
      refine j_sub [] (lv' := []) rfl ?_
      exact j_LP_receive_139 X a T hQ st hk
    · have hk := hk.trans (if_neg hc)
      have hs := hs hc
      refine j_aload_n (pc := 120) X d_LN_receive_120 rfl 0 rfl ?_
      refine j_dup (pc := 121) X d_LN_receive_121 rfl ?_
      refine get_LP_errorBits (pc := 122) X fl_LN_70 d_LN_receive_122 ?_
      refine j_aload_n (pc := 125) X d_LN_receive_125 rfl 0 rfl ?_
      refine j_iconst (pc := 126) X d_LN_receive_126 ic_2 ?_
      refine j_callVp (pc := 127) (As := [.int 2]) (rest := [.int (st 13 11), .ref (a 13)]) X (c_LP_plainAt (plg E) a st 2 hs) ml_LN_73 13 rfl rfl ⟨Nat.le_of_ble_eq_true rfl, Nat.le_of_ble_eq_true rfl⟩ rfl rfl (Nat.le_of_ble_eq_true rfl) d_LN_receive_127 ?_
      refine j_iload_n (pc := 130) X d_LN_receive_130 rfl 2 rfl ?_
      refine j_ixor (pc := 131) X d_LN_receive_131 ?_
      refine j_callSp (pc := 132) (As := [.int ((K_LP_plainAt st 2) ^^^ v2)]) (rest := [.int (st 13 11), .ref (a 13)]) X (c_JI_bitCount (plg E) a st ((K_LP_plainAt st 2) ^^^ v2)) ml_LN_76 ⟨Nat.le_of_ble_eq_true rfl, Nat.le_of_ble_eq_true rfl⟩ rfl rfl (Nat.le_of_ble_eq_true rfl) d_LN_receive_132 ?_
      refine j_iadd (pc := 135) X d_LN_receive_135 ?_
      refine put_LP_errorBits (pc := 136) X fl_LN_70 d_LN_receive_136 ?_
      refine j_sub [] (lv' := []) rfl ?_
      exact j_LP_receive_139 X a T hQ (plUp st 13 11 ((st 13 11) + (K_JI_bitCount ((K_LP_plainAt st 2) ^^^ v2)))) hk
def K_LP_receive_106 (st : plS) (v1 : Int32) (v2 : Int32) (k0 : Int32) : plS := K_LP_receive_109 (K_LP_align st k0) v1 v2
def P_LP_receive_106 (st : plS) (v1 : Int32) (v2 : Int32) (k0 : Int32) : Prop := P_LP_receive_109 (K_LP_align st k0) v1 v2
set_option maxRecDepth 20000 in
theorem j_LP_receive_106 {E : plE} (X : plX E b_LN_receive "ProtectedLine$Line" 3 none 2 45) (a : Nat → Nat) (T : plS) (hQ : plRv E (plwC (plg E) a) T) (st : plS) (v1 : Int32) (v2 : Int32) (k0 : Int32) (hs : P_LP_receive_106 st v1 v2 k0) (hk : T = K_LP_receive_106 st v1 v2 k0) : plJ E 3 (plwC (plg E) a st) 0 0 [(0, .ref (a 13)), (1, .int v1), (2, .int v2)] 106 [.int k0, .ref (a 13)] := by
  unfold P_LP_receive_106 at hs
  unfold K_LP_receive_106 at hk
  refine j_callVv (pc := 106) (As := [.int k0]) (rest := []) X (c_LP_align (plg E) a st k0) ml_LN_62 13 rfl rfl ⟨Nat.le_of_ble_eq_true rfl, Nat.le_of_ble_eq_true rfl⟩ rfl rfl (Nat.le_of_ble_eq_true rfl) d_LN_receive_106 ?_
  exact j_LP_receive_109 X a T hQ (K_LP_align st k0) v1 v2 hs hk
def K_LP_receive_105 (st : plS) (v1 : Int32) (v2 : Int32) : plS := K_LP_receive_106 st v1 v2 0
def P_LP_receive_105 (st : plS) (v1 : Int32) (v2 : Int32) : Prop := P_LP_receive_106 st v1 v2 0
set_option maxRecDepth 20000 in
theorem j_LP_receive_105 {E : plE} (X : plX E b_LN_receive "ProtectedLine$Line" 3 none 2 45) (a : Nat → Nat) (T : plS) (hQ : plRv E (plwC (plg E) a) T) (st : plS) (v1 : Int32) (v2 : Int32) (hs : P_LP_receive_105 st v1 v2) (hk : T = K_LP_receive_105 st v1 v2) : plJ E 3 (plwC (plg E) a st) 0 0 [(0, .ref (a 13)), (1, .int v1), (2, .int v2)] 105 [.ref (a 13)] := by
  unfold P_LP_receive_105 at hs
  unfold K_LP_receive_105 at hk
  refine j_iconst (pc := 105) X d_LN_receive_105 ic_0 ?_
  exact j_LP_receive_106 X a T hQ st v1 v2 0 hs hk
def K_LP_receive_70 (st : plS) (v1 : Int32) (v2 : Int32) : plS := (if (st 13 7) = 0 then K_LP_receive_105 st v1 v2 else (if (st 16 (plIx 0)) = 246 then (if (st 16 (plIx 1)) = 40 then K_LP_receive_106 st v1 v2 1 else K_LP_receive_105 st v1 v2) else K_LP_receive_105 st v1 v2))
def P_LP_receive_70 (st : plS) (v1 : Int32) (v2 : Int32) : Prop := (((st 13 7) = 0 → P_LP_receive_105 st v1 v2) ∧ (¬ (st 13 7) = 0 → (((st 16 (plIx 0)) = 246 → (((st 16 (plIx 1)) = 40 → P_LP_receive_106 st v1 v2 1) ∧ (¬ (st 16 (plIx 1)) = 40 → P_LP_receive_105 st v1 v2))) ∧ (¬ (st 16 (plIx 0)) = 246 → P_LP_receive_105 st v1 v2))))
set_option maxRecDepth 20000 in
theorem j_LP_receive_70 {E : plE} (X : plX E b_LN_receive "ProtectedLine$Line" 3 none 2 45) (a : Nat → Nat) (T : plS) (hQ : plRv E (plwC (plg E) a) T) (st : plS) (v1 : Int32) (v2 : Int32) (hs : P_LP_receive_70 st v1 v2) (hk : T = K_LP_receive_70 st v1 v2) : plJ E 3 (plwC (plg E) a st) 0 0 [(0, .ref (a 13)), (1, .int v1), (2, .int v2)] 70 [] := by
  unfold P_LP_receive_70 at hs
  unfold K_LP_receive_70 at hk
  refine j_aload_n (pc := 70) X d_LN_receive_70 rfl 0 rfl ?_
  refine j_aload_n (pc := 71) X d_LN_receive_71 rfl 0 rfl ?_
  refine get_LP_hasArrived (pc := 72) X fl_LN_42 d_LN_receive_72 ?_
  refine j_if_eq (pc := 75) (tgt := 105) X d_LN_receive_75 rfl (fun hc => ?_) (fun hc => ?_)
  · have hk := hk.trans (if_pos hc)
    have hs := hs.1 hc
    exact j_LP_receive_105 X a T hQ st v1 v2 hs hk
  · have hk := hk.trans (if_neg hc)
    have hs := hs.2 hc
    refine j_aload_n (pc := 78) X d_LN_receive_78 rfl 0 rfl ?_
    refine get_LP_arrived (pc := 79) X fl_LN_18 d_LN_receive_79 ?_
    refine j_iconst (pc := 82) X d_LN_receive_82 ic_0 ?_
    refine ald_LPa (pc := 83) X vi_0_12 d_LN_receive_83 ?_
    refine j_sipush (pc := 84) X d_LN_receive_84 sp_246 ?_
    refine j_icmp_ne (pc := 87) (tgt := 105) X d_LN_receive_87 rfl (fun hc => ?_) (fun hc => ?_)
    · have hk := hk.trans (if_neg hc)
      have hs := hs.2 hc
      exact j_LP_receive_105 X a T hQ st v1 v2 hs hk
    · have hk := hk.trans (if_pos hc)
      have hs := hs.1 hc
      refine j_aload_n (pc := 90) X d_LN_receive_90 rfl 0 rfl ?_
      refine get_LP_arrived (pc := 91) X fl_LN_18 d_LN_receive_91 ?_
      refine j_iconst (pc := 94) X d_LN_receive_94 ic_1 ?_
      refine ald_LPa (pc := 95) X vi_1_12 d_LN_receive_95 ?_
      refine j_bipush (pc := 96) X d_LN_receive_96 bp_40 ?_
      refine j_icmp_ne (pc := 98) (tgt := 105) X d_LN_receive_98 rfl (fun hc => ?_) (fun hc => ?_)
      · have hk := hk.trans (if_neg hc)
        have hs := hs.2 hc
        exact j_LP_receive_105 X a T hQ st v1 v2 hs hk
      · have hk := hk.trans (if_pos hc)
        have hs := hs.1 hc
        refine j_iconst (pc := 101) X d_LN_receive_101 ic_1 ?_
        refine j_goto (pc := 102) (tgt := 106) X d_LN_receive_102 rfl ?_
        exact j_LP_receive_106 X a T hQ st v1 v2 1 hs hk
def K_LP_receive_62 (st : plS) (v1 : Int32) (v2 : Int32) : plS := K_LP_receive_70 (K_JA_fill_LPh st 0) v1 v2
def P_LP_receive_62 (st : plS) (v1 : Int32) (v2 : Int32) : Prop := (P_JA_fill_LPh st 0 ∧ P_LP_receive_70 (K_JA_fill_LPh st 0) v1 v2)
set_option maxRecDepth 20000 in
theorem j_LP_receive_62 {E : plE} (X : plX E b_LN_receive "ProtectedLine$Line" 3 none 2 45) (a : Nat → Nat) (T : plS) (hQ : plRv E (plwC (plg E) a) T) (st : plS) (v1 : Int32) (v2 : Int32) (hs : P_LP_receive_62 st v1 v2) (hk : T = K_LP_receive_62 st v1 v2) : plJ E 3 (plwC (plg E) a st) 0 0 [(0, .ref (a 13)), (1, .int v1), (2, .int v2)] 62 [] := by
  unfold P_LP_receive_62 at hs
  unfold K_LP_receive_62 at hk
  refine j_aload_n (pc := 62) X d_LN_receive_62 rfl 0 rfl ?_
  refine get_LP_harm (pc := 63) X fl_LN_15 d_LN_receive_63 ?_
  refine j_iconst (pc := 66) X d_LN_receive_66 ic_0 ?_
  refine j_callSv (pc := 67) (As := [.ref (a 15), .int 0]) (rest := []) X (c_JA_fill_LPh (plg E) a st 0 hs.1) ml_LN_56 ⟨Nat.le_of_ble_eq_true rfl, Nat.le_of_ble_eq_true rfl⟩ rfl rfl (Nat.le_of_ble_eq_true rfl) d_LN_receive_67 ?_
  have hs := hs.2
  exact j_LP_receive_70 X a T hQ (K_JA_fill_LPh st 0) v1 v2 hs hk
def K_LP_receive_37 (st : plS) (v1 : Int32) (v2 : Int32) : plS := (if (st 13 7) = 0 then K_LP_receive_62 st v1 v2 else K_LP_receive_62 (K_LP_bringIn st (K_LN_slotOf (((st 13 2) - 1) - (st 13 0)))) v1 v2)
def P_LP_receive_37 (st : plS) (v1 : Int32) (v2 : Int32) : Prop := (((st 13 7) = 0 → P_LP_receive_62 st v1 v2) ∧ (¬ (st 13 7) = 0 → (P_LP_bringIn st (K_LN_slotOf (((st 13 2) - 1) - (st 13 0))) ∧ P_LP_receive_62 (K_LP_bringIn st (K_LN_slotOf (((st 13 2) - 1) - (st 13 0)))) v1 v2)))
set_option maxRecDepth 20000 in
theorem j_LP_receive_37 {E : plE} (X : plX E b_LN_receive "ProtectedLine$Line" 3 none 2 45) (a : Nat → Nat) (T : plS) (hQ : plRv E (plwC (plg E) a) T) (st : plS) (v1 : Int32) (v2 : Int32) (hs : P_LP_receive_37 st v1 v2) (hk : T = K_LP_receive_37 st v1 v2) : plJ E 3 (plwC (plg E) a st) 0 0 [(0, .ref (a 13)), (1, .int v1), (2, .int v2)] 37 [] := by
  unfold P_LP_receive_37 at hs
  unfold K_LP_receive_37 at hk
  refine j_aload_n (pc := 37) X d_LN_receive_37 rfl 0 rfl ?_
  refine get_LP_hasArrived (pc := 38) X fl_LN_42 d_LN_receive_38 ?_
  refine j_if_eq (pc := 41) (tgt := 62) X d_LN_receive_41 rfl (fun hc => ?_) (fun hc => ?_)
  · have hk := hk.trans (if_pos hc)
    have hs := hs.1 hc
    exact j_LP_receive_62 X a T hQ st v1 v2 hs hk
  · have hk := hk.trans (if_neg hc)
    have hs := hs.2 hc
    refine j_aload_n (pc := 44) X d_LN_receive_44 rfl 0 rfl ?_
    refine j_aload_n (pc := 45) X d_LN_receive_45 rfl 0 rfl ?_
    refine get_LP_launched (pc := 46) X fl_LN_25 d_LN_receive_46 ?_
    refine j_iconst (pc := 49) X d_LN_receive_49 ic_1 ?_
    refine j_isub (pc := 50) X d_LN_receive_50 ?_
    refine j_aload_n (pc := 51) X d_LN_receive_51 rfl 0 rfl ?_
    refine get_LP_delay (pc := 52) X fl_LN_21 d_LN_receive_52 ?_
    refine j_isub (pc := 55) X d_LN_receive_55 ?_
    refine j_callSp (pc := 56) (As := [.int (((st 13 2) - 1) - (st 13 0))]) (rest := [.ref (a 13)]) X (c_LN_slotOf (plg E) a st (((st 13 2) - 1) - (st 13 0))) ml_LN_28 ⟨Nat.le_of_ble_eq_true rfl, Nat.le_of_ble_eq_true rfl⟩ rfl rfl (Nat.le_of_ble_eq_true rfl) d_LN_receive_56 ?_
    refine j_callVv (pc := 59) (As := [.int (K_LN_slotOf (((st 13 2) - 1) - (st 13 0)))]) (rest := []) X (c_LP_bringIn (plg E) a st (K_LN_slotOf (((st 13 2) - 1) - (st 13 0))) hs.1) ml_LN_52 13 rfl rfl ⟨Nat.le_of_ble_eq_true rfl, Nat.le_of_ble_eq_true rfl⟩ rfl rfl (Nat.le_of_ble_eq_true rfl) d_LN_receive_59 ?_
    have hs := hs.2
    exact j_LP_receive_62 X a T hQ (K_LP_bringIn st (K_LN_slotOf (((st 13 2) - 1) - (st 13 0)))) v1 v2 hs hk
def K_LP_receive_34 (st : plS) (v1 : Int32) (v2 : Int32) (k0 : Int32) : plS := K_LP_receive_37 (plUp st 13 7 k0) v1 v2
def P_LP_receive_34 (st : plS) (v1 : Int32) (v2 : Int32) (k0 : Int32) : Prop := (plB k0 ∧ P_LP_receive_37 (plUp st 13 7 k0) v1 v2)
set_option maxRecDepth 20000 in
theorem j_LP_receive_34 {E : plE} (X : plX E b_LN_receive "ProtectedLine$Line" 3 none 2 45) (a : Nat → Nat) (T : plS) (hQ : plRv E (plwC (plg E) a) T) (st : plS) (v1 : Int32) (v2 : Int32) (k0 : Int32) (hs : P_LP_receive_34 st v1 v2 k0) (hk : T = K_LP_receive_34 st v1 v2 k0) : plJ E 3 (plwC (plg E) a st) 0 0 [(0, .ref (a 13)), (1, .int v1), (2, .int v2)] 34 [.int k0, .ref (a 13)] := by
  unfold P_LP_receive_34 at hs
  unfold K_LP_receive_34 at hk
  refine put_LP_hasArrived (pc := 34) X fl_LN_42 d_LN_receive_34 hs.1 ?_
  have hs := hs.2
  exact j_LP_receive_37 X a T hQ (plUp st 13 7 k0) v1 v2 hs hk
def K_LP_receive_33 (st : plS) (v1 : Int32) (v2 : Int32) : plS := K_LP_receive_34 st v1 v2 0
def P_LP_receive_33 (st : plS) (v1 : Int32) (v2 : Int32) : Prop := P_LP_receive_34 st v1 v2 0
set_option maxRecDepth 20000 in
theorem j_LP_receive_33 {E : plE} (X : plX E b_LN_receive "ProtectedLine$Line" 3 none 2 45) (a : Nat → Nat) (T : plS) (hQ : plRv E (plwC (plg E) a) T) (st : plS) (v1 : Int32) (v2 : Int32) (hs : P_LP_receive_33 st v1 v2) (hk : T = K_LP_receive_33 st v1 v2) : plJ E 3 (plwC (plg E) a st) 0 0 [(0, .ref (a 13)), (1, .int v1), (2, .int v2)] 33 [.ref (a 13)] := by
  unfold P_LP_receive_33 at hs
  unfold K_LP_receive_33 at hk
  refine j_iconst (pc := 33) X d_LN_receive_33 ic_0 ?_
  exact j_LP_receive_34 X a T hQ st v1 v2 0 hs hk
def K_LP_receive (st : plS) : plS := (if (st 13 4) = 0 then (if (st 13 2) ≤ (st 13 0) then K_LP_receive_33 st (st 13 7) (st 13 8) else K_LP_receive_34 st (st 13 7) (st 13 8) 1) else K_LP_receive_33 st (st 13 7) (st 13 8))
def P_LP_receive (st : plS) : Prop := (((st 13 4) = 0 → (((st 13 2) ≤ (st 13 0) → P_LP_receive_33 st (st 13 7) (st 13 8)) ∧ (¬ (st 13 2) ≤ (st 13 0) → P_LP_receive_34 st (st 13 7) (st 13 8) 1))) ∧ (¬ (st 13 4) = 0 → P_LP_receive_33 st (st 13 7) (st 13 8)))
set_option maxRecDepth 20000 in
theorem j_LP_receive {E : plE} (X : plX E b_LN_receive "ProtectedLine$Line" 3 none 2 45) (a : Nat → Nat) (T : plS) (hQ : plRv E (plwC (plg E) a) T) (st : plS)  (hs : P_LP_receive st) (hk : T = K_LP_receive st) : plJ E 3 (plwC (plg E) a st) 0 0 [(0, .ref (a 13))] 0 [] := by
  unfold P_LP_receive at hs
  unfold K_LP_receive at hk
  refine j_aload_n (pc := 0) X d_LN_receive_0 rfl 0 rfl ?_
  refine get_LP_hasArrived (pc := 1) X fl_LN_42 d_LN_receive_1 ?_
  refine j_istore_n (pc := 4) X d_LN_receive_4 rfl (lv' := [(1, .int (st 13 7)), (0, .ref (a 13))]) (Nat.le_of_ble_eq_true rfl) rfl ?_
  refine j_aload_n (pc := 5) X d_LN_receive_5 rfl 1 rfl ?_
  refine get_LP_joinedArrived (pc := 6) X fl_LN_46 d_LN_receive_6 ?_
  refine j_istore_n (pc := 9) X d_LN_receive_9 rfl (lv' := [(2, .int (st 13 8)), (1, .int (st 13 7)), (0, .ref (a 13))]) (Nat.le_of_ble_eq_true rfl) rfl ?_
  refine j_aload_n (pc := 10) X d_LN_receive_10 rfl 2 rfl ?_
  refine j_aload_n (pc := 11) X d_LN_receive_11 rfl 2 rfl ?_
  refine get_LP_broken (pc := 12) X fl_LN_49 d_LN_receive_12 ?_
  refine j_if_ne (pc := 15) (tgt := 33) X d_LN_receive_15 rfl (fun hc => ?_) (fun hc => ?_)
  · have hk := hk.trans (if_neg hc)
    have hs := hs.2 hc
    refine j_sub [2, 1, 0] (lv' := [(0, .ref (a 13)), (1, .int (st 13 7)), (2, .int (st 13 8))]) rfl ?_
    exact j_LP_receive_33 X a T hQ st (st 13 7) (st 13 8) hs hk
  · have hk := hk.trans (if_pos hc)
    have hs := hs.1 hc
    refine j_aload_n (pc := 18) X d_LN_receive_18 rfl 2 rfl ?_
    refine get_LP_launched (pc := 19) X fl_LN_25 d_LN_receive_19 ?_
    refine j_aload_n (pc := 22) X d_LN_receive_22 rfl 2 rfl ?_
    refine get_LP_delay (pc := 23) X fl_LN_21 d_LN_receive_23 ?_
    refine j_icmp_le (pc := 26) (tgt := 33) X d_LN_receive_26 rfl (fun hc => ?_) (fun hc => ?_)
    · have hk := hk.trans (if_pos hc)
      have hs := hs.1 hc
      refine j_sub [2, 1, 0] (lv' := [(0, .ref (a 13)), (1, .int (st 13 7)), (2, .int (st 13 8))]) rfl ?_
      exact j_LP_receive_33 X a T hQ st (st 13 7) (st 13 8) hs hk
    · have hk := hk.trans (if_neg hc)
      have hs := hs.2 hc
      refine j_iconst (pc := 29) X d_LN_receive_29 ic_1 ?_
      refine j_goto (pc := 30) (tgt := 34) X d_LN_receive_30 rfl ?_
      refine j_sub [2, 1, 0] (lv' := [(0, .ref (a 13)), (1, .int (st 13 7)), (2, .int (st 13 8))]) rfl ?_
      exact j_LP_receive_34 X a T hQ st (st 13 7) (st 13 8) 1 hs hk
set_option maxRecDepth 20000 in
theorem c_LP_receive (g : plG) (a : Nat → Nat) (st : plS)  (hs : P_LP_receive st ) : plMv g y_LN_receive b_LN_receive 3 none 2 45 [.ref (a 13)] (plwC g a) st (K_LP_receive st ) := by
  refine plMv.of (own := "ProtectedLine$Line") (lv := [(0, .ref (a 13))]) rfl rfl (Nat.le_of_ble_eq_true rfl) rfl (fun E hE X hQ => ?_)
  subst hE
  exact j_LP_receive X a _ hQ st  hs rfl
def K_LB_hear_45 (st : plS) : plS := st
set_option maxRecDepth 20000 in
theorem j_LB_hear_45 {E : plE} (X : plX E b_LI_hear "ProtectedLine$Listener" 2 none 0 0) (a : Nat → Nat) (T : plS) (hQ : plRv E (plwC (plg E) a) T) (st : plS)  (hk : T = K_LB_hear_45 st) : plJ E 2 (plwC (plg E) a st) 0 0 [] 45 [] := by
  unfold K_LB_hear_45 at hk
  exact j_retv (pc := 45) X hQ d_LI_hear_45 hk
def K_LB_hear_27 (st : plS) (v1 : Int32) : plS := (if (st 20 2) < 3 then K_LB_hear_45 st else (if v1 = ((-1)) then K_LB_hear_45 st else K_LB_hear_45 (plUp st 20 0 v1)))
set_option maxRecDepth 20000 in
theorem j_LB_hear_27 {E : plE} (X : plX E b_LI_hear "ProtectedLine$Listener" 2 none 0 0) (a : Nat → Nat) (T : plS) (hQ : plRv E (plwC (plg E) a) T) (st : plS) (v1 : Int32) (hk : T = K_LB_hear_27 st v1) : plJ E 2 (plwC (plg E) a st) 0 0 [(0, .ref (a 20)), (1, .int v1)] 27 [] := by
  unfold K_LB_hear_27 at hk
  refine j_aload_n (pc := 27) X d_LI_hear_27 rfl 0 rfl ?_
  refine get_LB_row (pc := 28) X fl_LI_15 d_LI_hear_28 ?_
  refine j_iconst (pc := 31) X d_LI_hear_31 ic_3 ?_
  refine j_icmp_lt (pc := 32) (tgt := 45) X d_LI_hear_32 rfl (fun hc => ?_) (fun hc => ?_)
  · have hk := hk.trans (if_pos hc)
    refine j_sub [] (lv' := []) rfl ?_
    exact j_LB_hear_45 X a T hQ st hk
  · have hk := hk.trans (if_neg hc)
    refine j_iload_n (pc := 35) X d_LI_hear_35 rfl 1 rfl ?_
    refine j_iconst (pc := 36) X d_LI_hear_36 ic_m1 ?_
    refine j_icmp_eq (pc := 37) (tgt := 45) X d_LI_hear_37 rfl (fun hc => ?_) (fun hc => ?_)
    · have hk := hk.trans (if_pos hc)
      refine j_sub [] (lv' := []) rfl ?_
      exact j_LB_hear_45 X a T hQ st hk
    · have hk := hk.trans (if_neg hc)
      refine j_aload_n (pc := 40) X d_LI_hear_40 rfl 0 rfl ?_
      refine j_iload_n (pc := 41) X d_LI_hear_41 rfl 1 rfl ?_
      refine put_LB_accepted (pc := 42) X fl_LI_18 d_LI_hear_42 ?_
      refine j_sub [] (lv' := []) rfl ?_
      exact j_LB_hear_45 X a T hQ (plUp st 20 0 v1) hk
def K_LB_hear_22 (st : plS) (v1 : Int32) : plS := K_LB_hear_27 (plUp st 20 1 v1) v1
set_option maxRecDepth 20000 in
theorem j_LB_hear_22 {E : plE} (X : plX E b_LI_hear "ProtectedLine$Listener" 2 none 0 0) (a : Nat → Nat) (T : plS) (hQ : plRv E (plwC (plg E) a) T) (st : plS) (v1 : Int32) (hk : T = K_LB_hear_22 st v1) : plJ E 2 (plwC (plg E) a st) 0 0 [(0, .ref (a 20)), (1, .int v1)] 22 [] := by
  unfold K_LB_hear_22 at hk
  refine j_aload_n (pc := 22) X d_LI_hear_22 rfl 0 rfl ?_
  refine j_iload_n (pc := 23) X d_LI_hear_23 rfl 1 rfl ?_
  refine put_LB_latest (pc := 24) X fl_LI_9 d_LI_hear_24 ?_
  exact j_LB_hear_27 X a T hQ (plUp st 20 1 v1) v1 hk
def K_LB_hear_19 (st : plS) (v1 : Int32) (k0 : Int32) : plS := K_LB_hear_22 (plUp st 20 2 k0) v1
set_option maxRecDepth 20000 in
theorem j_LB_hear_19 {E : plE} (X : plX E b_LI_hear "ProtectedLine$Listener" 2 none 0 0) (a : Nat → Nat) (T : plS) (hQ : plRv E (plwC (plg E) a) T) (st : plS) (v1 : Int32) (k0 : Int32) (hk : T = K_LB_hear_19 st v1 k0) : plJ E 2 (plwC (plg E) a st) 0 0 [(0, .ref (a 20)), (1, .int v1)] 19 [.int k0, .ref (a 20)] := by
  unfold K_LB_hear_19 at hk
  refine put_LB_row (pc := 19) X fl_LI_15 d_LI_hear_19 ?_
  exact j_LB_hear_22 X a T hQ (plUp st 20 2 k0) v1 hk
def K_LB_hear (st : plS) (v1 : Int32) : plS := (if v1 = (st 20 1) then K_LB_hear_19 st v1 ((st 20 2) + 1) else K_LB_hear_19 st v1 1)
set_option maxRecDepth 20000 in
theorem j_LB_hear {E : plE} (X : plX E b_LI_hear "ProtectedLine$Listener" 2 none 0 0) (a : Nat → Nat) (T : plS) (hQ : plRv E (plwC (plg E) a) T) (st : plS) (v1 : Int32) (hk : T = K_LB_hear st v1) : plJ E 2 (plwC (plg E) a st) 0 0 [(0, .ref (a 20)), (1, .int v1)] 0 [] := by
  unfold K_LB_hear at hk
  refine j_aload_n (pc := 0) X d_LI_hear_0 rfl 0 rfl ?_
  refine j_iload_n (pc := 1) X d_LI_hear_1 rfl 1 rfl ?_
  refine j_aload_n (pc := 2) X d_LI_hear_2 rfl 0 rfl ?_
  refine get_LB_latest (pc := 3) X fl_LI_9 d_LI_hear_3 ?_
  refine j_icmp_ne (pc := 6) (tgt := 18) X d_LI_hear_6 rfl (fun hc => ?_) (fun hc => ?_)
  · have hk := hk.trans (if_neg hc)
    refine j_iconst (pc := 18) X d_LI_hear_18 ic_1 ?_
    exact j_LB_hear_19 X a T hQ st v1 1 hk
  · have hk := hk.trans (if_pos hc)
    refine j_aload_n (pc := 9) X d_LI_hear_9 rfl 0 rfl ?_
    refine get_LB_row (pc := 10) X fl_LI_15 d_LI_hear_10 ?_
    refine j_iconst (pc := 13) X d_LI_hear_13 ic_1 ?_
    refine j_iadd (pc := 14) X d_LI_hear_14 ?_
    refine j_goto (pc := 15) (tgt := 19) X d_LI_hear_15 rfl ?_
    exact j_LB_hear_19 X a T hQ st v1 ((st 20 2) + 1) hk
set_option maxRecDepth 20000 in
theorem c_LB_hear (g : plG) (a : Nat → Nat) (st : plS) (v1 : Int32) : plMv g y_LI_hear b_LI_hear 2 none 0 0 [.ref (a 20), .int v1] (plwC g a) st (K_LB_hear st v1) := by
  refine plMv.of (own := "ProtectedLine$Listener") (lv := [(0, .ref (a 20)), (1, .int v1)]) rfl rfl (Nat.le_of_ble_eq_true rfl) rfl (fun E hE X hQ => ?_)
  subst hE
  exact j_LB_hear X a _ hQ st v1 rfl
theorem d_LN_failed_0 : decode b_LN_failed 0 = .ok (.aload_n 0, 1) := by decide +kernel
theorem d_LN_failed_1 : decode b_LN_failed 1 = .ok (.getfield 84, 3) := by decide +kernel
theorem d_LN_failed_4 : decode b_LN_failed 4 = .ok (.iconst 2, 1) := by decide +kernel
theorem d_LN_failed_5 : decode b_LN_failed 5 = .ok (.if_icmp .eq (7), 3) := by decide +kernel
theorem d_LN_failed_8 : decode b_LN_failed 8 = .ok (.iconst 1, 1) := by decide +kernel
theorem d_LN_failed_9 : decode b_LN_failed 9 = .ok (.goto (4), 3) := by decide +kernel
theorem d_LN_failed_12 : decode b_LN_failed 12 = .ok (.iconst 0, 1) := by decide +kernel
theorem d_LN_failed_13 : decode b_LN_failed 13 = .ok (.ireturn, 1) := by decide +kernel
def K_LW_failed_13 (st : plS) (k0 : Int32) : Int32 := k0
def P_LW_failed_13 (st : plS) (k0 : Int32) : Prop := plB k0
set_option maxRecDepth 20000 in
theorem j_LW_failed_13 {E : plE} (X : plX E b_LN_failed "ProtectedLine$Line" 1 (some .boolean) 0 0) (a : Nat → Nat) (T : Int32) (st : plS) (hQ : plRp E (plwC (plg E) a) st T) (k0 : Int32) (hs : P_LW_failed_13 st k0) (hk : T = K_LW_failed_13 st k0) : plJ E 1 (plwC (plg E) a st) 0 0 [] 13 [.int k0] := by
  unfold P_LW_failed_13 at hs
  unfold K_LW_failed_13 at hk
  exact j_retzp (pc := 13) X hQ d_LN_failed_13 hs hk
def K_LW_failed (st : plS) : Int32 := (if (st 9 9) = 2 then K_LW_failed_13 st 0 else K_LW_failed_13 st 1)
def P_LW_failed (st : plS) : Prop := (((st 9 9) = 2 → P_LW_failed_13 st 0) ∧ (¬ (st 9 9) = 2 → P_LW_failed_13 st 1))
set_option maxRecDepth 20000 in
theorem j_LW_failed {E : plE} (X : plX E b_LN_failed "ProtectedLine$Line" 1 (some .boolean) 0 0) (a : Nat → Nat) (T : Int32) (st : plS) (hQ : plRp E (plwC (plg E) a) st T)  (hs : P_LW_failed st) (hk : T = K_LW_failed st) : plJ E 1 (plwC (plg E) a st) 0 0 [(0, .ref (a 9))] 0 [] := by
  unfold P_LW_failed at hs
  unfold K_LW_failed at hk
  refine j_aload_n (pc := 0) X d_LN_failed_0 rfl 0 rfl ?_
  refine get_LW_state (pc := 1) X fl_LN_84 d_LN_failed_1 ?_
  refine j_iconst (pc := 4) X d_LN_failed_4 ic_2 ?_
  refine j_icmp_eq (pc := 5) (tgt := 12) X d_LN_failed_5 rfl (fun hc => ?_) (fun hc => ?_)
  · have hk := hk.trans (if_pos hc)
    have hs := hs.1 hc
    refine j_iconst (pc := 12) X d_LN_failed_12 ic_0 ?_
    refine j_sub [] (lv' := []) rfl ?_
    exact j_LW_failed_13 X a T st hQ 0 hs hk
  · have hk := hk.trans (if_neg hc)
    have hs := hs.2 hc
    refine j_iconst (pc := 8) X d_LN_failed_8 ic_1 ?_
    refine j_goto (pc := 9) (tgt := 13) X d_LN_failed_9 rfl ?_
    refine j_sub [] (lv' := []) rfl ?_
    exact j_LW_failed_13 X a T st hQ 1 hs hk
set_option maxRecDepth 20000 in
theorem c_LW_failed (g : plG) (a : Nat → Nat) (st : plS)  (hs : P_LW_failed st ) : plMp g y_LN_failed b_LN_failed 1 (some .boolean) 0 0 [.ref (a 9)] (plwC g a) st (K_LW_failed st ) := by
  refine plMp.of (own := "ProtectedLine$Line") (lv := [(0, .ref (a 9))]) rfl rfl (Nat.le_of_ble_eq_true rfl) rfl (fun E hE X hQ => ?_)
  subst hE
  exact j_LW_failed X a _ st hQ  hs rfl
def K_LP_failed_13 (st : plS) (k0 : Int32) : Int32 := k0
def P_LP_failed_13 (st : plS) (k0 : Int32) : Prop := plB k0
set_option maxRecDepth 20000 in
theorem j_LP_failed_13 {E : plE} (X : plX E b_LN_failed "ProtectedLine$Line" 1 (some .boolean) 0 0) (a : Nat → Nat) (T : Int32) (st : plS) (hQ : plRp E (plwC (plg E) a) st T) (k0 : Int32) (hs : P_LP_failed_13 st k0) (hk : T = K_LP_failed_13 st k0) : plJ E 1 (plwC (plg E) a st) 0 0 [] 13 [.int k0] := by
  unfold P_LP_failed_13 at hs
  unfold K_LP_failed_13 at hk
  exact j_retzp (pc := 13) X hQ d_LN_failed_13 hs hk
def K_LP_failed (st : plS) : Int32 := (if (st 13 9) = 2 then K_LP_failed_13 st 0 else K_LP_failed_13 st 1)
def P_LP_failed (st : plS) : Prop := (((st 13 9) = 2 → P_LP_failed_13 st 0) ∧ (¬ (st 13 9) = 2 → P_LP_failed_13 st 1))
set_option maxRecDepth 20000 in
theorem j_LP_failed {E : plE} (X : plX E b_LN_failed "ProtectedLine$Line" 1 (some .boolean) 0 0) (a : Nat → Nat) (T : Int32) (st : plS) (hQ : plRp E (plwC (plg E) a) st T)  (hs : P_LP_failed st) (hk : T = K_LP_failed st) : plJ E 1 (plwC (plg E) a st) 0 0 [(0, .ref (a 13))] 0 [] := by
  unfold P_LP_failed at hs
  unfold K_LP_failed at hk
  refine j_aload_n (pc := 0) X d_LN_failed_0 rfl 0 rfl ?_
  refine get_LP_state (pc := 1) X fl_LN_84 d_LN_failed_1 ?_
  refine j_iconst (pc := 4) X d_LN_failed_4 ic_2 ?_
  refine j_icmp_eq (pc := 5) (tgt := 12) X d_LN_failed_5 rfl (fun hc => ?_) (fun hc => ?_)
  · have hk := hk.trans (if_pos hc)
    have hs := hs.1 hc
    refine j_iconst (pc := 12) X d_LN_failed_12 ic_0 ?_
    refine j_sub [] (lv' := []) rfl ?_
    exact j_LP_failed_13 X a T st hQ 0 hs hk
  · have hk := hk.trans (if_neg hc)
    have hs := hs.2 hc
    refine j_iconst (pc := 8) X d_LN_failed_8 ic_1 ?_
    refine j_goto (pc := 9) (tgt := 13) X d_LN_failed_9 rfl ?_
    refine j_sub [] (lv' := []) rfl ?_
    exact j_LP_failed_13 X a T st hQ 1 hs hk
set_option maxRecDepth 20000 in
theorem c_LP_failed (g : plG) (a : Nat → Nat) (st : plS)  (hs : P_LP_failed st ) : plMp g y_LN_failed b_LN_failed 1 (some .boolean) 0 0 [.ref (a 13)] (plwC g a) st (K_LP_failed st ) := by
  refine plMp.of (own := "ProtectedLine$Line") (lv := [(0, .ref (a 13))]) rfl rfl (Nat.le_of_ble_eq_true rfl) rfl (fun E hE X hQ => ?_)
  subst hE
  exact j_LP_failed X a _ st hQ  hs rfl
theorem d_SW_pressing_0 : decode b_SW_pressing 0 = .ok (.aload_n 0, 1) := by decide +kernel
theorem d_SW_pressing_1 : decode b_SW_pressing 1 = .ok (.getfield 43, 3) := by decide +kernel
theorem d_SW_pressing_4 : decode b_SW_pressing 4 = .ok (.iconst 3, 1) := by decide +kernel
theorem d_SW_pressing_5 : decode b_SW_pressing 5 = .ok (.if_icmp .eq (7), 3) := by decide +kernel
theorem d_SW_pressing_8 : decode b_SW_pressing 8 = .ok (.iload_n 1, 1) := by decide +kernel
theorem d_SW_pressing_9 : decode b_SW_pressing 9 = .ok (.ifCond .eq (5), 3) := by decide +kernel
theorem d_SW_pressing_12 : decode b_SW_pressing 12 = .ok (.iconst 5, 1) := by decide +kernel
theorem d_SW_pressing_13 : decode b_SW_pressing 13 = .ok (.ireturn, 1) := by decide +kernel
theorem d_SW_pressing_14 : decode b_SW_pressing 14 = .ok (.aload_n 0, 1) := by decide +kernel
theorem d_SW_pressing_15 : decode b_SW_pressing 15 = .ok (.getfield 43, 3) := by decide +kernel
theorem d_SW_pressing_18 : decode b_SW_pressing 18 = .ok (.iconst 2, 1) := by decide +kernel
theorem d_SW_pressing_19 : decode b_SW_pressing 19 = .ok (.if_icmp .ne (5), 3) := by decide +kernel
theorem d_SW_pressing_22 : decode b_SW_pressing 22 = .ok (.iconst 4, 1) := by decide +kernel
theorem d_SW_pressing_23 : decode b_SW_pressing 23 = .ok (.ireturn, 1) := by decide +kernel
theorem d_SW_pressing_24 : decode b_SW_pressing 24 = .ok (.aload_n 0, 1) := by decide +kernel
theorem d_SW_pressing_25 : decode b_SW_pressing 25 = .ok (.getfield 23, 3) := by decide +kernel
theorem d_SW_pressing_28 : decode b_SW_pressing 28 = .ok (.aload_n 0, 1) := by decide +kernel
theorem d_SW_pressing_29 : decode b_SW_pressing 29 = .ok (.getfield 16, 3) := by decide +kernel
theorem d_SW_pressing_32 : decode b_SW_pressing 32 = .ok (.if_icmp .le (5), 3) := by decide +kernel
theorem d_SW_pressing_35 : decode b_SW_pressing 35 = .ok (.iconst 3, 1) := by decide +kernel
theorem d_SW_pressing_36 : decode b_SW_pressing 36 = .ok (.ireturn, 1) := by decide +kernel
theorem d_SW_pressing_37 : decode b_SW_pressing 37 = .ok (.aload_n 0, 1) := by decide +kernel
theorem d_SW_pressing_38 : decode b_SW_pressing 38 = .ok (.getfield 43, 3) := by decide +kernel
theorem d_SW_pressing_41 : decode b_SW_pressing 41 = .ok (.iconst 1, 1) := by decide +kernel
theorem d_SW_pressing_42 : decode b_SW_pressing 42 = .ok (.if_icmp .ne (7), 3) := by decide +kernel
theorem d_SW_pressing_45 : decode b_SW_pressing 45 = .ok (.iconst 2, 1) := by decide +kernel
theorem d_SW_pressing_46 : decode b_SW_pressing 46 = .ok (.goto (4), 3) := by decide +kernel
theorem d_SW_pressing_49 : decode b_SW_pressing 49 = .ok (.iconst 0, 1) := by decide +kernel
theorem d_SW_pressing_50 : decode b_SW_pressing 50 = .ok (.ireturn, 1) := by decide +kernel
def K_SW_pressing_12 (st : plS) : Int32 := 5
set_option maxRecDepth 20000 in
theorem j_SW_pressing_12 {E : plE} (X : plX E b_SW_pressing "ProtectedLine$Switch" 2 (some .int) 0 0) (a : Nat → Nat) (T : Int32) (st : plS) (hQ : plRp E (plwC (plg E) a) st T)  (hk : T = K_SW_pressing_12 st) : plJ E 2 (plwC (plg E) a st) 0 0 [] 12 [] := by
  unfold K_SW_pressing_12 at hk
  refine j_iconst (pc := 12) X d_SW_pressing_12 ic_5 ?_
  exact j_retip (pc := 13) X hQ d_SW_pressing_13 hk
def K_SW_pressing_50 (st : plS) (k0 : Int32) : Int32 := k0
set_option maxRecDepth 20000 in
theorem j_SW_pressing_50 {E : plE} (X : plX E b_SW_pressing "ProtectedLine$Switch" 2 (some .int) 0 0) (a : Nat → Nat) (T : Int32) (st : plS) (hQ : plRp E (plwC (plg E) a) st T) (k0 : Int32) (hk : T = K_SW_pressing_50 st k0) : plJ E 2 (plwC (plg E) a st) 0 0 [] 50 [.int k0] := by
  unfold K_SW_pressing_50 at hk
  exact j_retip (pc := 50) X hQ d_SW_pressing_50 hk
def K_SW_pressing (st : plS) (v1 : Int32) : Int32 := (if (st 19 3) = 3 then K_SW_pressing_12 st else (if v1 = 0 then (if (st 19 3) = 2 then 4 else (if (st 19 4) ≤ (st 19 0) then (if (st 19 3) = 1 then K_SW_pressing_50 st 2 else K_SW_pressing_50 st 0) else 3)) else K_SW_pressing_12 st))
set_option maxRecDepth 20000 in
theorem j_SW_pressing {E : plE} (X : plX E b_SW_pressing "ProtectedLine$Switch" 2 (some .int) 0 0) (a : Nat → Nat) (T : Int32) (st : plS) (hQ : plRp E (plwC (plg E) a) st T) (v1 : Int32) (hk : T = K_SW_pressing st v1) : plJ E 2 (plwC (plg E) a st) 0 0 [(0, .ref (a 19)), (1, .int v1)] 0 [] := by
  unfold K_SW_pressing at hk
  refine j_aload_n (pc := 0) X d_SW_pressing_0 rfl 0 rfl ?_
  refine get_SW_order (pc := 1) X fl_SW_43 d_SW_pressing_1 ?_
  refine j_iconst (pc := 4) X d_SW_pressing_4 ic_3 ?_
  refine j_icmp_eq (pc := 5) (tgt := 12) X d_SW_pressing_5 rfl (fun hc => ?_) (fun hc => ?_)
  · have hk := hk.trans (if_pos hc)
    refine j_sub [] (lv' := []) rfl ?_
    exact j_SW_pressing_12 X a T st hQ hk
  · have hk := hk.trans (if_neg hc)
    refine j_iload_n (pc := 8) X d_SW_pressing_8 rfl 1 rfl ?_
    refine j_if_eq (pc := 9) (tgt := 14) X d_SW_pressing_9 rfl (fun hc => ?_) (fun hc => ?_)
    · have hk := hk.trans (if_pos hc)
      refine j_aload_n (pc := 14) X d_SW_pressing_14 rfl 0 rfl ?_
      refine get_SW_order (pc := 15) X fl_SW_43 d_SW_pressing_15 ?_
      refine j_iconst (pc := 18) X d_SW_pressing_18 ic_2 ?_
      refine j_icmp_ne (pc := 19) (tgt := 24) X d_SW_pressing_19 rfl (fun hc => ?_) (fun hc => ?_)
      · have hk := hk.trans (if_neg hc)
        refine j_aload_n (pc := 24) X d_SW_pressing_24 rfl 0 rfl ?_
        refine get_SW_failedFor (pc := 25) X fl_SW_23 d_SW_pressing_25 ?_
        refine j_aload_n (pc := 28) X d_SW_pressing_28 rfl 0 rfl ?_
        refine get_SW_hold (pc := 29) X fl_SW_16 d_SW_pressing_29 ?_
        refine j_icmp_le (pc := 32) (tgt := 37) X d_SW_pressing_32 rfl (fun hc => ?_) (fun hc => ?_)
        · have hk := hk.trans (if_pos hc)
          refine j_aload_n (pc := 37) X d_SW_pressing_37 rfl 0 rfl ?_
          refine get_SW_order (pc := 38) X fl_SW_43 d_SW_pressing_38 ?_
          refine j_iconst (pc := 41) X d_SW_pressing_41 ic_1 ?_
          refine j_icmp_ne (pc := 42) (tgt := 49) X d_SW_pressing_42 rfl (fun hc => ?_) (fun hc => ?_)
          · have hk := hk.trans (if_neg hc)
            refine j_iconst (pc := 49) X d_SW_pressing_49 ic_0 ?_
            refine j_sub [] (lv' := []) rfl ?_
            exact j_SW_pressing_50 X a T st hQ 0 hk
          · have hk := hk.trans (if_pos hc)
            refine j_iconst (pc := 45) X d_SW_pressing_45 ic_2 ?_
            refine j_goto (pc := 46) (tgt := 50) X d_SW_pressing_46 rfl ?_
            refine j_sub [] (lv' := []) rfl ?_
            exact j_SW_pressing_50 X a T st hQ 2 hk
        · have hk := hk.trans (if_neg hc)
          refine j_iconst (pc := 35) X d_SW_pressing_35 ic_3 ?_
          exact j_retip (pc := 36) X hQ d_SW_pressing_36 hk
      · have hk := hk.trans (if_pos hc)
        refine j_iconst (pc := 22) X d_SW_pressing_22 ic_4 ?_
        exact j_retip (pc := 23) X hQ d_SW_pressing_23 hk
    · have hk := hk.trans (if_neg hc)
      refine j_sub [] (lv' := []) rfl ?_
      exact j_SW_pressing_12 X a T st hQ hk
set_option maxRecDepth 20000 in
theorem c_SW_pressing (g : plG) (a : Nat → Nat) (st : plS) (v1 : Int32) : plMp g y_SW_pressing b_SW_pressing 2 (some .int) 0 0 [.ref (a 19), .int v1] (plwC g a) st (K_SW_pressing st v1) := by
  refine plMp.of (own := "ProtectedLine$Switch") (lv := [(0, .ref (a 19)), (1, .int v1)]) rfl rfl (Nat.le_of_ble_eq_true rfl) rfl (fun E hE X hQ => ?_)
  subst hE
  exact j_SW_pressing X a _ st hQ v1 rfl
theorem d_SW_waitOn_0 : decode b_SW_waitOn 0 = .ok (.aload_n 0, 1) := by decide +kernel
theorem d_SW_waitOn_1 : decode b_SW_waitOn 1 = .ok (.getfield 34, 3) := by decide +kernel
theorem d_SW_waitOn_4 : decode b_SW_waitOn 4 = .ok (.iconst 3, 1) := by decide +kernel
theorem d_SW_waitOn_5 : decode b_SW_waitOn 5 = .ok (.if_icmp .ne (14), 3) := by decide +kernel
theorem d_SW_waitOn_8 : decode b_SW_waitOn 8 = .ok (.aload_n 0, 1) := by decide +kernel
theorem d_SW_waitOn_9 : decode b_SW_waitOn 9 = .ok (.aload_n 0, 1) := by decide +kernel
theorem d_SW_waitOn_10 : decode b_SW_waitOn 10 = .ok (.getfield 20, 3) := by decide +kernel
theorem d_SW_waitOn_13 : decode b_SW_waitOn 13 = .ok (.putfield 46, 3) := by decide +kernel
theorem d_SW_waitOn_16 : decode b_SW_waitOn 16 = .ok (.goto (16), 3) := by decide +kernel
theorem d_SW_waitOn_19 : decode b_SW_waitOn 19 = .ok (.aload_n 0, 1) := by decide +kernel
theorem d_SW_waitOn_20 : decode b_SW_waitOn 20 = .ok (.getfield 34, 3) := by decide +kernel
theorem d_SW_waitOn_23 : decode b_SW_waitOn 23 = .ok (.iconst 1, 1) := by decide +kernel
theorem d_SW_waitOn_24 : decode b_SW_waitOn 24 = .ok (.if_icmp .eq (8), 3) := by decide +kernel
theorem d_SW_waitOn_27 : decode b_SW_waitOn 27 = .ok (.aload_n 0, 1) := by decide +kernel
theorem d_SW_waitOn_28 : decode b_SW_waitOn 28 = .ok (.iconst 0, 1) := by decide +kernel
theorem d_SW_waitOn_29 : decode b_SW_waitOn 29 = .ok (.putfield 46, 3) := by decide +kernel
theorem d_SW_waitOn_32 : decode b_SW_waitOn 32 = .ok (.aload_n 0, 1) := by decide +kernel
theorem d_SW_waitOn_33 : decode b_SW_waitOn 33 = .ok (.getfield 46, 3) := by decide +kernel
theorem d_SW_waitOn_36 : decode b_SW_waitOn 36 = .ok (.ifCond .ne (5), 3) := by decide +kernel
theorem d_SW_waitOn_39 : decode b_SW_waitOn 39 = .ok (.iconst 0, 1) := by decide +kernel
theorem d_SW_waitOn_40 : decode b_SW_waitOn 40 = .ok (.ireturn, 1) := by decide +kernel
theorem d_SW_waitOn_41 : decode b_SW_waitOn 41 = .ok (.aload_n 0, 1) := by decide +kernel
theorem d_SW_waitOn_42 : decode b_SW_waitOn 42 = .ok (.dup, 1) := by decide +kernel
theorem d_SW_waitOn_43 : decode b_SW_waitOn 43 = .ok (.getfield 46, 3) := by decide +kernel
theorem d_SW_waitOn_46 : decode b_SW_waitOn 46 = .ok (.iconst 1, 1) := by decide +kernel
theorem d_SW_waitOn_47 : decode b_SW_waitOn 47 = .ok (.isub, 1) := by decide +kernel
theorem d_SW_waitOn_48 : decode b_SW_waitOn 48 = .ok (.putfield 46, 3) := by decide +kernel
theorem d_SW_waitOn_51 : decode b_SW_waitOn 51 = .ok (.iconst 1, 1) := by decide +kernel
theorem d_SW_waitOn_52 : decode b_SW_waitOn 52 = .ok (.ireturn, 1) := by decide +kernel
def K_SW_waitOn_32 (st : plS) : Int32 × plS := (if (st 19 5) = 0 then (0, st) else (1, plUp st 19 5 ((st 19 5) - 1)))
set_option maxRecDepth 20000 in
theorem j_SW_waitOn_32 {E : plE} (X : plX E b_SW_waitOn "ProtectedLine$Switch" 1 (some .int) 0 0) (a : Nat → Nat) (T : Int32 × plS) (hQ : plRi E (plwC (plg E) a) T) (st : plS)  (hk : T = K_SW_waitOn_32 st) : plJ E 1 (plwC (plg E) a st) 0 0 [(0, .ref (a 19))] 32 [] := by
  unfold K_SW_waitOn_32 at hk
  refine j_aload_n (pc := 32) X d_SW_waitOn_32 rfl 0 rfl ?_
  refine get_SW_waitLeft (pc := 33) X fl_SW_46 d_SW_waitOn_33 ?_
  refine j_if_ne (pc := 36) (tgt := 41) X d_SW_waitOn_36 rfl (fun hc => ?_) (fun hc => ?_)
  · have hk := hk.trans (if_neg hc)
    refine j_aload_n (pc := 41) X d_SW_waitOn_41 rfl 0 rfl ?_
    refine j_dup (pc := 42) X d_SW_waitOn_42 rfl ?_
    refine get_SW_waitLeft (pc := 43) X fl_SW_46 d_SW_waitOn_43 ?_
    refine j_iconst (pc := 46) X d_SW_waitOn_46 ic_1 ?_
    refine j_isub (pc := 47) X d_SW_waitOn_47 ?_
    refine put_SW_waitLeft (pc := 48) X fl_SW_46 d_SW_waitOn_48 ?_
    refine j_iconst (pc := 51) X d_SW_waitOn_51 ic_1 ?_
    exact j_reti (pc := 52) X hQ d_SW_waitOn_52 hk
  · have hk := hk.trans (if_pos hc)
    refine j_iconst (pc := 39) X d_SW_waitOn_39 ic_0 ?_
    exact j_reti (pc := 40) X hQ d_SW_waitOn_40 hk
def K_SW_waitOn (st : plS) : Int32 × plS := (if (st 19 6) = 3 then K_SW_waitOn_32 (plUp st 19 5 (st 19 1)) else (if (st 19 6) = 1 then K_SW_waitOn_32 st else K_SW_waitOn_32 (plUp st 19 5 0)))
set_option maxRecDepth 20000 in
theorem j_SW_waitOn {E : plE} (X : plX E b_SW_waitOn "ProtectedLine$Switch" 1 (some .int) 0 0) (a : Nat → Nat) (T : Int32 × plS) (hQ : plRi E (plwC (plg E) a) T) (st : plS)  (hk : T = K_SW_waitOn st) : plJ E 1 (plwC (plg E) a st) 0 0 [(0, .ref (a 19))] 0 [] := by
  unfold K_SW_waitOn at hk
  refine j_aload_n (pc := 0) X d_SW_waitOn_0 rfl 0 rfl ?_
  refine get_SW_asked (pc := 1) X fl_SW_34 d_SW_waitOn_1 ?_
  refine j_iconst (pc := 4) X d_SW_waitOn_4 ic_3 ?_
  refine j_icmp_ne (pc := 5) (tgt := 19) X d_SW_waitOn_5 rfl (fun hc => ?_) (fun hc => ?_)
  · have hk := hk.trans (if_neg hc)
    refine j_aload_n (pc := 19) X d_SW_waitOn_19 rfl 0 rfl ?_
    refine get_SW_asked (pc := 20) X fl_SW_34 d_SW_waitOn_20 ?_
    refine j_iconst (pc := 23) X d_SW_waitOn_23 ic_1 ?_
    refine j_icmp_eq (pc := 24) (tgt := 32) X d_SW_waitOn_24 rfl (fun hc => ?_) (fun hc => ?_)
    · have hk := hk.trans (if_pos hc)
      exact j_SW_waitOn_32 X a T hQ st hk
    · have hk := hk.trans (if_neg hc)
      refine j_aload_n (pc := 27) X d_SW_waitOn_27 rfl 0 rfl ?_
      refine j_iconst (pc := 28) X d_SW_waitOn_28 ic_0 ?_
      refine put_SW_waitLeft (pc := 29) X fl_SW_46 d_SW_waitOn_29 ?_
      exact j_SW_waitOn_32 X a T hQ (plUp st 19 5 0) hk
  · have hk := hk.trans (if_pos hc)
    refine j_aload_n (pc := 8) X d_SW_waitOn_8 rfl 0 rfl ?_
    refine j_aload_n (pc := 9) X d_SW_waitOn_9 rfl 0 rfl ?_
    refine get_SW_wait (pc := 10) X fl_SW_20 d_SW_waitOn_10 ?_
    refine put_SW_waitLeft (pc := 13) X fl_SW_46 d_SW_waitOn_13 ?_
    refine j_goto (pc := 16) (tgt := 32) X d_SW_waitOn_16 rfl ?_
    exact j_SW_waitOn_32 X a T hQ (plUp st 19 5 (st 19 1)) hk
set_option maxRecDepth 20000 in
theorem c_SW_waitOn (g : plG) (a : Nat → Nat) (st : plS)  : plMi g y_SW_waitOn b_SW_waitOn 1 (some .int) 0 0 [.ref (a 19)] (plwC g a) st (K_SW_waitOn st ) := by
  refine plMi.of (own := "ProtectedLine$Switch") (lv := [(0, .ref (a 19))]) rfl rfl (Nat.le_of_ble_eq_true rfl) rfl (fun E hE X hQ => ?_)
  subst hE
  exact j_SW_waitOn X a _ hQ st  rfl
