def K_LP_launch_NAc_73L (st : plS) (v3 : Int32) (v4 : Int32) : Bool × (plS × Int32) := (if 12 ≤ v4 then (false, (st, v4)) else (true, (plUp st 14 (plIx (v3 + v4)) ((st 8 (plIx (v4 - 4))) ^^^ (plROW (plIx (v4 - 2)))), v4 + 1)))
def P_LP_launch_NAc_73L (st : plS) (v3 : Int32) (v4 : Int32) : Prop := (¬ 12 ≤ v4 → (vp_in (v4 - 4) 8 ∧ (vp_in (v4 - 2) 10 ∧ vp_in (v3 + v4) 96)))
set_option maxRecDepth 20000 in
theorem j_LP_launch_NAc_73L {E : plE} (X : plX E b_LN_launch "ProtectedLine$Line" 5 none 1 23) (a : Nat → Nat) (T : Bool × (plS × Int32)) (v3 : Int32) (hb : ∀ (c0 : plS) (c1 : Int32), T = (true, (c0, c1)) → plJ E 5 (plwC (plg E) a c0) 0 0 [(0, .ref (a 13)), (2, .ref (a 8)), (3, .int v3), (4, .int c1)] 73 []) (hx : ∀ (c0 : plS) (c1 : Int32), T = (false, (c0, c1)) → plJ E 5 (plwC (plg E) a c0) 0 0 [(0, .ref (a 13)), (2, .ref (a 8)), (3, .int v3), (4, .int c1)] 110 []) (st : plS) (v4 : Int32) (hs : P_LP_launch_NAc_73L st v3 v4) (hk : T = K_LP_launch_NAc_73L st v3 v4) : plJ E 5 (plwC (plg E) a st) 0 0 [(0, .ref (a 13)), (2, .ref (a 8)), (3, .int v3), (4, .int v4)] 73 [] := by
  unfold P_LP_launch_NAc_73L at hs
  unfold K_LP_launch_NAc_73L at hk
  refine j_iload (pc := 73) X d_LN_launch_73 3 rfl ?_
  refine j_bipush (pc := 75) X d_LN_launch_75 bp_12 ?_
  refine j_icmp_ge (pc := 77) (tgt := 110) X d_LN_launch_77 rfl (fun hc => ?_) (fun hc => ?_)
  · have hk := hk.trans (if_pos hc)
    exact hx st v4 hk
  · have hk := hk.trans (if_neg hc)
    have hs := hs hc
    refine j_aload_n (pc := 80) X d_LN_launch_80 rfl 0 rfl ?_
    refine get_LP_underWay (pc := 81) X fl_LN_11 d_LN_launch_81 ?_
    refine j_iload_n (pc := 84) X d_LN_launch_84 rfl 2 rfl ?_
    refine j_iload (pc := 85) X d_LN_launch_85 3 rfl ?_
    refine j_iadd (pc := 87) X d_LN_launch_87 ?_
    refine j_aload_n (pc := 88) X d_LN_launch_88 rfl 1 rfl ?_
    refine j_iload (pc := 89) X d_LN_launch_89 3 rfl ?_
    refine j_iconst (pc := 91) X d_LN_launch_91 ic_4 ?_
    refine j_isub (pc := 92) X d_LN_launch_92 ?_
    refine ald_NAc (pc := 93) X hs.1 d_LN_launch_93 ?_
    have hs := hs.2
    refine j_getROW (pc := 94) X fl_LN_35 d_LN_launch_94 ?_
    refine j_iload (pc := 97) X d_LN_launch_97 3 rfl ?_
    refine j_iconst (pc := 99) X d_LN_launch_99 ic_2 ?_
    refine j_isub (pc := 100) X d_LN_launch_100 ?_
    refine j_aldROW (pc := 101) X hs.1 d_LN_launch_101 ?_
    have hs := hs.2
    refine j_ixor (pc := 102) X d_LN_launch_102 ?_
    refine ast_LPu (pc := 103) X hs d_LN_launch_103 ?_
    refine j_iinc (pc := 104) X d_LN_launch_104 3 rfl ic_1 (lv' := [(4, .int (v4 + 1)), (0, .ref (a 13)), (2, .ref (a 8)), (3, .int v3)]) (Nat.le_of_ble_eq_true rfl) rfl ?_
    refine j_goto (pc := 107) (tgt := 73) X d_LN_launch_107 rfl ?_
    refine j_sub [1, 2, 3, 0] (lv' := [(0, .ref (a 13)), (2, .ref (a 8)), (3, .int v3), (4, .int (v4 + 1))]) rfl ?_
    exact hb (plUp st 14 (plIx (v3 + v4)) ((st 8 (plIx (v4 - 4))) ^^^ (plROW (plIx (v4 - 2))))) (v4 + 1) hk
def F_LP_launch_NAc_73 (v3 : Int32) (c : plS × Int32) : Bool × (plS × Int32) := K_LP_launch_NAc_73L c.1 v3 c.2
def G_LP_launch_NAc_73 (v3 : Int32) (c : plS × Int32) : Prop := P_LP_launch_NAc_73L c.1 v3 c.2
def K_LP_launch_NAc_73X (v3 : Int32) (c : plS × Int32) : plS := plUp c.1 13 3 (K_LN_joinedFrom_LPu c.1 v3)
def P_LP_launch_NAc_73X (v3 : Int32) (c : plS × Int32) : Prop := P_LN_joinedFrom_LPu c.1 v3
set_option maxRecDepth 20000 in
theorem j_LP_launch_NAc_73X {E : plE} (X : plX E b_LN_launch "ProtectedLine$Line" 5 none 1 23) (a : Nat → Nat) (T : plS) (hQ : plRv E (plwC (plg E) a) T) (v3 : Int32) (c : plS × Int32) (hs : P_LP_launch_NAc_73X v3 c) (hk : T = K_LP_launch_NAc_73X v3 c) : plJ E 5 (plwC (plg E) a c.1) 0 0 [(0, .ref (a 13)), (2, .ref (a 8)), (3, .int v3), (4, .int c.2)] 110 [] := by
  unfold P_LP_launch_NAc_73X at hs
  unfold K_LP_launch_NAc_73X at hk
  refine j_aload_n (pc := 110) X d_LN_launch_110 rfl 0 rfl ?_
  refine j_aload_n (pc := 111) X d_LN_launch_111 rfl 0 rfl ?_
  refine get_LP_underWay (pc := 112) X fl_LN_11 d_LN_launch_112 ?_
  refine j_iload_n (pc := 115) X d_LN_launch_115 rfl 2 rfl ?_
  refine j_callSp (pc := 116) (As := [.ref (a 14), .int v3]) (rest := [.ref (a 13)]) X (c_LN_joinedFrom_LPu (plg E) a c.1 v3 hs) ml_LN_38 ⟨Nat.le_of_ble_eq_true rfl, Nat.le_of_ble_eq_true rfl⟩ rfl rfl (Nat.le_of_ble_eq_true rfl) d_LN_launch_116 ?_
  refine put_LP_joinedSent (pc := 119) X fl_LN_32 d_LN_launch_119 ?_
  exact j_retv (pc := 122) X hQ d_LN_launch_122 hk
def K_LP_launch_NAc_55 (st : plS) (v1 : Int32) (v3 : Int32) : plS := K_LP_launch_NAc_73X v3 (lpR (F_LP_launch_NAc_73 v3) 64 (plUp st 14 (plIx (v3 + 3)) (v1 ^^^ (plROW (plIx 1))), 4))
def P_LP_launch_NAc_55 (st : plS) (v1 : Int32) (v3 : Int32) : Prop := (vp_in (v3 + 3) 96 ∧ (lpP (G_LP_launch_NAc_73 v3) (F_LP_launch_NAc_73 v3) 64 (plUp st 14 (plIx (v3 + 3)) (v1 ^^^ (plROW (plIx 1))), 4) ∧ P_LP_launch_NAc_73X v3 (lpR (F_LP_launch_NAc_73 v3) 64 (plUp st 14 (plIx (v3 + 3)) (v1 ^^^ (plROW (plIx 1))), 4))))
set_option maxRecDepth 20000 in
theorem j_LP_launch_NAc_55 {E : plE} (X : plX E b_LN_launch "ProtectedLine$Line" 5 none 1 23) (a : Nat → Nat) (T : plS) (hQ : plRv E (plwC (plg E) a) T) (st : plS) (v1 : Int32) (v3 : Int32) (hs : P_LP_launch_NAc_55 st v1 v3) (hk : T = K_LP_launch_NAc_55 st v1 v3) : plJ E 5 (plwC (plg E) a st) 0 0 [(0, .ref (a 13)), (1, .int v1), (2, .ref (a 8)), (3, .int v3)] 55 [] := by
  unfold P_LP_launch_NAc_55 at hs
  unfold K_LP_launch_NAc_55 at hk
  refine j_aload_n (pc := 55) X d_LN_launch_55 rfl 0 rfl ?_
  refine get_LP_underWay (pc := 56) X fl_LN_11 d_LN_launch_56 ?_
  refine j_iload_n (pc := 59) X d_LN_launch_59 rfl 3 rfl ?_
  refine j_iconst (pc := 60) X d_LN_launch_60 ic_3 ?_
  refine j_iadd (pc := 61) X d_LN_launch_61 ?_
  refine j_iload_n (pc := 62) X d_LN_launch_62 rfl 1 rfl ?_
  refine j_getROW (pc := 63) X fl_LN_35 d_LN_launch_63 ?_
  refine j_iconst (pc := 66) X d_LN_launch_66 ic_1 ?_
  refine j_aldROW (pc := 67) X vi_1_10 d_LN_launch_67 ?_
  refine j_ixor (pc := 68) X d_LN_launch_68 ?_
  refine ast_LPu (pc := 69) X hs.1 d_LN_launch_69 ?_
  have hs := hs.2
  refine j_iconst (pc := 70) X d_LN_launch_70 ic_4 ?_
  refine j_istore (pc := 71) X d_LN_launch_71 (lv' := [(4, .int 4), (0, .ref (a 13)), (1, .int v1), (2, .ref (a 8)), (3, .int v3)]) (Nat.le_of_ble_eq_true rfl) rfl ?_
  refine j_sub [1, 3, 4, 0] (lv' := [(0, .ref (a 13)), (2, .ref (a 8)), (3, .int v3), (4, .int 4)]) rfl ?_
  exact lpJ (G_LP_launch_NAc_73 v3) (F_LP_launch_NAc_73 v3) (fun c => plJ E 5 (plwC (plg E) a c.1) 0 0 [(0, .ref (a 13)), (2, .ref (a 8)), (3, .int v3), (4, .int c.2)] 73 []) (fun c => plJ E 5 (plwC (plg E) a c.1) 0 0 [(0, .ref (a 13)), (2, .ref (a 8)), (3, .int v3), (4, .int c.2)] 110 []) (fun c hp h1 h2 => j_LP_launch_NAc_73L X a (F_LP_launch_NAc_73 v3 c) v3 (fun c0 c1 => h1 (c0, c1)) (fun c0 c1 => h2 (c0, c1)) c.1 c.2 hp rfl) 64 (plUp st 14 (plIx (v3 + 3)) (v1 ^^^ (plROW (plIx 1))), 4) hs.1 (j_LP_launch_NAc_73X X a T hQ v3 (lpR (F_LP_launch_NAc_73 v3) 64 (plUp st 14 (plIx (v3 + 3)) (v1 ^^^ (plROW (plIx 1))), 4)) hs.2 hk)
def K_LP_launch_NAc_37 (st : plS) (v1 : Int32) (v3 : Int32) : plS := K_LP_launch_NAc_55 (plUp st 14 (plIx (v3 + 2)) ((st 13 3) ^^^ (plROW (plIx 0)))) v1 v3
def P_LP_launch_NAc_37 (st : plS) (v1 : Int32) (v3 : Int32) : Prop := (vp_in (v3 + 2) 96 ∧ P_LP_launch_NAc_55 (plUp st 14 (plIx (v3 + 2)) ((st 13 3) ^^^ (plROW (plIx 0)))) v1 v3)
set_option maxRecDepth 20000 in
theorem j_LP_launch_NAc_37 {E : plE} (X : plX E b_LN_launch "ProtectedLine$Line" 5 none 1 23) (a : Nat → Nat) (T : plS) (hQ : plRv E (plwC (plg E) a) T) (st : plS) (v1 : Int32) (v3 : Int32) (hs : P_LP_launch_NAc_37 st v1 v3) (hk : T = K_LP_launch_NAc_37 st v1 v3) : plJ E 5 (plwC (plg E) a st) 0 0 [(0, .ref (a 13)), (1, .int v1), (2, .ref (a 8)), (3, .int v3)] 37 [] := by
  unfold P_LP_launch_NAc_37 at hs
  unfold K_LP_launch_NAc_37 at hk
  refine j_aload_n (pc := 37) X d_LN_launch_37 rfl 0 rfl ?_
  refine get_LP_underWay (pc := 38) X fl_LN_11 d_LN_launch_38 ?_
  refine j_iload_n (pc := 41) X d_LN_launch_41 rfl 3 rfl ?_
  refine j_iconst (pc := 42) X d_LN_launch_42 ic_2 ?_
  refine j_iadd (pc := 43) X d_LN_launch_43 ?_
  refine j_aload_n (pc := 44) X d_LN_launch_44 rfl 0 rfl ?_
  refine get_LP_joinedSent (pc := 45) X fl_LN_32 d_LN_launch_45 ?_
  refine j_getROW (pc := 48) X fl_LN_35 d_LN_launch_48 ?_
  refine j_iconst (pc := 51) X d_LN_launch_51 ic_0 ?_
  refine j_aldROW (pc := 52) X vi_0_10 d_LN_launch_52 ?_
  refine j_ixor (pc := 53) X d_LN_launch_53 ?_
  refine ast_LPu (pc := 54) X hs.1 d_LN_launch_54 ?_
  have hs := hs.2
  exact j_LP_launch_NAc_55 X a T hQ (plUp st 14 (plIx (v3 + 2)) ((st 13 3) ^^^ (plROW (plIx 0)))) v1 v3 hs hk
def K_LP_launch_NAc_27 (st : plS) (v1 : Int32) (v3 : Int32) : plS := K_LP_launch_NAc_37 (plUp st 14 (plIx (v3 + 1)) 40) v1 v3
def P_LP_launch_NAc_27 (st : plS) (v1 : Int32) (v3 : Int32) : Prop := (vp_in (v3 + 1) 96 ∧ P_LP_launch_NAc_37 (plUp st 14 (plIx (v3 + 1)) 40) v1 v3)
set_option maxRecDepth 20000 in
theorem j_LP_launch_NAc_27 {E : plE} (X : plX E b_LN_launch "ProtectedLine$Line" 5 none 1 23) (a : Nat → Nat) (T : plS) (hQ : plRv E (plwC (plg E) a) T) (st : plS) (v1 : Int32) (v3 : Int32) (hs : P_LP_launch_NAc_27 st v1 v3) (hk : T = K_LP_launch_NAc_27 st v1 v3) : plJ E 5 (plwC (plg E) a st) 0 0 [(0, .ref (a 13)), (1, .int v1), (2, .ref (a 8)), (3, .int v3)] 27 [] := by
  unfold P_LP_launch_NAc_27 at hs
  unfold K_LP_launch_NAc_27 at hk
  refine j_aload_n (pc := 27) X d_LN_launch_27 rfl 0 rfl ?_
  refine get_LP_underWay (pc := 28) X fl_LN_11 d_LN_launch_28 ?_
  refine j_iload_n (pc := 31) X d_LN_launch_31 rfl 3 rfl ?_
  refine j_iconst (pc := 32) X d_LN_launch_32 ic_1 ?_
  refine j_iadd (pc := 33) X d_LN_launch_33 ?_
  refine j_bipush (pc := 34) X d_LN_launch_34 bp_40 ?_
  refine ast_LPu (pc := 36) X hs.1 d_LN_launch_36 ?_
  have hs := hs.2
  exact j_LP_launch_NAc_37 X a T hQ (plUp st 14 (plIx (v3 + 1)) 40) v1 v3 hs hk
def K_LP_launch_NAc_18 (st : plS) (v1 : Int32) (v3 : Int32) : plS := K_LP_launch_NAc_27 (plUp st 14 (plIx v3) 246) v1 v3
def P_LP_launch_NAc_18 (st : plS) (v1 : Int32) (v3 : Int32) : Prop := (vp_in v3 96 ∧ P_LP_launch_NAc_27 (plUp st 14 (plIx v3) 246) v1 v3)
set_option maxRecDepth 20000 in
theorem j_LP_launch_NAc_18 {E : plE} (X : plX E b_LN_launch "ProtectedLine$Line" 5 none 1 23) (a : Nat → Nat) (T : plS) (hQ : plRv E (plwC (plg E) a) T) (st : plS) (v1 : Int32) (v3 : Int32) (hs : P_LP_launch_NAc_18 st v1 v3) (hk : T = K_LP_launch_NAc_18 st v1 v3) : plJ E 5 (plwC (plg E) a st) 0 0 [(0, .ref (a 13)), (1, .int v1), (2, .ref (a 8)), (3, .int v3)] 18 [] := by
  unfold P_LP_launch_NAc_18 at hs
  unfold K_LP_launch_NAc_18 at hk
  refine j_aload_n (pc := 18) X d_LN_launch_18 rfl 0 rfl ?_
  refine get_LP_underWay (pc := 19) X fl_LN_11 d_LN_launch_19 ?_
  refine j_iload_n (pc := 22) X d_LN_launch_22 rfl 3 rfl ?_
  refine j_sipush (pc := 23) X d_LN_launch_23 sp_246 ?_
  refine ast_LPu (pc := 26) X hs.1 d_LN_launch_26 ?_
  have hs := hs.2
  exact j_LP_launch_NAc_27 X a T hQ (plUp st 14 (plIx v3) 246) v1 v3 hs hk
def K_LP_launch_NAc (st : plS) (v1 : Int32) : plS := K_LP_launch_NAc_18 (plUp st 13 2 ((st 13 2) + 1)) v1 (K_LN_slotOf (st 13 2))
def P_LP_launch_NAc (st : plS) (v1 : Int32) : Prop := P_LP_launch_NAc_18 (plUp st 13 2 ((st 13 2) + 1)) v1 (K_LN_slotOf (st 13 2))
set_option maxRecDepth 20000 in
theorem j_LP_launch_NAc {E : plE} (X : plX E b_LN_launch "ProtectedLine$Line" 5 none 1 23) (a : Nat → Nat) (T : plS) (hQ : plRv E (plwC (plg E) a) T) (st : plS) (v1 : Int32) (hs : P_LP_launch_NAc st v1) (hk : T = K_LP_launch_NAc st v1) : plJ E 5 (plwC (plg E) a st) 0 0 [(0, .ref (a 13)), (1, .int v1), (2, .ref (a 8))] 0 [] := by
  unfold P_LP_launch_NAc at hs
  unfold K_LP_launch_NAc at hk
  refine j_aload_n (pc := 0) X d_LN_launch_0 rfl 0 rfl ?_
  refine get_LP_launched (pc := 1) X fl_LN_25 d_LN_launch_1 ?_
  refine j_callSp (pc := 4) (As := [.int (st 13 2)]) (rest := []) X (c_LN_slotOf (plg E) a st (st 13 2)) ml_LN_28 ⟨Nat.le_of_ble_eq_true rfl, Nat.le_of_ble_eq_true rfl⟩ rfl rfl (Nat.le_of_ble_eq_true rfl) d_LN_launch_4 ?_
  refine j_istore_n (pc := 7) X d_LN_launch_7 rfl (lv' := [(3, .int (K_LN_slotOf (st 13 2))), (0, .ref (a 13)), (1, .int v1), (2, .ref (a 8))]) (Nat.le_of_ble_eq_true rfl) rfl ?_
  refine j_aload_n (pc := 8) X d_LN_launch_8 rfl 1 rfl ?_
  refine j_dup (pc := 9) X d_LN_launch_9 rfl ?_
  refine get_LP_launched (pc := 10) X fl_LN_25 d_LN_launch_10 ?_
  refine j_iconst (pc := 13) X d_LN_launch_13 ic_1 ?_
  refine j_iadd (pc := 14) X d_LN_launch_14 ?_
  refine put_LP_launched (pc := 15) X fl_LN_25 d_LN_launch_15 ?_
  refine j_sub [1, 2, 3, 0] (lv' := [(0, .ref (a 13)), (1, .int v1), (2, .ref (a 8)), (3, .int (K_LN_slotOf (st 13 2)))]) rfl ?_
  exact j_LP_launch_NAc_18 X a T hQ (plUp st 13 2 ((st 13 2) + 1)) v1 (K_LN_slotOf (st 13 2)) hs hk
set_option maxRecDepth 20000 in
theorem c_LP_launch_NAc (g : plG) (a : Nat → Nat) (st : plS) (v1 : Int32) (hs : P_LP_launch_NAc st v1) : plMv g y_LN_launch b_LN_launch 5 none 1 23 [.ref (a 13), .int v1, .ref (a 8)] (plwC g a) st (K_LP_launch_NAc st v1) := by
  refine plMv.of (own := "ProtectedLine$Line") (lv := [(0, .ref (a 13)), (1, .int v1), (2, .ref (a 8))]) rfl rfl (Nat.le_of_ble_eq_true rfl) rfl (fun E hE X hQ => ?_)
  subst hE
  exact j_LP_launch_NAc X a _ hQ st v1 hs rfl
theorem d_NA_transmit_0 : decode b_NA_transmit 0 = .ok (.aload_n 0, 1) := by decide +kernel
theorem d_NA_transmit_1 : decode b_NA_transmit 1 = .ok (.aload_n 0, 1) := by decide +kernel
theorem d_NA_transmit_2 : decode b_NA_transmit 2 = .ok (.invokevirtual 33, 3) := by decide +kernel
theorem d_NA_transmit_5 : decode b_NA_transmit 5 = .ok (.invokevirtual 37, 3) := by decide +kernel
theorem d_NA_transmit_8 : decode b_NA_transmit 8 = .ok (.aload_n 0, 1) := by decide +kernel
theorem d_NA_transmit_9 : decode b_NA_transmit 9 = .ok (.invokevirtual 41, 3) := by decide +kernel
theorem d_NA_transmit_12 : decode b_NA_transmit 12 = .ok (.istore_n 3, 1) := by decide +kernel
theorem d_NA_transmit_13 : decode b_NA_transmit 13 = .ok (.aload_n 1, 1) := by decide +kernel
theorem d_NA_transmit_14 : decode b_NA_transmit 14 = .ok (.iconst 0, 1) := by decide +kernel
theorem d_NA_transmit_15 : decode b_NA_transmit 15 = .ok (.aload_n 0, 1) := by decide +kernel
theorem d_NA_transmit_16 : decode b_NA_transmit 16 = .ok (.getfield 18, 3) := by decide +kernel
theorem d_NA_transmit_19 : decode b_NA_transmit 19 = .ok (.invokevirtual 45, 3) := by decide +kernel
theorem d_NA_transmit_22 : decode b_NA_transmit 22 = .ok (.aload_n 0, 1) := by decide +kernel
theorem d_NA_transmit_23 : decode b_NA_transmit 23 = .ok (.getfield 12, 3) := by decide +kernel
theorem d_NA_transmit_26 : decode b_NA_transmit 26 = .ok (.getfield 30, 3) := by decide +kernel
theorem d_NA_transmit_29 : decode b_NA_transmit 29 = .ok (.bipush (16), 2) := by decide +kernel
theorem d_NA_transmit_31 : decode b_NA_transmit 31 = .ok (.idiv, 1) := by decide +kernel
theorem d_NA_transmit_32 : decode b_NA_transmit 32 = .ok (.bipush (16), 2) := by decide +kernel
theorem d_NA_transmit_34 : decode b_NA_transmit 34 = .ok (.imul, 1) := by decide +kernel
theorem d_NA_transmit_35 : decode b_NA_transmit 35 = .ok (.iload_n 3, 1) := by decide +kernel
theorem d_NA_transmit_36 : decode b_NA_transmit 36 = .ok (.ifCond .eq (7), 3) := by decide +kernel
theorem d_NA_transmit_39 : decode b_NA_transmit 39 = .ok (.iconst 1, 1) := by decide +kernel
theorem d_NA_transmit_40 : decode b_NA_transmit 40 = .ok (.goto (4), 3) := by decide +kernel
theorem d_NA_transmit_43 : decode b_NA_transmit 43 = .ok (.iconst 0, 1) := by decide +kernel
theorem d_NA_transmit_44 : decode b_NA_transmit 44 = .ok (.iadd, 1) := by decide +kernel
theorem d_NA_transmit_45 : decode b_NA_transmit 45 = .ok (.istore 4, 2) := by decide +kernel
theorem d_NA_transmit_47 : decode b_NA_transmit 47 = .ok (.aload_n 2, 1) := by decide +kernel
theorem d_NA_transmit_48 : decode b_NA_transmit 48 = .ok (.iload 4, 2) := by decide +kernel
theorem d_NA_transmit_50 : decode b_NA_transmit 50 = .ok (.iload_n 3, 1) := by decide +kernel
theorem d_NA_transmit_51 : decode b_NA_transmit 51 = .ok (.ifCond .eq (10), 3) := by decide +kernel
theorem d_NA_transmit_54 : decode b_NA_transmit 54 = .ok (.aload_n 0, 1) := by decide +kernel
theorem d_NA_transmit_55 : decode b_NA_transmit 55 = .ok (.getfield 18, 3) := by decide +kernel
theorem d_NA_transmit_58 : decode b_NA_transmit 58 = .ok (.goto (6), 3) := by decide +kernel
theorem d_NA_transmit_61 : decode b_NA_transmit 61 = .ok (.getstatic 51, 3) := by decide +kernel
theorem d_NA_transmit_64 : decode b_NA_transmit 64 = .ok (.invokevirtual 45, 3) := by decide +kernel
theorem d_NA_transmit_67 : decode b_NA_transmit 67 = .ok (.return_, 1) := by decide +kernel
def K_NA_transmit_LW_LP_64 (st : plS) (k1 : Int32) : plS := K_LP_launch_EMPTY st k1
def P_NA_transmit_LW_LP_64 (st : plS) (k1 : Int32) : Prop := P_LP_launch_EMPTY st k1
set_option maxRecDepth 20000 in
theorem j_NA_transmit_LW_LP_64 {E : plE} (X : plX E b_NA_transmit "ProtectedLine$NodeA" 5 none 5 149) (a : Nat → Nat) (T : plS) (hQ : plRv E (plwC (plg E) a) T) (st : plS) (k1 : Int32) (hs : P_NA_transmit_LW_LP_64 st k1) (hk : T = K_NA_transmit_LW_LP_64 st k1) : plJ E 5 (plwC (plg E) a st) 0 0 [] 64 [.ref (plaEMPTY (plg E)), .int k1, .ref (a 13)] := by
  unfold P_NA_transmit_LW_LP_64 at hs
  unfold K_NA_transmit_LW_LP_64 at hk
  refine j_callVv (pc := 64) (As := [.int k1, .ref (plaEMPTY (plg E))]) (rest := []) X (c_LP_launch_EMPTY (plg E) a st k1 hs) ml_NA_45 13 rfl rfl ⟨Nat.le_of_ble_eq_true rfl, Nat.le_of_ble_eq_true rfl⟩ rfl rfl (Nat.le_of_ble_eq_true rfl) d_NA_transmit_64 ?_
  exact j_retv (pc := 67) X hQ d_NA_transmit_67 hk
def K_NA_transmit_LW_LP_64b (st : plS) (k1 : Int32) : plS := K_LP_launch_NAc st k1
def P_NA_transmit_LW_LP_64b (st : plS) (k1 : Int32) : Prop := P_LP_launch_NAc st k1
set_option maxRecDepth 20000 in
theorem j_NA_transmit_LW_LP_64b {E : plE} (X : plX E b_NA_transmit "ProtectedLine$NodeA" 5 none 5 149) (a : Nat → Nat) (T : plS) (hQ : plRv E (plwC (plg E) a) T) (st : plS) (k1 : Int32) (hs : P_NA_transmit_LW_LP_64b st k1) (hk : T = K_NA_transmit_LW_LP_64b st k1) : plJ E 5 (plwC (plg E) a st) 0 0 [] 64 [.ref (a 8), .int k1, .ref (a 13)] := by
  unfold P_NA_transmit_LW_LP_64b at hs
  unfold K_NA_transmit_LW_LP_64b at hk
  refine j_callVv (pc := 64) (As := [.int k1, .ref (a 8)]) (rest := []) X (c_LP_launch_NAc (plg E) a st k1 hs) ml_NA_45 13 rfl rfl ⟨Nat.le_of_ble_eq_true rfl, Nat.le_of_ble_eq_true rfl⟩ rfl rfl (Nat.le_of_ble_eq_true rfl) d_NA_transmit_64 ?_
  exact j_retv (pc := 67) X hQ d_NA_transmit_67 hk
def K_NA_transmit_LW_LP_44 (st : plS) (v3 : Int32) (k0 : Int32) (k1 : Int32) : plS := (if v3 = 0 then K_NA_transmit_LW_LP_64 st (k1 + k0) else K_NA_transmit_LW_LP_64b st (k1 + k0))
def P_NA_transmit_LW_LP_44 (st : plS) (v3 : Int32) (k0 : Int32) (k1 : Int32) : Prop := ((v3 = 0 → P_NA_transmit_LW_LP_64 st (k1 + k0)) ∧ (¬ v3 = 0 → P_NA_transmit_LW_LP_64b st (k1 + k0)))
set_option maxRecDepth 20000 in
theorem j_NA_transmit_LW_LP_44 {E : plE} (X : plX E b_NA_transmit "ProtectedLine$NodeA" 5 none 5 149) (a : Nat → Nat) (T : plS) (hQ : plRv E (plwC (plg E) a) T) (st : plS) (v3 : Int32) (k0 : Int32) (k1 : Int32) (hs : P_NA_transmit_LW_LP_44 st v3 k0 k1) (hk : T = K_NA_transmit_LW_LP_44 st v3 k0 k1) : plJ E 5 (plwC (plg E) a st) 0 0 [(0, .ref (a 5)), (2, .ref (a 13)), (3, .int v3)] 44 [.int k0, .int k1] := by
  unfold P_NA_transmit_LW_LP_44 at hs
  unfold K_NA_transmit_LW_LP_44 at hk
  refine j_iadd (pc := 44) X d_NA_transmit_44 ?_
  refine j_istore (pc := 45) X d_NA_transmit_45 (lv' := [(4, .int (k1 + k0)), (0, .ref (a 5)), (2, .ref (a 13)), (3, .int v3)]) (Nat.le_of_ble_eq_true rfl) rfl ?_
  refine j_aload_n (pc := 47) X d_NA_transmit_47 rfl 2 rfl ?_
  refine j_iload (pc := 48) X d_NA_transmit_48 0 rfl ?_
  refine j_iload_n (pc := 50) X d_NA_transmit_50 rfl 3 rfl ?_
  refine j_if_eq (pc := 51) (tgt := 61) X d_NA_transmit_51 rfl (fun hc => ?_) (fun hc => ?_)
  · have hk := hk.trans (if_pos hc)
    have hs := hs.1 hc
    refine j_getEMPTY (pc := 61) X fl_NA_51 d_NA_transmit_61 ?_
    refine j_sub [] (lv' := []) rfl ?_
    exact j_NA_transmit_LW_LP_64 X a T hQ st (k1 + k0) hs hk
  · have hk := hk.trans (if_neg hc)
    have hs := hs.2 hc
    refine j_aload_n (pc := 54) X d_NA_transmit_54 rfl 1 rfl ?_
    refine get_NA_content (pc := 55) X fl_NA_18 d_NA_transmit_55 ?_
    refine j_goto (pc := 58) (tgt := 64) X d_NA_transmit_58 rfl ?_
    refine j_sub [] (lv' := []) rfl ?_
    exact j_NA_transmit_LW_LP_64b X a T hQ st (k1 + k0) hs hk
def K_NA_transmit_LW_LP_22 (st : plS) (v3 : Int32) : plS := (if v3 = 0 then K_NA_transmit_LW_LP_44 st v3 0 (((st 7 0) / 16) * 16) else K_NA_transmit_LW_LP_44 st v3 1 (((st 7 0) / 16) * 16))
def P_NA_transmit_LW_LP_22 (st : plS) (v3 : Int32) : Prop := ((v3 = 0 → P_NA_transmit_LW_LP_44 st v3 0 (((st 7 0) / 16) * 16)) ∧ (¬ v3 = 0 → P_NA_transmit_LW_LP_44 st v3 1 (((st 7 0) / 16) * 16)))
set_option maxRecDepth 20000 in
theorem j_NA_transmit_LW_LP_22 {E : plE} (X : plX E b_NA_transmit "ProtectedLine$NodeA" 5 none 5 149) (a : Nat → Nat) (T : plS) (hQ : plRv E (plwC (plg E) a) T) (st : plS) (v3 : Int32) (hs : P_NA_transmit_LW_LP_22 st v3) (hk : T = K_NA_transmit_LW_LP_22 st v3) : plJ E 5 (plwC (plg E) a st) 0 0 [(0, .ref (a 5)), (2, .ref (a 13)), (3, .int v3)] 22 [] := by
  unfold P_NA_transmit_LW_LP_22 at hs
  unfold K_NA_transmit_LW_LP_22 at hk
  refine j_aload_n (pc := 22) X d_NA_transmit_22 rfl 0 rfl ?_
  refine get_NA_heard (pc := 23) X fl_NA_12 d_NA_transmit_23 ?_
  refine get_LA_accepted (pc := 26) X fl_NA_30 d_NA_transmit_26 ?_
  refine j_bipush (pc := 29) X d_NA_transmit_29 bp_16 ?_
  refine j_idiv (pc := 31) X d_NA_transmit_31 nz_16 ?_
  refine j_bipush (pc := 32) X d_NA_transmit_32 bp_16 ?_
  refine j_imul (pc := 34) X d_NA_transmit_34 ?_
  refine j_iload_n (pc := 35) X d_NA_transmit_35 rfl 2 rfl ?_
  refine j_if_eq (pc := 36) (tgt := 43) X d_NA_transmit_36 rfl (fun hc => ?_) (fun hc => ?_)
  · have hk := hk.trans (if_pos hc)
    have hs := hs.1 hc
    refine j_iconst (pc := 43) X d_NA_transmit_43 ic_0 ?_
    exact j_NA_transmit_LW_LP_44 X a T hQ st v3 0 (((st 7 0) / 16) * 16) hs hk
  · have hk := hk.trans (if_neg hc)
    have hs := hs.2 hc
    refine j_iconst (pc := 39) X d_NA_transmit_39 ic_1 ?_
    refine j_goto (pc := 40) (tgt := 44) X d_NA_transmit_40 rfl ?_
    exact j_NA_transmit_LW_LP_44 X a T hQ st v3 1 (((st 7 0) / 16) * 16) hs hk
def K_NA_transmit_LW_LP_8 (st : plS) : plS := K_NA_transmit_LW_LP_22 (K_LW_launch_NAc st 0) (K_NA_bridgeOn st)
def P_NA_transmit_LW_LP_8 (st : plS) : Prop := (P_NA_bridgeOn st ∧ (P_LW_launch_NAc st 0 ∧ P_NA_transmit_LW_LP_22 (K_LW_launch_NAc st 0) (K_NA_bridgeOn st)))
set_option maxRecDepth 20000 in
theorem j_NA_transmit_LW_LP_8 {E : plE} (X : plX E b_NA_transmit "ProtectedLine$NodeA" 5 none 5 149) (a : Nat → Nat) (T : plS) (hQ : plRv E (plwC (plg E) a) T) (st : plS)  (hs : P_NA_transmit_LW_LP_8 st) (hk : T = K_NA_transmit_LW_LP_8 st) : plJ E 5 (plwC (plg E) a st) 0 0 [(0, .ref (a 5)), (1, .ref (a 9)), (2, .ref (a 13))] 8 [] := by
  unfold P_NA_transmit_LW_LP_8 at hs
  unfold K_NA_transmit_LW_LP_8 at hk
  refine j_aload_n (pc := 8) X d_NA_transmit_8 rfl 0 rfl ?_
  refine j_callVp (pc := 9) (As := []) (rest := []) X (c_NA_bridgeOn (plg E) a st hs.1) ml_NA_41 5 rfl rfl ⟨Nat.le_of_ble_eq_true rfl, Nat.le_of_ble_eq_true rfl⟩ rfl rfl (Nat.le_of_ble_eq_true rfl) d_NA_transmit_9 ?_
  have hs := hs.2
  refine j_istore_n (pc := 12) X d_NA_transmit_12 rfl (lv' := [(3, .int (K_NA_bridgeOn st)), (0, .ref (a 5)), (1, .ref (a 9)), (2, .ref (a 13))]) (Nat.le_of_ble_eq_true rfl) rfl ?_
  refine j_aload_n (pc := 13) X d_NA_transmit_13 rfl 2 rfl ?_
  refine j_iconst (pc := 14) X d_NA_transmit_14 ic_0 ?_
  refine j_aload_n (pc := 15) X d_NA_transmit_15 rfl 1 rfl ?_
  refine get_NA_content (pc := 16) X fl_NA_18 d_NA_transmit_16 ?_
  refine j_callVv (pc := 19) (As := [.int 0, .ref (a 8)]) (rest := []) X (c_LW_launch_NAc (plg E) a st 0 hs.1) ml_NA_45 9 rfl rfl ⟨Nat.le_of_ble_eq_true rfl, Nat.le_of_ble_eq_true rfl⟩ rfl rfl (Nat.le_of_ble_eq_true rfl) d_NA_transmit_19 ?_
  have hs := hs.2
  refine j_sub [1, 3, 0] (lv' := [(0, .ref (a 5)), (2, .ref (a 13)), (3, .int (K_NA_bridgeOn st))]) rfl ?_
  exact j_NA_transmit_LW_LP_22 X a T hQ (K_LW_launch_NAc st 0) (K_NA_bridgeOn st) hs hk
def K_NA_transmit_LW_LP_5q  (q : Int32 × plS) : plS := K_NA_transmit_LW_LP_8 (K_NA_fill q.2 q.1)
def P_NA_transmit_LW_LP_5q  (q : Int32 × plS) : Prop := (P_NA_fill q.2 q.1 ∧ P_NA_transmit_LW_LP_8 (K_NA_fill q.2 q.1))
set_option maxRecDepth 20000 in
theorem j_NA_transmit_LW_LP_5q {E : plE} (X : plX E b_NA_transmit "ProtectedLine$NodeA" 5 none 5 149) (a : Nat → Nat) (T : plS) (hQ : plRv E (plwC (plg E) a) T)  (q : Int32 × plS) (hs : P_NA_transmit_LW_LP_5q  q) (hk : T = K_NA_transmit_LW_LP_5q  q) : plJ E 5 (plwC (plg E) a q.2) 0 0 [(0, .ref (a 5)), (1, .ref (a 9)), (2, .ref (a 13))] 5 [.int q.1, .ref (a 5)] := by
  unfold P_NA_transmit_LW_LP_5q at hs
  unfold K_NA_transmit_LW_LP_5q at hk
  refine j_callVv (pc := 5) (As := [.int q.1]) (rest := []) X (c_NA_fill (plg E) a q.2 q.1 hs.1) ml_NA_37 5 rfl rfl ⟨Nat.le_of_ble_eq_true rfl, Nat.le_of_ble_eq_true rfl⟩ rfl rfl (Nat.le_of_ble_eq_true rfl) d_NA_transmit_5 ?_
  have hs := hs.2
  exact j_NA_transmit_LW_LP_8 X a T hQ (K_NA_fill q.2 q.1) hs hk
def K_NA_transmit_LW_LP (st : plS) : plS := K_NA_transmit_LW_LP_5q (K_NA_justification st)
def P_NA_transmit_LW_LP (st : plS) : Prop := P_NA_transmit_LW_LP_5q (K_NA_justification st)
set_option maxRecDepth 20000 in
theorem j_NA_transmit_LW_LP {E : plE} (X : plX E b_NA_transmit "ProtectedLine$NodeA" 5 none 5 149) (a : Nat → Nat) (T : plS) (hQ : plRv E (plwC (plg E) a) T) (st : plS)  (hs : P_NA_transmit_LW_LP st) (hk : T = K_NA_transmit_LW_LP st) : plJ E 5 (plwC (plg E) a st) 0 0 [(0, .ref (a 5)), (1, .ref (a 9)), (2, .ref (a 13))] 0 [] := by
  unfold P_NA_transmit_LW_LP at hs
  unfold K_NA_transmit_LW_LP at hk
  refine j_aload_n (pc := 0) X d_NA_transmit_0 rfl 0 rfl ?_
  refine j_aload_n (pc := 1) X d_NA_transmit_1 rfl 0 rfl ?_
  refine j_callVi (pc := 2) (As := []) (rest := [.ref (a 5)]) X (c_NA_justification (plg E) a st) ml_NA_33 5 rfl rfl ⟨Nat.le_of_ble_eq_true rfl, Nat.le_of_ble_eq_true rfl⟩ rfl rfl (Nat.le_of_ble_eq_true rfl) d_NA_transmit_2 ?_
  exact j_NA_transmit_LW_LP_5q X a T hQ (K_NA_justification st) hs hk
set_option maxRecDepth 20000 in
theorem c_NA_transmit_LW_LP (g : plG) (a : Nat → Nat) (st : plS)  (hs : P_NA_transmit_LW_LP st ) : plMv g y_NA_transmit b_NA_transmit 5 none 5 149 [.ref (a 5), .ref (a 9), .ref (a 13)] (plwC g a) st (K_NA_transmit_LW_LP st ) := by
  refine plMv.of (own := "ProtectedLine$NodeA") (lv := [(0, .ref (a 5)), (1, .ref (a 9)), (2, .ref (a 13))]) rfl rfl (Nat.le_of_ble_eq_true rfl) rfl (fun E hE X hQ => ?_)
  subst hE
  exact j_NA_transmit_LW_LP X a _ hQ st  hs rfl
theorem d_JA_fill_0 : decode b_JA_fill 0 = .ok (.iconst 0, 1) := by decide +kernel
theorem d_JA_fill_1 : decode b_JA_fill 1 = .ok (.istore_n 2, 1) := by decide +kernel
theorem d_JA_fill_2 : decode b_JA_fill 2 = .ok (.aload_n 0, 1) := by decide +kernel
theorem d_JA_fill_3 : decode b_JA_fill 3 = .ok (.arraylength, 1) := by decide +kernel
theorem d_JA_fill_4 : decode b_JA_fill 4 = .ok (.istore_n 3, 1) := by decide +kernel
theorem d_JA_fill_5 : decode b_JA_fill 5 = .ok (.iload_n 2, 1) := by decide +kernel
theorem d_JA_fill_6 : decode b_JA_fill 6 = .ok (.iload_n 3, 1) := by decide +kernel
theorem d_JA_fill_7 : decode b_JA_fill 7 = .ok (.if_icmp .ge (13), 3) := by decide +kernel
theorem d_JA_fill_10 : decode b_JA_fill 10 = .ok (.aload_n 0, 1) := by decide +kernel
theorem d_JA_fill_11 : decode b_JA_fill 11 = .ok (.iload_n 2, 1) := by decide +kernel
theorem d_JA_fill_12 : decode b_JA_fill 12 = .ok (.iload_n 1, 1) := by decide +kernel
theorem d_JA_fill_13 : decode b_JA_fill 13 = .ok (.iastore, 1) := by decide +kernel
theorem d_JA_fill_14 : decode b_JA_fill 14 = .ok (.iinc 2 (1), 3) := by decide +kernel
theorem d_JA_fill_17 : decode b_JA_fill 17 = .ok (.goto (-12), 3) := by decide +kernel
theorem d_JA_fill_20 : decode b_JA_fill 20 = .ok (.return_, 1) := by decide +kernel
def K_JA_fill_LWh_5L (st : plS) (v1 : Int32) (v2 : Int32) (v3 : Int32) : Bool × (plS × Int32) := (if v3 ≤ v2 then (false, (st, v2)) else (true, (plUp st 11 (plIx v2) v1, v2 + 1)))
def P_JA_fill_LWh_5L (st : plS) (v1 : Int32) (v2 : Int32) (v3 : Int32) : Prop := (¬ v3 ≤ v2 → vp_in v2 12)
set_option maxRecDepth 20000 in
theorem j_JA_fill_LWh_5L {E : plE} (X : plX E b_JA_fill "java/util/Arrays" 4 none 0 0) (a : Nat → Nat) (T : Bool × (plS × Int32)) (v1 : Int32) (v3 : Int32) (hb : ∀ (c0 : plS) (c1 : Int32), T = (true, (c0, c1)) → plJ E 4 (plwC (plg E) a c0) 0 0 [(0, .ref (a 11)), (1, .int v1), (2, .int c1), (3, .int v3)] 5 []) (hx : ∀ (c0 : plS) (c1 : Int32), T = (false, (c0, c1)) → plJ E 4 (plwC (plg E) a c0) 0 0 [(0, .ref (a 11)), (1, .int v1), (2, .int c1), (3, .int v3)] 20 []) (st : plS) (v2 : Int32) (hs : P_JA_fill_LWh_5L st v1 v2 v3) (hk : T = K_JA_fill_LWh_5L st v1 v2 v3) : plJ E 4 (plwC (plg E) a st) 0 0 [(0, .ref (a 11)), (1, .int v1), (2, .int v2), (3, .int v3)] 5 [] := by
  unfold P_JA_fill_LWh_5L at hs
  unfold K_JA_fill_LWh_5L at hk
  refine j_iload_n (pc := 5) X d_JA_fill_5 rfl 2 rfl ?_
  refine j_iload_n (pc := 6) X d_JA_fill_6 rfl 3 rfl ?_
  refine j_icmp_ge (pc := 7) (tgt := 20) X d_JA_fill_7 rfl (fun hc => ?_) (fun hc => ?_)
  · have hk := hk.trans (if_pos hc)
    exact hx st v2 hk
  · have hk := hk.trans (if_neg hc)
    have hs := hs hc
    refine j_aload_n (pc := 10) X d_JA_fill_10 rfl 0 rfl ?_
    refine j_iload_n (pc := 11) X d_JA_fill_11 rfl 2 rfl ?_
    refine j_iload_n (pc := 12) X d_JA_fill_12 rfl 1 rfl ?_
    refine ast_LWh (pc := 13) X hs d_JA_fill_13 ?_
    refine j_iinc (pc := 14) X d_JA_fill_14 2 rfl ic_1 (lv' := [(2, .int (v2 + 1)), (0, .ref (a 11)), (1, .int v1), (3, .int v3)]) (Nat.le_of_ble_eq_true rfl) rfl ?_
    refine j_goto (pc := 17) (tgt := 5) X d_JA_fill_17 rfl ?_
    refine j_sub [1, 2, 0, 3] (lv' := [(0, .ref (a 11)), (1, .int v1), (2, .int (v2 + 1)), (3, .int v3)]) rfl ?_
    exact hb (plUp st 11 (plIx v2) v1) (v2 + 1) hk
def F_JA_fill_LWh_5 (v1 : Int32) (v3 : Int32) (c : plS × Int32) : Bool × (plS × Int32) := K_JA_fill_LWh_5L c.1 v1 c.2 v3
def G_JA_fill_LWh_5 (v1 : Int32) (v3 : Int32) (c : plS × Int32) : Prop := P_JA_fill_LWh_5L c.1 v1 c.2 v3
def K_JA_fill_LWh_5X (v1 : Int32) (v3 : Int32) (c : plS × Int32) : plS := c.1
set_option maxRecDepth 20000 in
theorem j_JA_fill_LWh_5X {E : plE} (X : plX E b_JA_fill "java/util/Arrays" 4 none 0 0) (a : Nat → Nat) (T : plS) (hQ : plRv E (plwC (plg E) a) T) (v1 : Int32) (v3 : Int32) (c : plS × Int32) (hk : T = K_JA_fill_LWh_5X v1 v3 c) : plJ E 4 (plwC (plg E) a c.1) 0 0 [(0, .ref (a 11)), (1, .int v1), (2, .int c.2), (3, .int v3)] 20 [] := by
  unfold K_JA_fill_LWh_5X at hk
  exact j_retv (pc := 20) X hQ d_JA_fill_20 hk
def K_JA_fill_LWh (st : plS) (v1 : Int32) : plS := K_JA_fill_LWh_5X v1 12 (lpR (F_JA_fill_LWh_5 v1 12) 64 (st, 0))
def P_JA_fill_LWh (st : plS) (v1 : Int32) : Prop := lpP (G_JA_fill_LWh_5 v1 12) (F_JA_fill_LWh_5 v1 12) 64 (st, 0)
set_option maxRecDepth 20000 in
theorem j_JA_fill_LWh {E : plE} (X : plX E b_JA_fill "java/util/Arrays" 4 none 0 0) (a : Nat → Nat) (T : plS) (hQ : plRv E (plwC (plg E) a) T) (st : plS) (v1 : Int32) (hs : P_JA_fill_LWh st v1) (hk : T = K_JA_fill_LWh st v1) : plJ E 4 (plwC (plg E) a st) 0 0 [(0, .ref (a 11)), (1, .int v1)] 0 [] := by
  unfold P_JA_fill_LWh at hs
  unfold K_JA_fill_LWh at hk
  refine j_iconst (pc := 0) X d_JA_fill_0 ic_0 ?_
  refine j_istore_n (pc := 1) X d_JA_fill_1 rfl (lv' := [(2, .int 0), (0, .ref (a 11)), (1, .int v1)]) (Nat.le_of_ble_eq_true rfl) rfl ?_
  refine j_aload_n (pc := 2) X d_JA_fill_2 rfl 1 rfl ?_
  refine len_LWh (pc := 3) X d_JA_fill_3 ?_
  refine j_istore_n (pc := 4) X d_JA_fill_4 rfl (lv' := [(3, .int 12), (2, .int 0), (0, .ref (a 11)), (1, .int v1)]) (Nat.le_of_ble_eq_true rfl) rfl ?_
  refine j_sub [2, 3, 1, 0] (lv' := [(0, .ref (a 11)), (1, .int v1), (2, .int 0), (3, .int 12)]) rfl ?_
  exact lpJ (G_JA_fill_LWh_5 v1 12) (F_JA_fill_LWh_5 v1 12) (fun c => plJ E 4 (plwC (plg E) a c.1) 0 0 [(0, .ref (a 11)), (1, .int v1), (2, .int c.2), (3, .int 12)] 5 []) (fun c => plJ E 4 (plwC (plg E) a c.1) 0 0 [(0, .ref (a 11)), (1, .int v1), (2, .int c.2), (3, .int 12)] 20 []) (fun c hp h1 h2 => j_JA_fill_LWh_5L X a (F_JA_fill_LWh_5 v1 12 c) v1 12 (fun c0 c1 => h1 (c0, c1)) (fun c0 c1 => h2 (c0, c1)) c.1 c.2 hp rfl) 64 (st, 0) hs (j_JA_fill_LWh_5X X a T hQ v1 12 (lpR (F_JA_fill_LWh_5 v1 12) 64 (st, 0)) hk)
set_option maxRecDepth 20000 in
theorem c_JA_fill_LWh (g : plG) (a : Nat → Nat) (st : plS) (v1 : Int32) (hs : P_JA_fill_LWh st v1) : plMv g y_JA_fill b_JA_fill 4 none 0 0 [.ref (a 11), .int v1] (plwC g a) st (K_JA_fill_LWh st v1) := by
  refine plMv.of (own := "java/util/Arrays") (lv := [(0, .ref (a 11)), (1, .int v1)]) rfl rfl (Nat.le_of_ble_eq_true rfl) rfl (fun E hE X hQ => ?_)
  subst hE
  exact j_JA_fill_LWh X a _ hQ st v1 hs rfl
theorem d_LN_align_0 : decode b_LN_align 0 = .ok (.iload_n 1, 1) := by decide +kernel
theorem d_LN_align_1 : decode b_LN_align 1 = .ok (.ifCond .eq (25), 3) := by decide +kernel
theorem d_LN_align_4 : decode b_LN_align 4 = .ok (.aload_n 0, 1) := by decide +kernel
theorem d_LN_align_5 : decode b_LN_align 5 = .ok (.iconst 0, 1) := by decide +kernel
theorem d_LN_align_6 : decode b_LN_align 6 = .ok (.putfield 81, 3) := by decide +kernel
theorem d_LN_align_9 : decode b_LN_align 9 = .ok (.aload_n 0, 1) := by decide +kernel
theorem d_LN_align_10 : decode b_LN_align 10 = .ok (.aload_n 0, 1) := by decide +kernel
theorem d_LN_align_11 : decode b_LN_align 11 = .ok (.getfield 84, 3) := by decide +kernel
theorem d_LN_align_14 : decode b_LN_align 14 = .ok (.ifCond .ne (7), 3) := by decide +kernel
theorem d_LN_align_17 : decode b_LN_align 17 = .ok (.iconst 1, 1) := by decide +kernel
theorem d_LN_align_18 : decode b_LN_align 18 = .ok (.goto (4), 3) := by decide +kernel
theorem d_LN_align_21 : decode b_LN_align 21 = .ok (.iconst 2, 1) := by decide +kernel
theorem d_LN_align_22 : decode b_LN_align 22 = .ok (.putfield 84, 3) := by decide +kernel
theorem d_LN_align_25 : decode b_LN_align 25 = .ok (.return_, 1) := by decide +kernel
theorem d_LN_align_26 : decode b_LN_align 26 = .ok (.aload_n 0, 1) := by decide +kernel
theorem d_LN_align_27 : decode b_LN_align 27 = .ok (.dup, 1) := by decide +kernel
theorem d_LN_align_28 : decode b_LN_align 28 = .ok (.getfield 81, 3) := by decide +kernel
theorem d_LN_align_31 : decode b_LN_align 31 = .ok (.iconst 1, 1) := by decide +kernel
theorem d_LN_align_32 : decode b_LN_align 32 = .ok (.iadd, 1) := by decide +kernel
theorem d_LN_align_33 : decode b_LN_align 33 = .ok (.putfield 81, 3) := by decide +kernel
theorem d_LN_align_36 : decode b_LN_align 36 = .ok (.aload_n 0, 1) := by decide +kernel
theorem d_LN_align_37 : decode b_LN_align 37 = .ok (.getfield 84, 3) := by decide +kernel
theorem d_LN_align_40 : decode b_LN_align 40 = .ok (.iconst 1, 1) := by decide +kernel
theorem d_LN_align_41 : decode b_LN_align 41 = .ok (.if_icmp .eq (11), 3) := by decide +kernel
theorem d_LN_align_44 : decode b_LN_align 44 = .ok (.aload_n 0, 1) := by decide +kernel
theorem d_LN_align_45 : decode b_LN_align 45 = .ok (.getfield 81, 3) := by decide +kernel
theorem d_LN_align_48 : decode b_LN_align 48 = .ok (.iconst 3, 1) := by decide +kernel
theorem d_LN_align_49 : decode b_LN_align 49 = .ok (.if_icmp .lt (8), 3) := by decide +kernel
theorem d_LN_align_52 : decode b_LN_align 52 = .ok (.aload_n 0, 1) := by decide +kernel
theorem d_LN_align_53 : decode b_LN_align 53 = .ok (.iconst 0, 1) := by decide +kernel
theorem d_LN_align_54 : decode b_LN_align 54 = .ok (.putfield 84, 3) := by decide +kernel
theorem d_LN_align_57 : decode b_LN_align 57 = .ok (.return_, 1) := by decide +kernel
def K_LW_align_57 (st : plS) : plS := st
set_option maxRecDepth 20000 in
theorem j_LW_align_57 {E : plE} (X : plX E b_LN_align "ProtectedLine$Line" 2 none 0 0) (a : Nat → Nat) (T : plS) (hQ : plRv E (plwC (plg E) a) T) (st : plS)  (hk : T = K_LW_align_57 st) : plJ E 2 (plwC (plg E) a st) 0 0 [] 57 [] := by
  unfold K_LW_align_57 at hk
  exact j_retv (pc := 57) X hQ d_LN_align_57 hk
def K_LW_align_52 (st : plS) : plS := K_LW_align_57 (plUp st 9 9 0)
set_option maxRecDepth 20000 in
theorem j_LW_align_52 {E : plE} (X : plX E b_LN_align "ProtectedLine$Line" 2 none 0 0) (a : Nat → Nat) (T : plS) (hQ : plRv E (plwC (plg E) a) T) (st : plS)  (hk : T = K_LW_align_52 st) : plJ E 2 (plwC (plg E) a st) 0 0 [(0, .ref (a 9))] 52 [] := by
  unfold K_LW_align_52 at hk
  refine j_aload_n (pc := 52) X d_LN_align_52 rfl 0 rfl ?_
  refine j_iconst (pc := 53) X d_LN_align_53 ic_0 ?_
  refine put_LW_state (pc := 54) X fl_LN_84 d_LN_align_54 ?_
  refine j_sub [] (lv' := []) rfl ?_
  exact j_LW_align_57 X a T hQ (plUp st 9 9 0) hk
def K_LW_align_36 (st : plS) : plS := (if (st 9 9) = 1 then K_LW_align_52 st else (if (st 9 10) < 3 then K_LW_align_57 st else K_LW_align_52 st))
set_option maxRecDepth 20000 in
theorem j_LW_align_36 {E : plE} (X : plX E b_LN_align "ProtectedLine$Line" 2 none 0 0) (a : Nat → Nat) (T : plS) (hQ : plRv E (plwC (plg E) a) T) (st : plS)  (hk : T = K_LW_align_36 st) : plJ E 2 (plwC (plg E) a st) 0 0 [(0, .ref (a 9))] 36 [] := by
  unfold K_LW_align_36 at hk
  refine j_aload_n (pc := 36) X d_LN_align_36 rfl 0 rfl ?_
  refine get_LW_state (pc := 37) X fl_LN_84 d_LN_align_37 ?_
  refine j_iconst (pc := 40) X d_LN_align_40 ic_1 ?_
  refine j_icmp_eq (pc := 41) (tgt := 52) X d_LN_align_41 rfl (fun hc => ?_) (fun hc => ?_)
  · have hk := hk.trans (if_pos hc)
    exact j_LW_align_52 X a T hQ st hk
  · have hk := hk.trans (if_neg hc)
    refine j_aload_n (pc := 44) X d_LN_align_44 rfl 0 rfl ?_
    refine get_LW_badRow (pc := 45) X fl_LN_81 d_LN_align_45 ?_
    refine j_iconst (pc := 48) X d_LN_align_48 ic_3 ?_
    refine j_icmp_lt (pc := 49) (tgt := 57) X d_LN_align_49 rfl (fun hc => ?_) (fun hc => ?_)
    · have hk := hk.trans (if_pos hc)
      refine j_sub [] (lv' := []) rfl ?_
      exact j_LW_align_57 X a T hQ st hk
    · have hk := hk.trans (if_neg hc)
      exact j_LW_align_52 X a T hQ st hk
def K_LW_align_22 (st : plS) (k0 : Int32) : plS := plUp st 9 9 k0
set_option maxRecDepth 20000 in
theorem j_LW_align_22 {E : plE} (X : plX E b_LN_align "ProtectedLine$Line" 2 none 0 0) (a : Nat → Nat) (T : plS) (hQ : plRv E (plwC (plg E) a) T) (st : plS) (k0 : Int32) (hk : T = K_LW_align_22 st k0) : plJ E 2 (plwC (plg E) a st) 0 0 [] 22 [.int k0, .ref (a 9)] := by
  unfold K_LW_align_22 at hk
  refine put_LW_state (pc := 22) X fl_LN_84 d_LN_align_22 ?_
  exact j_retv (pc := 25) X hQ d_LN_align_25 hk
def K_LW_align_9 (st : plS) : plS := (if (st 9 9) = 0 then K_LW_align_22 st 1 else K_LW_align_22 st 2)
set_option maxRecDepth 20000 in
theorem j_LW_align_9 {E : plE} (X : plX E b_LN_align "ProtectedLine$Line" 2 none 0 0) (a : Nat → Nat) (T : plS) (hQ : plRv E (plwC (plg E) a) T) (st : plS)  (hk : T = K_LW_align_9 st) : plJ E 2 (plwC (plg E) a st) 0 0 [(0, .ref (a 9))] 9 [] := by
  unfold K_LW_align_9 at hk
  refine j_aload_n (pc := 9) X d_LN_align_9 rfl 0 rfl ?_
  refine j_aload_n (pc := 10) X d_LN_align_10 rfl 0 rfl ?_
  refine get_LW_state (pc := 11) X fl_LN_84 d_LN_align_11 ?_
  refine j_if_ne (pc := 14) (tgt := 21) X d_LN_align_14 rfl (fun hc => ?_) (fun hc => ?_)
  · have hk := hk.trans (if_neg hc)
    refine j_iconst (pc := 21) X d_LN_align_21 ic_2 ?_
    refine j_sub [] (lv' := []) rfl ?_
    exact j_LW_align_22 X a T hQ st 2 hk
  · have hk := hk.trans (if_pos hc)
    refine j_iconst (pc := 17) X d_LN_align_17 ic_1 ?_
    refine j_goto (pc := 18) (tgt := 22) X d_LN_align_18 rfl ?_
    refine j_sub [] (lv' := []) rfl ?_
    exact j_LW_align_22 X a T hQ st 1 hk
def K_LW_align (st : plS) (v1 : Int32) : plS := (if v1 = 0 then K_LW_align_36 (plUp st 9 10 ((st 9 10) + 1)) else K_LW_align_9 (plUp st 9 10 0))
set_option maxRecDepth 20000 in
theorem j_LW_align {E : plE} (X : plX E b_LN_align "ProtectedLine$Line" 2 none 0 0) (a : Nat → Nat) (T : plS) (hQ : plRv E (plwC (plg E) a) T) (st : plS) (v1 : Int32) (hk : T = K_LW_align st v1) : plJ E 2 (plwC (plg E) a st) 0 0 [(0, .ref (a 9)), (1, .int v1)] 0 [] := by
  unfold K_LW_align at hk
  refine j_iload_n (pc := 0) X d_LN_align_0 rfl 1 rfl ?_
  refine j_if_eq (pc := 1) (tgt := 26) X d_LN_align_1 rfl (fun hc => ?_) (fun hc => ?_)
  · have hk := hk.trans (if_pos hc)
    refine j_aload_n (pc := 26) X d_LN_align_26 rfl 0 rfl ?_
    refine j_dup (pc := 27) X d_LN_align_27 rfl ?_
    refine get_LW_badRow (pc := 28) X fl_LN_81 d_LN_align_28 ?_
    refine j_iconst (pc := 31) X d_LN_align_31 ic_1 ?_
    refine j_iadd (pc := 32) X d_LN_align_32 ?_
    refine put_LW_badRow (pc := 33) X fl_LN_81 d_LN_align_33 ?_
    refine j_sub [0] (lv' := [(0, .ref (a 9))]) rfl ?_
    exact j_LW_align_36 X a T hQ (plUp st 9 10 ((st 9 10) + 1)) hk
  · have hk := hk.trans (if_neg hc)
    refine j_aload_n (pc := 4) X d_LN_align_4 rfl 0 rfl ?_
    refine j_iconst (pc := 5) X d_LN_align_5 ic_0 ?_
    refine put_LW_badRow (pc := 6) X fl_LN_81 d_LN_align_6 ?_
    refine j_sub [0] (lv' := [(0, .ref (a 9))]) rfl ?_
    exact j_LW_align_9 X a T hQ (plUp st 9 10 0) hk
set_option maxRecDepth 20000 in
theorem c_LW_align (g : plG) (a : Nat → Nat) (st : plS) (v1 : Int32) : plMv g y_LN_align b_LN_align 2 none 0 0 [.ref (a 9), .int v1] (plwC g a) st (K_LW_align st v1) := by
  refine plMv.of (own := "ProtectedLine$Line") (lv := [(0, .ref (a 9)), (1, .int v1)]) rfl rfl (Nat.le_of_ble_eq_true rfl) rfl (fun E hE X hQ => ?_)
  subst hE
  exact j_LW_align X a _ hQ st v1 rfl
theorem d_LN_readable_0 : decode b_LN_readable 0 = .ok (.aload_n 0, 1) := by decide +kernel
theorem d_LN_readable_1 : decode b_LN_readable 1 = .ok (.getfield 84, 3) := by decide +kernel
theorem d_LN_readable_4 : decode b_LN_readable 4 = .ok (.iconst 2, 1) := by decide +kernel
theorem d_LN_readable_5 : decode b_LN_readable 5 = .ok (.if_icmp .ne (14), 3) := by decide +kernel
theorem d_LN_readable_8 : decode b_LN_readable 8 = .ok (.aload_n 0, 1) := by decide +kernel
theorem d_LN_readable_9 : decode b_LN_readable 9 = .ok (.getfield 42, 3) := by decide +kernel
theorem d_LN_readable_12 : decode b_LN_readable 12 = .ok (.ifCond .eq (7), 3) := by decide +kernel
theorem d_LN_readable_15 : decode b_LN_readable 15 = .ok (.iconst 1, 1) := by decide +kernel
theorem d_LN_readable_16 : decode b_LN_readable 16 = .ok (.goto (4), 3) := by decide +kernel
theorem d_LN_readable_19 : decode b_LN_readable 19 = .ok (.iconst 0, 1) := by decide +kernel
theorem d_LN_readable_20 : decode b_LN_readable 20 = .ok (.ireturn, 1) := by decide +kernel
def K_LW_readable_20 (st : plS) (k0 : Int32) : Int32 := k0
def P_LW_readable_20 (st : plS) (k0 : Int32) : Prop := plB k0
set_option maxRecDepth 20000 in
theorem j_LW_readable_20 {E : plE} (X : plX E b_LN_readable "ProtectedLine$Line" 1 (some .boolean) 0 0) (a : Nat → Nat) (T : Int32) (st : plS) (hQ : plRp E (plwC (plg E) a) st T) (k0 : Int32) (hs : P_LW_readable_20 st k0) (hk : T = K_LW_readable_20 st k0) : plJ E 1 (plwC (plg E) a st) 0 0 [] 20 [.int k0] := by
  unfold P_LW_readable_20 at hs
  unfold K_LW_readable_20 at hk
  exact j_retzp (pc := 20) X hQ d_LN_readable_20 hs hk
def K_LW_readable_19 (st : plS) : Int32 := K_LW_readable_20 st 0
def P_LW_readable_19 (st : plS) : Prop := P_LW_readable_20 st 0
set_option maxRecDepth 20000 in
theorem j_LW_readable_19 {E : plE} (X : plX E b_LN_readable "ProtectedLine$Line" 1 (some .boolean) 0 0) (a : Nat → Nat) (T : Int32) (st : plS) (hQ : plRp E (plwC (plg E) a) st T)  (hs : P_LW_readable_19 st) (hk : T = K_LW_readable_19 st) : plJ E 1 (plwC (plg E) a st) 0 0 [] 19 [] := by
  unfold P_LW_readable_19 at hs
  unfold K_LW_readable_19 at hk
  refine j_iconst (pc := 19) X d_LN_readable_19 ic_0 ?_
  exact j_LW_readable_20 X a T st hQ 0 hs hk
def K_LW_readable (st : plS) : Int32 := (if (st 9 9) = 2 then (if (st 9 7) = 0 then K_LW_readable_19 st else K_LW_readable_20 st 1) else K_LW_readable_19 st)
def P_LW_readable (st : plS) : Prop := (((st 9 9) = 2 → (((st 9 7) = 0 → P_LW_readable_19 st) ∧ (¬ (st 9 7) = 0 → P_LW_readable_20 st 1))) ∧ (¬ (st 9 9) = 2 → P_LW_readable_19 st))
set_option maxRecDepth 20000 in
theorem j_LW_readable {E : plE} (X : plX E b_LN_readable "ProtectedLine$Line" 1 (some .boolean) 0 0) (a : Nat → Nat) (T : Int32) (st : plS) (hQ : plRp E (plwC (plg E) a) st T)  (hs : P_LW_readable st) (hk : T = K_LW_readable st) : plJ E 1 (plwC (plg E) a st) 0 0 [(0, .ref (a 9))] 0 [] := by
  unfold P_LW_readable at hs
  unfold K_LW_readable at hk
  refine j_aload_n (pc := 0) X d_LN_readable_0 rfl 0 rfl ?_
  refine get_LW_state (pc := 1) X fl_LN_84 d_LN_readable_1 ?_
  refine j_iconst (pc := 4) X d_LN_readable_4 ic_2 ?_
  refine j_icmp_ne (pc := 5) (tgt := 19) X d_LN_readable_5 rfl (fun hc => ?_) (fun hc => ?_)
  · have hk := hk.trans (if_neg hc)
    have hs := hs.2 hc
    refine j_sub [] (lv' := []) rfl ?_
    exact j_LW_readable_19 X a T st hQ hs hk
  · have hk := hk.trans (if_pos hc)
    have hs := hs.1 hc
    refine j_aload_n (pc := 8) X d_LN_readable_8 rfl 0 rfl ?_
    refine get_LW_hasArrived (pc := 9) X fl_LN_42 d_LN_readable_9 ?_
    refine j_if_eq (pc := 12) (tgt := 19) X d_LN_readable_12 rfl (fun hc => ?_) (fun hc => ?_)
    · have hk := hk.trans (if_pos hc)
      have hs := hs.1 hc
      refine j_sub [] (lv' := []) rfl ?_
      exact j_LW_readable_19 X a T st hQ hs hk
    · have hk := hk.trans (if_neg hc)
      have hs := hs.2 hc
      refine j_iconst (pc := 15) X d_LN_readable_15 ic_1 ?_
      refine j_goto (pc := 16) (tgt := 20) X d_LN_readable_16 rfl ?_
      refine j_sub [] (lv' := []) rfl ?_
      exact j_LW_readable_20 X a T st hQ 1 hs hk
set_option maxRecDepth 20000 in
theorem c_LW_readable (g : plG) (a : Nat → Nat) (st : plS)  (hs : P_LW_readable st ) : plMp g y_LN_readable b_LN_readable 1 (some .boolean) 0 0 [.ref (a 9)] (plwC g a) st (K_LW_readable st ) := by
  refine plMp.of (own := "ProtectedLine$Line") (lv := [(0, .ref (a 9))]) rfl rfl (Nat.le_of_ble_eq_true rfl) rfl (fun E hE X hQ => ?_)
  subst hE
  exact j_LW_readable X a _ st hQ  hs rfl
theorem d_LN_plainAt_0 : decode b_LN_plainAt 0 = .ok (.aload_n 0, 1) := by decide +kernel
theorem d_LN_plainAt_1 : decode b_LN_plainAt 1 = .ok (.getfield 18, 3) := by decide +kernel
theorem d_LN_plainAt_4 : decode b_LN_plainAt 4 = .ok (.iload_n 1, 1) := by decide +kernel
theorem d_LN_plainAt_5 : decode b_LN_plainAt 5 = .ok (.iaload, 1) := by decide +kernel
theorem d_LN_plainAt_6 : decode b_LN_plainAt 6 = .ok (.getstatic 35, 3) := by decide +kernel
theorem d_LN_plainAt_9 : decode b_LN_plainAt 9 = .ok (.iload_n 1, 1) := by decide +kernel
theorem d_LN_plainAt_10 : decode b_LN_plainAt 10 = .ok (.iconst 2, 1) := by decide +kernel
theorem d_LN_plainAt_11 : decode b_LN_plainAt 11 = .ok (.isub, 1) := by decide +kernel
theorem d_LN_plainAt_12 : decode b_LN_plainAt 12 = .ok (.iaload, 1) := by decide +kernel
theorem d_LN_plainAt_13 : decode b_LN_plainAt 13 = .ok (.ixor, 1) := by decide +kernel
theorem d_LN_plainAt_14 : decode b_LN_plainAt 14 = .ok (.ireturn, 1) := by decide +kernel
def K_LW_plainAt (st : plS) (v1 : Int32) : Int32 := (st 12 (plIx v1)) ^^^ (plROW (plIx (v1 - 2)))
def P_LW_plainAt (st : plS) (v1 : Int32) : Prop := (vp_in v1 12 ∧ vp_in (v1 - 2) 10)
set_option maxRecDepth 20000 in
theorem j_LW_plainAt {E : plE} (X : plX E b_LN_plainAt "ProtectedLine$Line" 2 (some .int) 0 0) (a : Nat → Nat) (T : Int32) (st : plS) (hQ : plRp E (plwC (plg E) a) st T) (v1 : Int32) (hs : P_LW_plainAt st v1) (hk : T = K_LW_plainAt st v1) : plJ E 2 (plwC (plg E) a st) 0 0 [(0, .ref (a 9)), (1, .int v1)] 0 [] := by
  unfold P_LW_plainAt at hs
  unfold K_LW_plainAt at hk
  refine j_aload_n (pc := 0) X d_LN_plainAt_0 rfl 0 rfl ?_
  refine get_LW_arrived (pc := 1) X fl_LN_18 d_LN_plainAt_1 ?_
  refine j_iload_n (pc := 4) X d_LN_plainAt_4 rfl 1 rfl ?_
  refine ald_LWa (pc := 5) X hs.1 d_LN_plainAt_5 ?_
  have hs := hs.2
  refine j_getROW (pc := 6) X fl_LN_35 d_LN_plainAt_6 ?_
  refine j_iload_n (pc := 9) X d_LN_plainAt_9 rfl 1 rfl ?_
  refine j_iconst (pc := 10) X d_LN_plainAt_10 ic_2 ?_
  refine j_isub (pc := 11) X d_LN_plainAt_11 ?_
  refine j_aldROW (pc := 12) X hs d_LN_plainAt_12 ?_
  refine j_ixor (pc := 13) X d_LN_plainAt_13 ?_
  exact j_retip (pc := 14) X hQ d_LN_plainAt_14 hk
set_option maxRecDepth 20000 in
theorem c_LW_plainAt (g : plG) (a : Nat → Nat) (st : plS) (v1 : Int32) (hs : P_LW_plainAt st v1) : plMp g y_LN_plainAt b_LN_plainAt 2 (some .int) 0 0 [.ref (a 9), .int v1] (plwC g a) st (K_LW_plainAt st v1) := by
  refine plMp.of (own := "ProtectedLine$Line") (lv := [(0, .ref (a 9)), (1, .int v1)]) rfl rfl (Nat.le_of_ble_eq_true rfl) rfl (fun E hE X hQ => ?_)
  subst hE
  exact j_LW_plainAt X a _ st hQ v1 hs rfl
theorem d_JI_bitCount_0 : decode b_JI_bitCount 0 = .ok (.iload_n 0, 1) := by decide +kernel
theorem d_JI_bitCount_1 : decode b_JI_bitCount 1 = .ok (.iload_n 0, 1) := by decide +kernel
theorem d_JI_bitCount_2 : decode b_JI_bitCount 2 = .ok (.iconst 1, 1) := by decide +kernel
theorem d_JI_bitCount_3 : decode b_JI_bitCount 3 = .ok (.iushr, 1) := by decide +kernel
theorem d_JI_bitCount_4 : decode b_JI_bitCount 4 = .ok (.ldc_w 265, 3) := by decide +kernel
theorem d_JI_bitCount_7 : decode b_JI_bitCount 7 = .ok (.iand, 1) := by decide +kernel
theorem d_JI_bitCount_8 : decode b_JI_bitCount 8 = .ok (.isub, 1) := by decide +kernel
theorem d_JI_bitCount_9 : decode b_JI_bitCount 9 = .ok (.istore_n 0, 1) := by decide +kernel
theorem d_JI_bitCount_10 : decode b_JI_bitCount 10 = .ok (.iload_n 0, 1) := by decide +kernel
theorem d_JI_bitCount_11 : decode b_JI_bitCount 11 = .ok (.ldc_w 266, 3) := by decide +kernel
theorem d_JI_bitCount_14 : decode b_JI_bitCount 14 = .ok (.iand, 1) := by decide +kernel
theorem d_JI_bitCount_15 : decode b_JI_bitCount 15 = .ok (.iload_n 0, 1) := by decide +kernel
theorem d_JI_bitCount_16 : decode b_JI_bitCount 16 = .ok (.iconst 2, 1) := by decide +kernel
theorem d_JI_bitCount_17 : decode b_JI_bitCount 17 = .ok (.iushr, 1) := by decide +kernel
theorem d_JI_bitCount_18 : decode b_JI_bitCount 18 = .ok (.ldc_w 266, 3) := by decide +kernel
theorem d_JI_bitCount_21 : decode b_JI_bitCount 21 = .ok (.iand, 1) := by decide +kernel
theorem d_JI_bitCount_22 : decode b_JI_bitCount 22 = .ok (.iadd, 1) := by decide +kernel
theorem d_JI_bitCount_23 : decode b_JI_bitCount 23 = .ok (.istore_n 0, 1) := by decide +kernel
theorem d_JI_bitCount_24 : decode b_JI_bitCount 24 = .ok (.iload_n 0, 1) := by decide +kernel
theorem d_JI_bitCount_25 : decode b_JI_bitCount 25 = .ok (.iload_n 0, 1) := by decide +kernel
theorem d_JI_bitCount_26 : decode b_JI_bitCount 26 = .ok (.iconst 4, 1) := by decide +kernel
theorem d_JI_bitCount_27 : decode b_JI_bitCount 27 = .ok (.iushr, 1) := by decide +kernel
theorem d_JI_bitCount_28 : decode b_JI_bitCount 28 = .ok (.iadd, 1) := by decide +kernel
theorem d_JI_bitCount_29 : decode b_JI_bitCount 29 = .ok (.ldc_w 267, 3) := by decide +kernel
theorem d_JI_bitCount_32 : decode b_JI_bitCount 32 = .ok (.iand, 1) := by decide +kernel
theorem d_JI_bitCount_33 : decode b_JI_bitCount 33 = .ok (.istore_n 0, 1) := by decide +kernel
theorem d_JI_bitCount_34 : decode b_JI_bitCount 34 = .ok (.iload_n 0, 1) := by decide +kernel
theorem d_JI_bitCount_35 : decode b_JI_bitCount 35 = .ok (.iload_n 0, 1) := by decide +kernel
theorem d_JI_bitCount_36 : decode b_JI_bitCount 36 = .ok (.bipush (8), 2) := by decide +kernel
theorem d_JI_bitCount_38 : decode b_JI_bitCount 38 = .ok (.iushr, 1) := by decide +kernel
theorem d_JI_bitCount_39 : decode b_JI_bitCount 39 = .ok (.iadd, 1) := by decide +kernel
theorem d_JI_bitCount_40 : decode b_JI_bitCount 40 = .ok (.istore_n 0, 1) := by decide +kernel
theorem d_JI_bitCount_41 : decode b_JI_bitCount 41 = .ok (.iload_n 0, 1) := by decide +kernel
theorem d_JI_bitCount_42 : decode b_JI_bitCount 42 = .ok (.iload_n 0, 1) := by decide +kernel
theorem d_JI_bitCount_43 : decode b_JI_bitCount 43 = .ok (.bipush (16), 2) := by decide +kernel
theorem d_JI_bitCount_45 : decode b_JI_bitCount 45 = .ok (.iushr, 1) := by decide +kernel
theorem d_JI_bitCount_46 : decode b_JI_bitCount 46 = .ok (.iadd, 1) := by decide +kernel
theorem d_JI_bitCount_47 : decode b_JI_bitCount 47 = .ok (.istore_n 0, 1) := by decide +kernel
theorem d_JI_bitCount_48 : decode b_JI_bitCount 48 = .ok (.iload_n 0, 1) := by decide +kernel
theorem d_JI_bitCount_49 : decode b_JI_bitCount 49 = .ok (.bipush (63), 2) := by decide +kernel
theorem d_JI_bitCount_51 : decode b_JI_bitCount 51 = .ok (.iand, 1) := by decide +kernel
theorem d_JI_bitCount_52 : decode b_JI_bitCount 52 = .ok (.ireturn, 1) := by decide +kernel
def K_JI_bitCount_48 (v0 : Int32) : Int32 := v0 &&& 63
set_option maxRecDepth 20000 in
theorem j_JI_bitCount_48 {E : plE} (X : plX E b_JI_bitCount "java/lang/Integer" 1 (some .int) 0 0) (a : Nat → Nat) (T : Int32) (st : plS) (hQ : plRp E (plwC (plg E) a) st T) (v0 : Int32) (hk : T = K_JI_bitCount_48 v0) : plJ E 1 (plwC (plg E) a st) 0 0 [(0, .int v0)] 48 [] := by
  unfold K_JI_bitCount_48 at hk
  refine j_iload_n (pc := 48) X d_JI_bitCount_48 rfl 0 rfl ?_
  refine j_bipush (pc := 49) X d_JI_bitCount_49 bp_63 ?_
  refine j_iand (pc := 51) X d_JI_bitCount_51 ?_
  exact j_retip (pc := 52) X hQ d_JI_bitCount_52 hk
def K_JI_bitCount_41 (v0 : Int32) : Int32 := K_JI_bitCount_48 (v0 + (plUshr v0 16))
set_option maxRecDepth 20000 in
theorem j_JI_bitCount_41 {E : plE} (X : plX E b_JI_bitCount "java/lang/Integer" 1 (some .int) 0 0) (a : Nat → Nat) (T : Int32) (st : plS) (hQ : plRp E (plwC (plg E) a) st T) (v0 : Int32) (hk : T = K_JI_bitCount_41 v0) : plJ E 1 (plwC (plg E) a st) 0 0 [(0, .int v0)] 41 [] := by
  unfold K_JI_bitCount_41 at hk
  refine j_iload_n (pc := 41) X d_JI_bitCount_41 rfl 0 rfl ?_
  refine j_iload_n (pc := 42) X d_JI_bitCount_42 rfl 0 rfl ?_
  refine j_bipush (pc := 43) X d_JI_bitCount_43 bp_16 ?_
  refine j_iushr (pc := 45) X d_JI_bitCount_45 ?_
  refine j_iadd (pc := 46) X d_JI_bitCount_46 ?_
  refine j_istore_n (pc := 47) X d_JI_bitCount_47 rfl (lv' := [(0, .int (v0 + (plUshr v0 16)))]) (Nat.le_of_ble_eq_true rfl) rfl ?_
  exact j_JI_bitCount_48 X a T st hQ (v0 + (plUshr v0 16)) hk
def K_JI_bitCount_34 (v0 : Int32) : Int32 := K_JI_bitCount_41 (v0 + (plUshr v0 8))
set_option maxRecDepth 20000 in
theorem j_JI_bitCount_34 {E : plE} (X : plX E b_JI_bitCount "java/lang/Integer" 1 (some .int) 0 0) (a : Nat → Nat) (T : Int32) (st : plS) (hQ : plRp E (plwC (plg E) a) st T) (v0 : Int32) (hk : T = K_JI_bitCount_34 v0) : plJ E 1 (plwC (plg E) a st) 0 0 [(0, .int v0)] 34 [] := by
  unfold K_JI_bitCount_34 at hk
  refine j_iload_n (pc := 34) X d_JI_bitCount_34 rfl 0 rfl ?_
  refine j_iload_n (pc := 35) X d_JI_bitCount_35 rfl 0 rfl ?_
  refine j_bipush (pc := 36) X d_JI_bitCount_36 bp_8 ?_
  refine j_iushr (pc := 38) X d_JI_bitCount_38 ?_
  refine j_iadd (pc := 39) X d_JI_bitCount_39 ?_
  refine j_istore_n (pc := 40) X d_JI_bitCount_40 rfl (lv' := [(0, .int (v0 + (plUshr v0 8)))]) (Nat.le_of_ble_eq_true rfl) rfl ?_
  exact j_JI_bitCount_41 X a T st hQ (v0 + (plUshr v0 8)) hk
def K_JI_bitCount_24 (v0 : Int32) : Int32 := K_JI_bitCount_34 ((v0 + (plUshr v0 4)) &&& 252645135)
set_option maxRecDepth 20000 in
theorem j_JI_bitCount_24 {E : plE} (X : plX E b_JI_bitCount "java/lang/Integer" 1 (some .int) 0 0) (a : Nat → Nat) (T : Int32) (st : plS) (hQ : plRp E (plwC (plg E) a) st T) (v0 : Int32) (hk : T = K_JI_bitCount_24 v0) : plJ E 1 (plwC (plg E) a st) 0 0 [(0, .int v0)] 24 [] := by
  unfold K_JI_bitCount_24 at hk
  refine j_iload_n (pc := 24) X d_JI_bitCount_24 rfl 0 rfl ?_
  refine j_iload_n (pc := 25) X d_JI_bitCount_25 rfl 0 rfl ?_
  refine j_iconst (pc := 26) X d_JI_bitCount_26 ic_4 ?_
  refine j_iushr (pc := 27) X d_JI_bitCount_27 ?_
  refine j_iadd (pc := 28) X d_JI_bitCount_28 ?_
  refine j_ldcw (pc := 29) X m_const_JI_267 d_JI_bitCount_29 ?_
  refine j_iand (pc := 32) X d_JI_bitCount_32 ?_
  refine j_istore_n (pc := 33) X d_JI_bitCount_33 rfl (lv' := [(0, .int ((v0 + (plUshr v0 4)) &&& 252645135))]) (Nat.le_of_ble_eq_true rfl) rfl ?_
  exact j_JI_bitCount_34 X a T st hQ ((v0 + (plUshr v0 4)) &&& 252645135) hk
def K_JI_bitCount_10 (v0 : Int32) : Int32 := K_JI_bitCount_24 ((v0 &&& 858993459) + ((plUshr v0 2) &&& 858993459))
set_option maxRecDepth 20000 in
theorem j_JI_bitCount_10 {E : plE} (X : plX E b_JI_bitCount "java/lang/Integer" 1 (some .int) 0 0) (a : Nat → Nat) (T : Int32) (st : plS) (hQ : plRp E (plwC (plg E) a) st T) (v0 : Int32) (hk : T = K_JI_bitCount_10 v0) : plJ E 1 (plwC (plg E) a st) 0 0 [(0, .int v0)] 10 [] := by
  unfold K_JI_bitCount_10 at hk
  refine j_iload_n (pc := 10) X d_JI_bitCount_10 rfl 0 rfl ?_
  refine j_ldcw (pc := 11) X m_const_JI_266 d_JI_bitCount_11 ?_
  refine j_iand (pc := 14) X d_JI_bitCount_14 ?_
  refine j_iload_n (pc := 15) X d_JI_bitCount_15 rfl 0 rfl ?_
  refine j_iconst (pc := 16) X d_JI_bitCount_16 ic_2 ?_
  refine j_iushr (pc := 17) X d_JI_bitCount_17 ?_
  refine j_ldcw (pc := 18) X m_const_JI_266 d_JI_bitCount_18 ?_
  refine j_iand (pc := 21) X d_JI_bitCount_21 ?_
  refine j_iadd (pc := 22) X d_JI_bitCount_22 ?_
  refine j_istore_n (pc := 23) X d_JI_bitCount_23 rfl (lv' := [(0, .int ((v0 &&& 858993459) + ((plUshr v0 2) &&& 858993459)))]) (Nat.le_of_ble_eq_true rfl) rfl ?_
  exact j_JI_bitCount_24 X a T st hQ ((v0 &&& 858993459) + ((plUshr v0 2) &&& 858993459)) hk
def K_JI_bitCount (v0 : Int32) : Int32 := K_JI_bitCount_10 (v0 - ((plUshr v0 1) &&& 1431655765))
set_option maxRecDepth 20000 in
theorem j_JI_bitCount {E : plE} (X : plX E b_JI_bitCount "java/lang/Integer" 1 (some .int) 0 0) (a : Nat → Nat) (T : Int32) (st : plS) (hQ : plRp E (plwC (plg E) a) st T) (v0 : Int32) (hk : T = K_JI_bitCount v0) : plJ E 1 (plwC (plg E) a st) 0 0 [(0, .int v0)] 0 [] := by
  unfold K_JI_bitCount at hk
  refine j_iload_n (pc := 0) X d_JI_bitCount_0 rfl 0 rfl ?_
  refine j_iload_n (pc := 1) X d_JI_bitCount_1 rfl 0 rfl ?_
  refine j_iconst (pc := 2) X d_JI_bitCount_2 ic_1 ?_
  refine j_iushr (pc := 3) X d_JI_bitCount_3 ?_
  refine j_ldcw (pc := 4) X m_const_JI_265 d_JI_bitCount_4 ?_
  refine j_iand (pc := 7) X d_JI_bitCount_7 ?_
  refine j_isub (pc := 8) X d_JI_bitCount_8 ?_
  refine j_istore_n (pc := 9) X d_JI_bitCount_9 rfl (lv' := [(0, .int (v0 - ((plUshr v0 1) &&& 1431655765)))]) (Nat.le_of_ble_eq_true rfl) rfl ?_
  exact j_JI_bitCount_10 X a T st hQ (v0 - ((plUshr v0 1) &&& 1431655765)) hk
set_option maxRecDepth 20000 in
theorem c_JI_bitCount (g : plG) (a : Nat → Nat) (st : plS) (v0 : Int32) : plMp g y_JI_bitCount b_JI_bitCount 1 (some .int) 0 0 [.int v0] (plwC g a) st (K_JI_bitCount v0) := by
  refine plMp.of (own := "java/lang/Integer") (lv := [(0, .int v0)]) rfl rfl (Nat.le_of_ble_eq_true rfl) rfl (fun E hE X hQ => ?_)
  subst hE
  exact j_JI_bitCount X a _ st hQ v0 rfl
