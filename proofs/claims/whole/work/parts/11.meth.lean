theorem d_NA_justification_0 : decode b_NA_justification 0 = .ok (.aload_n 0, 1) := by decide +kernel
theorem d_NA_justification_1 : decode b_NA_justification 1 = .ok (.getfield 54, 3) := by decide +kernel
theorem d_NA_justification_4 : decode b_NA_justification 4 = .ok (.ifCond .le (15), 3) := by decide +kernel
theorem d_NA_justification_7 : decode b_NA_justification 7 = .ok (.aload_n 0, 1) := by decide +kernel
theorem d_NA_justification_8 : decode b_NA_justification 8 = .ok (.dup, 1) := by decide +kernel
theorem d_NA_justification_9 : decode b_NA_justification 9 = .ok (.getfield 54, 3) := by decide +kernel
theorem d_NA_justification_12 : decode b_NA_justification 12 = .ok (.iconst 1, 1) := by decide +kernel
theorem d_NA_justification_13 : decode b_NA_justification 13 = .ok (.isub, 1) := by decide +kernel
theorem d_NA_justification_14 : decode b_NA_justification 14 = .ok (.putfield 54, 3) := by decide +kernel
theorem d_NA_justification_17 : decode b_NA_justification 17 = .ok (.iconst 0, 1) := by decide +kernel
theorem d_NA_justification_18 : decode b_NA_justification 18 = .ok (.ireturn, 1) := by decide +kernel
theorem d_NA_justification_19 : decode b_NA_justification 19 = .ok (.aload_n 0, 1) := by decide +kernel
theorem d_NA_justification_20 : decode b_NA_justification 20 = .ok (.getfield 26, 3) := by decide +kernel
theorem d_NA_justification_23 : decode b_NA_justification 23 = .ok (.ifCond .ne (5), 3) := by decide +kernel
theorem d_NA_justification_26 : decode b_NA_justification 26 = .ok (.iconst 0, 1) := by decide +kernel
theorem d_NA_justification_27 : decode b_NA_justification 27 = .ok (.ireturn, 1) := by decide +kernel
theorem d_NA_justification_28 : decode b_NA_justification 28 = .ok (.aload_n 0, 1) := by decide +kernel
theorem d_NA_justification_29 : decode b_NA_justification 29 = .ok (.getfield 26, 3) := by decide +kernel
theorem d_NA_justification_32 : decode b_NA_justification 32 = .ok (.ifCond .le (7), 3) := by decide +kernel
theorem d_NA_justification_35 : decode b_NA_justification 35 = .ok (.iconst 1, 1) := by decide +kernel
theorem d_NA_justification_36 : decode b_NA_justification 36 = .ok (.goto (4), 3) := by decide +kernel
theorem d_NA_justification_39 : decode b_NA_justification 39 = .ok (.iconst (-1), 1) := by decide +kernel
theorem d_NA_justification_40 : decode b_NA_justification 40 = .ok (.istore_n 1, 1) := by decide +kernel
theorem d_NA_justification_41 : decode b_NA_justification 41 = .ok (.aload_n 0, 1) := by decide +kernel
theorem d_NA_justification_42 : decode b_NA_justification 42 = .ok (.dup, 1) := by decide +kernel
theorem d_NA_justification_43 : decode b_NA_justification 43 = .ok (.getfield 26, 3) := by decide +kernel
theorem d_NA_justification_46 : decode b_NA_justification 46 = .ok (.iload_n 1, 1) := by decide +kernel
theorem d_NA_justification_47 : decode b_NA_justification 47 = .ok (.isub, 1) := by decide +kernel
theorem d_NA_justification_48 : decode b_NA_justification 48 = .ok (.putfield 26, 3) := by decide +kernel
theorem d_NA_justification_51 : decode b_NA_justification 51 = .ok (.aload_n 0, 1) := by decide +kernel
theorem d_NA_justification_52 : decode b_NA_justification 52 = .ok (.iconst 3, 1) := by decide +kernel
theorem d_NA_justification_53 : decode b_NA_justification 53 = .ok (.putfield 54, 3) := by decide +kernel
theorem d_NA_justification_56 : decode b_NA_justification 56 = .ok (.iload_n 1, 1) := by decide +kernel
theorem d_NA_justification_57 : decode b_NA_justification 57 = .ok (.ireturn, 1) := by decide +kernel
def K_NA_justification_51 (st : plS) (v1 : Int32) : Int32 × plS := (v1, plUp st 5 5 3)
set_option maxRecDepth 20000 in
theorem j_NA_justification_51 {E : plE} (X : plX E b_NA_justification "ProtectedLine$NodeA" 2 (some .int) 0 0) (a : Nat → Nat) (T : Int32 × plS) (hQ : plRi E (plwC (plg E) a) T) (st : plS) (v1 : Int32) (hk : T = K_NA_justification_51 st v1) : plJ E 2 (plwC (plg E) a st) 0 0 [(0, .ref (a 5)), (1, .int v1)] 51 [] := by
  unfold K_NA_justification_51 at hk
  refine j_aload_n (pc := 51) X d_NA_justification_51 rfl 0 rfl ?_
  refine j_iconst (pc := 52) X d_NA_justification_52 ic_3 ?_
  refine put_NA_rest (pc := 53) X fl_NA_54 d_NA_justification_53 ?_
  refine j_iload_n (pc := 56) X d_NA_justification_56 rfl 1 rfl ?_
  exact j_reti (pc := 57) X hQ d_NA_justification_57 hk
def K_NA_justification_40 (st : plS) (k0 : Int32) : Int32 × plS := K_NA_justification_51 (plUp st 5 4 ((st 5 4) - k0)) k0
set_option maxRecDepth 20000 in
theorem j_NA_justification_40 {E : plE} (X : plX E b_NA_justification "ProtectedLine$NodeA" 2 (some .int) 0 0) (a : Nat → Nat) (T : Int32 × plS) (hQ : plRi E (plwC (plg E) a) T) (st : plS) (k0 : Int32) (hk : T = K_NA_justification_40 st k0) : plJ E 2 (plwC (plg E) a st) 0 0 [(0, .ref (a 5))] 40 [.int k0] := by
  unfold K_NA_justification_40 at hk
  refine j_istore_n (pc := 40) X d_NA_justification_40 rfl (lv' := [(1, .int k0), (0, .ref (a 5))]) (Nat.le_of_ble_eq_true rfl) rfl ?_
  refine j_aload_n (pc := 41) X d_NA_justification_41 rfl 1 rfl ?_
  refine j_dup (pc := 42) X d_NA_justification_42 rfl ?_
  refine get_NA_debt (pc := 43) X fl_NA_26 d_NA_justification_43 ?_
  refine j_iload_n (pc := 46) X d_NA_justification_46 rfl 0 rfl ?_
  refine j_isub (pc := 47) X d_NA_justification_47 ?_
  refine put_NA_debt (pc := 48) X fl_NA_26 d_NA_justification_48 ?_
  refine j_sub [1, 0] (lv' := [(0, .ref (a 5)), (1, .int k0)]) rfl ?_
  exact j_NA_justification_51 X a T hQ (plUp st 5 4 ((st 5 4) - k0)) k0 hk
def K_NA_justification (st : plS) : Int32 × plS := (if (st 5 5) ≤ 0 then (if (st 5 4) = 0 then (0, st) else (if (st 5 4) ≤ 0 then K_NA_justification_40 st ((-1)) else K_NA_justification_40 st 1)) else (0, plUp st 5 5 ((st 5 5) - 1)))
set_option maxRecDepth 20000 in
theorem j_NA_justification {E : plE} (X : plX E b_NA_justification "ProtectedLine$NodeA" 2 (some .int) 0 0) (a : Nat → Nat) (T : Int32 × plS) (hQ : plRi E (plwC (plg E) a) T) (st : plS)  (hk : T = K_NA_justification st) : plJ E 2 (plwC (plg E) a st) 0 0 [(0, .ref (a 5))] 0 [] := by
  unfold K_NA_justification at hk
  refine j_aload_n (pc := 0) X d_NA_justification_0 rfl 0 rfl ?_
  refine get_NA_rest (pc := 1) X fl_NA_54 d_NA_justification_1 ?_
  refine j_if_le (pc := 4) (tgt := 19) X d_NA_justification_4 rfl (fun hc => ?_) (fun hc => ?_)
  · have hk := hk.trans (if_pos hc)
    refine j_aload_n (pc := 19) X d_NA_justification_19 rfl 0 rfl ?_
    refine get_NA_debt (pc := 20) X fl_NA_26 d_NA_justification_20 ?_
    refine j_if_ne (pc := 23) (tgt := 28) X d_NA_justification_23 rfl (fun hc => ?_) (fun hc => ?_)
    · have hk := hk.trans (if_neg hc)
      refine j_aload_n (pc := 28) X d_NA_justification_28 rfl 0 rfl ?_
      refine get_NA_debt (pc := 29) X fl_NA_26 d_NA_justification_29 ?_
      refine j_if_le (pc := 32) (tgt := 39) X d_NA_justification_32 rfl (fun hc => ?_) (fun hc => ?_)
      · have hk := hk.trans (if_pos hc)
        refine j_iconst (pc := 39) X d_NA_justification_39 ic_m1 ?_
        exact j_NA_justification_40 X a T hQ st ((-1)) hk
      · have hk := hk.trans (if_neg hc)
        refine j_iconst (pc := 35) X d_NA_justification_35 ic_1 ?_
        refine j_goto (pc := 36) (tgt := 40) X d_NA_justification_36 rfl ?_
        exact j_NA_justification_40 X a T hQ st 1 hk
    · have hk := hk.trans (if_pos hc)
      refine j_iconst (pc := 26) X d_NA_justification_26 ic_0 ?_
      exact j_reti (pc := 27) X hQ d_NA_justification_27 hk
  · have hk := hk.trans (if_neg hc)
    refine j_aload_n (pc := 7) X d_NA_justification_7 rfl 0 rfl ?_
    refine j_dup (pc := 8) X d_NA_justification_8 rfl ?_
    refine get_NA_rest (pc := 9) X fl_NA_54 d_NA_justification_9 ?_
    refine j_iconst (pc := 12) X d_NA_justification_12 ic_1 ?_
    refine j_isub (pc := 13) X d_NA_justification_13 ?_
    refine put_NA_rest (pc := 14) X fl_NA_54 d_NA_justification_14 ?_
    refine j_iconst (pc := 17) X d_NA_justification_17 ic_0 ?_
    exact j_reti (pc := 18) X hQ d_NA_justification_18 hk
set_option maxRecDepth 20000 in
theorem c_NA_justification (g : plG) (a : Nat → Nat) (st : plS)  : plMi g y_NA_justification b_NA_justification 2 (some .int) 0 0 [.ref (a 5)] (plwC g a) st (K_NA_justification st ) := by
  refine plMi.of (own := "ProtectedLine$NodeA") (lv := [(0, .ref (a 5))]) rfl rfl (Nat.le_of_ble_eq_true rfl) rfl (fun E hE X hQ => ?_)
  subst hE
  exact j_NA_justification X a _ hQ st  rfl
theorem d_CO_pointerByte_0 : decode b_CO_pointerByte 0 = .ok (.bipush (64), 2) := by decide +kernel
theorem d_CO_pointerByte_2 : decode b_CO_pointerByte 2 = .ok (.bipush (9), 2) := by decide +kernel
theorem d_CO_pointerByte_4 : decode b_CO_pointerByte 4 = .ok (.iload_n 0, 1) := by decide +kernel
theorem d_CO_pointerByte_5 : decode b_CO_pointerByte 5 = .ok (.imul, 1) := by decide +kernel
theorem d_CO_pointerByte_6 : decode b_CO_pointerByte 6 = .ok (.iadd, 1) := by decide +kernel
theorem d_CO_pointerByte_7 : decode b_CO_pointerByte 7 = .ok (.ireturn, 1) := by decide +kernel
def K_CO_pointerByte (v0 : Int32) : Int32 := 64 + (9 * v0)
set_option maxRecDepth 20000 in
theorem j_CO_pointerByte {E : plE} (X : plX E b_CO_pointerByte "ProtectedLine$Code" 1 (some .int) 0 0) (a : Nat → Nat) (T : Int32) (st : plS) (hQ : plRp E (plwC (plg E) a) st T) (v0 : Int32) (hk : T = K_CO_pointerByte v0) : plJ E 1 (plwC (plg E) a st) 0 0 [(0, .int v0)] 0 [] := by
  unfold K_CO_pointerByte at hk
  refine j_bipush (pc := 0) X d_CO_pointerByte_0 bp_64 ?_
  refine j_bipush (pc := 2) X d_CO_pointerByte_2 bp_9 ?_
  refine j_iload_n (pc := 4) X d_CO_pointerByte_4 rfl 0 rfl ?_
  refine j_imul (pc := 5) X d_CO_pointerByte_5 ?_
  refine j_iadd (pc := 6) X d_CO_pointerByte_6 ?_
  exact j_retip (pc := 7) X hQ d_CO_pointerByte_7 hk
set_option maxRecDepth 20000 in
theorem c_CO_pointerByte (g : plG) (a : Nat → Nat) (st : plS) (v0 : Int32) : plMp g y_CO_pointerByte b_CO_pointerByte 1 (some .int) 0 0 [.int v0] (plwC g a) st (K_CO_pointerByte v0) := by
  refine plMp.of (own := "ProtectedLine$Code") (lv := [(0, .int v0)]) rfl rfl (Nat.le_of_ble_eq_true rfl) rfl (fun E hE X hQ => ?_)
  subst hE
  exact j_CO_pointerByte X a _ st hQ v0 rfl
theorem d_SS_begin_0 : decode b_SS_begin 0 = .ok (.aload_n 0, 1) := by decide +kernel
theorem d_SS_begin_1 : decode b_SS_begin 1 = .ok (.iconst 0, 1) := by decide +kernel
theorem d_SS_begin_2 : decode b_SS_begin 2 = .ok (.putfield 39, 3) := by decide +kernel
theorem d_SS_begin_5 : decode b_SS_begin 5 = .ok (.aload_n 0, 1) := by decide +kernel
theorem d_SS_begin_6 : decode b_SS_begin 6 = .ok (.getfield 21, 3) := by decide +kernel
theorem d_SS_begin_9 : decode b_SS_begin 9 = .ok (.ifCond .ne (27), 3) := by decide +kernel
theorem d_SS_begin_12 : decode b_SS_begin 12 = .ok (.aload_n 0, 1) := by decide +kernel
theorem d_SS_begin_13 : decode b_SS_begin 13 = .ok (.getfield 18, 3) := by decide +kernel
theorem d_SS_begin_16 : decode b_SS_begin 16 = .ok (.iconst 0, 1) := by decide +kernel
theorem d_SS_begin_17 : decode b_SS_begin 17 = .ok (.sipush (182), 3) := by decide +kernel
theorem d_SS_begin_20 : decode b_SS_begin 20 = .ok (.iastore, 1) := by decide +kernel
theorem d_SS_begin_21 : decode b_SS_begin 21 = .ok (.aload_n 0, 1) := by decide +kernel
theorem d_SS_begin_22 : decode b_SS_begin 22 = .ok (.getfield 18, 3) := by decide +kernel
theorem d_SS_begin_25 : decode b_SS_begin 25 = .ok (.iconst 1, 1) := by decide +kernel
theorem d_SS_begin_26 : decode b_SS_begin 26 = .ok (.sipush (171), 3) := by decide +kernel
theorem d_SS_begin_29 : decode b_SS_begin 29 = .ok (.iastore, 1) := by decide +kernel
theorem d_SS_begin_30 : decode b_SS_begin 30 = .ok (.aload_n 0, 1) := by decide +kernel
theorem d_SS_begin_31 : decode b_SS_begin 31 = .ok (.iconst 2, 1) := by decide +kernel
theorem d_SS_begin_32 : decode b_SS_begin 32 = .ok (.putfield 42, 3) := by decide +kernel
theorem d_SS_begin_35 : decode b_SS_begin 35 = .ok (.return_, 1) := by decide +kernel
theorem d_SS_begin_36 : decode b_SS_begin 36 = .ok (.aload_n 0, 1) := by decide +kernel
theorem d_SS_begin_37 : decode b_SS_begin 37 = .ok (.aload_n 0, 1) := by decide +kernel
theorem d_SS_begin_38 : decode b_SS_begin 38 = .ok (.getfield 15, 3) := by decide +kernel
theorem d_SS_begin_41 : decode b_SS_begin 41 = .ok (.aload_n 0, 1) := by decide +kernel
theorem d_SS_begin_42 : decode b_SS_begin 42 = .ok (.getfield 25, 3) := by decide +kernel
theorem d_SS_begin_45 : decode b_SS_begin 45 = .ok (.iaload, 1) := by decide +kernel
theorem d_SS_begin_46 : decode b_SS_begin 46 = .ok (.putfield 42, 3) := by decide +kernel
theorem d_SS_begin_49 : decode b_SS_begin 49 = .ok (.aload_n 0, 1) := by decide +kernel
theorem d_SS_begin_50 : decode b_SS_begin 50 = .ok (.getfield 11, 3) := by decide +kernel
theorem d_SS_begin_53 : decode b_SS_begin 53 = .ok (.aload_n 0, 1) := by decide +kernel
theorem d_SS_begin_54 : decode b_SS_begin 54 = .ok (.getfield 25, 3) := by decide +kernel
theorem d_SS_begin_57 : decode b_SS_begin 57 = .ok (.bipush (9), 2) := by decide +kernel
theorem d_SS_begin_59 : decode b_SS_begin 59 = .ok (.imul, 1) := by decide +kernel
theorem d_SS_begin_60 : decode b_SS_begin 60 = .ok (.aload_n 0, 1) := by decide +kernel
theorem d_SS_begin_61 : decode b_SS_begin 61 = .ok (.getfield 18, 3) := by decide +kernel
theorem d_SS_begin_64 : decode b_SS_begin 64 = .ok (.iconst 0, 1) := by decide +kernel
theorem d_SS_begin_65 : decode b_SS_begin 65 = .ok (.aload_n 0, 1) := by decide +kernel
theorem d_SS_begin_66 : decode b_SS_begin 66 = .ok (.getfield 42, 3) := by decide +kernel
theorem d_SS_begin_69 : decode b_SS_begin 69 = .ok (.invokestatic 48, 3) := by decide +kernel
theorem d_SS_begin_72 : decode b_SS_begin 72 = .ok (.aload_n 0, 1) := by decide +kernel
theorem d_SS_begin_73 : decode b_SS_begin 73 = .ok (.aload_n 0, 1) := by decide +kernel
theorem d_SS_begin_74 : decode b_SS_begin 74 = .ok (.getfield 25, 3) := by decide +kernel
theorem d_SS_begin_77 : decode b_SS_begin 77 = .ok (.iconst 1, 1) := by decide +kernel
theorem d_SS_begin_78 : decode b_SS_begin 78 = .ok (.iadd, 1) := by decide +kernel
theorem d_SS_begin_79 : decode b_SS_begin 79 = .ok (.bipush (8), 2) := by decide +kernel
theorem d_SS_begin_81 : decode b_SS_begin 81 = .ok (.irem, 1) := by decide +kernel
theorem d_SS_begin_82 : decode b_SS_begin 82 = .ok (.putfield 25, 3) := by decide +kernel
theorem d_SS_begin_85 : decode b_SS_begin 85 = .ok (.aload_n 0, 1) := by decide +kernel
theorem d_SS_begin_86 : decode b_SS_begin 86 = .ok (.dup, 1) := by decide +kernel
theorem d_SS_begin_87 : decode b_SS_begin 87 = .ok (.getfield 21, 3) := by decide +kernel
theorem d_SS_begin_90 : decode b_SS_begin 90 = .ok (.iconst 1, 1) := by decide +kernel
theorem d_SS_begin_91 : decode b_SS_begin 91 = .ok (.isub, 1) := by decide +kernel
theorem d_SS_begin_92 : decode b_SS_begin 92 = .ok (.putfield 21, 3) := by decide +kernel
theorem d_SS_begin_95 : decode b_SS_begin 95 = .ok (.return_, 1) := by decide +kernel
def K_SS_begin_85 (st : plS) : plS := plUp st 1 3 ((st 1 3) - 1)
set_option maxRecDepth 20000 in
theorem j_SS_begin_85 {E : plE} (X : plX E b_SS_begin "ProtectedLine$StreamSource" 1 none 1 64) (a : Nat → Nat) (T : plS) (hQ : plRv E (plwC (plg E) a) T) (st : plS)  (hk : T = K_SS_begin_85 st) : plJ E 1 (plwC (plg E) a st) 0 0 [(0, .ref (a 1))] 85 [] := by
  unfold K_SS_begin_85 at hk
  refine j_aload_n (pc := 85) X d_SS_begin_85 rfl 0 rfl ?_
  refine j_dup (pc := 86) X d_SS_begin_86 rfl ?_
  refine get_SS_queued (pc := 87) X fl_SS_21 d_SS_begin_87 ?_
  refine j_iconst (pc := 90) X d_SS_begin_90 ic_1 ?_
  refine j_isub (pc := 91) X d_SS_begin_91 ?_
  refine put_SS_queued (pc := 92) X fl_SS_21 d_SS_begin_92 ?_
  exact j_retv (pc := 95) X hQ d_SS_begin_95 hk
def K_SS_begin_72 (st : plS) : plS := K_SS_begin_85 (plUp st 1 2 (((st 1 2) + 1) - ((st 1 2) + 1) / 8 * 8))
set_option maxRecDepth 20000 in
theorem j_SS_begin_72 {E : plE} (X : plX E b_SS_begin "ProtectedLine$StreamSource" 1 none 1 64) (a : Nat → Nat) (T : plS) (hQ : plRv E (plwC (plg E) a) T) (st : plS)  (hk : T = K_SS_begin_72 st) : plJ E 1 (plwC (plg E) a st) 0 0 [(0, .ref (a 1))] 72 [] := by
  unfold K_SS_begin_72 at hk
  refine j_aload_n (pc := 72) X d_SS_begin_72 rfl 0 rfl ?_
  refine j_aload_n (pc := 73) X d_SS_begin_73 rfl 0 rfl ?_
  refine get_SS_oldest (pc := 74) X fl_SS_25 d_SS_begin_74 ?_
  refine j_iconst (pc := 77) X d_SS_begin_77 ic_1 ?_
  refine j_iadd (pc := 78) X d_SS_begin_78 ?_
  refine j_bipush (pc := 79) X d_SS_begin_79 bp_8 ?_
  refine j_irem (pc := 81) X d_SS_begin_81 nz_8 ?_
  refine put_SS_oldest (pc := 82) X fl_SS_25 d_SS_begin_82 ?_
  exact j_SS_begin_85 X a T hQ (plUp st 1 2 (((st 1 2) + 1) - ((st 1 2) + 1) / 8 * 8)) hk
def K_SS_begin_49 (st : plS) : plS := K_SS_begin_72 (plCp st 2 4 (plIx ((st 1 2) * 9)) (plIx 0) (plIx (st 1 6)))
def P_SS_begin_49 (st : plS) : Prop := plCpOK 72 9 ((st 1 2) * 9) 0 (st 1 6)
set_option maxRecDepth 20000 in
theorem j_SS_begin_49 {E : plE} (X : plX E b_SS_begin "ProtectedLine$StreamSource" 1 none 1 64) (a : Nat → Nat) (T : plS) (hQ : plRv E (plwC (plg E) a) T) (st : plS)  (hs : P_SS_begin_49 st) (hk : T = K_SS_begin_49 st) : plJ E 1 (plwC (plg E) a st) 0 0 [(0, .ref (a 1))] 49 [] := by
  unfold P_SS_begin_49 at hs
  unfold K_SS_begin_49 at hk
  refine j_aload_n (pc := 49) X d_SS_begin_49 rfl 0 rfl ?_
  refine get_SS_ready (pc := 50) X fl_SS_11 d_SS_begin_50 ?_
  refine j_aload_n (pc := 53) X d_SS_begin_53 rfl 0 rfl ?_
  refine get_SS_oldest (pc := 54) X fl_SS_25 d_SS_begin_54 ?_
  refine j_bipush (pc := 57) X d_SS_begin_57 bp_9 ?_
  refine j_imul (pc := 59) X d_SS_begin_59 ?_
  refine j_aload_n (pc := 60) X d_SS_begin_60 rfl 0 rfl ?_
  refine get_SS_current (pc := 61) X fl_SS_18 d_SS_begin_61 ?_
  refine j_iconst (pc := 64) X d_SS_begin_64 ic_0 ?_
  refine j_aload_n (pc := 65) X d_SS_begin_65 rfl 0 rfl ?_
  refine get_SS_length (pc := 66) X fl_SS_42 d_SS_begin_66 ?_
  refine copy_SSr_SSc (pc := 69) X ml_SS_48 hs d_SS_begin_69 (Nat.le_of_ble_eq_true rfl) (Nat.le_of_ble_eq_true rfl) ?_
  exact j_SS_begin_72 X a T hQ (plCp st 2 4 (plIx ((st 1 2) * 9)) (plIx 0) (plIx (st 1 6))) hk
def K_SS_begin_30 (st : plS) : plS := plUp st 1 6 2
set_option maxRecDepth 20000 in
theorem j_SS_begin_30 {E : plE} (X : plX E b_SS_begin "ProtectedLine$StreamSource" 1 none 1 64) (a : Nat → Nat) (T : plS) (hQ : plRv E (plwC (plg E) a) T) (st : plS)  (hk : T = K_SS_begin_30 st) : plJ E 1 (plwC (plg E) a st) 0 0 [(0, .ref (a 1))] 30 [] := by
  unfold K_SS_begin_30 at hk
  refine j_aload_n (pc := 30) X d_SS_begin_30 rfl 0 rfl ?_
  refine j_iconst (pc := 31) X d_SS_begin_31 ic_2 ?_
  refine put_SS_length (pc := 32) X fl_SS_42 d_SS_begin_32 ?_
  exact j_retv (pc := 35) X hQ d_SS_begin_35 hk
def K_SS_begin_21 (st : plS) : plS := K_SS_begin_30 (plUp st 4 (plIx 1) 171)
set_option maxRecDepth 20000 in
theorem j_SS_begin_21 {E : plE} (X : plX E b_SS_begin "ProtectedLine$StreamSource" 1 none 1 64) (a : Nat → Nat) (T : plS) (hQ : plRv E (plwC (plg E) a) T) (st : plS)  (hk : T = K_SS_begin_21 st) : plJ E 1 (plwC (plg E) a st) 0 0 [(0, .ref (a 1))] 21 [] := by
  unfold K_SS_begin_21 at hk
  refine j_aload_n (pc := 21) X d_SS_begin_21 rfl 0 rfl ?_
  refine get_SS_current (pc := 22) X fl_SS_18 d_SS_begin_22 ?_
  refine j_iconst (pc := 25) X d_SS_begin_25 ic_1 ?_
  refine j_sipush (pc := 26) X d_SS_begin_26 sp_171 ?_
  refine ast_SSc (pc := 29) X vi_1_9 d_SS_begin_29 ?_
  exact j_SS_begin_30 X a T hQ (plUp st 4 (plIx 1) 171) hk
def K_SS_begin_5 (st : plS) : plS := (if (st 1 3) = 0 then K_SS_begin_21 (plUp st 4 (plIx 0) 182) else K_SS_begin_49 (plUp st 1 6 (st 3 (plIx (st 1 2)))))
def P_SS_begin_5 (st : plS) : Prop := (¬ (st 1 3) = 0 → (vp_in (st 1 2) 8 ∧ P_SS_begin_49 (plUp st 1 6 (st 3 (plIx (st 1 2))))))
set_option maxRecDepth 20000 in
theorem j_SS_begin_5 {E : plE} (X : plX E b_SS_begin "ProtectedLine$StreamSource" 1 none 1 64) (a : Nat → Nat) (T : plS) (hQ : plRv E (plwC (plg E) a) T) (st : plS)  (hs : P_SS_begin_5 st) (hk : T = K_SS_begin_5 st) : plJ E 1 (plwC (plg E) a st) 0 0 [(0, .ref (a 1))] 5 [] := by
  unfold P_SS_begin_5 at hs
  unfold K_SS_begin_5 at hk
  refine j_aload_n (pc := 5) X d_SS_begin_5 rfl 0 rfl ?_
  refine get_SS_queued (pc := 6) X fl_SS_21 d_SS_begin_6 ?_
  refine j_if_ne (pc := 9) (tgt := 36) X d_SS_begin_9 rfl (fun hc => ?_) (fun hc => ?_)
  · have hk := hk.trans (if_neg hc)
    have hs := hs hc
    refine j_aload_n (pc := 36) X d_SS_begin_36 rfl 0 rfl ?_
    refine j_aload_n (pc := 37) X d_SS_begin_37 rfl 0 rfl ?_
    refine get_SS_lengths (pc := 38) X fl_SS_15 d_SS_begin_38 ?_
    refine j_aload_n (pc := 41) X d_SS_begin_41 rfl 0 rfl ?_
    refine get_SS_oldest (pc := 42) X fl_SS_25 d_SS_begin_42 ?_
    refine ald_SSl (pc := 45) X hs.1 d_SS_begin_45 ?_
    have hs := hs.2
    refine put_SS_length (pc := 46) X fl_SS_42 d_SS_begin_46 ?_
    exact j_SS_begin_49 X a T hQ (plUp st 1 6 (st 3 (plIx (st 1 2)))) hs hk
  · have hk := hk.trans (if_pos hc)
    refine j_aload_n (pc := 12) X d_SS_begin_12 rfl 0 rfl ?_
    refine get_SS_current (pc := 13) X fl_SS_18 d_SS_begin_13 ?_
    refine j_iconst (pc := 16) X d_SS_begin_16 ic_0 ?_
    refine j_sipush (pc := 17) X d_SS_begin_17 sp_182 ?_
    refine ast_SSc (pc := 20) X vi_0_9 d_SS_begin_20 ?_
    exact j_SS_begin_21 X a T hQ (plUp st 4 (plIx 0) 182) hk
def K_SS_begin (st : plS) : plS := K_SS_begin_5 (plUp st 1 7 0)
def P_SS_begin (st : plS) : Prop := P_SS_begin_5 (plUp st 1 7 0)
set_option maxRecDepth 20000 in
theorem j_SS_begin {E : plE} (X : plX E b_SS_begin "ProtectedLine$StreamSource" 1 none 1 64) (a : Nat → Nat) (T : plS) (hQ : plRv E (plwC (plg E) a) T) (st : plS)  (hs : P_SS_begin st) (hk : T = K_SS_begin st) : plJ E 1 (plwC (plg E) a st) 0 0 [(0, .ref (a 1))] 0 [] := by
  unfold P_SS_begin at hs
  unfold K_SS_begin at hk
  refine j_aload_n (pc := 0) X d_SS_begin_0 rfl 0 rfl ?_
  refine j_iconst (pc := 1) X d_SS_begin_1 ic_0 ?_
  refine put_SS_position (pc := 2) X fl_SS_39 d_SS_begin_2 ?_
  exact j_SS_begin_5 X a T hQ (plUp st 1 7 0) hs hk
set_option maxRecDepth 20000 in
theorem c_SS_begin (g : plG) (a : Nat → Nat) (st : plS)  (hs : P_SS_begin st ) : plMv g y_SS_begin b_SS_begin 1 none 1 64 [.ref (a 1)] (plwC g a) st (K_SS_begin st ) := by
  refine plMv.of (own := "ProtectedLine$StreamSource") (lv := [(0, .ref (a 1))]) rfl rfl (Nat.le_of_ble_eq_true rfl) rfl (fun E hE X hQ => ?_)
  subst hE
  exact j_SS_begin X a _ hQ st  hs rfl
theorem d_SS_nextByte_0 : decode b_SS_nextByte 0 = .ok (.aload_n 0, 1) := by decide +kernel
theorem d_SS_nextByte_1 : decode b_SS_nextByte 1 = .ok (.getfield 39, 3) := by decide +kernel
theorem d_SS_nextByte_4 : decode b_SS_nextByte 4 = .ok (.aload_n 0, 1) := by decide +kernel
theorem d_SS_nextByte_5 : decode b_SS_nextByte 5 = .ok (.getfield 42, 3) := by decide +kernel
theorem d_SS_nextByte_8 : decode b_SS_nextByte 8 = .ok (.if_icmp .lt (7), 3) := by decide +kernel
theorem d_SS_nextByte_11 : decode b_SS_nextByte 11 = .ok (.aload_n 0, 1) := by decide +kernel
theorem d_SS_nextByte_12 : decode b_SS_nextByte 12 = .ok (.invokevirtual 45, 3) := by decide +kernel
theorem d_SS_nextByte_15 : decode b_SS_nextByte 15 = .ok (.aload_n 0, 1) := by decide +kernel
theorem d_SS_nextByte_16 : decode b_SS_nextByte 16 = .ok (.getfield 18, 3) := by decide +kernel
theorem d_SS_nextByte_19 : decode b_SS_nextByte 19 = .ok (.aload_n 0, 1) := by decide +kernel
theorem d_SS_nextByte_20 : decode b_SS_nextByte 20 = .ok (.getfield 39, 3) := by decide +kernel
theorem d_SS_nextByte_23 : decode b_SS_nextByte 23 = .ok (.iaload, 1) := by decide +kernel
theorem d_SS_nextByte_24 : decode b_SS_nextByte 24 = .ok (.istore_n 1, 1) := by decide +kernel
theorem d_SS_nextByte_25 : decode b_SS_nextByte 25 = .ok (.aload_n 0, 1) := by decide +kernel
theorem d_SS_nextByte_26 : decode b_SS_nextByte 26 = .ok (.dup, 1) := by decide +kernel
theorem d_SS_nextByte_27 : decode b_SS_nextByte 27 = .ok (.getfield 39, 3) := by decide +kernel
theorem d_SS_nextByte_30 : decode b_SS_nextByte 30 = .ok (.iconst 1, 1) := by decide +kernel
theorem d_SS_nextByte_31 : decode b_SS_nextByte 31 = .ok (.iadd, 1) := by decide +kernel
theorem d_SS_nextByte_32 : decode b_SS_nextByte 32 = .ok (.putfield 39, 3) := by decide +kernel
theorem d_SS_nextByte_35 : decode b_SS_nextByte 35 = .ok (.iload_n 1, 1) := by decide +kernel
theorem d_SS_nextByte_36 : decode b_SS_nextByte 36 = .ok (.ireturn, 1) := by decide +kernel
def K_SS_nextByte_15 (st : plS) : Int32 × plS := (st 4 (plIx (st 1 7)), plUp st 1 7 ((st 1 7) + 1))
def P_SS_nextByte_15 (st : plS) : Prop := vp_in (st 1 7) 9
set_option maxRecDepth 20000 in
theorem j_SS_nextByte_15 {E : plE} (X : plX E b_SS_nextByte "ProtectedLine$StreamSource" 2 (some .int) 2 84) (a : Nat → Nat) (T : Int32 × plS) (hQ : plRi E (plwC (plg E) a) T) (st : plS)  (hs : P_SS_nextByte_15 st) (hk : T = K_SS_nextByte_15 st) : plJ E 2 (plwC (plg E) a st) 0 0 [(0, .ref (a 1))] 15 [] := by
  unfold P_SS_nextByte_15 at hs
  unfold K_SS_nextByte_15 at hk
  refine j_aload_n (pc := 15) X d_SS_nextByte_15 rfl 0 rfl ?_
  refine get_SS_current (pc := 16) X fl_SS_18 d_SS_nextByte_16 ?_
  refine j_aload_n (pc := 19) X d_SS_nextByte_19 rfl 0 rfl ?_
  refine get_SS_position (pc := 20) X fl_SS_39 d_SS_nextByte_20 ?_
  refine ald_SSc (pc := 23) X hs d_SS_nextByte_23 ?_
  refine j_istore_n (pc := 24) X d_SS_nextByte_24 rfl (lv' := [(1, .int (st 4 (plIx (st 1 7)))), (0, .ref (a 1))]) (Nat.le_of_ble_eq_true rfl) rfl ?_
  refine j_aload_n (pc := 25) X d_SS_nextByte_25 rfl 1 rfl ?_
  refine j_dup (pc := 26) X d_SS_nextByte_26 rfl ?_
  refine get_SS_position (pc := 27) X fl_SS_39 d_SS_nextByte_27 ?_
  refine j_iconst (pc := 30) X d_SS_nextByte_30 ic_1 ?_
  refine j_iadd (pc := 31) X d_SS_nextByte_31 ?_
  refine put_SS_position (pc := 32) X fl_SS_39 d_SS_nextByte_32 ?_
  refine j_iload_n (pc := 35) X d_SS_nextByte_35 rfl 0 rfl ?_
  exact j_reti (pc := 36) X hQ d_SS_nextByte_36 hk
def K_SS_nextByte (st : plS) : Int32 × plS := (if (st 1 7) < (st 1 6) then K_SS_nextByte_15 st else K_SS_nextByte_15 (K_SS_begin st))
def P_SS_nextByte (st : plS) : Prop := (((st 1 7) < (st 1 6) → P_SS_nextByte_15 st) ∧ (¬ (st 1 7) < (st 1 6) → (P_SS_begin st ∧ P_SS_nextByte_15 (K_SS_begin st))))
set_option maxRecDepth 20000 in
theorem j_SS_nextByte {E : plE} (X : plX E b_SS_nextByte "ProtectedLine$StreamSource" 2 (some .int) 2 84) (a : Nat → Nat) (T : Int32 × plS) (hQ : plRi E (plwC (plg E) a) T) (st : plS)  (hs : P_SS_nextByte st) (hk : T = K_SS_nextByte st) : plJ E 2 (plwC (plg E) a st) 0 0 [(0, .ref (a 1))] 0 [] := by
  unfold P_SS_nextByte at hs
  unfold K_SS_nextByte at hk
  refine j_aload_n (pc := 0) X d_SS_nextByte_0 rfl 0 rfl ?_
  refine get_SS_position (pc := 1) X fl_SS_39 d_SS_nextByte_1 ?_
  refine j_aload_n (pc := 4) X d_SS_nextByte_4 rfl 0 rfl ?_
  refine get_SS_length (pc := 5) X fl_SS_42 d_SS_nextByte_5 ?_
  refine j_icmp_lt (pc := 8) (tgt := 15) X d_SS_nextByte_8 rfl (fun hc => ?_) (fun hc => ?_)
  · have hk := hk.trans (if_pos hc)
    have hs := hs.1 hc
    exact j_SS_nextByte_15 X a T hQ st hs hk
  · have hk := hk.trans (if_neg hc)
    have hs := hs.2 hc
    refine j_aload_n (pc := 11) X d_SS_nextByte_11 rfl 0 rfl ?_
    refine j_callVv (pc := 12) (As := []) (rest := []) X (c_SS_begin (plg E) a st hs.1) ml_SS_45 1 rfl rfl ⟨Nat.le_of_ble_eq_true rfl, Nat.le_of_ble_eq_true rfl⟩ rfl rfl (Nat.le_of_ble_eq_true rfl) d_SS_nextByte_12 ?_
    have hs := hs.2
    exact j_SS_nextByte_15 X a T hQ (K_SS_begin st) hs hk
set_option maxRecDepth 20000 in
theorem c_SS_nextByte (g : plG) (a : Nat → Nat) (st : plS)  (hs : P_SS_nextByte st ) : plMi g y_SS_nextByte b_SS_nextByte 2 (some .int) 2 84 [.ref (a 1)] (plwC g a) st (K_SS_nextByte st ) := by
  refine plMi.of (own := "ProtectedLine$StreamSource") (lv := [(0, .ref (a 1))]) rfl rfl (Nat.le_of_ble_eq_true rfl) rfl (fun E hE X hQ => ?_)
  subst hE
  exact j_SS_nextByte X a _ hQ st  hs rfl
theorem d_CS_nextByte_0 : decode b_CS_nextByte 0 = .ok (.aload_n 0, 1) := by decide +kernel
theorem d_CS_nextByte_1 : decode b_CS_nextByte 1 = .ok (.getfield 15, 3) := by decide +kernel
theorem d_CS_nextByte_4 : decode b_CS_nextByte 4 = .ok (.ifCond .ne (10), 3) := by decide +kernel
theorem d_CS_nextByte_7 : decode b_CS_nextByte 7 = .ok (.aload_n 0, 1) := by decide +kernel
theorem d_CS_nextByte_8 : decode b_CS_nextByte 8 = .ok (.getfield 19, 3) := by decide +kernel
theorem d_CS_nextByte_11 : decode b_CS_nextByte 11 = .ok (.goto (10), 3) := by decide +kernel
theorem d_CS_nextByte_14 : decode b_CS_nextByte 14 = .ok (.aload_n 0, 1) := by decide +kernel
theorem d_CS_nextByte_15 : decode b_CS_nextByte 15 = .ok (.getfield 9, 3) := by decide +kernel
theorem d_CS_nextByte_18 : decode b_CS_nextByte 18 = .ok (.invokevirtual 22, 3) := by decide +kernel
theorem d_CS_nextByte_21 : decode b_CS_nextByte 21 = .ok (.istore_n 1, 1) := by decide +kernel
theorem d_CS_nextByte_22 : decode b_CS_nextByte 22 = .ok (.aload_n 0, 1) := by decide +kernel
theorem d_CS_nextByte_23 : decode b_CS_nextByte 23 = .ok (.aload_n 0, 1) := by decide +kernel
theorem d_CS_nextByte_24 : decode b_CS_nextByte 24 = .ok (.getfield 15, 3) := by decide +kernel
theorem d_CS_nextByte_27 : decode b_CS_nextByte 27 = .ok (.ifCond .ne (7), 3) := by decide +kernel
theorem d_CS_nextByte_30 : decode b_CS_nextByte 30 = .ok (.iload_n 1, 1) := by decide +kernel
theorem d_CS_nextByte_31 : decode b_CS_nextByte 31 = .ok (.goto (9), 3) := by decide +kernel
theorem d_CS_nextByte_34 : decode b_CS_nextByte 34 = .ok (.aload_n 0, 1) := by decide +kernel
theorem d_CS_nextByte_35 : decode b_CS_nextByte 35 = .ok (.getfield 19, 3) := by decide +kernel
theorem d_CS_nextByte_38 : decode b_CS_nextByte 38 = .ok (.iload_n 1, 1) := by decide +kernel
theorem d_CS_nextByte_39 : decode b_CS_nextByte 39 = .ok (.ixor, 1) := by decide +kernel
theorem d_CS_nextByte_40 : decode b_CS_nextByte 40 = .ok (.putfield 19, 3) := by decide +kernel
theorem d_CS_nextByte_43 : decode b_CS_nextByte 43 = .ok (.aload_n 0, 1) := by decide +kernel
theorem d_CS_nextByte_44 : decode b_CS_nextByte 44 = .ok (.aload_n 0, 1) := by decide +kernel
theorem d_CS_nextByte_45 : decode b_CS_nextByte 45 = .ok (.getfield 15, 3) := by decide +kernel
theorem d_CS_nextByte_48 : decode b_CS_nextByte 48 = .ok (.iconst 5, 1) := by decide +kernel
theorem d_CS_nextByte_49 : decode b_CS_nextByte 49 = .ok (.if_icmp .ne (7), 3) := by decide +kernel
theorem d_CS_nextByte_52 : decode b_CS_nextByte 52 = .ok (.iconst 0, 1) := by decide +kernel
theorem d_CS_nextByte_53 : decode b_CS_nextByte 53 = .ok (.goto (9), 3) := by decide +kernel
theorem d_CS_nextByte_56 : decode b_CS_nextByte 56 = .ok (.aload_n 0, 1) := by decide +kernel
theorem d_CS_nextByte_57 : decode b_CS_nextByte 57 = .ok (.getfield 15, 3) := by decide +kernel
theorem d_CS_nextByte_60 : decode b_CS_nextByte 60 = .ok (.iconst 1, 1) := by decide +kernel
theorem d_CS_nextByte_61 : decode b_CS_nextByte 61 = .ok (.iadd, 1) := by decide +kernel
theorem d_CS_nextByte_62 : decode b_CS_nextByte 62 = .ok (.putfield 15, 3) := by decide +kernel
theorem d_CS_nextByte_65 : decode b_CS_nextByte 65 = .ok (.iload_n 1, 1) := by decide +kernel
theorem d_CS_nextByte_66 : decode b_CS_nextByte 66 = .ok (.ireturn, 1) := by decide +kernel
def K_CS_nextByte_62 (st : plS) (v1 : Int32) (k0 : Int32) : Int32 × plS := (v1, plUp st 6 1 k0)
set_option maxRecDepth 20000 in
theorem j_CS_nextByte_62 {E : plE} (X : plX E b_CS_nextByte "ProtectedLine$ContainerSource" 2 (some .int) 3 105) (a : Nat → Nat) (T : Int32 × plS) (hQ : plRi E (plwC (plg E) a) T) (st : plS) (v1 : Int32) (k0 : Int32) (hk : T = K_CS_nextByte_62 st v1 k0) : plJ E 2 (plwC (plg E) a st) 0 0 [(1, .int v1)] 62 [.int k0, .ref (a 6)] := by
  unfold K_CS_nextByte_62 at hk
  refine put_CS_place (pc := 62) X fl_CS_15 d_CS_nextByte_62 ?_
  refine j_iload_n (pc := 65) X d_CS_nextByte_65 rfl 0 rfl ?_
  exact j_reti (pc := 66) X hQ d_CS_nextByte_66 hk
def K_CS_nextByte_43 (st : plS) (v1 : Int32) : Int32 × plS := (if (st 6 1) = 5 then K_CS_nextByte_62 st v1 0 else K_CS_nextByte_62 st v1 ((st 6 1) + 1))
set_option maxRecDepth 20000 in
theorem j_CS_nextByte_43 {E : plE} (X : plX E b_CS_nextByte "ProtectedLine$ContainerSource" 2 (some .int) 3 105) (a : Nat → Nat) (T : Int32 × plS) (hQ : plRi E (plwC (plg E) a) T) (st : plS) (v1 : Int32) (hk : T = K_CS_nextByte_43 st v1) : plJ E 2 (plwC (plg E) a st) 0 0 [(0, .ref (a 6)), (1, .int v1)] 43 [] := by
  unfold K_CS_nextByte_43 at hk
  refine j_aload_n (pc := 43) X d_CS_nextByte_43 rfl 0 rfl ?_
  refine j_aload_n (pc := 44) X d_CS_nextByte_44 rfl 0 rfl ?_
  refine get_CS_place (pc := 45) X fl_CS_15 d_CS_nextByte_45 ?_
  refine j_iconst (pc := 48) X d_CS_nextByte_48 ic_5 ?_
  refine j_icmp_ne (pc := 49) (tgt := 56) X d_CS_nextByte_49 rfl (fun hc => ?_) (fun hc => ?_)
  · have hk := hk.trans (if_neg hc)
    refine j_aload_n (pc := 56) X d_CS_nextByte_56 rfl 0 rfl ?_
    refine get_CS_place (pc := 57) X fl_CS_15 d_CS_nextByte_57 ?_
    refine j_iconst (pc := 60) X d_CS_nextByte_60 ic_1 ?_
    refine j_iadd (pc := 61) X d_CS_nextByte_61 ?_
    refine j_sub [1] (lv' := [(1, .int v1)]) rfl ?_
    exact j_CS_nextByte_62 X a T hQ st v1 ((st 6 1) + 1) hk
  · have hk := hk.trans (if_pos hc)
    refine j_iconst (pc := 52) X d_CS_nextByte_52 ic_0 ?_
    refine j_goto (pc := 53) (tgt := 62) X d_CS_nextByte_53 rfl ?_
    refine j_sub [1] (lv' := [(1, .int v1)]) rfl ?_
    exact j_CS_nextByte_62 X a T hQ st v1 0 hk
def K_CS_nextByte_40 (st : plS) (v1 : Int32) (k0 : Int32) : Int32 × plS := K_CS_nextByte_43 (plUp st 6 2 k0) v1
set_option maxRecDepth 20000 in
theorem j_CS_nextByte_40 {E : plE} (X : plX E b_CS_nextByte "ProtectedLine$ContainerSource" 2 (some .int) 3 105) (a : Nat → Nat) (T : Int32 × plS) (hQ : plRi E (plwC (plg E) a) T) (st : plS) (v1 : Int32) (k0 : Int32) (hk : T = K_CS_nextByte_40 st v1 k0) : plJ E 2 (plwC (plg E) a st) 0 0 [(0, .ref (a 6)), (1, .int v1)] 40 [.int k0, .ref (a 6)] := by
  unfold K_CS_nextByte_40 at hk
  refine put_CS_joined (pc := 40) X fl_CS_19 d_CS_nextByte_40 ?_
  exact j_CS_nextByte_43 X a T hQ (plUp st 6 2 k0) v1 hk
def K_CS_nextByte_21 (st : plS) (k0 : Int32) : Int32 × plS := (if (st 6 1) = 0 then K_CS_nextByte_40 st k0 k0 else K_CS_nextByte_40 st k0 ((st 6 2) ^^^ k0))
set_option maxRecDepth 20000 in
theorem j_CS_nextByte_21 {E : plE} (X : plX E b_CS_nextByte "ProtectedLine$ContainerSource" 2 (some .int) 3 105) (a : Nat → Nat) (T : Int32 × plS) (hQ : plRi E (plwC (plg E) a) T) (st : plS) (k0 : Int32) (hk : T = K_CS_nextByte_21 st k0) : plJ E 2 (plwC (plg E) a st) 0 0 [(0, .ref (a 6))] 21 [.int k0] := by
  unfold K_CS_nextByte_21 at hk
  refine j_istore_n (pc := 21) X d_CS_nextByte_21 rfl (lv' := [(1, .int k0), (0, .ref (a 6))]) (Nat.le_of_ble_eq_true rfl) rfl ?_
  refine j_aload_n (pc := 22) X d_CS_nextByte_22 rfl 1 rfl ?_
  refine j_aload_n (pc := 23) X d_CS_nextByte_23 rfl 1 rfl ?_
  refine get_CS_place (pc := 24) X fl_CS_15 d_CS_nextByte_24 ?_
  refine j_if_ne (pc := 27) (tgt := 34) X d_CS_nextByte_27 rfl (fun hc => ?_) (fun hc => ?_)
  · have hk := hk.trans (if_neg hc)
    refine j_aload_n (pc := 34) X d_CS_nextByte_34 rfl 1 rfl ?_
    refine get_CS_joined (pc := 35) X fl_CS_19 d_CS_nextByte_35 ?_
    refine j_iload_n (pc := 38) X d_CS_nextByte_38 rfl 0 rfl ?_
    refine j_ixor (pc := 39) X d_CS_nextByte_39 ?_
    refine j_sub [1, 0] (lv' := [(0, .ref (a 6)), (1, .int k0)]) rfl ?_
    exact j_CS_nextByte_40 X a T hQ st k0 ((st 6 2) ^^^ k0) hk
  · have hk := hk.trans (if_pos hc)
    refine j_iload_n (pc := 30) X d_CS_nextByte_30 rfl 0 rfl ?_
    refine j_goto (pc := 31) (tgt := 40) X d_CS_nextByte_31 rfl ?_
    refine j_sub [1, 0] (lv' := [(0, .ref (a 6)), (1, .int k0)]) rfl ?_
    exact j_CS_nextByte_40 X a T hQ st k0 k0 hk
def K_CS_nextByte_21q  (q : Int32 × plS) : Int32 × plS := K_CS_nextByte_21 q.2 q.1
set_option maxRecDepth 20000 in
theorem j_CS_nextByte_21q {E : plE} (X : plX E b_CS_nextByte "ProtectedLine$ContainerSource" 2 (some .int) 3 105) (a : Nat → Nat) (T : Int32 × plS) (hQ : plRi E (plwC (plg E) a) T)  (q : Int32 × plS) (hk : T = K_CS_nextByte_21q  q) : plJ E 2 (plwC (plg E) a q.2) 0 0 [(0, .ref (a 6))] 21 [.int q.1] := by
  unfold K_CS_nextByte_21q at hk
  exact j_CS_nextByte_21 X a T hQ q.2 q.1 hk
def K_CS_nextByte (st : plS) : Int32 × plS := (if (st 6 1) = 0 then K_CS_nextByte_21 st (st 6 2) else K_CS_nextByte_21q (K_SS_nextByte st))
def P_CS_nextByte (st : plS) : Prop := (¬ (st 6 1) = 0 → P_SS_nextByte st)
set_option maxRecDepth 20000 in
theorem j_CS_nextByte {E : plE} (X : plX E b_CS_nextByte "ProtectedLine$ContainerSource" 2 (some .int) 3 105) (a : Nat → Nat) (T : Int32 × plS) (hQ : plRi E (plwC (plg E) a) T) (st : plS)  (hs : P_CS_nextByte st) (hk : T = K_CS_nextByte st) : plJ E 2 (plwC (plg E) a st) 0 0 [(0, .ref (a 6))] 0 [] := by
  unfold P_CS_nextByte at hs
  unfold K_CS_nextByte at hk
  refine j_aload_n (pc := 0) X d_CS_nextByte_0 rfl 0 rfl ?_
  refine get_CS_place (pc := 1) X fl_CS_15 d_CS_nextByte_1 ?_
  refine j_if_ne (pc := 4) (tgt := 14) X d_CS_nextByte_4 rfl (fun hc => ?_) (fun hc => ?_)
  · have hk := hk.trans (if_neg hc)
    have hs := hs hc
    refine j_aload_n (pc := 14) X d_CS_nextByte_14 rfl 0 rfl ?_
    refine get_CS_source (pc := 15) X fl_CS_9 d_CS_nextByte_15 ?_
    refine j_callVi (pc := 18) (As := []) (rest := []) X (c_SS_nextByte (plg E) a st hs) ml_CS_22 1 rfl rfl ⟨Nat.le_of_ble_eq_true rfl, Nat.le_of_ble_eq_true rfl⟩ rfl rfl (Nat.le_of_ble_eq_true rfl) d_CS_nextByte_18 ?_
    exact j_CS_nextByte_21q X a T hQ (K_SS_nextByte st) hk
  · have hk := hk.trans (if_pos hc)
    refine j_aload_n (pc := 7) X d_CS_nextByte_7 rfl 0 rfl ?_
    refine get_CS_joined (pc := 8) X fl_CS_19 d_CS_nextByte_8 ?_
    refine j_goto (pc := 11) (tgt := 21) X d_CS_nextByte_11 rfl ?_
    exact j_CS_nextByte_21 X a T hQ st (st 6 2) hk
set_option maxRecDepth 20000 in
theorem c_CS_nextByte (g : plG) (a : Nat → Nat) (st : plS)  (hs : P_CS_nextByte st ) : plMi g y_CS_nextByte b_CS_nextByte 2 (some .int) 3 105 [.ref (a 6)] (plwC g a) st (K_CS_nextByte st ) := by
  refine plMi.of (own := "ProtectedLine$ContainerSource") (lv := [(0, .ref (a 6))]) rfl rfl (Nat.le_of_ble_eq_true rfl) rfl (fun E hE X hQ => ?_)
  subst hE
  exact j_CS_nextByte X a _ hQ st  hs rfl
theorem d_NA_fill_0 : decode b_NA_fill 0 = .ok (.iload_n 1, 1) := by decide +kernel
theorem d_NA_fill_1 : decode b_NA_fill 1 = .ok (.ifCond .ne (7), 3) := by decide +kernel
theorem d_NA_fill_4 : decode b_NA_fill 4 = .ok (.iconst 0, 1) := by decide +kernel
theorem d_NA_fill_5 : decode b_NA_fill 5 = .ok (.goto (14), 3) := by decide +kernel
theorem d_NA_fill_8 : decode b_NA_fill 8 = .ok (.iload_n 1, 1) := by decide +kernel
theorem d_NA_fill_9 : decode b_NA_fill 9 = .ok (.ifCond .le (8), 3) := by decide +kernel
theorem d_NA_fill_12 : decode b_NA_fill 12 = .ok (.bipush (21), 2) := by decide +kernel
theorem d_NA_fill_14 : decode b_NA_fill 14 = .ok (.goto (5), 3) := by decide +kernel
theorem d_NA_fill_17 : decode b_NA_fill 17 = .ok (.bipush (42), 2) := by decide +kernel
theorem d_NA_fill_19 : decode b_NA_fill 19 = .ok (.istore_n 2, 1) := by decide +kernel
theorem d_NA_fill_20 : decode b_NA_fill 20 = .ok (.aload_n 0, 1) := by decide +kernel
theorem d_NA_fill_21 : decode b_NA_fill 21 = .ok (.getfield 18, 3) := by decide +kernel
theorem d_NA_fill_24 : decode b_NA_fill 24 = .ok (.iconst 0, 1) := by decide +kernel
theorem d_NA_fill_25 : decode b_NA_fill 25 = .ok (.aload_n 0, 1) := by decide +kernel
theorem d_NA_fill_26 : decode b_NA_fill 26 = .ok (.getfield 59, 3) := by decide +kernel
theorem d_NA_fill_29 : decode b_NA_fill 29 = .ok (.invokestatic 62, 3) := by decide +kernel
theorem d_NA_fill_32 : decode b_NA_fill 32 = .ok (.iload_n 2, 1) := by decide +kernel
theorem d_NA_fill_33 : decode b_NA_fill 33 = .ok (.ixor, 1) := by decide +kernel
theorem d_NA_fill_34 : decode b_NA_fill 34 = .ok (.iastore, 1) := by decide +kernel
theorem d_NA_fill_35 : decode b_NA_fill 35 = .ok (.aload_n 0, 1) := by decide +kernel
theorem d_NA_fill_36 : decode b_NA_fill 36 = .ok (.getfield 18, 3) := by decide +kernel
theorem d_NA_fill_39 : decode b_NA_fill 39 = .ok (.iconst 1, 1) := by decide +kernel
theorem d_NA_fill_40 : decode b_NA_fill 40 = .ok (.iconst 0, 1) := by decide +kernel
theorem d_NA_fill_41 : decode b_NA_fill 41 = .ok (.iastore, 1) := by decide +kernel
theorem d_NA_fill_42 : decode b_NA_fill 42 = .ok (.aload_n 0, 1) := by decide +kernel
theorem d_NA_fill_43 : decode b_NA_fill 43 = .ok (.getfield 18, 3) := by decide +kernel
theorem d_NA_fill_46 : decode b_NA_fill 46 = .ok (.iconst 2, 1) := by decide +kernel
theorem d_NA_fill_47 : decode b_NA_fill 47 = .ok (.iconst 0, 1) := by decide +kernel
theorem d_NA_fill_48 : decode b_NA_fill 48 = .ok (.iastore, 1) := by decide +kernel
theorem d_NA_fill_49 : decode b_NA_fill 49 = .ok (.iconst 2, 1) := by decide +kernel
theorem d_NA_fill_50 : decode b_NA_fill 50 = .ok (.iload_n 1, 1) := by decide +kernel
theorem d_NA_fill_51 : decode b_NA_fill 51 = .ok (.iadd, 1) := by decide +kernel
theorem d_NA_fill_52 : decode b_NA_fill 52 = .ok (.istore_n 3, 1) := by decide +kernel
theorem d_NA_fill_53 : decode b_NA_fill 53 = .ok (.iload_n 3, 1) := by decide +kernel
theorem d_NA_fill_54 : decode b_NA_fill 54 = .ok (.aload_n 0, 1) := by decide +kernel
theorem d_NA_fill_55 : decode b_NA_fill 55 = .ok (.getfield 18, 3) := by decide +kernel
theorem d_NA_fill_58 : decode b_NA_fill 58 = .ok (.arraylength, 1) := by decide +kernel
theorem d_NA_fill_59 : decode b_NA_fill 59 = .ok (.if_icmp .ge (22), 3) := by decide +kernel
theorem d_NA_fill_62 : decode b_NA_fill 62 = .ok (.aload_n 0, 1) := by decide +kernel
theorem d_NA_fill_63 : decode b_NA_fill 63 = .ok (.getfield 18, 3) := by decide +kernel
theorem d_NA_fill_66 : decode b_NA_fill 66 = .ok (.iload_n 3, 1) := by decide +kernel
theorem d_NA_fill_67 : decode b_NA_fill 67 = .ok (.aload_n 0, 1) := by decide +kernel
theorem d_NA_fill_68 : decode b_NA_fill 68 = .ok (.getfield 22, 3) := by decide +kernel
theorem d_NA_fill_71 : decode b_NA_fill 71 = .ok (.invokevirtual 66, 3) := by decide +kernel
theorem d_NA_fill_74 : decode b_NA_fill 74 = .ok (.iastore, 1) := by decide +kernel
theorem d_NA_fill_75 : decode b_NA_fill 75 = .ok (.iinc 3 (1), 3) := by decide +kernel
theorem d_NA_fill_78 : decode b_NA_fill 78 = .ok (.goto (-25), 3) := by decide +kernel
theorem d_NA_fill_81 : decode b_NA_fill 81 = .ok (.aload_n 0, 1) := by decide +kernel
theorem d_NA_fill_82 : decode b_NA_fill 82 = .ok (.aload_n 0, 1) := by decide +kernel
theorem d_NA_fill_83 : decode b_NA_fill 83 = .ok (.getfield 59, 3) := by decide +kernel
theorem d_NA_fill_86 : decode b_NA_fill 86 = .ok (.iload_n 1, 1) := by decide +kernel
theorem d_NA_fill_87 : decode b_NA_fill 87 = .ok (.iadd, 1) := by decide +kernel
theorem d_NA_fill_88 : decode b_NA_fill 88 = .ok (.bipush (6), 2) := by decide +kernel
theorem d_NA_fill_90 : decode b_NA_fill 90 = .ok (.iadd, 1) := by decide +kernel
theorem d_NA_fill_91 : decode b_NA_fill 91 = .ok (.bipush (6), 2) := by decide +kernel
theorem d_NA_fill_93 : decode b_NA_fill 93 = .ok (.irem, 1) := by decide +kernel
theorem d_NA_fill_94 : decode b_NA_fill 94 = .ok (.putfield 59, 3) := by decide +kernel
theorem d_NA_fill_97 : decode b_NA_fill 97 = .ok (.return_, 1) := by decide +kernel
def K_NA_fill_53L74q (v1 : Int32) (v3 : Int32) (k0 : Int32) (q : Int32 × plS) : Bool × (plS × Int32) := (true, (plUp q.2 8 (plIx k0) q.1, v3 + 1))
def P_NA_fill_53L74q (v1 : Int32) (v3 : Int32) (k0 : Int32) (q : Int32 × plS) : Prop := vp_in k0 8
set_option maxRecDepth 20000 in
theorem j_NA_fill_53L74q {E : plE} (X : plX E b_NA_fill "ProtectedLine$NodeA" 4 none 4 126) (a : Nat → Nat) (T : Bool × (plS × Int32)) (v1 : Int32) (hb : ∀ (c0 : plS) (c1 : Int32), T = (true, (c0, c1)) → plJ E 4 (plwC (plg E) a c0) 0 0 [(0, .ref (a 5)), (1, .int v1), (3, .int c1)] 53 []) (hx : ∀ (c0 : plS) (c1 : Int32), T = (false, (c0, c1)) → plJ E 4 (plwC (plg E) a c0) 0 0 [(0, .ref (a 5)), (1, .int v1), (3, .int c1)] 81 []) (v3 : Int32) (k0 : Int32) (q : Int32 × plS) (hs : P_NA_fill_53L74q v1 v3 k0 q) (hk : T = K_NA_fill_53L74q v1 v3 k0 q) : plJ E 4 (plwC (plg E) a q.2) 0 0 [(0, .ref (a 5)), (1, .int v1), (3, .int v3)] 74 [.int q.1, .int k0, .ref (a 8)] := by
  unfold P_NA_fill_53L74q at hs
  unfold K_NA_fill_53L74q at hk
  refine ast_NAc (pc := 74) X hs d_NA_fill_74 ?_
  refine j_iinc (pc := 75) X d_NA_fill_75 2 rfl ic_1 (lv' := [(3, .int (v3 + 1)), (0, .ref (a 5)), (1, .int v1)]) (Nat.le_of_ble_eq_true rfl) rfl ?_
  refine j_goto (pc := 78) (tgt := 53) X d_NA_fill_78 rfl ?_
  refine j_sub [1, 2, 0] (lv' := [(0, .ref (a 5)), (1, .int v1), (3, .int (v3 + 1))]) rfl ?_
  exact hb (plUp q.2 8 (plIx k0) q.1) (v3 + 1) hk
def K_NA_fill_53L (st : plS) (v1 : Int32) (v3 : Int32) : Bool × (plS × Int32) := (if 8 ≤ v3 then (false, (st, v3)) else K_NA_fill_53L74q v1 v3 v3 (K_CS_nextByte st))
def P_NA_fill_53L (st : plS) (v1 : Int32) (v3 : Int32) : Prop := (¬ 8 ≤ v3 → (P_CS_nextByte st ∧ P_NA_fill_53L74q v1 v3 v3 (K_CS_nextByte st)))
set_option maxRecDepth 20000 in
theorem j_NA_fill_53L {E : plE} (X : plX E b_NA_fill "ProtectedLine$NodeA" 4 none 4 126) (a : Nat → Nat) (T : Bool × (plS × Int32)) (v1 : Int32) (hb : ∀ (c0 : plS) (c1 : Int32), T = (true, (c0, c1)) → plJ E 4 (plwC (plg E) a c0) 0 0 [(0, .ref (a 5)), (1, .int v1), (3, .int c1)] 53 []) (hx : ∀ (c0 : plS) (c1 : Int32), T = (false, (c0, c1)) → plJ E 4 (plwC (plg E) a c0) 0 0 [(0, .ref (a 5)), (1, .int v1), (3, .int c1)] 81 []) (st : plS) (v3 : Int32) (hs : P_NA_fill_53L st v1 v3) (hk : T = K_NA_fill_53L st v1 v3) : plJ E 4 (plwC (plg E) a st) 0 0 [(0, .ref (a 5)), (1, .int v1), (3, .int v3)] 53 [] := by
  unfold P_NA_fill_53L at hs
  unfold K_NA_fill_53L at hk
  refine j_iload_n (pc := 53) X d_NA_fill_53 rfl 2 rfl ?_
  refine j_aload_n (pc := 54) X d_NA_fill_54 rfl 0 rfl ?_
  refine get_NA_content (pc := 55) X fl_NA_18 d_NA_fill_55 ?_
  refine len_NAc (pc := 58) X d_NA_fill_58 ?_
  refine j_icmp_ge (pc := 59) (tgt := 81) X d_NA_fill_59 rfl (fun hc => ?_) (fun hc => ?_)
  · have hk := hk.trans (if_pos hc)
    exact hx st v3 hk
  · have hk := hk.trans (if_neg hc)
    have hs := hs hc
    refine j_aload_n (pc := 62) X d_NA_fill_62 rfl 0 rfl ?_
    refine get_NA_content (pc := 63) X fl_NA_18 d_NA_fill_63 ?_
    refine j_iload_n (pc := 66) X d_NA_fill_66 rfl 2 rfl ?_
    refine j_aload_n (pc := 67) X d_NA_fill_67 rfl 0 rfl ?_
    refine get_NA_containers (pc := 68) X fl_NA_22 d_NA_fill_68 ?_
    refine j_callVi (pc := 71) (As := []) (rest := [.int v3, .ref (a 8)]) X (c_CS_nextByte (plg E) a st hs.1) ml_NA_66 6 rfl rfl ⟨Nat.le_of_ble_eq_true rfl, Nat.le_of_ble_eq_true rfl⟩ rfl rfl (Nat.le_of_ble_eq_true rfl) d_NA_fill_71 ?_
    exact j_NA_fill_53L74q X a T v1 hb hx v3 v3 (K_CS_nextByte st) hs.2 hk
def F_NA_fill_53 (v1 : Int32) (c : plS × Int32) : Bool × (plS × Int32) := K_NA_fill_53L c.1 v1 c.2
def G_NA_fill_53 (v1 : Int32) (c : plS × Int32) : Prop := P_NA_fill_53L c.1 v1 c.2
def K_NA_fill_53X (v1 : Int32) (c : plS × Int32) : plS := plUp c.1 5 3 ((((c.1 5 3) + v1) + 6) - (((c.1 5 3) + v1) + 6) / 6 * 6)
set_option maxRecDepth 20000 in
theorem j_NA_fill_53X {E : plE} (X : plX E b_NA_fill "ProtectedLine$NodeA" 4 none 4 126) (a : Nat → Nat) (T : plS) (hQ : plRv E (plwC (plg E) a) T) (v1 : Int32) (c : plS × Int32) (hk : T = K_NA_fill_53X v1 c) : plJ E 4 (plwC (plg E) a c.1) 0 0 [(0, .ref (a 5)), (1, .int v1), (3, .int c.2)] 81 [] := by
  unfold K_NA_fill_53X at hk
  refine j_aload_n (pc := 81) X d_NA_fill_81 rfl 0 rfl ?_
  refine j_aload_n (pc := 82) X d_NA_fill_82 rfl 0 rfl ?_
  refine get_NA_p (pc := 83) X fl_NA_59 d_NA_fill_83 ?_
  refine j_iload_n (pc := 86) X d_NA_fill_86 rfl 1 rfl ?_
  refine j_iadd (pc := 87) X d_NA_fill_87 ?_
  refine j_bipush (pc := 88) X d_NA_fill_88 bp_6 ?_
  refine j_iadd (pc := 90) X d_NA_fill_90 ?_
  refine j_bipush (pc := 91) X d_NA_fill_91 bp_6 ?_
  refine j_irem (pc := 93) X d_NA_fill_93 nz_6 ?_
  refine put_NA_p (pc := 94) X fl_NA_59 d_NA_fill_94 ?_
  exact j_retv (pc := 97) X hQ d_NA_fill_97 hk
def K_NA_fill_42 (st : plS) (v1 : Int32) : plS := K_NA_fill_53X v1 (lpR (F_NA_fill_53 v1) 64 (plUp st 8 (plIx 2) 0, 2 + v1))
def P_NA_fill_42 (st : plS) (v1 : Int32) : Prop := lpP (G_NA_fill_53 v1) (F_NA_fill_53 v1) 64 (plUp st 8 (plIx 2) 0, 2 + v1)
set_option maxRecDepth 20000 in
theorem j_NA_fill_42 {E : plE} (X : plX E b_NA_fill "ProtectedLine$NodeA" 4 none 4 126) (a : Nat → Nat) (T : plS) (hQ : plRv E (plwC (plg E) a) T) (st : plS) (v1 : Int32) (hs : P_NA_fill_42 st v1) (hk : T = K_NA_fill_42 st v1) : plJ E 4 (plwC (plg E) a st) 0 0 [(0, .ref (a 5)), (1, .int v1)] 42 [] := by
  unfold P_NA_fill_42 at hs
  unfold K_NA_fill_42 at hk
  refine j_aload_n (pc := 42) X d_NA_fill_42 rfl 0 rfl ?_
  refine get_NA_content (pc := 43) X fl_NA_18 d_NA_fill_43 ?_
  refine j_iconst (pc := 46) X d_NA_fill_46 ic_2 ?_
  refine j_iconst (pc := 47) X d_NA_fill_47 ic_0 ?_
  refine ast_NAc (pc := 48) X vi_2_8 d_NA_fill_48 ?_
  refine j_iconst (pc := 49) X d_NA_fill_49 ic_2 ?_
  refine j_iload_n (pc := 50) X d_NA_fill_50 rfl 1 rfl ?_
  refine j_iadd (pc := 51) X d_NA_fill_51 ?_
  refine j_istore_n (pc := 52) X d_NA_fill_52 rfl (lv' := [(3, .int (2 + v1)), (0, .ref (a 5)), (1, .int v1)]) (Nat.le_of_ble_eq_true rfl) rfl ?_
  refine j_sub [1, 2, 0] (lv' := [(0, .ref (a 5)), (1, .int v1), (3, .int (2 + v1))]) rfl ?_
  exact lpJ (G_NA_fill_53 v1) (F_NA_fill_53 v1) (fun c => plJ E 4 (plwC (plg E) a c.1) 0 0 [(0, .ref (a 5)), (1, .int v1), (3, .int c.2)] 53 []) (fun c => plJ E 4 (plwC (plg E) a c.1) 0 0 [(0, .ref (a 5)), (1, .int v1), (3, .int c.2)] 81 []) (fun c hp h1 h2 => j_NA_fill_53L X a (F_NA_fill_53 v1 c) v1 (fun c0 c1 => h1 (c0, c1)) (fun c0 c1 => h2 (c0, c1)) c.1 c.2 hp rfl) 64 (plUp st 8 (plIx 2) 0, 2 + v1) hs (j_NA_fill_53X X a T hQ v1 (lpR (F_NA_fill_53 v1) 64 (plUp st 8 (plIx 2) 0, 2 + v1)) hk)
def K_NA_fill_35 (st : plS) (v1 : Int32) : plS := K_NA_fill_42 (plUp st 8 (plIx 1) 0) v1
def P_NA_fill_35 (st : plS) (v1 : Int32) : Prop := P_NA_fill_42 (plUp st 8 (plIx 1) 0) v1
set_option maxRecDepth 20000 in
theorem j_NA_fill_35 {E : plE} (X : plX E b_NA_fill "ProtectedLine$NodeA" 4 none 4 126) (a : Nat → Nat) (T : plS) (hQ : plRv E (plwC (plg E) a) T) (st : plS) (v1 : Int32) (hs : P_NA_fill_35 st v1) (hk : T = K_NA_fill_35 st v1) : plJ E 4 (plwC (plg E) a st) 0 0 [(0, .ref (a 5)), (1, .int v1)] 35 [] := by
  unfold P_NA_fill_35 at hs
  unfold K_NA_fill_35 at hk
  refine j_aload_n (pc := 35) X d_NA_fill_35 rfl 0 rfl ?_
  refine get_NA_content (pc := 36) X fl_NA_18 d_NA_fill_36 ?_
  refine j_iconst (pc := 39) X d_NA_fill_39 ic_1 ?_
  refine j_iconst (pc := 40) X d_NA_fill_40 ic_0 ?_
  refine ast_NAc (pc := 41) X vi_1_8 d_NA_fill_41 ?_
  exact j_NA_fill_42 X a T hQ (plUp st 8 (plIx 1) 0) v1 hs hk
def K_NA_fill_19 (st : plS) (v1 : Int32) (k0 : Int32) : plS := K_NA_fill_35 (plUp st 8 (plIx 0) ((K_CO_pointerByte (st 5 3)) ^^^ k0)) v1
def P_NA_fill_19 (st : plS) (v1 : Int32) (k0 : Int32) : Prop := P_NA_fill_35 (plUp st 8 (plIx 0) ((K_CO_pointerByte (st 5 3)) ^^^ k0)) v1
set_option maxRecDepth 20000 in
theorem j_NA_fill_19 {E : plE} (X : plX E b_NA_fill "ProtectedLine$NodeA" 4 none 4 126) (a : Nat → Nat) (T : plS) (hQ : plRv E (plwC (plg E) a) T) (st : plS) (v1 : Int32) (k0 : Int32) (hs : P_NA_fill_19 st v1 k0) (hk : T = K_NA_fill_19 st v1 k0) : plJ E 4 (plwC (plg E) a st) 0 0 [(0, .ref (a 5)), (1, .int v1)] 19 [.int k0] := by
  unfold P_NA_fill_19 at hs
  unfold K_NA_fill_19 at hk
  refine j_istore_n (pc := 19) X d_NA_fill_19 rfl (lv' := [(2, .int k0), (0, .ref (a 5)), (1, .int v1)]) (Nat.le_of_ble_eq_true rfl) rfl ?_
  refine j_aload_n (pc := 20) X d_NA_fill_20 rfl 1 rfl ?_
  refine get_NA_content (pc := 21) X fl_NA_18 d_NA_fill_21 ?_
  refine j_iconst (pc := 24) X d_NA_fill_24 ic_0 ?_
  refine j_aload_n (pc := 25) X d_NA_fill_25 rfl 1 rfl ?_
  refine get_NA_p (pc := 26) X fl_NA_59 d_NA_fill_26 ?_
  refine j_callSp (pc := 29) (As := [.int (st 5 3)]) (rest := [.int 0, .ref (a 8)]) X (c_CO_pointerByte (plg E) a st (st 5 3)) ml_NA_62 ⟨Nat.le_of_ble_eq_true rfl, Nat.le_of_ble_eq_true rfl⟩ rfl rfl (Nat.le_of_ble_eq_true rfl) d_NA_fill_29 ?_
  refine j_iload_n (pc := 32) X d_NA_fill_32 rfl 0 rfl ?_
  refine j_ixor (pc := 33) X d_NA_fill_33 ?_
  refine ast_NAc (pc := 34) X vi_0_8 d_NA_fill_34 ?_
  refine j_sub [1, 2] (lv' := [(0, .ref (a 5)), (1, .int v1)]) rfl ?_
  exact j_NA_fill_35 X a T hQ (plUp st 8 (plIx 0) ((K_CO_pointerByte (st 5 3)) ^^^ k0)) v1 hs hk
def K_NA_fill (st : plS) (v1 : Int32) : plS := (if v1 = 0 then K_NA_fill_19 st v1 0 else (if v1 ≤ 0 then K_NA_fill_19 st v1 42 else K_NA_fill_19 st v1 21))
def P_NA_fill (st : plS) (v1 : Int32) : Prop := ((v1 = 0 → P_NA_fill_19 st v1 0) ∧ (¬ v1 = 0 → ((v1 ≤ 0 → P_NA_fill_19 st v1 42) ∧ (¬ v1 ≤ 0 → P_NA_fill_19 st v1 21))))
set_option maxRecDepth 20000 in
theorem j_NA_fill {E : plE} (X : plX E b_NA_fill "ProtectedLine$NodeA" 4 none 4 126) (a : Nat → Nat) (T : plS) (hQ : plRv E (plwC (plg E) a) T) (st : plS) (v1 : Int32) (hs : P_NA_fill st v1) (hk : T = K_NA_fill st v1) : plJ E 4 (plwC (plg E) a st) 0 0 [(0, .ref (a 5)), (1, .int v1)] 0 [] := by
  unfold P_NA_fill at hs
  unfold K_NA_fill at hk
  refine j_iload_n (pc := 0) X d_NA_fill_0 rfl 1 rfl ?_
  refine j_if_ne (pc := 1) (tgt := 8) X d_NA_fill_1 rfl (fun hc => ?_) (fun hc => ?_)
  · have hk := hk.trans (if_neg hc)
    have hs := hs.2 hc
    refine j_iload_n (pc := 8) X d_NA_fill_8 rfl 1 rfl ?_
    refine j_if_le (pc := 9) (tgt := 17) X d_NA_fill_9 rfl (fun hc => ?_) (fun hc => ?_)
    · have hk := hk.trans (if_pos hc)
      have hs := hs.1 hc
      refine j_bipush (pc := 17) X d_NA_fill_17 bp_42 ?_
      exact j_NA_fill_19 X a T hQ st v1 42 hs hk
    · have hk := hk.trans (if_neg hc)
      have hs := hs.2 hc
      refine j_bipush (pc := 12) X d_NA_fill_12 bp_21 ?_
      refine j_goto (pc := 14) (tgt := 19) X d_NA_fill_14 rfl ?_
      exact j_NA_fill_19 X a T hQ st v1 21 hs hk
  · have hk := hk.trans (if_pos hc)
    have hs := hs.1 hc
    refine j_iconst (pc := 4) X d_NA_fill_4 ic_0 ?_
    refine j_goto (pc := 5) (tgt := 19) X d_NA_fill_5 rfl ?_
    exact j_NA_fill_19 X a T hQ st v1 0 hs hk
set_option maxRecDepth 20000 in
theorem c_NA_fill (g : plG) (a : Nat → Nat) (st : plS) (v1 : Int32) (hs : P_NA_fill st v1) : plMv g y_NA_fill b_NA_fill 4 none 4 126 [.ref (a 5), .int v1] (plwC g a) st (K_NA_fill st v1) := by
  refine plMv.of (own := "ProtectedLine$NodeA") (lv := [(0, .ref (a 5)), (1, .int v1)]) rfl rfl (Nat.le_of_ble_eq_true rfl) rfl (fun E hE X hQ => ?_)
  subst hE
  exact j_NA_fill X a _ hQ st v1 hs rfl
theorem d_NA_bridgeOn_0 : decode b_NA_bridgeOn 0 = .ok (.aload_n 0, 1) := by decide +kernel
theorem d_NA_bridgeOn_1 : decode b_NA_bridgeOn 1 = .ok (.getfield 12, 3) := by decide +kernel
theorem d_NA_bridgeOn_4 : decode b_NA_bridgeOn 4 = .ok (.getfield 30, 3) := by decide +kernel
theorem d_NA_bridgeOn_7 : decode b_NA_bridgeOn 7 = .ok (.bipush (16), 2) := by decide +kernel
theorem d_NA_bridgeOn_9 : decode b_NA_bridgeOn 9 = .ok (.idiv, 1) := by decide +kernel
theorem d_NA_bridgeOn_10 : decode b_NA_bridgeOn 10 = .ok (.istore_n 1, 1) := by decide +kernel
theorem d_NA_bridgeOn_11 : decode b_NA_bridgeOn 11 = .ok (.iload_n 1, 1) := by decide +kernel
theorem d_NA_bridgeOn_12 : decode b_NA_bridgeOn 12 = .ok (.iconst 1, 1) := by decide +kernel
theorem d_NA_bridgeOn_13 : decode b_NA_bridgeOn 13 = .ok (.if_icmp .lt (12), 3) := by decide +kernel
theorem d_NA_bridgeOn_16 : decode b_NA_bridgeOn 16 = .ok (.iload_n 1, 1) := by decide +kernel
theorem d_NA_bridgeOn_17 : decode b_NA_bridgeOn 17 = .ok (.iconst 4, 1) := by decide +kernel
theorem d_NA_bridgeOn_18 : decode b_NA_bridgeOn 18 = .ok (.if_icmp .gt (7), 3) := by decide +kernel
theorem d_NA_bridgeOn_21 : decode b_NA_bridgeOn 21 = .ok (.iconst 1, 1) := by decide +kernel
theorem d_NA_bridgeOn_22 : decode b_NA_bridgeOn 22 = .ok (.goto (4), 3) := by decide +kernel
theorem d_NA_bridgeOn_25 : decode b_NA_bridgeOn 25 = .ok (.iconst 0, 1) := by decide +kernel
theorem d_NA_bridgeOn_26 : decode b_NA_bridgeOn 26 = .ok (.ireturn, 1) := by decide +kernel
def K_NA_bridgeOn_26 (st : plS) (k0 : Int32) : Int32 := k0
def P_NA_bridgeOn_26 (st : plS) (k0 : Int32) : Prop := plB k0
set_option maxRecDepth 20000 in
theorem j_NA_bridgeOn_26 {E : plE} (X : plX E b_NA_bridgeOn "ProtectedLine$NodeA" 2 (some .boolean) 0 0) (a : Nat → Nat) (T : Int32) (st : plS) (hQ : plRp E (plwC (plg E) a) st T) (k0 : Int32) (hs : P_NA_bridgeOn_26 st k0) (hk : T = K_NA_bridgeOn_26 st k0) : plJ E 2 (plwC (plg E) a st) 0 0 [] 26 [.int k0] := by
  unfold P_NA_bridgeOn_26 at hs
  unfold K_NA_bridgeOn_26 at hk
  exact j_retzp (pc := 26) X hQ d_NA_bridgeOn_26 hs hk
def K_NA_bridgeOn_25 (st : plS) : Int32 := K_NA_bridgeOn_26 st 0
def P_NA_bridgeOn_25 (st : plS) : Prop := P_NA_bridgeOn_26 st 0
set_option maxRecDepth 20000 in
theorem j_NA_bridgeOn_25 {E : plE} (X : plX E b_NA_bridgeOn "ProtectedLine$NodeA" 2 (some .boolean) 0 0) (a : Nat → Nat) (T : Int32) (st : plS) (hQ : plRp E (plwC (plg E) a) st T)  (hs : P_NA_bridgeOn_25 st) (hk : T = K_NA_bridgeOn_25 st) : plJ E 2 (plwC (plg E) a st) 0 0 [] 25 [] := by
  unfold P_NA_bridgeOn_25 at hs
  unfold K_NA_bridgeOn_25 at hk
  refine j_iconst (pc := 25) X d_NA_bridgeOn_25 ic_0 ?_
  exact j_NA_bridgeOn_26 X a T st hQ 0 hs hk
def K_NA_bridgeOn (st : plS) : Int32 := (if ((st 7 0) / 16) < 1 then K_NA_bridgeOn_25 st else (if 4 < ((st 7 0) / 16) then K_NA_bridgeOn_25 st else K_NA_bridgeOn_26 st 1))
def P_NA_bridgeOn (st : plS) : Prop := ((((st 7 0) / 16) < 1 → P_NA_bridgeOn_25 st) ∧ (¬ ((st 7 0) / 16) < 1 → ((4 < ((st 7 0) / 16) → P_NA_bridgeOn_25 st) ∧ (¬ 4 < ((st 7 0) / 16) → P_NA_bridgeOn_26 st 1))))
set_option maxRecDepth 20000 in
theorem j_NA_bridgeOn {E : plE} (X : plX E b_NA_bridgeOn "ProtectedLine$NodeA" 2 (some .boolean) 0 0) (a : Nat → Nat) (T : Int32) (st : plS) (hQ : plRp E (plwC (plg E) a) st T)  (hs : P_NA_bridgeOn st) (hk : T = K_NA_bridgeOn st) : plJ E 2 (plwC (plg E) a st) 0 0 [(0, .ref (a 5))] 0 [] := by
  unfold P_NA_bridgeOn at hs
  unfold K_NA_bridgeOn at hk
  refine j_aload_n (pc := 0) X d_NA_bridgeOn_0 rfl 0 rfl ?_
  refine get_NA_heard (pc := 1) X fl_NA_12 d_NA_bridgeOn_1 ?_
  refine get_LA_accepted (pc := 4) X fl_NA_30 d_NA_bridgeOn_4 ?_
  refine j_bipush (pc := 7) X d_NA_bridgeOn_7 bp_16 ?_
  refine j_idiv (pc := 9) X d_NA_bridgeOn_9 nz_16 ?_
  refine j_istore_n (pc := 10) X d_NA_bridgeOn_10 rfl (lv' := [(1, .int ((st 7 0) / 16)), (0, .ref (a 5))]) (Nat.le_of_ble_eq_true rfl) rfl ?_
  refine j_iload_n (pc := 11) X d_NA_bridgeOn_11 rfl 0 rfl ?_
  refine j_iconst (pc := 12) X d_NA_bridgeOn_12 ic_1 ?_
  refine j_icmp_lt (pc := 13) (tgt := 25) X d_NA_bridgeOn_13 rfl (fun hc => ?_) (fun hc => ?_)
  · have hk := hk.trans (if_pos hc)
    have hs := hs.1 hc
    refine j_sub [] (lv' := []) rfl ?_
    exact j_NA_bridgeOn_25 X a T st hQ hs hk
  · have hk := hk.trans (if_neg hc)
    have hs := hs.2 hc
    refine j_iload_n (pc := 16) X d_NA_bridgeOn_16 rfl 0 rfl ?_
    refine j_iconst (pc := 17) X d_NA_bridgeOn_17 ic_4 ?_
    refine j_icmp_gt (pc := 18) (tgt := 25) X d_NA_bridgeOn_18 rfl (fun hc => ?_) (fun hc => ?_)
    · have hk := hk.trans (if_pos hc)
      have hs := hs.1 hc
      refine j_sub [] (lv' := []) rfl ?_
      exact j_NA_bridgeOn_25 X a T st hQ hs hk
    · have hk := hk.trans (if_neg hc)
      have hs := hs.2 hc
      refine j_iconst (pc := 21) X d_NA_bridgeOn_21 ic_1 ?_
      refine j_goto (pc := 22) (tgt := 26) X d_NA_bridgeOn_22 rfl ?_
      refine j_sub [] (lv' := []) rfl ?_
      exact j_NA_bridgeOn_26 X a T st hQ 1 hs hk
set_option maxRecDepth 20000 in
theorem c_NA_bridgeOn (g : plG) (a : Nat → Nat) (st : plS)  (hs : P_NA_bridgeOn st ) : plMp g y_NA_bridgeOn b_NA_bridgeOn 2 (some .boolean) 0 0 [.ref (a 5)] (plwC g a) st (K_NA_bridgeOn st ) := by
  refine plMp.of (own := "ProtectedLine$NodeA") (lv := [(0, .ref (a 5))]) rfl rfl (Nat.le_of_ble_eq_true rfl) rfl (fun E hE X hQ => ?_)
  subst hE
  exact j_NA_bridgeOn X a _ st hQ  hs rfl
