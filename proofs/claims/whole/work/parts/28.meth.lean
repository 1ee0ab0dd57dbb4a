theorem d_RM_listen_0 : decode b_RM_listen 0 = .ok (.aload_n 0, 1) := by decide +kernel
theorem d_RM_listen_1 : decode b_RM_listen 1 = .ok (.getfield 57, 3) := by decide +kernel
theorem d_RM_listen_4 : decode b_RM_listen 4 = .ok (.iconst 1, 1) := by decide +kernel
theorem d_RM_listen_5 : decode b_RM_listen 5 = .ok (.iaload, 1) := by decide +kernel
theorem d_RM_listen_6 : decode b_RM_listen 6 = .ok (.iconst 2, 1) := by decide +kernel
theorem d_RM_listen_7 : decode b_RM_listen 7 = .ok (.if_icmp .ne (12), 3) := by decide +kernel
theorem d_RM_listen_10 : decode b_RM_listen 10 = .ok (.aload_n 0, 1) := by decide +kernel
theorem d_RM_listen_11 : decode b_RM_listen 11 = .ok (.getfield 48, 3) := by decide +kernel
theorem d_RM_listen_14 : decode b_RM_listen 14 = .ok (.iconst 1, 1) := by decide +kernel
theorem d_RM_listen_15 : decode b_RM_listen 15 = .ok (.baload, 1) := by decide +kernel
theorem d_RM_listen_16 : decode b_RM_listen 16 = .ok (.ifCond .ne (9), 3) := by decide +kernel
theorem d_RM_listen_19 : decode b_RM_listen 19 = .ok (.aload_n 0, 1) := by decide +kernel
theorem d_RM_listen_20 : decode b_RM_listen 20 = .ok (.iconst 0, 1) := by decide +kernel
theorem d_RM_listen_21 : decode b_RM_listen 21 = .ok (.putfield 196, 3) := by decide +kernel
theorem d_RM_listen_24 : decode b_RM_listen 24 = .ok (.return_, 1) := by decide +kernel
theorem d_RM_listen_25 : decode b_RM_listen 25 = .ok (.aload_n 0, 1) := by decide +kernel
theorem d_RM_listen_26 : decode b_RM_listen 26 = .ok (.getfield 45, 3) := by decide +kernel
theorem d_RM_listen_29 : decode b_RM_listen 29 = .ok (.bipush (15), 2) := by decide +kernel
theorem d_RM_listen_31 : decode b_RM_listen 31 = .ok (.iaload, 1) := by decide +kernel
theorem d_RM_listen_32 : decode b_RM_listen 32 = .ok (.aload_n 0, 1) := by decide +kernel
theorem d_RM_listen_33 : decode b_RM_listen 33 = .ok (.getfield 32, 3) := by decide +kernel
theorem d_RM_listen_36 : decode b_RM_listen 36 = .ok (.iconst 3, 1) := by decide +kernel
theorem d_RM_listen_37 : decode b_RM_listen 37 = .ok (.iaload, 1) := by decide +kernel
theorem d_RM_listen_38 : decode b_RM_listen 38 = .ok (.ixor, 1) := by decide +kernel
theorem d_RM_listen_39 : decode b_RM_listen 39 = .ok (.istore_n 1, 1) := by decide +kernel
theorem d_RM_listen_40 : decode b_RM_listen 40 = .ok (.aload_n 0, 1) := by decide +kernel
theorem d_RM_listen_41 : decode b_RM_listen 41 = .ok (.aload_n 0, 1) := by decide +kernel
theorem d_RM_listen_42 : decode b_RM_listen 42 = .ok (.getfield 196, 3) := by decide +kernel
theorem d_RM_listen_45 : decode b_RM_listen 45 = .ok (.ifCond .le (20), 3) := by decide +kernel
theorem d_RM_listen_48 : decode b_RM_listen 48 = .ok (.iload_n 1, 1) := by decide +kernel
theorem d_RM_listen_49 : decode b_RM_listen 49 = .ok (.aload_n 0, 1) := by decide +kernel
theorem d_RM_listen_50 : decode b_RM_listen 50 = .ok (.getfield 69, 3) := by decide +kernel
theorem d_RM_listen_53 : decode b_RM_listen 53 = .ok (.if_icmp .ne (12), 3) := by decide +kernel
theorem d_RM_listen_56 : decode b_RM_listen 56 = .ok (.aload_n 0, 1) := by decide +kernel
theorem d_RM_listen_57 : decode b_RM_listen 57 = .ok (.getfield 196, 3) := by decide +kernel
theorem d_RM_listen_60 : decode b_RM_listen 60 = .ok (.iconst 1, 1) := by decide +kernel
theorem d_RM_listen_61 : decode b_RM_listen 61 = .ok (.iadd, 1) := by decide +kernel
theorem d_RM_listen_62 : decode b_RM_listen 62 = .ok (.goto (4), 3) := by decide +kernel
theorem d_RM_listen_65 : decode b_RM_listen 65 = .ok (.iconst 1, 1) := by decide +kernel
theorem d_RM_listen_66 : decode b_RM_listen 66 = .ok (.putfield 196, 3) := by decide +kernel
theorem d_RM_listen_69 : decode b_RM_listen 69 = .ok (.aload_n 0, 1) := by decide +kernel
theorem d_RM_listen_70 : decode b_RM_listen 70 = .ok (.iload_n 1, 1) := by decide +kernel
theorem d_RM_listen_71 : decode b_RM_listen 71 = .ok (.putfield 69, 3) := by decide +kernel
theorem d_RM_listen_74 : decode b_RM_listen 74 = .ok (.aload_n 0, 1) := by decide +kernel
theorem d_RM_listen_75 : decode b_RM_listen 75 = .ok (.aload_n 0, 1) := by decide +kernel
theorem d_RM_listen_76 : decode b_RM_listen 76 = .ok (.getfield 196, 3) := by decide +kernel
theorem d_RM_listen_79 : decode b_RM_listen 79 = .ok (.iconst 3, 1) := by decide +kernel
theorem d_RM_listen_80 : decode b_RM_listen 80 = .ok (.if_icmp .lt (7), 3) := by decide +kernel
theorem d_RM_listen_83 : decode b_RM_listen 83 = .ok (.iload_n 1, 1) := by decide +kernel
theorem d_RM_listen_84 : decode b_RM_listen 84 = .ok (.goto (7), 3) := by decide +kernel
theorem d_RM_listen_87 : decode b_RM_listen 87 = .ok (.aload_n 0, 1) := by decide +kernel
theorem d_RM_listen_88 : decode b_RM_listen 88 = .ok (.getfield 66, 3) := by decide +kernel
theorem d_RM_listen_91 : decode b_RM_listen 91 = .ok (.putfield 66, 3) := by decide +kernel
theorem d_RM_listen_94 : decode b_RM_listen 94 = .ok (.return_, 1) := by decide +kernel
def K_RM_listen_19 (st : plS) : plS := plUp st 0 35 0
set_option maxRecDepth 20000 in
theorem j_RM_listen_19 {E : plE} (X : plX E b_RM_listen "ProtectedLineModel" 2 none 0 0) (a : Nat → Nat) (T : plS) (hQ : plRv E (plwR (plg E) a) T) (st : plS)  (hk : T = K_RM_listen_19 st) : plJ E 2 (plwR (plg E) a st) 0 0 [(0, .ref (a 0))] 19 [] := by
  unfold K_RM_listen_19 at hk
  refine j_aload_n (pc := 19) X d_RM_listen_19 rfl 0 rfl ?_
  refine j_iconst (pc := 20) X d_RM_listen_20 ic_0 ?_
  refine put_RM_sameB (pc := 21) X fl_RM_196 d_RM_listen_21 ?_
  exact j_retv (pc := 24) X hQ d_RM_listen_24 hk
def K_RM_listen_91 (st : plS) (k0 : Int32) : plS := plUp st 0 34 k0
set_option maxRecDepth 20000 in
theorem j_RM_listen_91 {E : plE} (X : plX E b_RM_listen "ProtectedLineModel" 2 none 0 0) (a : Nat → Nat) (T : plS) (hQ : plRv E (plwR (plg E) a) T) (st : plS) (k0 : Int32) (hk : T = K_RM_listen_91 st k0) : plJ E 2 (plwR (plg E) a st) 0 0 [] 91 [.int k0, .ref (a 0)] := by
  unfold K_RM_listen_91 at hk
  refine put_RM_acceptedB (pc := 91) X fl_RM_66 d_RM_listen_91 ?_
  exact j_retv (pc := 94) X hQ d_RM_listen_94 hk
def K_RM_listen_74 (st : plS) (v1 : Int32) : plS := (if (st 0 35) < 3 then K_RM_listen_91 st (st 0 34) else K_RM_listen_91 st v1)
set_option maxRecDepth 20000 in
theorem j_RM_listen_74 {E : plE} (X : plX E b_RM_listen "ProtectedLineModel" 2 none 0 0) (a : Nat → Nat) (T : plS) (hQ : plRv E (plwR (plg E) a) T) (st : plS) (v1 : Int32) (hk : T = K_RM_listen_74 st v1) : plJ E 2 (plwR (plg E) a st) 0 0 [(0, .ref (a 0)), (1, .int v1)] 74 [] := by
  unfold K_RM_listen_74 at hk
  refine j_aload_n (pc := 74) X d_RM_listen_74 rfl 0 rfl ?_
  refine j_aload_n (pc := 75) X d_RM_listen_75 rfl 0 rfl ?_
  refine get_RM_sameB (pc := 76) X fl_RM_196 d_RM_listen_76 ?_
  refine j_iconst (pc := 79) X d_RM_listen_79 ic_3 ?_
  refine j_icmp_lt (pc := 80) (tgt := 87) X d_RM_listen_80 rfl (fun hc => ?_) (fun hc => ?_)
  · have hk := hk.trans (if_pos hc)
    refine j_aload_n (pc := 87) X d_RM_listen_87 rfl 0 rfl ?_
    refine get_RM_acceptedB (pc := 88) X fl_RM_66 d_RM_listen_88 ?_
    refine j_sub [] (lv' := []) rfl ?_
    exact j_RM_listen_91 X a T hQ st (st 0 34) hk
  · have hk := hk.trans (if_neg hc)
    refine j_iload_n (pc := 83) X d_RM_listen_83 rfl 1 rfl ?_
    refine j_goto (pc := 84) (tgt := 91) X d_RM_listen_84 rfl ?_
    refine j_sub [] (lv' := []) rfl ?_
    exact j_RM_listen_91 X a T hQ st v1 hk
def K_RM_listen_69 (st : plS) (v1 : Int32) : plS := K_RM_listen_74 (plUp st 0 36 v1) v1
set_option maxRecDepth 20000 in
theorem j_RM_listen_69 {E : plE} (X : plX E b_RM_listen "ProtectedLineModel" 2 none 0 0) (a : Nat → Nat) (T : plS) (hQ : plRv E (plwR (plg E) a) T) (st : plS) (v1 : Int32) (hk : T = K_RM_listen_69 st v1) : plJ E 2 (plwR (plg E) a st) 0 0 [(0, .ref (a 0)), (1, .int v1)] 69 [] := by
  unfold K_RM_listen_69 at hk
  refine j_aload_n (pc := 69) X d_RM_listen_69 rfl 0 rfl ?_
  refine j_iload_n (pc := 70) X d_RM_listen_70 rfl 1 rfl ?_
  refine put_RM_latestB (pc := 71) X fl_RM_69 d_RM_listen_71 ?_
  exact j_RM_listen_74 X a T hQ (plUp st 0 36 v1) v1 hk
def K_RM_listen_66 (st : plS) (v1 : Int32) (k0 : Int32) : plS := K_RM_listen_69 (plUp st 0 35 k0) v1
set_option maxRecDepth 20000 in
theorem j_RM_listen_66 {E : plE} (X : plX E b_RM_listen "ProtectedLineModel" 2 none 0 0) (a : Nat → Nat) (T : plS) (hQ : plRv E (plwR (plg E) a) T) (st : plS) (v1 : Int32) (k0 : Int32) (hk : T = K_RM_listen_66 st v1 k0) : plJ E 2 (plwR (plg E) a st) 0 0 [(0, .ref (a 0)), (1, .int v1)] 66 [.int k0, .ref (a 0)] := by
  unfold K_RM_listen_66 at hk
  refine put_RM_sameB (pc := 66) X fl_RM_196 d_RM_listen_66 ?_
  exact j_RM_listen_69 X a T hQ (plUp st 0 35 k0) v1 hk
def K_RM_listen_65 (st : plS) (v1 : Int32) : plS := K_RM_listen_66 st v1 1
set_option maxRecDepth 20000 in
theorem j_RM_listen_65 {E : plE} (X : plX E b_RM_listen "ProtectedLineModel" 2 none 0 0) (a : Nat → Nat) (T : plS) (hQ : plRv E (plwR (plg E) a) T) (st : plS) (v1 : Int32) (hk : T = K_RM_listen_65 st v1) : plJ E 2 (plwR (plg E) a st) 0 0 [(0, .ref (a 0)), (1, .int v1)] 65 [.ref (a 0)] := by
  unfold K_RM_listen_65 at hk
  refine j_iconst (pc := 65) X d_RM_listen_65 ic_1 ?_
  exact j_RM_listen_66 X a T hQ st v1 1 hk
def K_RM_listen (st : plS) : plS := (if (st 14 (plIx 1)) = 2 then (if (st 11 (plIx 1)) = 0 then K_RM_listen_19 st else (if (st 0 35) ≤ 0 then K_RM_listen_65 st ((st 10 (plIx 15)) ^^^ (st 6 (plIx 3))) else (if ((st 10 (plIx 15)) ^^^ (st 6 (plIx 3))) = (st 0 36) then K_RM_listen_66 st ((st 10 (plIx 15)) ^^^ (st 6 (plIx 3))) ((st 0 35) + 1) else K_RM_listen_65 st ((st 10 (plIx 15)) ^^^ (st 6 (plIx 3)))))) else K_RM_listen_19 st)
set_option maxRecDepth 20000 in
theorem j_RM_listen {E : plE} (X : plX E b_RM_listen "ProtectedLineModel" 2 none 0 0) (a : Nat → Nat) (T : plS) (hQ : plRv E (plwR (plg E) a) T) (st : plS)  (hk : T = K_RM_listen st) : plJ E 2 (plwR (plg E) a st) 0 0 [(0, .ref (a 0))] 0 [] := by
  unfold K_RM_listen at hk
  refine j_aload_n (pc := 0) X d_RM_listen_0 rfl 0 rfl ?_
  refine get_RM_state (pc := 1) X fl_RM_57 d_RM_listen_1 ?_
  refine j_iconst (pc := 4) X d_RM_listen_4 ic_1 ?_
  refine ald_RMstate (pc := 5) X vi_1_2 d_RM_listen_5 ?_
  refine j_iconst (pc := 6) X d_RM_listen_6 ic_2 ?_
  refine j_icmp_ne (pc := 7) (tgt := 19) X d_RM_listen_7 rfl (fun hc => ?_) (fun hc => ?_)
  · have hk := hk.trans (if_neg hc)
    exact j_RM_listen_19 X a T hQ st hk
  · have hk := hk.trans (if_pos hc)
    refine j_aload_n (pc := 10) X d_RM_listen_10 rfl 0 rfl ?_
    refine get_RM_came (pc := 11) X fl_RM_48 d_RM_listen_11 ?_
    refine j_iconst (pc := 14) X d_RM_listen_14 ic_1 ?_
    refine ald_RMcame (pc := 15) X vi_1_2 d_RM_listen_15 ?_
    refine j_if_ne (pc := 16) (tgt := 25) X d_RM_listen_16 rfl (fun hc => ?_) (fun hc => ?_)
    · have hk := hk.trans (if_neg hc)
      refine j_aload_n (pc := 25) X d_RM_listen_25 rfl 0 rfl ?_
      refine get_RM_now (pc := 26) X fl_RM_45 d_RM_listen_26 ?_
      refine j_bipush (pc := 29) X d_RM_listen_29 bp_15 ?_
      refine ald_RMnow (pc := 31) X vi_15_24 d_RM_listen_31 ?_
      refine j_aload_n (pc := 32) X d_RM_listen_32 rfl 0 rfl ?_
      refine get_RM_row (pc := 33) X fl_RM_32 d_RM_listen_33 ?_
      refine j_iconst (pc := 36) X d_RM_listen_36 ic_3 ?_
      refine ald_RMrow (pc := 37) X vi_3_12 d_RM_listen_37 ?_
      refine j_ixor (pc := 38) X d_RM_listen_38 ?_
      refine j_istore_n (pc := 39) X d_RM_listen_39 rfl (lv' := [(1, .int ((st 10 (plIx 15)) ^^^ (st 6 (plIx 3)))), (0, .ref (a 0))]) (Nat.le_of_ble_eq_true rfl) rfl ?_
      refine j_aload_n (pc := 40) X d_RM_listen_40 rfl 1 rfl ?_
      refine j_aload_n (pc := 41) X d_RM_listen_41 rfl 1 rfl ?_
      refine get_RM_sameB (pc := 42) X fl_RM_196 d_RM_listen_42 ?_
      refine j_if_le (pc := 45) (tgt := 65) X d_RM_listen_45 rfl (fun hc => ?_) (fun hc => ?_)
      · have hk := hk.trans (if_pos hc)
        refine j_sub [1, 0] (lv' := [(0, .ref (a 0)), (1, .int ((st 10 (plIx 15)) ^^^ (st 6 (plIx 3))))]) rfl ?_
        exact j_RM_listen_65 X a T hQ st ((st 10 (plIx 15)) ^^^ (st 6 (plIx 3))) hk
      · have hk := hk.trans (if_neg hc)
        refine j_iload_n (pc := 48) X d_RM_listen_48 rfl 0 rfl ?_
        refine j_aload_n (pc := 49) X d_RM_listen_49 rfl 1 rfl ?_
        refine get_RM_latestB (pc := 50) X fl_RM_69 d_RM_listen_50 ?_
        refine j_icmp_ne (pc := 53) (tgt := 65) X d_RM_listen_53 rfl (fun hc => ?_) (fun hc => ?_)
        · have hk := hk.trans (if_neg hc)
          refine j_sub [1, 0] (lv' := [(0, .ref (a 0)), (1, .int ((st 10 (plIx 15)) ^^^ (st 6 (plIx 3))))]) rfl ?_
          exact j_RM_listen_65 X a T hQ st ((st 10 (plIx 15)) ^^^ (st 6 (plIx 3))) hk
        · have hk := hk.trans (if_pos hc)
          refine j_aload_n (pc := 56) X d_RM_listen_56 rfl 1 rfl ?_
          refine get_RM_sameB (pc := 57) X fl_RM_196 d_RM_listen_57 ?_
          refine j_iconst (pc := 60) X d_RM_listen_60 ic_1 ?_
          refine j_iadd (pc := 61) X d_RM_listen_61 ?_
          refine j_goto (pc := 62) (tgt := 66) X d_RM_listen_62 rfl ?_
          refine j_sub [1, 0] (lv' := [(0, .ref (a 0)), (1, .int ((st 10 (plIx 15)) ^^^ (st 6 (plIx 3))))]) rfl ?_
          exact j_RM_listen_66 X a T hQ st ((st 10 (plIx 15)) ^^^ (st 6 (plIx 3))) ((st 0 35) + 1) hk
    · have hk := hk.trans (if_pos hc)
      exact j_RM_listen_19 X a T hQ st hk
set_option maxRecDepth 20000 in
theorem c_RM_listen (g : plG) (a : Nat → Nat) (st : plS)  : plMv g y_RM_listen b_RM_listen 2 none 0 0 [.ref (a 0)] (plwR g a) st (K_RM_listen st ) := by
  refine plMv.of (own := "ProtectedLineModel") (lv := [(0, .ref (a 0))]) rfl rfl (Nat.le_of_ble_eq_true rfl) rfl (fun E hE X hQ => ?_)
  subst hE
  exact j_RM_listen X a _ hQ st  rfl
theorem d_RM_decide_0 : decode b_RM_decide 0 = .ok (.aload_n 0, 1) := by decide +kernel
theorem d_RM_decide_1 : decode b_RM_decide 1 = .ok (.getfield 132, 3) := by decide +kernel
theorem d_RM_decide_4 : decode b_RM_decide 4 = .ok (.istore_n 1, 1) := by decide +kernel
theorem d_RM_decide_5 : decode b_RM_decide 5 = .ok (.aload_n 0, 1) := by decide +kernel
theorem d_RM_decide_6 : decode b_RM_decide 6 = .ok (.getfield 108, 3) := by decide +kernel
theorem d_RM_decide_9 : decode b_RM_decide 9 = .ok (.iconst 3, 1) := by decide +kernel
theorem d_RM_decide_10 : decode b_RM_decide 10 = .ok (.if_icmp .eq (13), 3) := by decide +kernel
theorem d_RM_decide_13 : decode b_RM_decide 13 = .ok (.aload_n 0, 1) := by decide +kernel
theorem d_RM_decide_14 : decode b_RM_decide 14 = .ok (.getfield 57, 3) := by decide +kernel
theorem d_RM_decide_17 : decode b_RM_decide 17 = .ok (.iconst 1, 1) := by decide +kernel
theorem d_RM_decide_18 : decode b_RM_decide 18 = .ok (.iaload, 1) := by decide +kernel
theorem d_RM_decide_19 : decode b_RM_decide 19 = .ok (.iconst 2, 1) := by decide +kernel
theorem d_RM_decide_20 : decode b_RM_decide 20 = .ok (.if_icmp .eq (7), 3) := by decide +kernel
theorem d_RM_decide_23 : decode b_RM_decide 23 = .ok (.iconst 1, 1) := by decide +kernel
theorem d_RM_decide_24 : decode b_RM_decide 24 = .ok (.goto (4), 3) := by decide +kernel
theorem d_RM_decide_27 : decode b_RM_decide 27 = .ok (.iconst 0, 1) := by decide +kernel
theorem d_RM_decide_28 : decode b_RM_decide 28 = .ok (.istore_n 2, 1) := by decide +kernel
theorem d_RM_decide_29 : decode b_RM_decide 29 = .ok (.iload_n 2, 1) := by decide +kernel
theorem d_RM_decide_30 : decode b_RM_decide 30 = .ok (.ifCond .eq (7), 3) := by decide +kernel
theorem d_RM_decide_33 : decode b_RM_decide 33 = .ok (.iconst 5, 1) := by decide +kernel
theorem d_RM_decide_34 : decode b_RM_decide 34 = .ok (.goto (43), 3) := by decide +kernel
theorem d_RM_decide_37 : decode b_RM_decide 37 = .ok (.aload_n 0, 1) := by decide +kernel
theorem d_RM_decide_38 : decode b_RM_decide 38 = .ok (.getfield 108, 3) := by decide +kernel
theorem d_RM_decide_41 : decode b_RM_decide 41 = .ok (.iconst 2, 1) := by decide +kernel
theorem d_RM_decide_42 : decode b_RM_decide 42 = .ok (.if_icmp .ne (7), 3) := by decide +kernel
theorem d_RM_decide_45 : decode b_RM_decide 45 = .ok (.iconst 4, 1) := by decide +kernel
theorem d_RM_decide_46 : decode b_RM_decide 46 = .ok (.goto (31), 3) := by decide +kernel
theorem d_RM_decide_49 : decode b_RM_decide 49 = .ok (.aload_n 0, 1) := by decide +kernel
theorem d_RM_decide_50 : decode b_RM_decide 50 = .ok (.getfield 193, 3) := by decide +kernel
theorem d_RM_decide_53 : decode b_RM_decide 53 = .ok (.aload_n 0, 1) := by decide +kernel
theorem d_RM_decide_54 : decode b_RM_decide 54 = .ok (.getfield 87, 3) := by decide +kernel
theorem d_RM_decide_57 : decode b_RM_decide 57 = .ok (.if_icmp .le (7), 3) := by decide +kernel
theorem d_RM_decide_60 : decode b_RM_decide 60 = .ok (.iconst 3, 1) := by decide +kernel
theorem d_RM_decide_61 : decode b_RM_decide 61 = .ok (.goto (16), 3) := by decide +kernel
theorem d_RM_decide_64 : decode b_RM_decide 64 = .ok (.aload_n 0, 1) := by decide +kernel
theorem d_RM_decide_65 : decode b_RM_decide 65 = .ok (.getfield 108, 3) := by decide +kernel
theorem d_RM_decide_68 : decode b_RM_decide 68 = .ok (.iconst 1, 1) := by decide +kernel
theorem d_RM_decide_69 : decode b_RM_decide 69 = .ok (.if_icmp .ne (7), 3) := by decide +kernel
theorem d_RM_decide_72 : decode b_RM_decide 72 = .ok (.iconst 2, 1) := by decide +kernel
theorem d_RM_decide_73 : decode b_RM_decide 73 = .ok (.goto (4), 3) := by decide +kernel
theorem d_RM_decide_76 : decode b_RM_decide 76 = .ok (.iconst 0, 1) := by decide +kernel
theorem d_RM_decide_77 : decode b_RM_decide 77 = .ok (.istore_n 3, 1) := by decide +kernel
theorem d_RM_decide_78 : decode b_RM_decide 78 = .ok (.iload_n 3, 1) := by decide +kernel
theorem d_RM_decide_79 : decode b_RM_decide 79 = .ok (.ifCond .le (14), 3) := by decide +kernel
theorem d_RM_decide_82 : decode b_RM_decide 82 = .ok (.aload_n 0, 1) := by decide +kernel
theorem d_RM_decide_83 : decode b_RM_decide 83 = .ok (.iload_n 3, 1) := by decide +kernel
theorem d_RM_decide_84 : decode b_RM_decide 84 = .ok (.putfield 132, 3) := by decide +kernel
theorem d_RM_decide_87 : decode b_RM_decide 87 = .ok (.aload_n 0, 1) := by decide +kernel
theorem d_RM_decide_88 : decode b_RM_decide 88 = .ok (.iconst 0, 1) := by decide +kernel
theorem d_RM_decide_89 : decode b_RM_decide 89 = .ok (.putfield 199, 3) := by decide +kernel
theorem d_RM_decide_92 : decode b_RM_decide 92 = .ok (.return_, 1) := by decide +kernel
theorem d_RM_decide_93 : decode b_RM_decide 93 = .ok (.aload_n 0, 1) := by decide +kernel
theorem d_RM_decide_94 : decode b_RM_decide 94 = .ok (.iload_n 1, 1) := by decide +kernel
theorem d_RM_decide_95 : decode b_RM_decide 95 = .ok (.iconst 3, 1) := by decide +kernel
theorem d_RM_decide_96 : decode b_RM_decide 96 = .ok (.if_icmp .ne (10), 3) := by decide +kernel
theorem d_RM_decide_99 : decode b_RM_decide 99 = .ok (.aload_n 0, 1) := by decide +kernel
theorem d_RM_decide_100 : decode b_RM_decide 100 = .ok (.getfield 90, 3) := by decide +kernel
theorem d_RM_decide_103 : decode b_RM_decide 103 = .ok (.goto (7), 3) := by decide +kernel
theorem d_RM_decide_106 : decode b_RM_decide 106 = .ok (.aload_n 0, 1) := by decide +kernel
theorem d_RM_decide_107 : decode b_RM_decide 107 = .ok (.getfield 199, 3) := by decide +kernel
theorem d_RM_decide_110 : decode b_RM_decide 110 = .ok (.putfield 199, 3) := by decide +kernel
theorem d_RM_decide_113 : decode b_RM_decide 113 = .ok (.aload_n 0, 1) := by decide +kernel
theorem d_RM_decide_114 : decode b_RM_decide 114 = .ok (.aload_n 0, 1) := by decide +kernel
theorem d_RM_decide_115 : decode b_RM_decide 115 = .ok (.getfield 199, 3) := by decide +kernel
theorem d_RM_decide_118 : decode b_RM_decide 118 = .ok (.ifCond .le (7), 3) := by decide +kernel
theorem d_RM_decide_121 : decode b_RM_decide 121 = .ok (.iconst 1, 1) := by decide +kernel
theorem d_RM_decide_122 : decode b_RM_decide 122 = .ok (.goto (4), 3) := by decide +kernel
theorem d_RM_decide_125 : decode b_RM_decide 125 = .ok (.iconst 0, 1) := by decide +kernel
theorem d_RM_decide_126 : decode b_RM_decide 126 = .ok (.putfield 132, 3) := by decide +kernel
theorem d_RM_decide_129 : decode b_RM_decide 129 = .ok (.aload_n 0, 1) := by decide +kernel
theorem d_RM_decide_130 : decode b_RM_decide 130 = .ok (.aload_n 0, 1) := by decide +kernel
theorem d_RM_decide_131 : decode b_RM_decide 131 = .ok (.getfield 199, 3) := by decide +kernel
theorem d_RM_decide_134 : decode b_RM_decide 134 = .ok (.ifCond .le (12), 3) := by decide +kernel
theorem d_RM_decide_137 : decode b_RM_decide 137 = .ok (.aload_n 0, 1) := by decide +kernel
theorem d_RM_decide_138 : decode b_RM_decide 138 = .ok (.getfield 199, 3) := by decide +kernel
theorem d_RM_decide_141 : decode b_RM_decide 141 = .ok (.iconst 1, 1) := by decide +kernel
theorem d_RM_decide_142 : decode b_RM_decide 142 = .ok (.isub, 1) := by decide +kernel
theorem d_RM_decide_143 : decode b_RM_decide 143 = .ok (.goto (4), 3) := by decide +kernel
theorem d_RM_decide_146 : decode b_RM_decide 146 = .ok (.iconst 0, 1) := by decide +kernel
theorem d_RM_decide_147 : decode b_RM_decide 147 = .ok (.putfield 199, 3) := by decide +kernel
theorem d_RM_decide_150 : decode b_RM_decide 150 = .ok (.return_, 1) := by decide +kernel
def K_RM_decide_147 (st : plS) (k0 : Int32) : plS := plUp st 0 39 k0
set_option maxRecDepth 20000 in
theorem j_RM_decide_147 {E : plE} (X : plX E b_RM_decide "ProtectedLineModel" 4 none 0 0) (a : Nat → Nat) (T : plS) (hQ : plRv E (plwR (plg E) a) T) (st : plS) (k0 : Int32) (hk : T = K_RM_decide_147 st k0) : plJ E 4 (plwR (plg E) a st) 0 0 [] 147 [.int k0, .ref (a 0)] := by
  unfold K_RM_decide_147 at hk
  refine put_RM_waits (pc := 147) X fl_RM_199 d_RM_decide_147 ?_
  exact j_retv (pc := 150) X hQ d_RM_decide_150 hk
def K_RM_decide_129 (st : plS) : plS := (if (st 0 39) ≤ 0 then K_RM_decide_147 st 0 else K_RM_decide_147 st ((st 0 39) - 1))
set_option maxRecDepth 20000 in
theorem j_RM_decide_129 {E : plE} (X : plX E b_RM_decide "ProtectedLineModel" 4 none 0 0) (a : Nat → Nat) (T : plS) (hQ : plRv E (plwR (plg E) a) T) (st : plS)  (hk : T = K_RM_decide_129 st) : plJ E 4 (plwR (plg E) a st) 0 0 [(0, .ref (a 0))] 129 [] := by
  unfold K_RM_decide_129 at hk
  refine j_aload_n (pc := 129) X d_RM_decide_129 rfl 0 rfl ?_
  refine j_aload_n (pc := 130) X d_RM_decide_130 rfl 0 rfl ?_
  refine get_RM_waits (pc := 131) X fl_RM_199 d_RM_decide_131 ?_
  refine j_if_le (pc := 134) (tgt := 146) X d_RM_decide_134 rfl (fun hc => ?_) (fun hc => ?_)
  · have hk := hk.trans (if_pos hc)
    refine j_iconst (pc := 146) X d_RM_decide_146 ic_0 ?_
    refine j_sub [] (lv' := []) rfl ?_
    exact j_RM_decide_147 X a T hQ st 0 hk
  · have hk := hk.trans (if_neg hc)
    refine j_aload_n (pc := 137) X d_RM_decide_137 rfl 0 rfl ?_
    refine get_RM_waits (pc := 138) X fl_RM_199 d_RM_decide_138 ?_
    refine j_iconst (pc := 141) X d_RM_decide_141 ic_1 ?_
    refine j_isub (pc := 142) X d_RM_decide_142 ?_
    refine j_goto (pc := 143) (tgt := 147) X d_RM_decide_143 rfl ?_
    refine j_sub [] (lv' := []) rfl ?_
    exact j_RM_decide_147 X a T hQ st ((st 0 39) - 1) hk
def K_RM_decide_126 (st : plS) (k0 : Int32) : plS := K_RM_decide_129 (plUp st 0 38 k0)
set_option maxRecDepth 20000 in
theorem j_RM_decide_126 {E : plE} (X : plX E b_RM_decide "ProtectedLineModel" 4 none 0 0) (a : Nat → Nat) (T : plS) (hQ : plRv E (plwR (plg E) a) T) (st : plS) (k0 : Int32) (hk : T = K_RM_decide_126 st k0) : plJ E 4 (plwR (plg E) a st) 0 0 [(0, .ref (a 0))] 126 [.int k0, .ref (a 0)] := by
  unfold K_RM_decide_126 at hk
  refine put_RM_request (pc := 126) X fl_RM_132 d_RM_decide_126 ?_
  exact j_RM_decide_129 X a T hQ (plUp st 0 38 k0) hk
def K_RM_decide_113 (st : plS) : plS := (if (st 0 39) ≤ 0 then K_RM_decide_126 st 0 else K_RM_decide_126 st 1)
set_option maxRecDepth 20000 in
theorem j_RM_decide_113 {E : plE} (X : plX E b_RM_decide "ProtectedLineModel" 4 none 0 0) (a : Nat → Nat) (T : plS) (hQ : plRv E (plwR (plg E) a) T) (st : plS)  (hk : T = K_RM_decide_113 st) : plJ E 4 (plwR (plg E) a st) 0 0 [(0, .ref (a 0))] 113 [] := by
  unfold K_RM_decide_113 at hk
  refine j_aload_n (pc := 113) X d_RM_decide_113 rfl 0 rfl ?_
  refine j_aload_n (pc := 114) X d_RM_decide_114 rfl 0 rfl ?_
  refine get_RM_waits (pc := 115) X fl_RM_199 d_RM_decide_115 ?_
  refine j_if_le (pc := 118) (tgt := 125) X d_RM_decide_118 rfl (fun hc => ?_) (fun hc => ?_)
  · have hk := hk.trans (if_pos hc)
    refine j_iconst (pc := 125) X d_RM_decide_125 ic_0 ?_
    exact j_RM_decide_126 X a T hQ st 0 hk
  · have hk := hk.trans (if_neg hc)
    refine j_iconst (pc := 121) X d_RM_decide_121 ic_1 ?_
    refine j_goto (pc := 122) (tgt := 126) X d_RM_decide_122 rfl ?_
    exact j_RM_decide_126 X a T hQ st 1 hk
def K_RM_decide_110 (st : plS) (k0 : Int32) : plS := K_RM_decide_113 (plUp st 0 39 k0)
set_option maxRecDepth 20000 in
theorem j_RM_decide_110 {E : plE} (X : plX E b_RM_decide "ProtectedLineModel" 4 none 0 0) (a : Nat → Nat) (T : plS) (hQ : plRv E (plwR (plg E) a) T) (st : plS) (k0 : Int32) (hk : T = K_RM_decide_110 st k0) : plJ E 4 (plwR (plg E) a st) 0 0 [(0, .ref (a 0))] 110 [.int k0, .ref (a 0)] := by
  unfold K_RM_decide_110 at hk
  refine put_RM_waits (pc := 110) X fl_RM_199 d_RM_decide_110 ?_
  exact j_RM_decide_113 X a T hQ (plUp st 0 39 k0) hk
def K_RM_decide_87 (st : plS) : plS := plUp st 0 39 0
set_option maxRecDepth 20000 in
theorem j_RM_decide_87 {E : plE} (X : plX E b_RM_decide "ProtectedLineModel" 4 none 0 0) (a : Nat → Nat) (T : plS) (hQ : plRv E (plwR (plg E) a) T) (st : plS)  (hk : T = K_RM_decide_87 st) : plJ E 4 (plwR (plg E) a st) 0 0 [(0, .ref (a 0))] 87 [] := by
  unfold K_RM_decide_87 at hk
  refine j_aload_n (pc := 87) X d_RM_decide_87 rfl 0 rfl ?_
  refine j_iconst (pc := 88) X d_RM_decide_88 ic_0 ?_
  refine put_RM_waits (pc := 89) X fl_RM_199 d_RM_decide_89 ?_
  exact j_retv (pc := 92) X hQ d_RM_decide_92 hk
def K_RM_decide_77 (st : plS) (v1 : Int32) (k0 : Int32) : plS := (if k0 ≤ 0 then (if v1 = 3 then K_RM_decide_110 st (st 0 2) else K_RM_decide_110 st (st 0 39)) else K_RM_decide_87 (plUp st 0 38 k0))
set_option maxRecDepth 20000 in
theorem j_RM_decide_77 {E : plE} (X : plX E b_RM_decide "ProtectedLineModel" 4 none 0 0) (a : Nat → Nat) (T : plS) (hQ : plRv E (plwR (plg E) a) T) (st : plS) (v1 : Int32) (k0 : Int32) (hk : T = K_RM_decide_77 st v1 k0) : plJ E 4 (plwR (plg E) a st) 0 0 [(0, .ref (a 0)), (1, .int v1)] 77 [.int k0] := by
  unfold K_RM_decide_77 at hk
  refine j_istore_n (pc := 77) X d_RM_decide_77 rfl (lv' := [(3, .int k0), (0, .ref (a 0)), (1, .int v1)]) (Nat.le_of_ble_eq_true rfl) rfl ?_
  refine j_iload_n (pc := 78) X d_RM_decide_78 rfl 0 rfl ?_
  refine j_if_le (pc := 79) (tgt := 93) X d_RM_decide_79 rfl (fun hc => ?_) (fun hc => ?_)
  · have hk := hk.trans (if_pos hc)
    refine j_aload_n (pc := 93) X d_RM_decide_93 rfl 1 rfl ?_
    refine j_iload_n (pc := 94) X d_RM_decide_94 rfl 2 rfl ?_
    refine j_iconst (pc := 95) X d_RM_decide_95 ic_3 ?_
    refine j_icmp_ne (pc := 96) (tgt := 106) X d_RM_decide_96 rfl (fun hc => ?_) (fun hc => ?_)
    · have hk := hk.trans (if_neg hc)
      refine j_aload_n (pc := 106) X d_RM_decide_106 rfl 1 rfl ?_
      refine get_RM_waits (pc := 107) X fl_RM_199 d_RM_decide_107 ?_
      refine j_sub [1] (lv' := [(0, .ref (a 0))]) rfl ?_
      exact j_RM_decide_110 X a T hQ st (st 0 39) hk
    · have hk := hk.trans (if_pos hc)
      refine j_aload_n (pc := 99) X d_RM_decide_99 rfl 1 rfl ?_
      refine get_RM_wait (pc := 100) X fl_RM_90 d_RM_decide_100 ?_
      refine j_goto (pc := 103) (tgt := 110) X d_RM_decide_103 rfl ?_
      refine j_sub [1] (lv' := [(0, .ref (a 0))]) rfl ?_
      exact j_RM_decide_110 X a T hQ st (st 0 2) hk
  · have hk := hk.trans (if_neg hc)
    refine j_aload_n (pc := 82) X d_RM_decide_82 rfl 1 rfl ?_
    refine j_iload_n (pc := 83) X d_RM_decide_83 rfl 0 rfl ?_
    refine put_RM_request (pc := 84) X fl_RM_132 d_RM_decide_84 ?_
    refine j_sub [1] (lv' := [(0, .ref (a 0))]) rfl ?_
    exact j_RM_decide_87 X a T hQ (plUp st 0 38 k0) hk
def K_RM_decide_28 (st : plS) (v1 : Int32) (k0 : Int32) : plS := (if k0 = 0 then (if (st 0 37) = 2 then K_RM_decide_77 st v1 4 else (if (st 0 33) ≤ (st 0 1) then (if (st 0 37) = 1 then K_RM_decide_77 st v1 2 else K_RM_decide_77 st v1 0) else K_RM_decide_77 st v1 3)) else K_RM_decide_77 st v1 5)
set_option maxRecDepth 20000 in
theorem j_RM_decide_28 {E : plE} (X : plX E b_RM_decide "ProtectedLineModel" 4 none 0 0) (a : Nat → Nat) (T : plS) (hQ : plRv E (plwR (plg E) a) T) (st : plS) (v1 : Int32) (k0 : Int32) (hk : T = K_RM_decide_28 st v1 k0) : plJ E 4 (plwR (plg E) a st) 0 0 [(0, .ref (a 0)), (1, .int v1)] 28 [.int k0] := by
  unfold K_RM_decide_28 at hk
  refine j_istore_n (pc := 28) X d_RM_decide_28 rfl (lv' := [(2, .int k0), (0, .ref (a 0)), (1, .int v1)]) (Nat.le_of_ble_eq_true rfl) rfl ?_
  refine j_iload_n (pc := 29) X d_RM_decide_29 rfl 0 rfl ?_
  refine j_if_eq (pc := 30) (tgt := 37) X d_RM_decide_30 rfl (fun hc => ?_) (fun hc => ?_)
  · have hk := hk.trans (if_pos hc)
    refine j_aload_n (pc := 37) X d_RM_decide_37 rfl 1 rfl ?_
    refine get_RM_order (pc := 38) X fl_RM_108 d_RM_decide_38 ?_
    refine j_iconst (pc := 41) X d_RM_decide_41 ic_2 ?_
    refine j_icmp_ne (pc := 42) (tgt := 49) X d_RM_decide_42 rfl (fun hc => ?_) (fun hc => ?_)
    · have hk := hk.trans (if_neg hc)
      refine j_aload_n (pc := 49) X d_RM_decide_49 rfl 1 rfl ?_
      refine get_RM_failedFor (pc := 50) X fl_RM_193 d_RM_decide_50 ?_
      refine j_aload_n (pc := 53) X d_RM_decide_53 rfl 1 rfl ?_
      refine get_RM_hold (pc := 54) X fl_RM_87 d_RM_decide_54 ?_
      refine j_icmp_le (pc := 57) (tgt := 64) X d_RM_decide_57 rfl (fun hc => ?_) (fun hc => ?_)
      · have hk := hk.trans (if_pos hc)
        refine j_aload_n (pc := 64) X d_RM_decide_64 rfl 1 rfl ?_
        refine get_RM_order (pc := 65) X fl_RM_108 d_RM_decide_65 ?_
        refine j_iconst (pc := 68) X d_RM_decide_68 ic_1 ?_
        refine j_icmp_ne (pc := 69) (tgt := 76) X d_RM_decide_69 rfl (fun hc => ?_) (fun hc => ?_)
        · have hk := hk.trans (if_neg hc)
          refine j_iconst (pc := 76) X d_RM_decide_76 ic_0 ?_
          refine j_sub [1, 2] (lv' := [(0, .ref (a 0)), (1, .int v1)]) rfl ?_
          exact j_RM_decide_77 X a T hQ st v1 0 hk
        · have hk := hk.trans (if_pos hc)
          refine j_iconst (pc := 72) X d_RM_decide_72 ic_2 ?_
          refine j_goto (pc := 73) (tgt := 77) X d_RM_decide_73 rfl ?_
          refine j_sub [1, 2] (lv' := [(0, .ref (a 0)), (1, .int v1)]) rfl ?_
          exact j_RM_decide_77 X a T hQ st v1 2 hk
      · have hk := hk.trans (if_neg hc)
        refine j_iconst (pc := 60) X d_RM_decide_60 ic_3 ?_
        refine j_goto (pc := 61) (tgt := 77) X d_RM_decide_61 rfl ?_
        refine j_sub [1, 2] (lv' := [(0, .ref (a 0)), (1, .int v1)]) rfl ?_
        exact j_RM_decide_77 X a T hQ st v1 3 hk
    · have hk := hk.trans (if_pos hc)
      refine j_iconst (pc := 45) X d_RM_decide_45 ic_4 ?_
      refine j_goto (pc := 46) (tgt := 77) X d_RM_decide_46 rfl ?_
      refine j_sub [1, 2] (lv' := [(0, .ref (a 0)), (1, .int v1)]) rfl ?_
      exact j_RM_decide_77 X a T hQ st v1 4 hk
  · have hk := hk.trans (if_neg hc)
    refine j_iconst (pc := 33) X d_RM_decide_33 ic_5 ?_
    refine j_goto (pc := 34) (tgt := 77) X d_RM_decide_34 rfl ?_
    refine j_sub [1, 2] (lv' := [(0, .ref (a 0)), (1, .int v1)]) rfl ?_
    exact j_RM_decide_77 X a T hQ st v1 5 hk
def K_RM_decide_23 (st : plS) (v1 : Int32) : plS := K_RM_decide_28 st v1 1
set_option maxRecDepth 20000 in
theorem j_RM_decide_23 {E : plE} (X : plX E b_RM_decide "ProtectedLineModel" 4 none 0 0) (a : Nat → Nat) (T : plS) (hQ : plRv E (plwR (plg E) a) T) (st : plS) (v1 : Int32) (hk : T = K_RM_decide_23 st v1) : plJ E 4 (plwR (plg E) a st) 0 0 [(0, .ref (a 0)), (1, .int v1)] 23 [] := by
  unfold K_RM_decide_23 at hk
  refine j_iconst (pc := 23) X d_RM_decide_23 ic_1 ?_
  refine j_goto (pc := 24) (tgt := 28) X d_RM_decide_24 rfl ?_
  exact j_RM_decide_28 X a T hQ st v1 1 hk
def K_RM_decide (st : plS) : plS := (if (st 0 37) = 3 then K_RM_decide_23 st (st 0 38) else (if (st 14 (plIx 1)) = 2 then K_RM_decide_28 st (st 0 38) 0 else K_RM_decide_23 st (st 0 38)))
set_option maxRecDepth 20000 in
theorem j_RM_decide {E : plE} (X : plX E b_RM_decide "ProtectedLineModel" 4 none 0 0) (a : Nat → Nat) (T : plS) (hQ : plRv E (plwR (plg E) a) T) (st : plS)  (hk : T = K_RM_decide st) : plJ E 4 (plwR (plg E) a st) 0 0 [(0, .ref (a 0))] 0 [] := by
  unfold K_RM_decide at hk
  refine j_aload_n (pc := 0) X d_RM_decide_0 rfl 0 rfl ?_
  refine get_RM_request (pc := 1) X fl_RM_132 d_RM_decide_1 ?_
  refine j_istore_n (pc := 4) X d_RM_decide_4 rfl (lv' := [(1, .int (st 0 38)), (0, .ref (a 0))]) (Nat.le_of_ble_eq_true rfl) rfl ?_
  refine j_aload_n (pc := 5) X d_RM_decide_5 rfl 1 rfl ?_
  refine get_RM_order (pc := 6) X fl_RM_108 d_RM_decide_6 ?_
  refine j_iconst (pc := 9) X d_RM_decide_9 ic_3 ?_
  refine j_icmp_eq (pc := 10) (tgt := 23) X d_RM_decide_10 rfl (fun hc => ?_) (fun hc => ?_)
  · have hk := hk.trans (if_pos hc)
    refine j_sub [1, 0] (lv' := [(0, .ref (a 0)), (1, .int (st 0 38))]) rfl ?_
    exact j_RM_decide_23 X a T hQ st (st 0 38) hk
  · have hk := hk.trans (if_neg hc)
    refine j_aload_n (pc := 13) X d_RM_decide_13 rfl 1 rfl ?_
    refine get_RM_state (pc := 14) X fl_RM_57 d_RM_decide_14 ?_
    refine j_iconst (pc := 17) X d_RM_decide_17 ic_1 ?_
    refine ald_RMstate (pc := 18) X vi_1_2 d_RM_decide_18 ?_
    refine j_iconst (pc := 19) X d_RM_decide_19 ic_2 ?_
    refine j_icmp_eq (pc := 20) (tgt := 27) X d_RM_decide_20 rfl (fun hc => ?_) (fun hc => ?_)
    · have hk := hk.trans (if_pos hc)
      refine j_iconst (pc := 27) X d_RM_decide_27 ic_0 ?_
      refine j_sub [1, 0] (lv' := [(0, .ref (a 0)), (1, .int (st 0 38))]) rfl ?_
      exact j_RM_decide_28 X a T hQ st (st 0 38) 0 hk
    · have hk := hk.trans (if_neg hc)
      refine j_sub [1, 0] (lv' := [(0, .ref (a 0)), (1, .int (st 0 38))]) rfl ?_
      exact j_RM_decide_23 X a T hQ st (st 0 38) hk
set_option maxRecDepth 20000 in
theorem c_RM_decide (g : plG) (a : Nat → Nat) (st : plS)  : plMv g y_RM_decide b_RM_decide 4 none 0 0 [.ref (a 0)] (plwR g a) st (K_RM_decide st ) := by
  refine plMv.of (own := "ProtectedLineModel") (lv := [(0, .ref (a 0))]) rfl rfl (Nat.le_of_ble_eq_true rfl) rfl (fun E hE X hQ => ?_)
  subst hE
  exact j_RM_decide X a _ hQ st  rfl
theorem d_RM_hunt_0 : decode b_RM_hunt 0 = .ok (.aload_n 0, 1) := by decide +kernel
theorem d_RM_hunt_1 : decode b_RM_hunt 1 = .ok (.iconst 0, 1) := by decide +kernel
theorem d_RM_hunt_2 : decode b_RM_hunt 2 = .ok (.putfield 252, 3) := by decide +kernel
theorem d_RM_hunt_5 : decode b_RM_hunt 5 = .ok (.aload_n 0, 1) := by decide +kernel
theorem d_RM_hunt_6 : decode b_RM_hunt 6 = .ok (.iconst (-1), 1) := by decide +kernel
theorem d_RM_hunt_7 : decode b_RM_hunt 7 = .ok (.putfield 78, 3) := by decide +kernel
theorem d_RM_hunt_10 : decode b_RM_hunt 10 = .ok (.aload_n 0, 1) := by decide +kernel
theorem d_RM_hunt_11 : decode b_RM_hunt 11 = .ok (.iconst 0, 1) := by decide +kernel
theorem d_RM_hunt_12 : decode b_RM_hunt 12 = .ok (.putfield 255, 3) := by decide +kernel
theorem d_RM_hunt_15 : decode b_RM_hunt 15 = .ok (.return_, 1) := by decide +kernel
def K_RM_hunt_10 (st : plS) : plS := plUp st 0 51 0
set_option maxRecDepth 20000 in
theorem j_RM_hunt_10 {E : plE} (X : plX E b_RM_hunt "ProtectedLineModel" 1 none 0 0) (a : Nat → Nat) (T : plS) (hQ : plRv E (plwR (plg E) a) T) (st : plS)  (hk : T = K_RM_hunt_10 st) : plJ E 1 (plwR (plg E) a st) 0 0 [(0, .ref (a 0))] 10 [] := by
  unfold K_RM_hunt_10 at hk
  refine j_aload_n (pc := 10) X d_RM_hunt_10 rfl 0 rfl ?_
  refine j_iconst (pc := 11) X d_RM_hunt_11 ic_0 ?_
  refine put_RM_left (pc := 12) X fl_RM_255 d_RM_hunt_12 ?_
  exact j_retv (pc := 15) X hQ d_RM_hunt_15 hk
def K_RM_hunt_5 (st : plS) : plS := K_RM_hunt_10 (plUp st 0 50 ((-1)))
set_option maxRecDepth 20000 in
theorem j_RM_hunt_5 {E : plE} (X : plX E b_RM_hunt "ProtectedLineModel" 1 none 0 0) (a : Nat → Nat) (T : plS) (hQ : plRv E (plwR (plg E) a) T) (st : plS)  (hk : T = K_RM_hunt_5 st) : plJ E 1 (plwR (plg E) a st) 0 0 [(0, .ref (a 0))] 5 [] := by
  unfold K_RM_hunt_5 at hk
  refine j_aload_n (pc := 5) X d_RM_hunt_5 rfl 0 rfl ?_
  refine j_iconst (pc := 6) X d_RM_hunt_6 ic_m1 ?_
  refine put_RM_first (pc := 7) X fl_RM_78 d_RM_hunt_7 ?_
  exact j_RM_hunt_10 X a T hQ (plUp st 0 50 ((-1))) hk
def K_RM_hunt (st : plS) : plS := K_RM_hunt_5 (plUp st 0 49 0)
set_option maxRecDepth 20000 in
theorem j_RM_hunt {E : plE} (X : plX E b_RM_hunt "ProtectedLineModel" 1 none 0 0) (a : Nat → Nat) (T : plS) (hQ : plRv E (plwR (plg E) a) T) (st : plS)  (hk : T = K_RM_hunt st) : plJ E 1 (plwR (plg E) a st) 0 0 [(0, .ref (a 0))] 0 [] := by
  unfold K_RM_hunt at hk
  refine j_aload_n (pc := 0) X d_RM_hunt_0 rfl 0 rfl ?_
  refine j_iconst (pc := 1) X d_RM_hunt_1 ic_0 ?_
  refine put_RM_sync (pc := 2) X fl_RM_252 d_RM_hunt_2 ?_
  exact j_RM_hunt_5 X a T hQ (plUp st 0 49 0) hk
set_option maxRecDepth 20000 in
theorem c_RM_hunt (g : plG) (a : Nat → Nat) (st : plS)  : plMv g y_RM_hunt b_RM_hunt 1 none 0 0 [.ref (a 0)] (plwR g a) st (K_RM_hunt st ) := by
  refine plMv.of (own := "ProtectedLineModel") (lv := [(0, .ref (a 0))]) rfl rfl (Nat.le_of_ble_eq_true rfl) rfl (fun E hE X hQ => ?_)
  subst hE
  exact j_RM_hunt X a _ hQ st  rfl
theorem d_RM_lose_0 : decode b_RM_lose 0 = .ok (.aload_n 0, 1) := by decide +kernel
theorem d_RM_lose_1 : decode b_RM_lose 1 = .ok (.iconst (-1), 1) := by decide +kernel
theorem d_RM_lose_2 : decode b_RM_lose 2 = .ok (.putfield 72, 3) := by decide +kernel
theorem d_RM_lose_5 : decode b_RM_lose 5 = .ok (.aload_n 0, 1) := by decide +kernel
theorem d_RM_lose_6 : decode b_RM_lose 6 = .ok (.iconst 0, 1) := by decide +kernel
theorem d_RM_lose_7 : decode b_RM_lose 7 = .ok (.putfield 221, 3) := by decide +kernel
theorem d_RM_lose_10 : decode b_RM_lose 10 = .ok (.aload_n 0, 1) := by decide +kernel
theorem d_RM_lose_11 : decode b_RM_lose 11 = .ok (.iconst (-1), 1) := by decide +kernel
theorem d_RM_lose_12 : decode b_RM_lose 12 = .ok (.putfield 75, 3) := by decide +kernel
theorem d_RM_lose_15 : decode b_RM_lose 15 = .ok (.aload_n 0, 1) := by decide +kernel
theorem d_RM_lose_16 : decode b_RM_lose 16 = .ok (.iconst 0, 1) := by decide +kernel
theorem d_RM_lose_17 : decode b_RM_lose 17 = .ok (.putfield 224, 3) := by decide +kernel
theorem d_RM_lose_20 : decode b_RM_lose 20 = .ok (.aload_n 0, 1) := by decide +kernel
theorem d_RM_lose_21 : decode b_RM_lose 21 = .ok (.iconst 0, 1) := by decide +kernel
theorem d_RM_lose_22 : decode b_RM_lose 22 = .ok (.putfield 212, 3) := by decide +kernel
theorem d_RM_lose_25 : decode b_RM_lose 25 = .ok (.return_, 1) := by decide +kernel
def K_RM_lose_20 (st : plS) : plS := plUp st 0 46 0
set_option maxRecDepth 20000 in
theorem j_RM_lose_20 {E : plE} (X : plX E b_RM_lose "ProtectedLineModel" 1 none 0 0) (a : Nat → Nat) (T : plS) (hQ : plRv E (plwR (plg E) a) T) (st : plS)  (hk : T = K_RM_lose_20 st) : plJ E 1 (plwR (plg E) a st) 0 0 [(0, .ref (a 0))] 20 [] := by
  unfold K_RM_lose_20 at hk
  refine j_aload_n (pc := 20) X d_RM_lose_20 rfl 0 rfl ?_
  refine j_iconst (pc := 21) X d_RM_lose_21 ic_0 ?_
  refine put_RM_chain (pc := 22) X fl_RM_212 d_RM_lose_22 ?_
  exact j_retv (pc := 25) X hQ d_RM_lose_25 hk
def K_RM_lose_15 (st : plS) : plS := K_RM_lose_20 (plUp st 0 45 0)
set_option maxRecDepth 20000 in
theorem j_RM_lose_15 {E : plE} (X : plX E b_RM_lose "ProtectedLineModel" 1 none 0 0) (a : Nat → Nat) (T : plS) (hQ : plRv E (plwR (plg E) a) T) (st : plS)  (hk : T = K_RM_lose_15 st) : plJ E 1 (plwR (plg E) a st) 0 0 [(0, .ref (a 0))] 15 [] := by
  unfold K_RM_lose_15 at hk
  refine j_aload_n (pc := 15) X d_RM_lose_15 rfl 0 rfl ?_
  refine j_iconst (pc := 16) X d_RM_lose_16 ic_0 ?_
  refine put_RM_rowOf (pc := 17) X fl_RM_224 d_RM_lose_17 ?_
  exact j_RM_lose_20 X a T hQ (plUp st 0 45 0) hk
def K_RM_lose_10 (st : plS) : plS := K_RM_lose_15 (plUp st 0 44 ((-1)))
set_option maxRecDepth 20000 in
theorem j_RM_lose_10 {E : plE} (X : plX E b_RM_lose "ProtectedLineModel" 1 none 0 0) (a : Nat → Nat) (T : plS) (hQ : plRv E (plwR (plg E) a) T) (st : plS)  (hk : T = K_RM_lose_10 st) : plJ E 1 (plwR (plg E) a st) 0 0 [(0, .ref (a 0))] 10 [] := by
  unfold K_RM_lose_10 at hk
  refine j_aload_n (pc := 10) X d_RM_lose_10 rfl 0 rfl ?_
  refine j_iconst (pc := 11) X d_RM_lose_11 ic_m1 ?_
  refine put_RM_rowFor (pc := 12) X fl_RM_75 d_RM_lose_12 ?_
  exact j_RM_lose_15 X a T hQ (plUp st 0 44 ((-1))) hk
def K_RM_lose_5 (st : plS) : plS := K_RM_lose_10 (plUp st 0 43 0)
set_option maxRecDepth 20000 in
theorem j_RM_lose_5 {E : plE} (X : plX E b_RM_lose "ProtectedLineModel" 1 none 0 0) (a : Nat → Nat) (T : plS) (hQ : plRv E (plwR (plg E) a) T) (st : plS)  (hk : T = K_RM_lose_5 st) : plJ E 1 (plwR (plg E) a st) 0 0 [(0, .ref (a 0))] 5 [] := by
  unfold K_RM_lose_5 at hk
  refine j_aload_n (pc := 5) X d_RM_lose_5 rfl 0 rfl ?_
  refine j_iconst (pc := 6) X d_RM_lose_6 ic_0 ?_
  refine put_RM_strange (pc := 7) X fl_RM_221 d_RM_lose_7 ?_
  exact j_RM_lose_10 X a T hQ (plUp st 0 43 0) hk
def K_RM_lose (st : plS) : plS := K_RM_lose_5 (plUp st 0 41 ((-1)))
set_option maxRecDepth 20000 in
theorem j_RM_lose {E : plE} (X : plX E b_RM_lose "ProtectedLineModel" 1 none 0 0) (a : Nat → Nat) (T : plS) (hQ : plRv E (plwR (plg E) a) T) (st : plS)  (hk : T = K_RM_lose st) : plJ E 1 (plwR (plg E) a st) 0 0 [(0, .ref (a 0))] 0 [] := by
  unfold K_RM_lose at hk
  refine j_aload_n (pc := 0) X d_RM_lose_0 rfl 0 rfl ?_
  refine j_iconst (pc := 1) X d_RM_lose_1 ic_m1 ?_
  refine put_RM_pointer (pc := 2) X fl_RM_72 d_RM_lose_2 ?_
  exact j_RM_lose_5 X a T hQ (plUp st 0 41 ((-1))) hk
set_option maxRecDepth 20000 in
theorem c_RM_lose (g : plG) (a : Nat → Nat) (st : plS)  : plMv g y_RM_lose b_RM_lose 1 none 0 0 [.ref (a 0)] (plwR g a) st (K_RM_lose st ) := by
  refine plMv.of (own := "ProtectedLineModel") (lv := [(0, .ref (a 0))]) rfl rfl (Nat.le_of_ble_eq_true rfl) rfl (fun E hE X hQ => ?_)
  subst hE
  exact j_RM_lose X a _ hQ st  rfl
theorem d_RM_gap_0 : decode b_RM_gap 0 = .ok (.aload_n 0, 1) := by decide +kernel
theorem d_RM_gap_1 : decode b_RM_gap 1 = .ok (.aload_n 0, 1) := by decide +kernel
theorem d_RM_gap_2 : decode b_RM_gap 2 = .ok (.getfield 209, 3) := by decide +kernel
theorem d_RM_gap_5 : decode b_RM_gap 5 = .ok (.iconst 1, 1) := by decide +kernel
theorem d_RM_gap_6 : decode b_RM_gap 6 = .ok (.iadd, 1) := by decide +kernel
theorem d_RM_gap_7 : decode b_RM_gap 7 = .ok (.putfield 209, 3) := by decide +kernel
theorem d_RM_gap_10 : decode b_RM_gap 10 = .ok (.aload_n 0, 1) := by decide +kernel
theorem d_RM_gap_11 : decode b_RM_gap 11 = .ok (.aload_n 0, 1) := by decide +kernel
theorem d_RM_gap_12 : decode b_RM_gap 12 = .ok (.getfield 72, 3) := by decide +kernel
theorem d_RM_gap_15 : decode b_RM_gap 15 = .ok (.ifCond .ge (7), 3) := by decide +kernel
theorem d_RM_gap_18 : decode b_RM_gap 18 = .ok (.iconst (-1), 1) := by decide +kernel
theorem d_RM_gap_19 : decode b_RM_gap 19 = .ok (.goto (7), 3) := by decide +kernel
theorem d_RM_gap_22 : decode b_RM_gap 22 = .ok (.aload_n 0, 1) := by decide +kernel
theorem d_RM_gap_23 : decode b_RM_gap 23 = .ok (.getfield 75, 3) := by decide +kernel
theorem d_RM_gap_26 : decode b_RM_gap 26 = .ok (.putfield 75, 3) := by decide +kernel
theorem d_RM_gap_29 : decode b_RM_gap 29 = .ok (.aload_n 0, 1) := by decide +kernel
theorem d_RM_gap_30 : decode b_RM_gap 30 = .ok (.iconst 0, 1) := by decide +kernel
theorem d_RM_gap_31 : decode b_RM_gap 31 = .ok (.putfield 212, 3) := by decide +kernel
theorem d_RM_gap_34 : decode b_RM_gap 34 = .ok (.aload_n 0, 1) := by decide +kernel
theorem d_RM_gap_35 : decode b_RM_gap 35 = .ok (.invokevirtual 215, 3) := by decide +kernel
theorem d_RM_gap_38 : decode b_RM_gap 38 = .ok (.aload_n 0, 1) := by decide +kernel
theorem d_RM_gap_39 : decode b_RM_gap 39 = .ok (.getfield 209, 3) := by decide +kernel
theorem d_RM_gap_42 : decode b_RM_gap 42 = .ok (.iconst 3, 1) := by decide +kernel
theorem d_RM_gap_43 : decode b_RM_gap 43 = .ok (.if_icmp .ne (7), 3) := by decide +kernel
theorem d_RM_gap_46 : decode b_RM_gap 46 = .ok (.aload_n 0, 1) := by decide +kernel
theorem d_RM_gap_47 : decode b_RM_gap 47 = .ok (.invokevirtual 218, 3) := by decide +kernel
theorem d_RM_gap_50 : decode b_RM_gap 50 = .ok (.return_, 1) := by decide +kernel
def K_RM_gap_50 (st : plS) : plS := st
set_option maxRecDepth 20000 in
theorem j_RM_gap_50 {E : plE} (X : plX E b_RM_gap "ProtectedLineModel" 1 none 1 20) (a : Nat → Nat) (T : plS) (hQ : plRv E (plwR (plg E) a) T) (st : plS)  (hk : T = K_RM_gap_50 st) : plJ E 1 (plwR (plg E) a st) 0 0 [] 50 [] := by
  unfold K_RM_gap_50 at hk
  exact j_retv (pc := 50) X hQ d_RM_gap_50 hk
def K_RM_gap_38 (st : plS) : plS := (if (st 0 42) = 3 then K_RM_gap_50 (K_RM_lose st) else K_RM_gap_50 st)
set_option maxRecDepth 20000 in
theorem j_RM_gap_38 {E : plE} (X : plX E b_RM_gap "ProtectedLineModel" 1 none 1 20) (a : Nat → Nat) (T : plS) (hQ : plRv E (plwR (plg E) a) T) (st : plS)  (hk : T = K_RM_gap_38 st) : plJ E 1 (plwR (plg E) a st) 0 0 [(0, .ref (a 0))] 38 [] := by
  unfold K_RM_gap_38 at hk
  refine j_aload_n (pc := 38) X d_RM_gap_38 rfl 0 rfl ?_
  refine get_RM_gaps (pc := 39) X fl_RM_209 d_RM_gap_39 ?_
  refine j_iconst (pc := 42) X d_RM_gap_42 ic_3 ?_
  refine j_icmp_ne (pc := 43) (tgt := 50) X d_RM_gap_43 rfl (fun hc => ?_) (fun hc => ?_)
  · have hk := hk.trans (if_neg hc)
    refine j_sub [] (lv' := []) rfl ?_
    exact j_RM_gap_50 X a T hQ st hk
  · have hk := hk.trans (if_pos hc)
    refine j_aload_n (pc := 46) X d_RM_gap_46 rfl 0 rfl ?_
    refine j_callVv (pc := 47) (As := []) (rest := []) X (c_RM_lose (plg E) a st) ml_RM_218 0 rfl rfl ⟨Nat.le_of_ble_eq_true rfl, Nat.le_of_ble_eq_true rfl⟩ rfl rfl (Nat.le_of_ble_eq_true rfl) d_RM_gap_47 ?_
    refine j_sub [] (lv' := []) rfl ?_
    exact j_RM_gap_50 X a T hQ (K_RM_lose st) hk
def K_RM_gap_34 (st : plS) : plS := K_RM_gap_38 (K_RM_hunt st)
set_option maxRecDepth 20000 in
theorem j_RM_gap_34 {E : plE} (X : plX E b_RM_gap "ProtectedLineModel" 1 none 1 20) (a : Nat → Nat) (T : plS) (hQ : plRv E (plwR (plg E) a) T) (st : plS)  (hk : T = K_RM_gap_34 st) : plJ E 1 (plwR (plg E) a st) 0 0 [(0, .ref (a 0))] 34 [] := by
  unfold K_RM_gap_34 at hk
  refine j_aload_n (pc := 34) X d_RM_gap_34 rfl 0 rfl ?_
  refine j_callVv (pc := 35) (As := []) (rest := []) X (c_RM_hunt (plg E) a st) ml_RM_215 0 rfl rfl ⟨Nat.le_of_ble_eq_true rfl, Nat.le_of_ble_eq_true rfl⟩ rfl rfl (Nat.le_of_ble_eq_true rfl) d_RM_gap_35 ?_
  exact j_RM_gap_38 X a T hQ (K_RM_hunt st) hk
def K_RM_gap_29 (st : plS) : plS := K_RM_gap_34 (plUp st 0 46 0)
set_option maxRecDepth 20000 in
theorem j_RM_gap_29 {E : plE} (X : plX E b_RM_gap "ProtectedLineModel" 1 none 1 20) (a : Nat → Nat) (T : plS) (hQ : plRv E (plwR (plg E) a) T) (st : plS)  (hk : T = K_RM_gap_29 st) : plJ E 1 (plwR (plg E) a st) 0 0 [(0, .ref (a 0))] 29 [] := by
  unfold K_RM_gap_29 at hk
  refine j_aload_n (pc := 29) X d_RM_gap_29 rfl 0 rfl ?_
  refine j_iconst (pc := 30) X d_RM_gap_30 ic_0 ?_
  refine put_RM_chain (pc := 31) X fl_RM_212 d_RM_gap_31 ?_
  exact j_RM_gap_34 X a T hQ (plUp st 0 46 0) hk
def K_RM_gap_26 (st : plS) (k0 : Int32) : plS := K_RM_gap_29 (plUp st 0 44 k0)
set_option maxRecDepth 20000 in
theorem j_RM_gap_26 {E : plE} (X : plX E b_RM_gap "ProtectedLineModel" 1 none 1 20) (a : Nat → Nat) (T : plS) (hQ : plRv E (plwR (plg E) a) T) (st : plS) (k0 : Int32) (hk : T = K_RM_gap_26 st k0) : plJ E 1 (plwR (plg E) a st) 0 0 [(0, .ref (a 0))] 26 [.int k0, .ref (a 0)] := by
  unfold K_RM_gap_26 at hk
  refine put_RM_rowFor (pc := 26) X fl_RM_75 d_RM_gap_26 ?_
  exact j_RM_gap_29 X a T hQ (plUp st 0 44 k0) hk
def K_RM_gap_10 (st : plS) : plS := (if 0 ≤ (st 0 41) then K_RM_gap_26 st (st 0 44) else K_RM_gap_26 st ((-1)))
set_option maxRecDepth 20000 in
theorem j_RM_gap_10 {E : plE} (X : plX E b_RM_gap "ProtectedLineModel" 1 none 1 20) (a : Nat → Nat) (T : plS) (hQ : plRv E (plwR (plg E) a) T) (st : plS)  (hk : T = K_RM_gap_10 st) : plJ E 1 (plwR (plg E) a st) 0 0 [(0, .ref (a 0))] 10 [] := by
  unfold K_RM_gap_10 at hk
  refine j_aload_n (pc := 10) X d_RM_gap_10 rfl 0 rfl ?_
  refine j_aload_n (pc := 11) X d_RM_gap_11 rfl 0 rfl ?_
  refine get_RM_pointer (pc := 12) X fl_RM_72 d_RM_gap_12 ?_
  refine j_if_ge (pc := 15) (tgt := 22) X d_RM_gap_15 rfl (fun hc => ?_) (fun hc => ?_)
  · have hk := hk.trans (if_pos hc)
    refine j_aload_n (pc := 22) X d_RM_gap_22 rfl 0 rfl ?_
    refine get_RM_rowFor (pc := 23) X fl_RM_75 d_RM_gap_23 ?_
    exact j_RM_gap_26 X a T hQ st (st 0 44) hk
  · have hk := hk.trans (if_neg hc)
    refine j_iconst (pc := 18) X d_RM_gap_18 ic_m1 ?_
    refine j_goto (pc := 19) (tgt := 26) X d_RM_gap_19 rfl ?_
    exact j_RM_gap_26 X a T hQ st ((-1)) hk
def K_RM_gap (st : plS) : plS := K_RM_gap_10 (plUp st 0 42 ((st 0 42) + 1))
set_option maxRecDepth 20000 in
theorem j_RM_gap {E : plE} (X : plX E b_RM_gap "ProtectedLineModel" 1 none 1 20) (a : Nat → Nat) (T : plS) (hQ : plRv E (plwR (plg E) a) T) (st : plS)  (hk : T = K_RM_gap st) : plJ E 1 (plwR (plg E) a st) 0 0 [(0, .ref (a 0))] 0 [] := by
  unfold K_RM_gap at hk
  refine j_aload_n (pc := 0) X d_RM_gap_0 rfl 0 rfl ?_
  refine j_aload_n (pc := 1) X d_RM_gap_1 rfl 0 rfl ?_
  refine get_RM_gaps (pc := 2) X fl_RM_209 d_RM_gap_2 ?_
  refine j_iconst (pc := 5) X d_RM_gap_5 ic_1 ?_
  refine j_iadd (pc := 6) X d_RM_gap_6 ?_
  refine put_RM_gaps (pc := 7) X fl_RM_209 d_RM_gap_7 ?_
  exact j_RM_gap_10 X a T hQ (plUp st 0 42 ((st 0 42) + 1)) hk
set_option maxRecDepth 20000 in
theorem c_RM_gap (g : plG) (a : Nat → Nat) (st : plS)  : plMv g y_RM_gap b_RM_gap 1 none 1 20 [.ref (a 0)] (plwR g a) st (K_RM_gap st ) := by
  refine plMv.of (own := "ProtectedLineModel") (lv := [(0, .ref (a 0))]) rfl rfl (Nat.le_of_ble_eq_true rfl) rfl (fun E hE X hQ => ?_)
  subst hE
  exact j_RM_gap X a _ hQ st  rfl
theorem d_RM_plain_0 : decode b_RM_plain 0 = .ok (.iload_n 0, 1) := by decide +kernel
theorem d_RM_plain_1 : decode b_RM_plain 1 = .ok (.bipush (64), 2) := by decide +kernel
theorem d_RM_plain_3 : decode b_RM_plain 3 = .ok (.if_icmp .lt (29), 3) := by decide +kernel
theorem d_RM_plain_6 : decode b_RM_plain 6 = .ok (.iload_n 0, 1) := by decide +kernel
theorem d_RM_plain_7 : decode b_RM_plain 7 = .ok (.bipush (109), 2) := by decide +kernel
theorem d_RM_plain_9 : decode b_RM_plain 9 = .ok (.if_icmp .gt (23), 3) := by decide +kernel
theorem d_RM_plain_12 : decode b_RM_plain 12 = .ok (.iload_n 0, 1) := by decide +kernel
theorem d_RM_plain_13 : decode b_RM_plain 13 = .ok (.bipush (64), 2) := by decide +kernel
theorem d_RM_plain_15 : decode b_RM_plain 15 = .ok (.isub, 1) := by decide +kernel
theorem d_RM_plain_16 : decode b_RM_plain 16 = .ok (.bipush (9), 2) := by decide +kernel
theorem d_RM_plain_18 : decode b_RM_plain 18 = .ok (.irem, 1) := by decide +kernel
theorem d_RM_plain_19 : decode b_RM_plain 19 = .ok (.ifCond .ne (13), 3) := by decide +kernel
theorem d_RM_plain_22 : decode b_RM_plain 22 = .ok (.iload_n 0, 1) := by decide +kernel
theorem d_RM_plain_23 : decode b_RM_plain 23 = .ok (.bipush (64), 2) := by decide +kernel
theorem d_RM_plain_25 : decode b_RM_plain 25 = .ok (.isub, 1) := by decide +kernel
theorem d_RM_plain_26 : decode b_RM_plain 26 = .ok (.bipush (9), 2) := by decide +kernel
theorem d_RM_plain_28 : decode b_RM_plain 28 = .ok (.idiv, 1) := by decide +kernel
theorem d_RM_plain_29 : decode b_RM_plain 29 = .ok (.goto (4), 3) := by decide +kernel
theorem d_RM_plain_32 : decode b_RM_plain 32 = .ok (.iconst (-1), 1) := by decide +kernel
theorem d_RM_plain_33 : decode b_RM_plain 33 = .ok (.ireturn, 1) := by decide +kernel
def K_RM_plain_33 (k0 : Int32) : Int32 := k0
set_option maxRecDepth 20000 in
theorem j_RM_plain_33 {E : plE} (X : plX E b_RM_plain "ProtectedLineModel" 1 (some .int) 0 0) (a : Nat → Nat) (T : Int32) (st : plS) (hQ : plRp E (plwR (plg E) a) st T) (k0 : Int32) (hk : T = K_RM_plain_33 k0) : plJ E 1 (plwR (plg E) a st) 0 0 [] 33 [.int k0] := by
  unfold K_RM_plain_33 at hk
  exact j_retip (pc := 33) X hQ d_RM_plain_33 hk
def K_RM_plain_32  : Int32 := K_RM_plain_33 ((-1))
set_option maxRecDepth 20000 in
theorem j_RM_plain_32 {E : plE} (X : plX E b_RM_plain "ProtectedLineModel" 1 (some .int) 0 0) (a : Nat → Nat) (T : Int32) (st : plS) (hQ : plRp E (plwR (plg E) a) st T)  (hk : T = K_RM_plain_32 ) : plJ E 1 (plwR (plg E) a st) 0 0 [] 32 [] := by
  unfold K_RM_plain_32 at hk
  refine j_iconst (pc := 32) X d_RM_plain_32 ic_m1 ?_
  exact j_RM_plain_33 X a T st hQ ((-1)) hk
def K_RM_plain (v0 : Int32) : Int32 := (if v0 < 64 then K_RM_plain_32 else (if 109 < v0 then K_RM_plain_32 else (if ((v0 - 64) - (v0 - 64) / 9 * 9) = 0 then K_RM_plain_33 ((v0 - 64) / 9) else K_RM_plain_32)))
set_option maxRecDepth 20000 in
theorem j_RM_plain {E : plE} (X : plX E b_RM_plain "ProtectedLineModel" 1 (some .int) 0 0) (a : Nat → Nat) (T : Int32) (st : plS) (hQ : plRp E (plwR (plg E) a) st T) (v0 : Int32) (hk : T = K_RM_plain v0) : plJ E 1 (plwR (plg E) a st) 0 0 [(0, .int v0)] 0 [] := by
  unfold K_RM_plain at hk
  refine j_iload_n (pc := 0) X d_RM_plain_0 rfl 0 rfl ?_
  refine j_bipush (pc := 1) X d_RM_plain_1 bp_64 ?_
  refine j_icmp_lt (pc := 3) (tgt := 32) X d_RM_plain_3 rfl (fun hc => ?_) (fun hc => ?_)
  · have hk := hk.trans (if_pos hc)
    refine j_sub [] (lv' := []) rfl ?_
    exact j_RM_plain_32 X a T st hQ hk
  · have hk := hk.trans (if_neg hc)
    refine j_iload_n (pc := 6) X d_RM_plain_6 rfl 0 rfl ?_
    refine j_bipush (pc := 7) X d_RM_plain_7 bp_109 ?_
    refine j_icmp_gt (pc := 9) (tgt := 32) X d_RM_plain_9 rfl (fun hc => ?_) (fun hc => ?_)
    · have hk := hk.trans (if_pos hc)
      refine j_sub [] (lv' := []) rfl ?_
      exact j_RM_plain_32 X a T st hQ hk
    · have hk := hk.trans (if_neg hc)
      refine j_iload_n (pc := 12) X d_RM_plain_12 rfl 0 rfl ?_
      refine j_bipush (pc := 13) X d_RM_plain_13 bp_64 ?_
      refine j_isub (pc := 15) X d_RM_plain_15 ?_
      refine j_bipush (pc := 16) X d_RM_plain_16 bp_9 ?_
      refine j_irem (pc := 18) X d_RM_plain_18 nz_9 ?_
      refine j_if_ne (pc := 19) (tgt := 32) X d_RM_plain_19 rfl (fun hc => ?_) (fun hc => ?_)
      · have hk := hk.trans (if_neg hc)
        refine j_sub [] (lv' := []) rfl ?_
        exact j_RM_plain_32 X a T st hQ hk
      · have hk := hk.trans (if_pos hc)
        refine j_iload_n (pc := 22) X d_RM_plain_22 rfl 0 rfl ?_
        refine j_bipush (pc := 23) X d_RM_plain_23 bp_64 ?_
        refine j_isub (pc := 25) X d_RM_plain_25 ?_
        refine j_bipush (pc := 26) X d_RM_plain_26 bp_9 ?_
        refine j_idiv (pc := 28) X d_RM_plain_28 nz_9 ?_
        refine j_goto (pc := 29) (tgt := 33) X d_RM_plain_29 rfl ?_
        refine j_sub [] (lv' := []) rfl ?_
        exact j_RM_plain_33 X a T st hQ ((v0 - 64) / 9) hk
set_option maxRecDepth 20000 in
theorem c_RM_plain (g : plG) (a : Nat → Nat) (st : plS) (v0 : Int32) : plMp g y_RM_plain b_RM_plain 1 (some .int) 0 0 [.int v0] (plwR g a) st (K_RM_plain v0) := by
  refine plMp.of (own := "ProtectedLineModel") (lv := [(0, .int v0)]) rfl rfl (Nat.le_of_ble_eq_true rfl) rfl (fun E hE X hQ => ?_)
  subst hE
  exact j_RM_plain X a _ st hQ v0 rfl
