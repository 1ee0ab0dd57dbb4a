theorem d_RM_hear_0 : decode b_RM_hear 0 = .ok (.aload_n 0, 1) := by decide +kernel
theorem d_RM_hear_1 : decode b_RM_hear 1 = .ok (.getfield 38, 3) := by decide +kernel
theorem d_RM_hear_4 : decode b_RM_hear 4 = .ok (.iconst 1, 1) := by decide +kernel
theorem d_RM_hear_5 : decode b_RM_hear 5 = .ok (.baload, 1) := by decide +kernel
theorem d_RM_hear_6 : decode b_RM_hear 6 = .ok (.ifCond .ne (18), 3) := by decide +kernel
theorem d_RM_hear_9 : decode b_RM_hear 9 = .ok (.aload_n 0, 1) := by decide +kernel
theorem d_RM_hear_10 : decode b_RM_hear 10 = .ok (.getfield 111, 3) := by decide +kernel
theorem d_RM_hear_13 : decode b_RM_hear 13 = .ok (.aload_n 0, 1) := by decide +kernel
theorem d_RM_hear_14 : decode b_RM_hear 14 = .ok (.getfield 7, 3) := by decide +kernel
theorem d_RM_hear_17 : decode b_RM_hear 17 = .ok (.iconst 1, 1) := by decide +kernel
theorem d_RM_hear_18 : decode b_RM_hear 18 = .ok (.iaload, 1) := by decide +kernel
theorem d_RM_hear_19 : decode b_RM_hear 19 = .ok (.isub, 1) := by decide +kernel
theorem d_RM_hear_20 : decode b_RM_hear 20 = .ok (.iconst 1, 1) := by decide +kernel
theorem d_RM_hear_21 : decode b_RM_hear 21 = .ok (.if_icmp .ge (9), 3) := by decide +kernel
theorem d_RM_hear_24 : decode b_RM_hear 24 = .ok (.aload_n 0, 1) := by decide +kernel
theorem d_RM_hear_25 : decode b_RM_hear 25 = .ok (.iconst 0, 1) := by decide +kernel
theorem d_RM_hear_26 : decode b_RM_hear 26 = .ok (.putfield 138, 3) := by decide +kernel
theorem d_RM_hear_29 : decode b_RM_hear 29 = .ok (.return_, 1) := by decide +kernel
theorem d_RM_hear_30 : decode b_RM_hear 30 = .ok (.aload_n 0, 1) := by decide +kernel
theorem d_RM_hear_31 : decode b_RM_hear 31 = .ok (.getfield 29, 3) := by decide +kernel
theorem d_RM_hear_34 : decode b_RM_hear 34 = .ok (.aload_n 0, 1) := by decide +kernel
theorem d_RM_hear_35 : decode b_RM_hear 35 = .ok (.getfield 111, 3) := by decide +kernel
theorem d_RM_hear_38 : decode b_RM_hear 38 = .ok (.aload_n 0, 1) := by decide +kernel
theorem d_RM_hear_39 : decode b_RM_hear 39 = .ok (.getfield 7, 3) := by decide +kernel
theorem d_RM_hear_42 : decode b_RM_hear 42 = .ok (.iconst 1, 1) := by decide +kernel
theorem d_RM_hear_43 : decode b_RM_hear 43 = .ok (.iaload, 1) := by decide +kernel
theorem d_RM_hear_44 : decode b_RM_hear 44 = .ok (.isub, 1) := by decide +kernel
theorem d_RM_hear_45 : decode b_RM_hear 45 = .ok (.bipush (7), 2) := by decide +kernel
theorem d_RM_hear_47 : decode b_RM_hear 47 = .ok (.iand, 1) := by decide +kernel
theorem d_RM_hear_48 : decode b_RM_hear 48 = .ok (.iaload, 1) := by decide +kernel
theorem d_RM_hear_49 : decode b_RM_hear 49 = .ok (.istore_n 1, 1) := by decide +kernel
theorem d_RM_hear_50 : decode b_RM_hear 50 = .ok (.aload_n 0, 1) := by decide +kernel
theorem d_RM_hear_51 : decode b_RM_hear 51 = .ok (.aload_n 0, 1) := by decide +kernel
theorem d_RM_hear_52 : decode b_RM_hear 52 = .ok (.getfield 138, 3) := by decide +kernel
theorem d_RM_hear_55 : decode b_RM_hear 55 = .ok (.ifCond .le (20), 3) := by decide +kernel
theorem d_RM_hear_58 : decode b_RM_hear 58 = .ok (.iload_n 1, 1) := by decide +kernel
theorem d_RM_hear_59 : decode b_RM_hear 59 = .ok (.aload_n 0, 1) := by decide +kernel
theorem d_RM_hear_60 : decode b_RM_hear 60 = .ok (.getfield 23, 3) := by decide +kernel
theorem d_RM_hear_63 : decode b_RM_hear 63 = .ok (.if_icmp .ne (12), 3) := by decide +kernel
theorem d_RM_hear_66 : decode b_RM_hear 66 = .ok (.aload_n 0, 1) := by decide +kernel
theorem d_RM_hear_67 : decode b_RM_hear 67 = .ok (.getfield 138, 3) := by decide +kernel
theorem d_RM_hear_70 : decode b_RM_hear 70 = .ok (.iconst 1, 1) := by decide +kernel
theorem d_RM_hear_71 : decode b_RM_hear 71 = .ok (.iadd, 1) := by decide +kernel
theorem d_RM_hear_72 : decode b_RM_hear 72 = .ok (.goto (4), 3) := by decide +kernel
theorem d_RM_hear_75 : decode b_RM_hear 75 = .ok (.iconst 1, 1) := by decide +kernel
theorem d_RM_hear_76 : decode b_RM_hear 76 = .ok (.putfield 138, 3) := by decide +kernel
theorem d_RM_hear_79 : decode b_RM_hear 79 = .ok (.aload_n 0, 1) := by decide +kernel
theorem d_RM_hear_80 : decode b_RM_hear 80 = .ok (.iload_n 1, 1) := by decide +kernel
theorem d_RM_hear_81 : decode b_RM_hear 81 = .ok (.putfield 23, 3) := by decide +kernel
theorem d_RM_hear_84 : decode b_RM_hear 84 = .ok (.aload_n 0, 1) := by decide +kernel
theorem d_RM_hear_85 : decode b_RM_hear 85 = .ok (.getfield 138, 3) := by decide +kernel
theorem d_RM_hear_88 : decode b_RM_hear 88 = .ok (.iconst 3, 1) := by decide +kernel
theorem d_RM_hear_89 : decode b_RM_hear 89 = .ok (.if_icmp .ge (4), 3) := by decide +kernel
theorem d_RM_hear_92 : decode b_RM_hear 92 = .ok (.return_, 1) := by decide +kernel
theorem d_RM_hear_93 : decode b_RM_hear 93 = .ok (.aload_n 0, 1) := by decide +kernel
theorem d_RM_hear_94 : decode b_RM_hear 94 = .ok (.iload_n 1, 1) := by decide +kernel
theorem d_RM_hear_95 : decode b_RM_hear 95 = .ok (.iconst 4, 1) := by decide +kernel
theorem d_RM_hear_96 : decode b_RM_hear 96 = .ok (.ishr, 1) := by decide +kernel
theorem d_RM_hear_97 : decode b_RM_hear 97 = .ok (.putfield 141, 3) := by decide +kernel
theorem d_RM_hear_100 : decode b_RM_hear 100 = .ok (.aload_n 0, 1) := by decide +kernel
theorem d_RM_hear_101 : decode b_RM_hear 101 = .ok (.aload_n 0, 1) := by decide +kernel
theorem d_RM_hear_102 : decode b_RM_hear 102 = .ok (.getfield 141, 3) := by decide +kernel
theorem d_RM_hear_105 : decode b_RM_hear 105 = .ok (.iconst 1, 1) := by decide +kernel
theorem d_RM_hear_106 : decode b_RM_hear 106 = .ok (.if_icmp .lt (15), 3) := by decide +kernel
theorem d_RM_hear_109 : decode b_RM_hear 109 = .ok (.aload_n 0, 1) := by decide +kernel
theorem d_RM_hear_110 : decode b_RM_hear 110 = .ok (.getfield 141, 3) := by decide +kernel
theorem d_RM_hear_113 : decode b_RM_hear 113 = .ok (.iconst 4, 1) := by decide +kernel
theorem d_RM_hear_114 : decode b_RM_hear 114 = .ok (.if_icmp .gt (7), 3) := by decide +kernel
theorem d_RM_hear_117 : decode b_RM_hear 117 = .ok (.iconst 1, 1) := by decide +kernel
theorem d_RM_hear_118 : decode b_RM_hear 118 = .ok (.goto (4), 3) := by decide +kernel
theorem d_RM_hear_121 : decode b_RM_hear 121 = .ok (.iconst 0, 1) := by decide +kernel
theorem d_RM_hear_122 : decode b_RM_hear 122 = .ok (.putfield 144, 3) := by decide +kernel
theorem d_RM_hear_125 : decode b_RM_hear 125 = .ok (.return_, 1) := by decide +kernel
def K_RM_hear_24 (st : plS) : plS := plUp st 0 18 0
set_option maxRecDepth 20000 in
theorem j_RM_hear_24 {E : plE} (X : plX E b_RM_hear "ProtectedLineModel" 2 none 0 0) (a : Nat → Nat) (T : plS) (hQ : plRv E (plwR (plg E) a) T) (st : plS)  (hk : T = K_RM_hear_24 st) : plJ E 2 (plwR (plg E) a st) 0 0 [(0, .ref (a 0))] 24 [] := by
  unfold K_RM_hear_24 at hk
  refine j_aload_n (pc := 24) X d_RM_hear_24 rfl 0 rfl ?_
  refine j_iconst (pc := 25) X d_RM_hear_25 ic_0 ?_
  refine put_RM_sameA (pc := 26) X fl_RM_138 d_RM_hear_26 ?_
  exact j_retv (pc := 29) X hQ d_RM_hear_29 hk
def K_RM_hear_122 (st : plS) (k0 : Int32) : plS := plUp st 0 16 k0
def P_RM_hear_122 (st : plS) (k0 : Int32) : Prop := plB k0
set_option maxRecDepth 20000 in
theorem j_RM_hear_122 {E : plE} (X : plX E b_RM_hear "ProtectedLineModel" 2 none 0 0) (a : Nat → Nat) (T : plS) (hQ : plRv E (plwR (plg E) a) T) (st : plS) (k0 : Int32) (hs : P_RM_hear_122 st k0) (hk : T = K_RM_hear_122 st k0) : plJ E 2 (plwR (plg E) a st) 0 0 [] 122 [.int k0, .ref (a 0)] := by
  unfold P_RM_hear_122 at hs
  unfold K_RM_hear_122 at hk
  refine put_RM_bridge (pc := 122) X fl_RM_144 d_RM_hear_122 hs ?_
  exact j_retv (pc := 125) X hQ d_RM_hear_125 hk
def K_RM_hear_121 (st : plS) : plS := K_RM_hear_122 st 0
def P_RM_hear_121 (st : plS) : Prop := P_RM_hear_122 st 0
set_option maxRecDepth 20000 in
theorem j_RM_hear_121 {E : plE} (X : plX E b_RM_hear "ProtectedLineModel" 2 none 0 0) (a : Nat → Nat) (T : plS) (hQ : plRv E (plwR (plg E) a) T) (st : plS)  (hs : P_RM_hear_121 st) (hk : T = K_RM_hear_121 st) : plJ E 2 (plwR (plg E) a st) 0 0 [] 121 [.ref (a 0)] := by
  unfold P_RM_hear_121 at hs
  unfold K_RM_hear_121 at hk
  refine j_iconst (pc := 121) X d_RM_hear_121 ic_0 ?_
  exact j_RM_hear_122 X a T hQ st 0 hs hk
def K_RM_hear_100 (st : plS) : plS := (if (st 0 17) < 1 then K_RM_hear_121 st else (if 4 < (st 0 17) then K_RM_hear_121 st else K_RM_hear_122 st 1))
def P_RM_hear_100 (st : plS) : Prop := (((st 0 17) < 1 → P_RM_hear_121 st) ∧ (¬ (st 0 17) < 1 → ((4 < (st 0 17) → P_RM_hear_121 st) ∧ (¬ 4 < (st 0 17) → P_RM_hear_122 st 1))))
set_option maxRecDepth 20000 in
theorem j_RM_hear_100 {E : plE} (X : plX E b_RM_hear "ProtectedLineModel" 2 none 0 0) (a : Nat → Nat) (T : plS) (hQ : plRv E (plwR (plg E) a) T) (st : plS)  (hs : P_RM_hear_100 st) (hk : T = K_RM_hear_100 st) : plJ E 2 (plwR (plg E) a st) 0 0 [(0, .ref (a 0))] 100 [] := by
  unfold P_RM_hear_100 at hs
  unfold K_RM_hear_100 at hk
  refine j_aload_n (pc := 100) X d_RM_hear_100 rfl 0 rfl ?_
  refine j_aload_n (pc := 101) X d_RM_hear_101 rfl 0 rfl ?_
  refine get_RM_acceptedA (pc := 102) X fl_RM_141 d_RM_hear_102 ?_
  refine j_iconst (pc := 105) X d_RM_hear_105 ic_1 ?_
  refine j_icmp_lt (pc := 106) (tgt := 121) X d_RM_hear_106 rfl (fun hc => ?_) (fun hc => ?_)
  · have hk := hk.trans (if_pos hc)
    have hs := hs.1 hc
    refine j_sub [] (lv' := []) rfl ?_
    exact j_RM_hear_121 X a T hQ st hs hk
  · have hk := hk.trans (if_neg hc)
    have hs := hs.2 hc
    refine j_aload_n (pc := 109) X d_RM_hear_109 rfl 0 rfl ?_
    refine get_RM_acceptedA (pc := 110) X fl_RM_141 d_RM_hear_110 ?_
    refine j_iconst (pc := 113) X d_RM_hear_113 ic_4 ?_
    refine j_icmp_gt (pc := 114) (tgt := 121) X d_RM_hear_114 rfl (fun hc => ?_) (fun hc => ?_)
    · have hk := hk.trans (if_pos hc)
      have hs := hs.1 hc
      refine j_sub [] (lv' := []) rfl ?_
      exact j_RM_hear_121 X a T hQ st hs hk
    · have hk := hk.trans (if_neg hc)
      have hs := hs.2 hc
      refine j_iconst (pc := 117) X d_RM_hear_117 ic_1 ?_
      refine j_goto (pc := 118) (tgt := 122) X d_RM_hear_118 rfl ?_
      refine j_sub [] (lv' := []) rfl ?_
      exact j_RM_hear_122 X a T hQ st 1 hs hk
def K_RM_hear_84 (st : plS) (v1 : Int32) : plS := (if 3 ≤ (st 0 18) then K_RM_hear_100 (plUp st 0 17 (v1 >>> ((4 : Int32) &&& 31))) else st)
def P_RM_hear_84 (st : plS) (v1 : Int32) : Prop := (3 ≤ (st 0 18) → P_RM_hear_100 (plUp st 0 17 (v1 >>> ((4 : Int32) &&& 31))))
set_option maxRecDepth 20000 in
theorem j_RM_hear_84 {E : plE} (X : plX E b_RM_hear "ProtectedLineModel" 2 none 0 0) (a : Nat → Nat) (T : plS) (hQ : plRv E (plwR (plg E) a) T) (st : plS) (v1 : Int32) (hs : P_RM_hear_84 st v1) (hk : T = K_RM_hear_84 st v1) : plJ E 2 (plwR (plg E) a st) 0 0 [(0, .ref (a 0)), (1, .int v1)] 84 [] := by
  unfold P_RM_hear_84 at hs
  unfold K_RM_hear_84 at hk
  refine j_aload_n (pc := 84) X d_RM_hear_84 rfl 0 rfl ?_
  refine get_RM_sameA (pc := 85) X fl_RM_138 d_RM_hear_85 ?_
  refine j_iconst (pc := 88) X d_RM_hear_88 ic_3 ?_
  refine j_icmp_ge (pc := 89) (tgt := 93) X d_RM_hear_89 rfl (fun hc => ?_) (fun hc => ?_)
  · have hk := hk.trans (if_pos hc)
    have hs := hs hc
    refine j_aload_n (pc := 93) X d_RM_hear_93 rfl 0 rfl ?_
    refine j_iload_n (pc := 94) X d_RM_hear_94 rfl 1 rfl ?_
    refine j_iconst (pc := 95) X d_RM_hear_95 ic_4 ?_
    refine j_ishr (pc := 96) X d_RM_hear_96 ?_
    refine put_RM_acceptedA (pc := 97) X fl_RM_141 d_RM_hear_97 ?_
    refine j_sub [0] (lv' := [(0, .ref (a 0))]) rfl ?_
    exact j_RM_hear_100 X a T hQ (plUp st 0 17 (v1 >>> ((4 : Int32) &&& 31))) hs hk
  · have hk := hk.trans (if_neg hc)
    exact j_retv (pc := 92) X hQ d_RM_hear_92 hk
def K_RM_hear_79 (st : plS) (v1 : Int32) : plS := K_RM_hear_84 (plUp st 0 19 v1) v1
def P_RM_hear_79 (st : plS) (v1 : Int32) : Prop := P_RM_hear_84 (plUp st 0 19 v1) v1
set_option maxRecDepth 20000 in
theorem j_RM_hear_79 {E : plE} (X : plX E b_RM_hear "ProtectedLineModel" 2 none 0 0) (a : Nat → Nat) (T : plS) (hQ : plRv E (plwR (plg E) a) T) (st : plS) (v1 : Int32) (hs : P_RM_hear_79 st v1) (hk : T = K_RM_hear_79 st v1) : plJ E 2 (plwR (plg E) a st) 0 0 [(0, .ref (a 0)), (1, .int v1)] 79 [] := by
  unfold P_RM_hear_79 at hs
  unfold K_RM_hear_79 at hk
  refine j_aload_n (pc := 79) X d_RM_hear_79 rfl 0 rfl ?_
  refine j_iload_n (pc := 80) X d_RM_hear_80 rfl 1 rfl ?_
  refine put_RM_latestA (pc := 81) X fl_RM_23 d_RM_hear_81 ?_
  exact j_RM_hear_84 X a T hQ (plUp st 0 19 v1) v1 hs hk
def K_RM_hear_76 (st : plS) (v1 : Int32) (k0 : Int32) : plS := K_RM_hear_79 (plUp st 0 18 k0) v1
def P_RM_hear_76 (st : plS) (v1 : Int32) (k0 : Int32) : Prop := P_RM_hear_79 (plUp st 0 18 k0) v1
set_option maxRecDepth 20000 in
theorem j_RM_hear_76 {E : plE} (X : plX E b_RM_hear "ProtectedLineModel" 2 none 0 0) (a : Nat → Nat) (T : plS) (hQ : plRv E (plwR (plg E) a) T) (st : plS) (v1 : Int32) (k0 : Int32) (hs : P_RM_hear_76 st v1 k0) (hk : T = K_RM_hear_76 st v1 k0) : plJ E 2 (plwR (plg E) a st) 0 0 [(0, .ref (a 0)), (1, .int v1)] 76 [.int k0, .ref (a 0)] := by
  unfold P_RM_hear_76 at hs
  unfold K_RM_hear_76 at hk
  refine put_RM_sameA (pc := 76) X fl_RM_138 d_RM_hear_76 ?_
  exact j_RM_hear_79 X a T hQ (plUp st 0 18 k0) v1 hs hk
def K_RM_hear_75 (st : plS) (v1 : Int32) : plS := K_RM_hear_76 st v1 1
def P_RM_hear_75 (st : plS) (v1 : Int32) : Prop := P_RM_hear_76 st v1 1
set_option maxRecDepth 20000 in
theorem j_RM_hear_75 {E : plE} (X : plX E b_RM_hear "ProtectedLineModel" 2 none 0 0) (a : Nat → Nat) (T : plS) (hQ : plRv E (plwR (plg E) a) T) (st : plS) (v1 : Int32) (hs : P_RM_hear_75 st v1) (hk : T = K_RM_hear_75 st v1) : plJ E 2 (plwR (plg E) a st) 0 0 [(0, .ref (a 0)), (1, .int v1)] 75 [.ref (a 0)] := by
  unfold P_RM_hear_75 at hs
  unfold K_RM_hear_75 at hk
  refine j_iconst (pc := 75) X d_RM_hear_75 ic_1 ?_
  exact j_RM_hear_76 X a T hQ st v1 1 hs hk
def K_RM_hear (st : plS) : plS := (if (st 8 (plIx 1)) = 0 then (if 1 ≤ ((st 0 3) - (st 1 (plIx 1))) then (if (st 0 18) ≤ 0 then K_RM_hear_75 st (st 5 (plIx (((st 0 3) - (st 1 (plIx 1))) &&& 7))) else (if (st 5 (plIx (((st 0 3) - (st 1 (plIx 1))) &&& 7))) = (st 0 19) then K_RM_hear_76 st (st 5 (plIx (((st 0 3) - (st 1 (plIx 1))) &&& 7))) ((st 0 18) + 1) else K_RM_hear_75 st (st 5 (plIx (((st 0 3) - (st 1 (plIx 1))) &&& 7))))) else K_RM_hear_24 st) else K_RM_hear_24 st)
def P_RM_hear (st : plS) : Prop := ((st 8 (plIx 1)) = 0 → (1 ≤ ((st 0 3) - (st 1 (plIx 1))) → (vp_in (((st 0 3) - (st 1 (plIx 1))) &&& 7) 8 ∧ (((st 0 18) ≤ 0 → P_RM_hear_75 st (st 5 (plIx (((st 0 3) - (st 1 (plIx 1))) &&& 7)))) ∧ (¬ (st 0 18) ≤ 0 → (((st 5 (plIx (((st 0 3) - (st 1 (plIx 1))) &&& 7))) = (st 0 19) → P_RM_hear_76 st (st 5 (plIx (((st 0 3) - (st 1 (plIx 1))) &&& 7))) ((st 0 18) + 1)) ∧ (¬ (st 5 (plIx (((st 0 3) - (st 1 (plIx 1))) &&& 7))) = (st 0 19) → P_RM_hear_75 st (st 5 (plIx (((st 0 3) - (st 1 (plIx 1))) &&& 7))))))))))
set_option maxRecDepth 20000 in
theorem j_RM_hear {E : plE} (X : plX E b_RM_hear "ProtectedLineModel" 2 none 0 0) (a : Nat → Nat) (T : plS) (hQ : plRv E (plwR (plg E) a) T) (st : plS)  (hs : P_RM_hear st) (hk : T = K_RM_hear st) : plJ E 2 (plwR (plg E) a st) 0 0 [(0, .ref (a 0))] 0 [] := by
  unfold P_RM_hear at hs
  unfold K_RM_hear at hk
  refine j_aload_n (pc := 0) X d_RM_hear_0 rfl 0 rfl ?_
  refine get_RM_cut (pc := 1) X fl_RM_38 d_RM_hear_1 ?_
  refine j_iconst (pc := 4) X d_RM_hear_4 ic_1 ?_
  refine ald_RMcut (pc := 5) X vi_1_2 d_RM_hear_5 ?_
  refine j_if_ne (pc := 6) (tgt := 24) X d_RM_hear_6 rfl (fun hc => ?_) (fun hc => ?_)
  · have hk := hk.trans (if_neg hc)
    exact j_RM_hear_24 X a T hQ st hk
  · have hk := hk.trans (if_pos hc)
    have hs := hs hc
    refine j_aload_n (pc := 9) X d_RM_hear_9 rfl 0 rfl ?_
    refine get_RM_time (pc := 10) X fl_RM_111 d_RM_hear_10 ?_
    refine j_aload_n (pc := 13) X d_RM_hear_13 rfl 0 rfl ?_
    refine get_RM_delay (pc := 14) X fl_RM_7 d_RM_hear_14 ?_
    refine j_iconst (pc := 17) X d_RM_hear_17 ic_1 ?_
    refine ald_RMdelay (pc := 18) X vi_1_2 d_RM_hear_18 ?_
    refine j_isub (pc := 19) X d_RM_hear_19 ?_
    refine j_iconst (pc := 20) X d_RM_hear_20 ic_1 ?_
    refine j_icmp_ge (pc := 21) (tgt := 30) X d_RM_hear_21 rfl (fun hc => ?_) (fun hc => ?_)
    · have hk := hk.trans (if_pos hc)
      have hs := hs hc
      refine j_aload_n (pc := 30) X d_RM_hear_30 rfl 0 rfl ?_
      refine get_RM_back (pc := 31) X fl_RM_29 d_RM_hear_31 ?_
      refine j_aload_n (pc := 34) X d_RM_hear_34 rfl 0 rfl ?_
      refine get_RM_time (pc := 35) X fl_RM_111 d_RM_hear_35 ?_
      refine j_aload_n (pc := 38) X d_RM_hear_38 rfl 0 rfl ?_
      refine get_RM_delay (pc := 39) X fl_RM_7 d_RM_hear_39 ?_
      refine j_iconst (pc := 42) X d_RM_hear_42 ic_1 ?_
      refine ald_RMdelay (pc := 43) X vi_1_2 d_RM_hear_43 ?_
      refine j_isub (pc := 44) X d_RM_hear_44 ?_
      refine j_bipush (pc := 45) X d_RM_hear_45 bp_7 ?_
      refine j_iand (pc := 47) X d_RM_hear_47 ?_
      refine ald_RMback (pc := 48) X hs.1 d_RM_hear_48 ?_
      have hs := hs.2
      refine j_istore_n (pc := 49) X d_RM_hear_49 rfl (lv' := [(1, .int (st 5 (plIx (((st 0 3) - (st 1 (plIx 1))) &&& 7)))), (0, .ref (a 0))]) (Nat.le_of_ble_eq_true rfl) rfl ?_
      refine j_aload_n (pc := 50) X d_RM_hear_50 rfl 1 rfl ?_
      refine j_aload_n (pc := 51) X d_RM_hear_51 rfl 1 rfl ?_
      refine get_RM_sameA (pc := 52) X fl_RM_138 d_RM_hear_52 ?_
      refine j_if_le (pc := 55) (tgt := 75) X d_RM_hear_55 rfl (fun hc => ?_) (fun hc => ?_)
      · have hk := hk.trans (if_pos hc)
        have hs := hs.1 hc
        refine j_sub [1, 0] (lv' := [(0, .ref (a 0)), (1, .int (st 5 (plIx (((st 0 3) - (st 1 (plIx 1))) &&& 7))))]) rfl ?_
        exact j_RM_hear_75 X a T hQ st (st 5 (plIx (((st 0 3) - (st 1 (plIx 1))) &&& 7))) hs hk
      · have hk := hk.trans (if_neg hc)
        have hs := hs.2 hc
        refine j_iload_n (pc := 58) X d_RM_hear_58 rfl 0 rfl ?_
        refine j_aload_n (pc := 59) X d_RM_hear_59 rfl 1 rfl ?_
        refine get_RM_latestA (pc := 60) X fl_RM_23 d_RM_hear_60 ?_
        refine j_icmp_ne (pc := 63) (tgt := 75) X d_RM_hear_63 rfl (fun hc => ?_) (fun hc => ?_)
        · have hk := hk.trans (if_neg hc)
          have hs := hs.2 hc
          refine j_sub [1, 0] (lv' := [(0, .ref (a 0)), (1, .int (st 5 (plIx (((st 0 3) - (st 1 (plIx 1))) &&& 7))))]) rfl ?_
          exact j_RM_hear_75 X a T hQ st (st 5 (plIx (((st 0 3) - (st 1 (plIx 1))) &&& 7))) hs hk
        · have hk := hk.trans (if_pos hc)
          have hs := hs.1 hc
          refine j_aload_n (pc := 66) X d_RM_hear_66 rfl 1 rfl ?_
          refine get_RM_sameA (pc := 67) X fl_RM_138 d_RM_hear_67 ?_
          refine j_iconst (pc := 70) X d_RM_hear_70 ic_1 ?_
          refine j_iadd (pc := 71) X d_RM_hear_71 ?_
          refine j_goto (pc := 72) (tgt := 76) X d_RM_hear_72 rfl ?_
          refine j_sub [1, 0] (lv' := [(0, .ref (a 0)), (1, .int (st 5 (plIx (((st 0 3) - (st 1 (plIx 1))) &&& 7))))]) rfl ?_
          exact j_RM_hear_76 X a T hQ st (st 5 (plIx (((st 0 3) - (st 1 (plIx 1))) &&& 7))) ((st 0 18) + 1) hs hk
    · have hk := hk.trans (if_neg hc)
      exact j_RM_hear_24 X a T hQ st hk
set_option maxRecDepth 20000 in
theorem c_RM_hear (g : plG) (a : Nat → Nat) (st : plS)  (hs : P_RM_hear st ) : plMv g y_RM_hear b_RM_hear 2 none 0 0 [.ref (a 0)] (plwR g a) st (K_RM_hear st ) := by
  refine plMv.of (own := "ProtectedLineModel") (lv := [(0, .ref (a 0))]) rfl rfl (Nat.le_of_ble_eq_true rfl) rfl (fun E hE X hQ => ?_)
  subst hE
  exact j_RM_hear X a _ hQ st  hs rfl
theorem d_RM_hash_0 : decode b_RM_hash 0 = .ok (.iload_n 0, 1) := by decide +kernel
theorem d_RM_hash_1 : decode b_RM_hash 1 = .ok (.istore_n 1, 1) := by decide +kernel
theorem d_RM_hash_2 : decode b_RM_hash 2 = .ok (.iconst 0, 1) := by decide +kernel
theorem d_RM_hash_3 : decode b_RM_hash 3 = .ok (.istore_n 2, 1) := by decide +kernel
theorem d_RM_hash_4 : decode b_RM_hash 4 = .ok (.iload_n 2, 1) := by decide +kernel
theorem d_RM_hash_5 : decode b_RM_hash 5 = .ok (.bipush (8), 2) := by decide +kernel
theorem d_RM_hash_7 : decode b_RM_hash 7 = .ok (.if_icmp .ge (33), 3) := by decide +kernel
theorem d_RM_hash_10 : decode b_RM_hash 10 = .ok (.iload_n 1, 1) := by decide +kernel
theorem d_RM_hash_11 : decode b_RM_hash 11 = .ok (.sipush (128), 3) := by decide +kernel
theorem d_RM_hash_14 : decode b_RM_hash 14 = .ok (.if_icmp .lt (16), 3) := by decide +kernel
theorem d_RM_hash_17 : decode b_RM_hash 17 = .ok (.iconst 2, 1) := by decide +kernel
theorem d_RM_hash_18 : decode b_RM_hash 18 = .ok (.iload_n 1, 1) := by decide +kernel
theorem d_RM_hash_19 : decode b_RM_hash 19 = .ok (.imul, 1) := by decide +kernel
theorem d_RM_hash_20 : decode b_RM_hash 20 = .ok (.bipush (7), 2) := by decide +kernel
theorem d_RM_hash_22 : decode b_RM_hash 22 = .ok (.ixor, 1) := by decide +kernel
theorem d_RM_hash_23 : decode b_RM_hash 23 = .ok (.sipush (255), 3) := by decide +kernel
theorem d_RM_hash_26 : decode b_RM_hash 26 = .ok (.iand, 1) := by decide +kernel
theorem d_RM_hash_27 : decode b_RM_hash 27 = .ok (.goto (6), 3) := by decide +kernel
theorem d_RM_hash_30 : decode b_RM_hash 30 = .ok (.iconst 2, 1) := by decide +kernel
theorem d_RM_hash_31 : decode b_RM_hash 31 = .ok (.iload_n 1, 1) := by decide +kernel
theorem d_RM_hash_32 : decode b_RM_hash 32 = .ok (.imul, 1) := by decide +kernel
theorem d_RM_hash_33 : decode b_RM_hash 33 = .ok (.istore_n 1, 1) := by decide +kernel
theorem d_RM_hash_34 : decode b_RM_hash 34 = .ok (.iinc 2 (1), 3) := by decide +kernel
theorem d_RM_hash_37 : decode b_RM_hash 37 = .ok (.goto (-33), 3) := by decide +kernel
theorem d_RM_hash_40 : decode b_RM_hash 40 = .ok (.iload_n 1, 1) := by decide +kernel
theorem d_RM_hash_41 : decode b_RM_hash 41 = .ok (.ireturn, 1) := by decide +kernel
def K_RM_hash_4L33 (v2 : Int32) (k0 : Int32) : Bool × (Int32 × Int32) := (true, (k0, v2 + 1))
set_option maxRecDepth 20000 in
theorem j_RM_hash_4L33 {E : plE} (X : plX E b_RM_hash "ProtectedLineModel" 3 (some .int) 0 0) (a : Nat → Nat) (T : Bool × (Int32 × Int32)) (st : plS)  (hb : ∀ (c0 : Int32) (c1 : Int32), T = (true, (c0, c1)) → plJ E 3 (plwR (plg E) a st) 0 0 [(1, .int c0), (2, .int c1)] 4 []) (hx : ∀ (c0 : Int32) (c1 : Int32), T = (false, (c0, c1)) → plJ E 3 (plwR (plg E) a st) 0 0 [(1, .int c0), (2, .int c1)] 40 []) (v2 : Int32) (k0 : Int32) (hk : T = K_RM_hash_4L33 v2 k0) : plJ E 3 (plwR (plg E) a st) 0 0 [(2, .int v2)] 33 [.int k0] := by
  unfold K_RM_hash_4L33 at hk
  refine j_istore_n (pc := 33) X d_RM_hash_33 rfl (lv' := [(1, .int k0), (2, .int v2)]) (Nat.le_of_ble_eq_true rfl) rfl ?_
  refine j_iinc (pc := 34) X d_RM_hash_34 1 rfl ic_1 (lv' := [(2, .int (v2 + 1)), (1, .int k0)]) (Nat.le_of_ble_eq_true rfl) rfl ?_
  refine j_goto (pc := 37) (tgt := 4) X d_RM_hash_37 rfl ?_
  refine j_sub [1, 0] (lv' := [(1, .int k0), (2, .int (v2 + 1))]) rfl ?_
  exact hb k0 (v2 + 1) hk
def K_RM_hash_4L (v1 : Int32) (v2 : Int32) : Bool × (Int32 × Int32) := (if 8 ≤ v2 then (false, (v1, v2)) else (if v1 < 128 then K_RM_hash_4L33 v2 (2 * v1) else K_RM_hash_4L33 v2 (((2 * v1) ^^^ 7) &&& 255)))
set_option maxRecDepth 20000 in
theorem j_RM_hash_4L {E : plE} (X : plX E b_RM_hash "ProtectedLineModel" 3 (some .int) 0 0) (a : Nat → Nat) (T : Bool × (Int32 × Int32)) (st : plS)  (hb : ∀ (c0 : Int32) (c1 : Int32), T = (true, (c0, c1)) → plJ E 3 (plwR (plg E) a st) 0 0 [(1, .int c0), (2, .int c1)] 4 []) (hx : ∀ (c0 : Int32) (c1 : Int32), T = (false, (c0, c1)) → plJ E 3 (plwR (plg E) a st) 0 0 [(1, .int c0), (2, .int c1)] 40 []) (v1 : Int32) (v2 : Int32) (hk : T = K_RM_hash_4L v1 v2) : plJ E 3 (plwR (plg E) a st) 0 0 [(1, .int v1), (2, .int v2)] 4 [] := by
  unfold K_RM_hash_4L at hk
  refine j_iload_n (pc := 4) X d_RM_hash_4 rfl 1 rfl ?_
  refine j_bipush (pc := 5) X d_RM_hash_5 bp_8 ?_
  refine j_icmp_ge (pc := 7) (tgt := 40) X d_RM_hash_7 rfl (fun hc => ?_) (fun hc => ?_)
  · have hk := hk.trans (if_pos hc)
    exact hx v1 v2 hk
  · have hk := hk.trans (if_neg hc)
    refine j_iload_n (pc := 10) X d_RM_hash_10 rfl 0 rfl ?_
    refine j_sipush (pc := 11) X d_RM_hash_11 sp_128 ?_
    refine j_icmp_lt (pc := 14) (tgt := 30) X d_RM_hash_14 rfl (fun hc => ?_) (fun hc => ?_)
    · have hk := hk.trans (if_pos hc)
      refine j_iconst (pc := 30) X d_RM_hash_30 ic_2 ?_
      refine j_iload_n (pc := 31) X d_RM_hash_31 rfl 0 rfl ?_
      refine j_imul (pc := 32) X d_RM_hash_32 ?_
      refine j_sub [1] (lv' := [(2, .int v2)]) rfl ?_
      exact j_RM_hash_4L33 X a T st  hb hx v2 (2 * v1) hk
    · have hk := hk.trans (if_neg hc)
      refine j_iconst (pc := 17) X d_RM_hash_17 ic_2 ?_
      refine j_iload_n (pc := 18) X d_RM_hash_18 rfl 0 rfl ?_
      refine j_imul (pc := 19) X d_RM_hash_19 ?_
      refine j_bipush (pc := 20) X d_RM_hash_20 bp_7 ?_
      refine j_ixor (pc := 22) X d_RM_hash_22 ?_
      refine j_sipush (pc := 23) X d_RM_hash_23 sp_255 ?_
      refine j_iand (pc := 26) X d_RM_hash_26 ?_
      refine j_goto (pc := 27) (tgt := 33) X d_RM_hash_27 rfl ?_
      refine j_sub [1] (lv' := [(2, .int v2)]) rfl ?_
      exact j_RM_hash_4L33 X a T st  hb hx v2 (((2 * v1) ^^^ 7) &&& 255) hk
def F_RM_hash_4 (c : Int32 × Int32) : Bool × (Int32 × Int32) := K_RM_hash_4L c.1 c.2
def K_RM_hash_4X  (c : Int32 × Int32) : Int32 := c.1
set_option maxRecDepth 20000 in
theorem j_RM_hash_4X {E : plE} (X : plX E b_RM_hash "ProtectedLineModel" 3 (some .int) 0 0) (a : Nat → Nat) (T : Int32) (st : plS) (hQ : plRp E (plwR (plg E) a) st T)  (c : Int32 × Int32) (hk : T = K_RM_hash_4X c) : plJ E 3 (plwR (plg E) a st) 0 0 [(1, .int c.1), (2, .int c.2)] 40 [] := by
  unfold K_RM_hash_4X at hk
  refine j_iload_n (pc := 40) X d_RM_hash_40 rfl 0 rfl ?_
  exact j_retip (pc := 41) X hQ d_RM_hash_41 hk
def K_RM_hash (v0 : Int32) : Int32 := K_RM_hash_4X (lpR (F_RM_hash_4) 64 (v0, 0))
def P_RM_hash (v0 : Int32) : Prop := lpP (fun _ => True) (F_RM_hash_4) 64 (v0, 0)
set_option maxRecDepth 20000 in
theorem j_RM_hash {E : plE} (X : plX E b_RM_hash "ProtectedLineModel" 3 (some .int) 0 0) (a : Nat → Nat) (T : Int32) (st : plS) (hQ : plRp E (plwR (plg E) a) st T) (v0 : Int32) (hs : P_RM_hash v0) (hk : T = K_RM_hash v0) : plJ E 3 (plwR (plg E) a st) 0 0 [(0, .int v0)] 0 [] := by
  unfold P_RM_hash at hs
  unfold K_RM_hash at hk
  refine j_iload_n (pc := 0) X d_RM_hash_0 rfl 0 rfl ?_
  refine j_istore_n (pc := 1) X d_RM_hash_1 rfl (lv' := [(1, .int v0), (0, .int v0)]) (Nat.le_of_ble_eq_true rfl) rfl ?_
  refine j_iconst (pc := 2) X d_RM_hash_2 ic_0 ?_
  refine j_istore_n (pc := 3) X d_RM_hash_3 rfl (lv' := [(2, .int 0), (1, .int v0), (0, .int v0)]) (Nat.le_of_ble_eq_true rfl) rfl ?_
  refine j_sub [1, 0] (lv' := [(1, .int v0), (2, .int 0)]) rfl ?_
  exact lpJ (fun _ => True) (F_RM_hash_4) (fun c => plJ E 3 (plwR (plg E) a st) 0 0 [(1, .int c.1), (2, .int c.2)] 4 []) (fun c => plJ E 3 (plwR (plg E) a st) 0 0 [(1, .int c.1), (2, .int c.2)] 40 []) (fun c hp h1 h2 => j_RM_hash_4L X a (F_RM_hash_4 c) st (fun c0 c1 => h1 (c0, c1)) (fun c0 c1 => h2 (c0, c1)) c.1 c.2 rfl) 64 (v0, 0) hs (j_RM_hash_4X X a T st hQ (lpR (F_RM_hash_4) 64 (v0, 0)) hk)
set_option maxRecDepth 20000 in
theorem c_RM_hash (g : plG) (a : Nat → Nat) (st : plS) (v0 : Int32) (hs : P_RM_hash v0) : plMp g y_RM_hash b_RM_hash 3 (some .int) 0 0 [.int v0] (plwR g a) st (K_RM_hash v0) := by
  refine plMp.of (own := "ProtectedLineModel") (lv := [(0, .int v0)]) rfl rfl (Nat.le_of_ble_eq_true rfl) rfl (fun E hE X hQ => ?_)
  subst hE
  exact j_RM_hash X a _ st hQ v0 hs rfl
