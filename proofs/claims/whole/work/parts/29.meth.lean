theorem d_RM_third_0 : decode b_RM_third 0 = .ok (.aload_n 0, 1) := by decide +kernel
theorem d_RM_third_1 : decode b_RM_third 1 = .ok (.iload_n 1, 1) := by decide +kernel
theorem d_RM_third_2 : decode b_RM_third 2 = .ok (.ifCond .lt (20), 3) := by decide +kernel
theorem d_RM_third_5 : decode b_RM_third 5 = .ok (.iload_n 1, 1) := by decide +kernel
theorem d_RM_third_6 : decode b_RM_third 6 = .ok (.aload_n 0, 1) := by decide +kernel
theorem d_RM_third_7 : decode b_RM_third 7 = .ok (.getfield 75, 3) := by decide +kernel
theorem d_RM_third_10 : decode b_RM_third 10 = .ok (.if_icmp .ne (12), 3) := by decide +kernel
theorem d_RM_third_13 : decode b_RM_third 13 = .ok (.aload_n 0, 1) := by decide +kernel
theorem d_RM_third_14 : decode b_RM_third 14 = .ok (.getfield 224, 3) := by decide +kernel
theorem d_RM_third_17 : decode b_RM_third 17 = .ok (.iconst 1, 1) := by decide +kernel
theorem d_RM_third_18 : decode b_RM_third 18 = .ok (.iadd, 1) := by decide +kernel
theorem d_RM_third_19 : decode b_RM_third 19 = .ok (.goto (4), 3) := by decide +kernel
theorem d_RM_third_22 : decode b_RM_third 22 = .ok (.iconst 1, 1) := by decide +kernel
theorem d_RM_third_23 : decode b_RM_third 23 = .ok (.putfield 224, 3) := by decide +kernel
theorem d_RM_third_26 : decode b_RM_third 26 = .ok (.aload_n 0, 1) := by decide +kernel
theorem d_RM_third_27 : decode b_RM_third 27 = .ok (.iload_n 1, 1) := by decide +kernel
theorem d_RM_third_28 : decode b_RM_third 28 = .ok (.putfield 75, 3) := by decide +kernel
theorem d_RM_third_31 : decode b_RM_third 31 = .ok (.iload_n 1, 1) := by decide +kernel
theorem d_RM_third_32 : decode b_RM_third 32 = .ok (.ifCond .lt (15), 3) := by decide +kernel
theorem d_RM_third_35 : decode b_RM_third 35 = .ok (.aload_n 0, 1) := by decide +kernel
theorem d_RM_third_36 : decode b_RM_third 36 = .ok (.getfield 224, 3) := by decide +kernel
theorem d_RM_third_39 : decode b_RM_third 39 = .ok (.iconst 3, 1) := by decide +kernel
theorem d_RM_third_40 : decode b_RM_third 40 = .ok (.if_icmp .ne (7), 3) := by decide +kernel
theorem d_RM_third_43 : decode b_RM_third 43 = .ok (.iconst 1, 1) := by decide +kernel
theorem d_RM_third_44 : decode b_RM_third 44 = .ok (.goto (4), 3) := by decide +kernel
theorem d_RM_third_47 : decode b_RM_third 47 = .ok (.iconst 0, 1) := by decide +kernel
theorem d_RM_third_48 : decode b_RM_third 48 = .ok (.ireturn, 1) := by decide +kernel
def K_RM_third_48 (st : plS) (k0 : Int32) : Int32 × plS := (k0, st)
def P_RM_third_48 (st : plS) (k0 : Int32) : Prop := plB k0
set_option maxRecDepth 20000 in
theorem j_RM_third_48 {E : plE} (X : plX E b_RM_third "ProtectedLineModel" 2 (some .boolean) 0 0) (a : Nat → Nat) (T : Int32 × plS) (hQ : plRi E (plwR (plg E) a) T) (st : plS) (k0 : Int32) (hs : P_RM_third_48 st k0) (hk : T = K_RM_third_48 st k0) : plJ E 2 (plwR (plg E) a st) 0 0 [] 48 [.int k0] := by
  unfold P_RM_third_48 at hs
  unfold K_RM_third_48 at hk
  exact j_retz (pc := 48) X hQ d_RM_third_48 hs hk
def K_RM_third_47 (st : plS) : Int32 × plS := K_RM_third_48 st 0
def P_RM_third_47 (st : plS) : Prop := P_RM_third_48 st 0
set_option maxRecDepth 20000 in
theorem j_RM_third_47 {E : plE} (X : plX E b_RM_third "ProtectedLineModel" 2 (some .boolean) 0 0) (a : Nat → Nat) (T : Int32 × plS) (hQ : plRi E (plwR (plg E) a) T) (st : plS)  (hs : P_RM_third_47 st) (hk : T = K_RM_third_47 st) : plJ E 2 (plwR (plg E) a st) 0 0 [] 47 [] := by
  unfold P_RM_third_47 at hs
  unfold K_RM_third_47 at hk
  refine j_iconst (pc := 47) X d_RM_third_47 ic_0 ?_
  exact j_RM_third_48 X a T hQ st 0 hs hk
def K_RM_third_31 (st : plS) (v1 : Int32) : Int32 × plS := (if v1 < 0 then K_RM_third_47 st else (if (st 0 45) = 3 then K_RM_third_48 st 1 else K_RM_third_47 st))
def P_RM_third_31 (st : plS) (v1 : Int32) : Prop := ((v1 < 0 → P_RM_third_47 st) ∧ (¬ v1 < 0 → (((st 0 45) = 3 → P_RM_third_48 st 1) ∧ (¬ (st 0 45) = 3 → P_RM_third_47 st))))
set_option maxRecDepth 20000 in
theorem j_RM_third_31 {E : plE} (X : plX E b_RM_third "ProtectedLineModel" 2 (some .boolean) 0 0) (a : Nat → Nat) (T : Int32 × plS) (hQ : plRi E (plwR (plg E) a) T) (st : plS) (v1 : Int32) (hs : P_RM_third_31 st v1) (hk : T = K_RM_third_31 st v1) : plJ E 2 (plwR (plg E) a st) 0 0 [(0, .ref (a 0)), (1, .int v1)] 31 [] := by
  unfold P_RM_third_31 at hs
  unfold K_RM_third_31 at hk
  refine j_iload_n (pc := 31) X d_RM_third_31 rfl 1 rfl ?_
  refine j_if_lt (pc := 32) (tgt := 47) X d_RM_third_32 rfl (fun hc => ?_) (fun hc => ?_)
  · have hk := hk.trans (if_pos hc)
    have hs := hs.1 hc
    refine j_sub [] (lv' := []) rfl ?_
    exact j_RM_third_47 X a T hQ st hs hk
  · have hk := hk.trans (if_neg hc)
    have hs := hs.2 hc
    refine j_aload_n (pc := 35) X d_RM_third_35 rfl 0 rfl ?_
    refine get_RM_rowOf (pc := 36) X fl_RM_224 d_RM_third_36 ?_
    refine j_iconst (pc := 39) X d_RM_third_39 ic_3 ?_
    refine j_icmp_ne (pc := 40) (tgt := 47) X d_RM_third_40 rfl (fun hc => ?_) (fun hc => ?_)
    · have hk := hk.trans (if_neg hc)
      have hs := hs.2 hc
      refine j_sub [] (lv' := []) rfl ?_
      exact j_RM_third_47 X a T hQ st hs hk
    · have hk := hk.trans (if_pos hc)
      have hs := hs.1 hc
      refine j_iconst (pc := 43) X d_RM_third_43 ic_1 ?_
      refine j_goto (pc := 44) (tgt := 48) X d_RM_third_44 rfl ?_
      refine j_sub [] (lv' := []) rfl ?_
      exact j_RM_third_48 X a T hQ st 1 hs hk
def K_RM_third_26 (st : plS) (v1 : Int32) : Int32 × plS := K_RM_third_31 (plUp st 0 44 v1) v1
def P_RM_third_26 (st : plS) (v1 : Int32) : Prop := P_RM_third_31 (plUp st 0 44 v1) v1
set_option maxRecDepth 20000 in
theorem j_RM_third_26 {E : plE} (X : plX E b_RM_third "ProtectedLineModel" 2 (some .boolean) 0 0) (a : Nat → Nat) (T : Int32 × plS) (hQ : plRi E (plwR (plg E) a) T) (st : plS) (v1 : Int32) (hs : P_RM_third_26 st v1) (hk : T = K_RM_third_26 st v1) : plJ E 2 (plwR (plg E) a st) 0 0 [(0, .ref (a 0)), (1, .int v1)] 26 [] := by
  unfold P_RM_third_26 at hs
  unfold K_RM_third_26 at hk
  refine j_aload_n (pc := 26) X d_RM_third_26 rfl 0 rfl ?_
  refine j_iload_n (pc := 27) X d_RM_third_27 rfl 1 rfl ?_
  refine put_RM_rowFor (pc := 28) X fl_RM_75 d_RM_third_28 ?_
  exact j_RM_third_31 X a T hQ (plUp st 0 44 v1) v1 hs hk
def K_RM_third_23 (st : plS) (v1 : Int32) (k0 : Int32) : Int32 × plS := K_RM_third_26 (plUp st 0 45 k0) v1
def P_RM_third_23 (st : plS) (v1 : Int32) (k0 : Int32) : Prop := P_RM_third_26 (plUp st 0 45 k0) v1
set_option maxRecDepth 20000 in
theorem j_RM_third_23 {E : plE} (X : plX E b_RM_third "ProtectedLineModel" 2 (some .boolean) 0 0) (a : Nat → Nat) (T : Int32 × plS) (hQ : plRi E (plwR (plg E) a) T) (st : plS) (v1 : Int32) (k0 : Int32) (hs : P_RM_third_23 st v1 k0) (hk : T = K_RM_third_23 st v1 k0) : plJ E 2 (plwR (plg E) a st) 0 0 [(0, .ref (a 0)), (1, .int v1)] 23 [.int k0, .ref (a 0)] := by
  unfold P_RM_third_23 at hs
  unfold K_RM_third_23 at hk
  refine put_RM_rowOf (pc := 23) X fl_RM_224 d_RM_third_23 ?_
  exact j_RM_third_26 X a T hQ (plUp st 0 45 k0) v1 hs hk
def K_RM_third_22 (st : plS) (v1 : Int32) : Int32 × plS := K_RM_third_23 st v1 1
def P_RM_third_22 (st : plS) (v1 : Int32) : Prop := P_RM_third_23 st v1 1
set_option maxRecDepth 20000 in
theorem j_RM_third_22 {E : plE} (X : plX E b_RM_third "ProtectedLineModel" 2 (some .boolean) 0 0) (a : Nat → Nat) (T : Int32 × plS) (hQ : plRi E (plwR (plg E) a) T) (st : plS) (v1 : Int32) (hs : P_RM_third_22 st v1) (hk : T = K_RM_third_22 st v1) : plJ E 2 (plwR (plg E) a st) 0 0 [(0, .ref (a 0)), (1, .int v1)] 22 [.ref (a 0)] := by
  unfold P_RM_third_22 at hs
  unfold K_RM_third_22 at hk
  refine j_iconst (pc := 22) X d_RM_third_22 ic_1 ?_
  exact j_RM_third_23 X a T hQ st v1 1 hs hk
def K_RM_third (st : plS) (v1 : Int32) : Int32 × plS := (if v1 < 0 then K_RM_third_22 st v1 else (if v1 = (st 0 44) then K_RM_third_23 st v1 ((st 0 45) + 1) else K_RM_third_22 st v1))
def P_RM_third (st : plS) (v1 : Int32) : Prop := ((v1 < 0 → P_RM_third_22 st v1) ∧ (¬ v1 < 0 → ((v1 = (st 0 44) → P_RM_third_23 st v1 ((st 0 45) + 1)) ∧ (¬ v1 = (st 0 44) → P_RM_third_22 st v1))))
set_option maxRecDepth 20000 in
theorem j_RM_third {E : plE} (X : plX E b_RM_third "ProtectedLineModel" 2 (some .boolean) 0 0) (a : Nat → Nat) (T : Int32 × plS) (hQ : plRi E (plwR (plg E) a) T) (st : plS) (v1 : Int32) (hs : P_RM_third st v1) (hk : T = K_RM_third st v1) : plJ E 2 (plwR (plg E) a st) 0 0 [(0, .ref (a 0)), (1, .int v1)] 0 [] := by
  unfold P_RM_third at hs
  unfold K_RM_third at hk
  refine j_aload_n (pc := 0) X d_RM_third_0 rfl 0 rfl ?_
  refine j_iload_n (pc := 1) X d_RM_third_1 rfl 1 rfl ?_
  refine j_if_lt (pc := 2) (tgt := 22) X d_RM_third_2 rfl (fun hc => ?_) (fun hc => ?_)
  · have hk := hk.trans (if_pos hc)
    have hs := hs.1 hc
    exact j_RM_third_22 X a T hQ st v1 hs hk
  · have hk := hk.trans (if_neg hc)
    have hs := hs.2 hc
    refine j_iload_n (pc := 5) X d_RM_third_5 rfl 1 rfl ?_
    refine j_aload_n (pc := 6) X d_RM_third_6 rfl 0 rfl ?_
    refine get_RM_rowFor (pc := 7) X fl_RM_75 d_RM_third_7 ?_
    refine j_icmp_ne (pc := 10) (tgt := 22) X d_RM_third_10 rfl (fun hc => ?_) (fun hc => ?_)
    · have hk := hk.trans (if_neg hc)
      have hs := hs.2 hc
      exact j_RM_third_22 X a T hQ st v1 hs hk
    · have hk := hk.trans (if_pos hc)
      have hs := hs.1 hc
      refine j_aload_n (pc := 13) X d_RM_third_13 rfl 0 rfl ?_
      refine get_RM_rowOf (pc := 14) X fl_RM_224 d_RM_third_14 ?_
      refine j_iconst (pc := 17) X d_RM_third_17 ic_1 ?_
      refine j_iadd (pc := 18) X d_RM_third_18 ?_
      refine j_goto (pc := 19) (tgt := 23) X d_RM_third_19 rfl ?_
      exact j_RM_third_23 X a T hQ st v1 ((st 0 45) + 1) hs hk
set_option maxRecDepth 20000 in
theorem c_RM_third (g : plG) (a : Nat → Nat) (st : plS) (v1 : Int32) (hs : P_RM_third st v1) : plMi g y_RM_third b_RM_third 2 (some .boolean) 0 0 [.ref (a 0), .int v1] (plwR g a) st (K_RM_third st v1) := by
  refine plMi.of (own := "ProtectedLineModel") (lv := [(0, .ref (a 0)), (1, .int v1)]) rfl rfl (Nat.le_of_ble_eq_true rfl) rfl (fun E hE X hQ => ?_)
  subst hE
  exact j_RM_third X a _ hQ st v1 hs rfl
theorem d_RM_found_0 : decode b_RM_found 0 = .ok (.aload_n 0, 1) := by decide +kernel
theorem d_RM_found_1 : decode b_RM_found 1 = .ok (.iload_n 1, 1) := by decide +kernel
theorem d_RM_found_2 : decode b_RM_found 2 = .ok (.putfield 72, 3) := by decide +kernel
theorem d_RM_found_5 : decode b_RM_found 5 = .ok (.aload_n 0, 1) := by decide +kernel
theorem d_RM_found_6 : decode b_RM_found 6 = .ok (.iconst 0, 1) := by decide +kernel
theorem d_RM_found_7 : decode b_RM_found 7 = .ok (.putfield 221, 3) := by decide +kernel
theorem d_RM_found_10 : decode b_RM_found 10 = .ok (.aload_n 0, 1) := by decide +kernel
theorem d_RM_found_11 : decode b_RM_found 11 = .ok (.iconst (-1), 1) := by decide +kernel
theorem d_RM_found_12 : decode b_RM_found 12 = .ok (.putfield 75, 3) := by decide +kernel
theorem d_RM_found_15 : decode b_RM_found 15 = .ok (.aload_n 0, 1) := by decide +kernel
theorem d_RM_found_16 : decode b_RM_found 16 = .ok (.iconst 0, 1) := by decide +kernel
theorem d_RM_found_17 : decode b_RM_found 17 = .ok (.putfield 212, 3) := by decide +kernel
theorem d_RM_found_20 : decode b_RM_found 20 = .ok (.return_, 1) := by decide +kernel
def K_RM_found_15 (st : plS) : plS := plUp st 0 46 0
set_option maxRecDepth 20000 in
theorem j_RM_found_15 {E : plE} (X : plX E b_RM_found "ProtectedLineModel" 2 none 0 0) (a : Nat → Nat) (T : plS) (hQ : plRv E (plwR (plg E) a) T) (st : plS)  (hk : T = K_RM_found_15 st) : plJ E 2 (plwR (plg E) a st) 0 0 [(0, .ref (a 0))] 15 [] := by
  unfold K_RM_found_15 at hk
  refine j_aload_n (pc := 15) X d_RM_found_15 rfl 0 rfl ?_
  refine j_iconst (pc := 16) X d_RM_found_16 ic_0 ?_
  refine put_RM_chain (pc := 17) X fl_RM_212 d_RM_found_17 ?_
  exact j_retv (pc := 20) X hQ d_RM_found_20 hk
def K_RM_found_10 (st : plS) : plS := K_RM_found_15 (plUp st 0 44 ((-1)))
set_option maxRecDepth 20000 in
theorem j_RM_found_10 {E : plE} (X : plX E b_RM_found "ProtectedLineModel" 2 none 0 0) (a : Nat → Nat) (T : plS) (hQ : plRv E (plwR (plg E) a) T) (st : plS)  (hk : T = K_RM_found_10 st) : plJ E 2 (plwR (plg E) a st) 0 0 [(0, .ref (a 0))] 10 [] := by
  unfold K_RM_found_10 at hk
  refine j_aload_n (pc := 10) X d_RM_found_10 rfl 0 rfl ?_
  refine j_iconst (pc := 11) X d_RM_found_11 ic_m1 ?_
  refine put_RM_rowFor (pc := 12) X fl_RM_75 d_RM_found_12 ?_
  exact j_RM_found_15 X a T hQ (plUp st 0 44 ((-1))) hk
def K_RM_found_5 (st : plS) : plS := K_RM_found_10 (plUp st 0 43 0)
set_option maxRecDepth 20000 in
theorem j_RM_found_5 {E : plE} (X : plX E b_RM_found "ProtectedLineModel" 2 none 0 0) (a : Nat → Nat) (T : plS) (hQ : plRv E (plwR (plg E) a) T) (st : plS)  (hk : T = K_RM_found_5 st) : plJ E 2 (plwR (plg E) a st) 0 0 [(0, .ref (a 0))] 5 [] := by
  unfold K_RM_found_5 at hk
  refine j_aload_n (pc := 5) X d_RM_found_5 rfl 0 rfl ?_
  refine j_iconst (pc := 6) X d_RM_found_6 ic_0 ?_
  refine put_RM_strange (pc := 7) X fl_RM_221 d_RM_found_7 ?_
  exact j_RM_found_10 X a T hQ (plUp st 0 43 0) hk
def K_RM_found (st : plS) (v1 : Int32) : plS := K_RM_found_5 (plUp st 0 41 v1)
set_option maxRecDepth 20000 in
theorem j_RM_found {E : plE} (X : plX E b_RM_found "ProtectedLineModel" 2 none 0 0) (a : Nat → Nat) (T : plS) (hQ : plRv E (plwR (plg E) a) T) (st : plS) (v1 : Int32) (hk : T = K_RM_found st v1) : plJ E 2 (plwR (plg E) a st) 0 0 [(0, .ref (a 0)), (1, .int v1)] 0 [] := by
  unfold K_RM_found at hk
  refine j_aload_n (pc := 0) X d_RM_found_0 rfl 0 rfl ?_
  refine j_iload_n (pc := 1) X d_RM_found_1 rfl 1 rfl ?_
  refine put_RM_pointer (pc := 2) X fl_RM_72 d_RM_found_2 ?_
  refine j_sub [0] (lv' := [(0, .ref (a 0))]) rfl ?_
  exact j_RM_found_5 X a T hQ (plUp st 0 41 v1) hk
set_option maxRecDepth 20000 in
theorem c_RM_found (g : plG) (a : Nat → Nat) (st : plS) (v1 : Int32) : plMv g y_RM_found b_RM_found 2 none 0 0 [.ref (a 0), .int v1] (plwR g a) st (K_RM_found st v1) := by
  refine plMv.of (own := "ProtectedLineModel") (lv := [(0, .ref (a 0)), (1, .int v1)]) rfl rfl (Nat.le_of_ble_eq_true rfl) rfl (fun E hE X hQ => ?_)
  subst hE
  exact j_RM_found X a _ hQ st v1 rfl
theorem d_RM_unread_0 : decode b_RM_unread 0 = .ok (.aload_n 0, 1) := by decide +kernel
theorem d_RM_unread_1 : decode b_RM_unread 1 = .ok (.dup, 1) := by decide +kernel
theorem d_RM_unread_2 : decode b_RM_unread 2 = .ok (.getfield 221, 3) := by decide +kernel
theorem d_RM_unread_5 : decode b_RM_unread 5 = .ok (.iconst 1, 1) := by decide +kernel
theorem d_RM_unread_6 : decode b_RM_unread 6 = .ok (.iadd, 1) := by decide +kernel
theorem d_RM_unread_7 : decode b_RM_unread 7 = .ok (.putfield 221, 3) := by decide +kernel
theorem d_RM_unread_10 : decode b_RM_unread 10 = .ok (.aload_n 0, 1) := by decide +kernel
theorem d_RM_unread_11 : decode b_RM_unread 11 = .ok (.iload_n 1, 1) := by decide +kernel
theorem d_RM_unread_12 : decode b_RM_unread 12 = .ok (.invokevirtual 230, 3) := by decide +kernel
theorem d_RM_unread_15 : decode b_RM_unread 15 = .ok (.ifCond .eq (10), 3) := by decide +kernel
theorem d_RM_unread_18 : decode b_RM_unread 18 = .ok (.aload_n 0, 1) := by decide +kernel
theorem d_RM_unread_19 : decode b_RM_unread 19 = .ok (.iload_n 1, 1) := by decide +kernel
theorem d_RM_unread_20 : decode b_RM_unread 20 = .ok (.invokevirtual 233, 3) := by decide +kernel
theorem d_RM_unread_23 : decode b_RM_unread 23 = .ok (.iconst 0, 1) := by decide +kernel
theorem d_RM_unread_24 : decode b_RM_unread 24 = .ok (.ireturn, 1) := by decide +kernel
theorem d_RM_unread_25 : decode b_RM_unread 25 = .ok (.aload_n 0, 1) := by decide +kernel
theorem d_RM_unread_26 : decode b_RM_unread 26 = .ok (.getfield 221, 3) := by decide +kernel
theorem d_RM_unread_29 : decode b_RM_unread 29 = .ok (.bipush (8), 2) := by decide +kernel
theorem d_RM_unread_31 : decode b_RM_unread 31 = .ok (.if_icmp .ge (5), 3) := by decide +kernel
theorem d_RM_unread_34 : decode b_RM_unread 34 = .ok (.iconst 0, 1) := by decide +kernel
theorem d_RM_unread_35 : decode b_RM_unread 35 = .ok (.ireturn, 1) := by decide +kernel
theorem d_RM_unread_36 : decode b_RM_unread 36 = .ok (.aload_n 0, 1) := by decide +kernel
theorem d_RM_unread_37 : decode b_RM_unread 37 = .ok (.invokevirtual 218, 3) := by decide +kernel
theorem d_RM_unread_40 : decode b_RM_unread 40 = .ok (.iconst 1, 1) := by decide +kernel
theorem d_RM_unread_41 : decode b_RM_unread 41 = .ok (.ireturn, 1) := by decide +kernel
def K_RM_unread_15q (v1 : Int32) (q : Int32 × plS) : Int32 × plS := (if q.1 = 0 then (if 8 ≤ (q.2 0 43) then (1, K_RM_lose q.2) else (0, q.2)) else (0, K_RM_found q.2 v1))
set_option maxRecDepth 20000 in
theorem j_RM_unread_15q {E : plE} (X : plX E b_RM_unread "ProtectedLineModel" 2 (some .boolean) 1 21) (a : Nat → Nat) (T : Int32 × plS) (hQ : plRi E (plwR (plg E) a) T) (v1 : Int32) (q : Int32 × plS) (hk : T = K_RM_unread_15q v1 q) : plJ E 2 (plwR (plg E) a q.2) 0 0 [(0, .ref (a 0)), (1, .int v1)] 15 [.int q.1] := by
  unfold K_RM_unread_15q at hk
  refine j_if_eq (pc := 15) (tgt := 25) X d_RM_unread_15 rfl (fun hc => ?_) (fun hc => ?_)
  · have hk := hk.trans (if_pos hc)
    refine j_aload_n (pc := 25) X d_RM_unread_25 rfl 0 rfl ?_
    refine get_RM_strange (pc := 26) X fl_RM_221 d_RM_unread_26 ?_
    refine j_bipush (pc := 29) X d_RM_unread_29 bp_8 ?_
    refine j_icmp_ge (pc := 31) (tgt := 36) X d_RM_unread_31 rfl (fun hc => ?_) (fun hc => ?_)
    · have hk := hk.trans (if_pos hc)
      refine j_aload_n (pc := 36) X d_RM_unread_36 rfl 0 rfl ?_
      refine j_callVv (pc := 37) (As := []) (rest := []) X (c_RM_lose (plg E) a q.2) ml_RM_218 0 rfl rfl ⟨Nat.le_of_ble_eq_true rfl, Nat.le_of_ble_eq_true rfl⟩ rfl rfl (Nat.le_of_ble_eq_true rfl) d_RM_unread_37 ?_
      refine j_iconst (pc := 40) X d_RM_unread_40 ic_1 ?_
      exact j_retz (pc := 41) X hQ d_RM_unread_41 (Or.inr rfl) hk
    · have hk := hk.trans (if_neg hc)
      refine j_iconst (pc := 34) X d_RM_unread_34 ic_0 ?_
      exact j_retz (pc := 35) X hQ d_RM_unread_35 (Or.inl rfl) hk
  · have hk := hk.trans (if_neg hc)
    refine j_aload_n (pc := 18) X d_RM_unread_18 rfl 0 rfl ?_
    refine j_iload_n (pc := 19) X d_RM_unread_19 rfl 1 rfl ?_
    refine j_callVv (pc := 20) (As := [.int v1]) (rest := []) X (c_RM_found (plg E) a q.2 v1) ml_RM_233 0 rfl rfl ⟨Nat.le_of_ble_eq_true rfl, Nat.le_of_ble_eq_true rfl⟩ rfl rfl (Nat.le_of_ble_eq_true rfl) d_RM_unread_20 ?_
    refine j_iconst (pc := 23) X d_RM_unread_23 ic_0 ?_
    exact j_retz (pc := 24) X hQ d_RM_unread_24 (Or.inl rfl) hk
def K_RM_unread_10 (st : plS) (v1 : Int32) : Int32 × plS := K_RM_unread_15q v1 (K_RM_third st v1)
def P_RM_unread_10 (st : plS) (v1 : Int32) : Prop := P_RM_third st v1
set_option maxRecDepth 20000 in
theorem j_RM_unread_10 {E : plE} (X : plX E b_RM_unread "ProtectedLineModel" 2 (some .boolean) 1 21) (a : Nat → Nat) (T : Int32 × plS) (hQ : plRi E (plwR (plg E) a) T) (st : plS) (v1 : Int32) (hs : P_RM_unread_10 st v1) (hk : T = K_RM_unread_10 st v1) : plJ E 2 (plwR (plg E) a st) 0 0 [(0, .ref (a 0)), (1, .int v1)] 10 [] := by
  unfold P_RM_unread_10 at hs
  unfold K_RM_unread_10 at hk
  refine j_aload_n (pc := 10) X d_RM_unread_10 rfl 0 rfl ?_
  refine j_iload_n (pc := 11) X d_RM_unread_11 rfl 1 rfl ?_
  refine j_callVi (pc := 12) (As := [.int v1]) (rest := []) X (c_RM_third (plg E) a st v1 hs) ml_RM_230 0 rfl rfl ⟨Nat.le_of_ble_eq_true rfl, Nat.le_of_ble_eq_true rfl⟩ rfl rfl (Nat.le_of_ble_eq_true rfl) d_RM_unread_12 ?_
  exact j_RM_unread_15q X a T hQ v1 (K_RM_third st v1) hk
def K_RM_unread (st : plS) (v1 : Int32) : Int32 × plS := K_RM_unread_10 (plUp st 0 43 ((st 0 43) + 1)) v1
def P_RM_unread (st : plS) (v1 : Int32) : Prop := P_RM_unread_10 (plUp st 0 43 ((st 0 43) + 1)) v1
set_option maxRecDepth 20000 in
theorem j_RM_unread {E : plE} (X : plX E b_RM_unread "ProtectedLineModel" 2 (some .boolean) 1 21) (a : Nat → Nat) (T : Int32 × plS) (hQ : plRi E (plwR (plg E) a) T) (st : plS) (v1 : Int32) (hs : P_RM_unread st v1) (hk : T = K_RM_unread st v1) : plJ E 2 (plwR (plg E) a st) 0 0 [(0, .ref (a 0)), (1, .int v1)] 0 [] := by
  unfold P_RM_unread at hs
  unfold K_RM_unread at hk
  refine j_aload_n (pc := 0) X d_RM_unread_0 rfl 0 rfl ?_
  refine j_dup (pc := 1) X d_RM_unread_1 rfl ?_
  refine get_RM_strange (pc := 2) X fl_RM_221 d_RM_unread_2 ?_
  refine j_iconst (pc := 5) X d_RM_unread_5 ic_1 ?_
  refine j_iadd (pc := 6) X d_RM_unread_6 ?_
  refine put_RM_strange (pc := 7) X fl_RM_221 d_RM_unread_7 ?_
  exact j_RM_unread_10 X a T hQ (plUp st 0 43 ((st 0 43) + 1)) v1 hs hk
set_option maxRecDepth 20000 in
theorem c_RM_unread (g : plG) (a : Nat → Nat) (st : plS) (v1 : Int32) (hs : P_RM_unread st v1) : plMi g y_RM_unread b_RM_unread 2 (some .boolean) 1 21 [.ref (a 0), .int v1] (plwR g a) st (K_RM_unread st v1) := by
  refine plMi.of (own := "ProtectedLineModel") (lv := [(0, .ref (a 0)), (1, .int v1)]) rfl rfl (Nat.le_of_ble_eq_true rfl) rfl (fun E hE X hQ => ?_)
  subst hE
  exact j_RM_unread X a _ hQ st v1 hs rfl
theorem d_RM_header_0 : decode b_RM_header 0 = .ok (.iload_n 0, 1) := by decide +kernel
theorem d_RM_header_1 : decode b_RM_header 1 = .ok (.sipush (182), 3) := by decide +kernel
theorem d_RM_header_4 : decode b_RM_header 4 = .ok (.ixor, 1) := by decide +kernel
theorem d_RM_header_5 : decode b_RM_header 5 = .ok (.invokestatic 148, 3) := by decide +kernel
theorem d_RM_header_8 : decode b_RM_header 8 = .ok (.iload_n 1, 1) := by decide +kernel
theorem d_RM_header_9 : decode b_RM_header 9 = .ok (.sipush (171), 3) := by decide +kernel
theorem d_RM_header_12 : decode b_RM_header 12 = .ok (.ixor, 1) := by decide +kernel
theorem d_RM_header_13 : decode b_RM_header 13 = .ok (.if_icmp .ne (7), 3) := by decide +kernel
theorem d_RM_header_16 : decode b_RM_header 16 = .ok (.iconst 1, 1) := by decide +kernel
theorem d_RM_header_17 : decode b_RM_header 17 = .ok (.goto (4), 3) := by decide +kernel
theorem d_RM_header_20 : decode b_RM_header 20 = .ok (.iconst 0, 1) := by decide +kernel
theorem d_RM_header_21 : decode b_RM_header 21 = .ok (.ireturn, 1) := by decide +kernel
def K_RM_header_21 (k0 : Int32) : Int32 := k0
def P_RM_header_21 (k0 : Int32) : Prop := plB k0
set_option maxRecDepth 20000 in
theorem j_RM_header_21 {E : plE} (X : plX E b_RM_header "ProtectedLineModel" 2 (some .boolean) 1 22) (a : Nat → Nat) (T : Int32) (st : plS) (hQ : plRp E (plwR (plg E) a) st T) (k0 : Int32) (hs : P_RM_header_21 k0) (hk : T = K_RM_header_21 k0) : plJ E 2 (plwR (plg E) a st) 0 0 [] 21 [.int k0] := by
  unfold P_RM_header_21 at hs
  unfold K_RM_header_21 at hk
  exact j_retzp (pc := 21) X hQ d_RM_header_21 hs hk
def K_RM_header (v0 : Int32) (v1 : Int32) : Int32 := (if (K_RM_hash (v0 ^^^ 182)) = (v1 ^^^ 171) then K_RM_header_21 1 else K_RM_header_21 0)
def P_RM_header (v0 : Int32) (v1 : Int32) : Prop := (P_RM_hash (v0 ^^^ 182) ∧ (((K_RM_hash (v0 ^^^ 182)) = (v1 ^^^ 171) → P_RM_header_21 1) ∧ (¬ (K_RM_hash (v0 ^^^ 182)) = (v1 ^^^ 171) → P_RM_header_21 0)))
set_option maxRecDepth 20000 in
theorem j_RM_header {E : plE} (X : plX E b_RM_header "ProtectedLineModel" 2 (some .boolean) 1 22) (a : Nat → Nat) (T : Int32) (st : plS) (hQ : plRp E (plwR (plg E) a) st T) (v0 : Int32) (v1 : Int32) (hs : P_RM_header v0 v1) (hk : T = K_RM_header v0 v1) : plJ E 2 (plwR (plg E) a st) 0 0 [(0, .int v0), (1, .int v1)] 0 [] := by
  unfold P_RM_header at hs
  unfold K_RM_header at hk
  refine j_iload_n (pc := 0) X d_RM_header_0 rfl 0 rfl ?_
  refine j_sipush (pc := 1) X d_RM_header_1 sp_182 ?_
  refine j_ixor (pc := 4) X d_RM_header_4 ?_
  refine j_callSp (pc := 5) (As := [.int (v0 ^^^ 182)]) (rest := []) X (c_RM_hash (plg E) a st (v0 ^^^ 182) hs.1) ml_RM_148 ⟨Nat.le_of_ble_eq_true rfl, Nat.le_of_ble_eq_true rfl⟩ rfl rfl (Nat.le_of_ble_eq_true rfl) d_RM_header_5 ?_
  have hs := hs.2
  refine j_iload_n (pc := 8) X d_RM_header_8 rfl 1 rfl ?_
  refine j_sipush (pc := 9) X d_RM_header_9 sp_171 ?_
  refine j_ixor (pc := 12) X d_RM_header_12 ?_
  refine j_icmp_ne (pc := 13) (tgt := 20) X d_RM_header_13 rfl (fun hc => ?_) (fun hc => ?_)
  · have hk := hk.trans (if_neg hc)
    have hs := hs.2 hc
    refine j_iconst (pc := 20) X d_RM_header_20 ic_0 ?_
    refine j_sub [] (lv' := []) rfl ?_
    exact j_RM_header_21 X a T st hQ 0 hs hk
  · have hk := hk.trans (if_pos hc)
    have hs := hs.1 hc
    refine j_iconst (pc := 16) X d_RM_header_16 ic_1 ?_
    refine j_goto (pc := 17) (tgt := 21) X d_RM_header_17 rfl ?_
    refine j_sub [] (lv' := []) rfl ?_
    exact j_RM_header_21 X a T st hQ 1 hs hk
set_option maxRecDepth 20000 in
theorem c_RM_header (g : plG) (a : Nat → Nat) (st : plS) (v0 : Int32) (v1 : Int32) (hs : P_RM_header v0 v1) : plMp g y_RM_header b_RM_header 2 (some .boolean) 1 22 [.int v0, .int v1] (plwR g a) st (K_RM_header v0 v1) := by
  refine plMp.of (own := "ProtectedLineModel") (lv := [(0, .int v0), (1, .int v1)]) rfl rfl (Nat.le_of_ble_eq_true rfl) rfl (fun E hE X hQ => ?_)
  subst hE
  exact j_RM_header X a _ st hQ v0 v1 hs rfl
theorem d_RM_enter_0 : decode b_RM_enter 0 = .ok (.aload_n 0, 1) := by decide +kernel
theorem d_RM_enter_1 : decode b_RM_enter 1 = .ok (.iload_n 1, 1) := by decide +kernel
theorem d_RM_enter_2 : decode b_RM_enter 2 = .ok (.putfield 255, 3) := by decide +kernel
theorem d_RM_enter_5 : decode b_RM_enter 5 = .ok (.aload_n 0, 1) := by decide +kernel
theorem d_RM_enter_6 : decode b_RM_enter 6 = .ok (.iload_n 1, 1) := by decide +kernel
theorem d_RM_enter_7 : decode b_RM_enter 7 = .ok (.putfield 274, 3) := by decide +kernel
theorem d_RM_enter_10 : decode b_RM_enter 10 = .ok (.aload_n 0, 1) := by decide +kernel
theorem d_RM_enter_11 : decode b_RM_enter 11 = .ok (.iconst 0, 1) := by decide +kernel
theorem d_RM_enter_12 : decode b_RM_enter 12 = .ok (.putfield 277, 3) := by decide +kernel
theorem d_RM_enter_15 : decode b_RM_enter 15 = .ok (.return_, 1) := by decide +kernel
def K_RM_enter_10 (st : plS) : plS := plUp st 0 53 0
set_option maxRecDepth 20000 in
theorem j_RM_enter_10 {E : plE} (X : plX E b_RM_enter "ProtectedLineModel" 2 none 0 0) (a : Nat → Nat) (T : plS) (hQ : plRv E (plwR (plg E) a) T) (st : plS)  (hk : T = K_RM_enter_10 st) : plJ E 2 (plwR (plg E) a st) 0 0 [(0, .ref (a 0))] 10 [] := by
  unfold K_RM_enter_10 at hk
  refine j_aload_n (pc := 10) X d_RM_enter_10 rfl 0 rfl ?_
  refine j_iconst (pc := 11) X d_RM_enter_11 ic_0 ?_
  refine put_RM_filled (pc := 12) X fl_RM_277 d_RM_enter_12 ?_
  exact j_retv (pc := 15) X hQ d_RM_enter_15 hk
def K_RM_enter_5 (st : plS) (v1 : Int32) : plS := K_RM_enter_10 (plUp st 0 52 v1)
set_option maxRecDepth 20000 in
theorem j_RM_enter_5 {E : plE} (X : plX E b_RM_enter "ProtectedLineModel" 2 none 0 0) (a : Nat → Nat) (T : plS) (hQ : plRv E (plwR (plg E) a) T) (st : plS) (v1 : Int32) (hk : T = K_RM_enter_5 st v1) : plJ E 2 (plwR (plg E) a st) 0 0 [(0, .ref (a 0)), (1, .int v1)] 5 [] := by
  unfold K_RM_enter_5 at hk
  refine j_aload_n (pc := 5) X d_RM_enter_5 rfl 0 rfl ?_
  refine j_iload_n (pc := 6) X d_RM_enter_6 rfl 1 rfl ?_
  refine put_RM_long0 (pc := 7) X fl_RM_274 d_RM_enter_7 ?_
  refine j_sub [0] (lv' := [(0, .ref (a 0))]) rfl ?_
  exact j_RM_enter_10 X a T hQ (plUp st 0 52 v1) hk
def K_RM_enter (st : plS) (v1 : Int32) : plS := K_RM_enter_5 (plUp st 0 51 v1) v1
set_option maxRecDepth 20000 in
theorem j_RM_enter {E : plE} (X : plX E b_RM_enter "ProtectedLineModel" 2 none 0 0) (a : Nat → Nat) (T : plS) (hQ : plRv E (plwR (plg E) a) T) (st : plS) (v1 : Int32) (hk : T = K_RM_enter st v1) : plJ E 2 (plwR (plg E) a st) 0 0 [(0, .ref (a 0)), (1, .int v1)] 0 [] := by
  unfold K_RM_enter at hk
  refine j_aload_n (pc := 0) X d_RM_enter_0 rfl 0 rfl ?_
  refine j_iload_n (pc := 1) X d_RM_enter_1 rfl 1 rfl ?_
  refine put_RM_left (pc := 2) X fl_RM_255 d_RM_enter_2 ?_
  exact j_RM_enter_5 X a T hQ (plUp st 0 51 v1) v1 hk
set_option maxRecDepth 20000 in
theorem c_RM_enter (g : plG) (a : Nat → Nat) (st : plS) (v1 : Int32) : plMv g y_RM_enter b_RM_enter 2 none 0 0 [.ref (a 0), .int v1] (plwR g a) st (K_RM_enter st v1) := by
  refine plMv.of (own := "ProtectedLineModel") (lv := [(0, .ref (a 0)), (1, .int v1)]) rfl rfl (Nat.le_of_ble_eq_true rfl) rfl (fun E hE X hQ => ?_)
  subst hE
  exact j_RM_enter X a _ hQ st v1 rfl
theorem d_RM_mend_0 : decode b_RM_mend 0 = .ok (.iconst (-1), 1) := by decide +kernel
theorem d_RM_mend_1 : decode b_RM_mend 1 = .ok (.istore_n 3, 1) := by decide +kernel
theorem d_RM_mend_2 : decode b_RM_mend 2 = .ok (.iconst 0, 1) := by decide +kernel
theorem d_RM_mend_3 : decode b_RM_mend 3 = .ok (.istore 4, 2) := by decide +kernel
theorem d_RM_mend_5 : decode b_RM_mend 5 = .ok (.iload 4, 2) := by decide +kernel
theorem d_RM_mend_7 : decode b_RM_mend 7 = .ok (.bipush (8), 2) := by decide +kernel
theorem d_RM_mend_9 : decode b_RM_mend 9 = .ok (.if_icmp .ge (60), 3) := by decide +kernel
theorem d_RM_mend_12 : decode b_RM_mend 12 = .ok (.iload_n 1, 1) := by decide +kernel
theorem d_RM_mend_13 : decode b_RM_mend 13 = .ok (.iconst 1, 1) := by decide +kernel
theorem d_RM_mend_14 : decode b_RM_mend 14 = .ok (.iload 4, 2) := by decide +kernel
theorem d_RM_mend_16 : decode b_RM_mend 16 = .ok (.ishl, 1) := by decide +kernel
theorem d_RM_mend_17 : decode b_RM_mend 17 = .ok (.ixor, 1) := by decide +kernel
theorem d_RM_mend_18 : decode b_RM_mend 18 = .ok (.iload_n 2, 1) := by decide +kernel
theorem d_RM_mend_19 : decode b_RM_mend 19 = .ok (.invokestatic 264, 3) := by decide +kernel
theorem d_RM_mend_22 : decode b_RM_mend 22 = .ok (.ifCond .eq (16), 3) := by decide +kernel
theorem d_RM_mend_25 : decode b_RM_mend 25 = .ok (.iload_n 1, 1) := by decide +kernel
theorem d_RM_mend_26 : decode b_RM_mend 26 = .ok (.iconst 1, 1) := by decide +kernel
theorem d_RM_mend_27 : decode b_RM_mend 27 = .ok (.iload 4, 2) := by decide +kernel
theorem d_RM_mend_29 : decode b_RM_mend 29 = .ok (.ishl, 1) := by decide +kernel
theorem d_RM_mend_30 : decode b_RM_mend 30 = .ok (.ixor, 1) := by decide +kernel
theorem d_RM_mend_31 : decode b_RM_mend 31 = .ok (.sipush (182), 3) := by decide +kernel
theorem d_RM_mend_34 : decode b_RM_mend 34 = .ok (.ixor, 1) := by decide +kernel
theorem d_RM_mend_35 : decode b_RM_mend 35 = .ok (.goto (4), 3) := by decide +kernel
theorem d_RM_mend_38 : decode b_RM_mend 38 = .ok (.iload_n 3, 1) := by decide +kernel
theorem d_RM_mend_39 : decode b_RM_mend 39 = .ok (.istore_n 3, 1) := by decide +kernel
theorem d_RM_mend_40 : decode b_RM_mend 40 = .ok (.iload_n 1, 1) := by decide +kernel
theorem d_RM_mend_41 : decode b_RM_mend 41 = .ok (.iload_n 2, 1) := by decide +kernel
theorem d_RM_mend_42 : decode b_RM_mend 42 = .ok (.iconst 1, 1) := by decide +kernel
theorem d_RM_mend_43 : decode b_RM_mend 43 = .ok (.iload 4, 2) := by decide +kernel
theorem d_RM_mend_45 : decode b_RM_mend 45 = .ok (.ishl, 1) := by decide +kernel
theorem d_RM_mend_46 : decode b_RM_mend 46 = .ok (.ixor, 1) := by decide +kernel
theorem d_RM_mend_47 : decode b_RM_mend 47 = .ok (.invokestatic 264, 3) := by decide +kernel
theorem d_RM_mend_50 : decode b_RM_mend 50 = .ok (.ifCond .eq (11), 3) := by decide +kernel
theorem d_RM_mend_53 : decode b_RM_mend 53 = .ok (.iload_n 1, 1) := by decide +kernel
theorem d_RM_mend_54 : decode b_RM_mend 54 = .ok (.sipush (182), 3) := by decide +kernel
theorem d_RM_mend_57 : decode b_RM_mend 57 = .ok (.ixor, 1) := by decide +kernel
theorem d_RM_mend_58 : decode b_RM_mend 58 = .ok (.goto (4), 3) := by decide +kernel
theorem d_RM_mend_61 : decode b_RM_mend 61 = .ok (.iload_n 3, 1) := by decide +kernel
theorem d_RM_mend_62 : decode b_RM_mend 62 = .ok (.istore_n 3, 1) := by decide +kernel
theorem d_RM_mend_63 : decode b_RM_mend 63 = .ok (.iinc 4 (1), 3) := by decide +kernel
theorem d_RM_mend_66 : decode b_RM_mend 66 = .ok (.goto (-61), 3) := by decide +kernel
theorem d_RM_mend_69 : decode b_RM_mend 69 = .ok (.iload_n 3, 1) := by decide +kernel
theorem d_RM_mend_70 : decode b_RM_mend 70 = .ok (.ifCond .ge (10), 3) := by decide +kernel
theorem d_RM_mend_73 : decode b_RM_mend 73 = .ok (.aload_n 0, 1) := by decide +kernel
theorem d_RM_mend_74 : decode b_RM_mend 74 = .ok (.invokevirtual 215, 3) := by decide +kernel
theorem d_RM_mend_77 : decode b_RM_mend 77 = .ok (.goto (8), 3) := by decide +kernel
theorem d_RM_mend_80 : decode b_RM_mend 80 = .ok (.aload_n 0, 1) := by decide +kernel
theorem d_RM_mend_81 : decode b_RM_mend 81 = .ok (.iload_n 3, 1) := by decide +kernel
theorem d_RM_mend_82 : decode b_RM_mend 82 = .ok (.invokevirtual 268, 3) := by decide +kernel
theorem d_RM_mend_85 : decode b_RM_mend 85 = .ok (.return_, 1) := by decide +kernel
def K_RM_mend_5L62 (st : plS) (v1 : Int32) (v2 : Int32) (v4 : Int32) (k0 : Int32) : Bool × (Int32 × Int32) := (true, (k0, v4 + 1))
set_option maxRecDepth 20000 in
theorem j_RM_mend_5L62 {E : plE} (X : plX E b_RM_mend "ProtectedLineModel" 5 none 2 43) (a : Nat → Nat) (T : Bool × (Int32 × Int32)) (st : plS) (v1 : Int32) (v2 : Int32) (hb : ∀ (c0 : Int32) (c1 : Int32), T = (true, (c0, c1)) → plJ E 5 (plwR (plg E) a st) 0 0 [(0, .ref (a 0)), (1, .int v1), (2, .int v2), (3, .int c0), (4, .int c1)] 5 []) (hx : ∀ (c0 : Int32) (c1 : Int32), T = (false, (c0, c1)) → plJ E 5 (plwR (plg E) a st) 0 0 [(0, .ref (a 0)), (1, .int v1), (2, .int v2), (3, .int c0), (4, .int c1)] 69 []) (v4 : Int32) (k0 : Int32) (hk : T = K_RM_mend_5L62 st v1 v2 v4 k0) : plJ E 5 (plwR (plg E) a st) 0 0 [(0, .ref (a 0)), (1, .int v1), (2, .int v2), (4, .int v4)] 62 [.int k0] := by
  unfold K_RM_mend_5L62 at hk
  refine j_istore_n (pc := 62) X d_RM_mend_62 rfl (lv' := [(3, .int k0), (0, .ref (a 0)), (1, .int v1), (2, .int v2), (4, .int v4)]) (Nat.le_of_ble_eq_true rfl) rfl ?_
  refine j_iinc (pc := 63) X d_RM_mend_63 4 rfl ic_1 (lv' := [(4, .int (v4 + 1)), (3, .int k0), (0, .ref (a 0)), (1, .int v1), (2, .int v2)]) (Nat.le_of_ble_eq_true rfl) rfl ?_
  refine j_goto (pc := 66) (tgt := 5) X d_RM_mend_66 rfl ?_
  refine j_sub [2, 3, 4, 1, 0] (lv' := [(0, .ref (a 0)), (1, .int v1), (2, .int v2), (3, .int k0), (4, .int (v4 + 1))]) rfl ?_
  exact hb k0 (v4 + 1) hk
def K_RM_mend_5L39 (st : plS) (v1 : Int32) (v2 : Int32) (v4 : Int32) (k0 : Int32) : Bool × (Int32 × Int32) := (if (K_RM_header v1 (v2 ^^^ (1 <<< ((v4 : Int32) &&& 31)))) = 0 then K_RM_mend_5L62 st v1 v2 v4 k0 else K_RM_mend_5L62 st v1 v2 v4 (v1 ^^^ 182))
def P_RM_mend_5L39 (st : plS) (v1 : Int32) (v2 : Int32) (v4 : Int32) (k0 : Int32) : Prop := P_RM_header v1 (v2 ^^^ (1 <<< ((v4 : Int32) &&& 31)))
set_option maxRecDepth 20000 in
theorem j_RM_mend_5L39 {E : plE} (X : plX E b_RM_mend "ProtectedLineModel" 5 none 2 43) (a : Nat → Nat) (T : Bool × (Int32 × Int32)) (st : plS) (v1 : Int32) (v2 : Int32) (hb : ∀ (c0 : Int32) (c1 : Int32), T = (true, (c0, c1)) → plJ E 5 (plwR (plg E) a st) 0 0 [(0, .ref (a 0)), (1, .int v1), (2, .int v2), (3, .int c0), (4, .int c1)] 5 []) (hx : ∀ (c0 : Int32) (c1 : Int32), T = (false, (c0, c1)) → plJ E 5 (plwR (plg E) a st) 0 0 [(0, .ref (a 0)), (1, .int v1), (2, .int v2), (3, .int c0), (4, .int c1)] 69 []) (v4 : Int32) (k0 : Int32) (hs : P_RM_mend_5L39 st v1 v2 v4 k0) (hk : T = K_RM_mend_5L39 st v1 v2 v4 k0) : plJ E 5 (plwR (plg E) a st) 0 0 [(0, .ref (a 0)), (1, .int v1), (2, .int v2), (4, .int v4)] 39 [.int k0] := by
  unfold P_RM_mend_5L39 at hs
  unfold K_RM_mend_5L39 at hk
  refine j_istore_n (pc := 39) X d_RM_mend_39 rfl (lv' := [(3, .int k0), (0, .ref (a 0)), (1, .int v1), (2, .int v2), (4, .int v4)]) (Nat.le_of_ble_eq_true rfl) rfl ?_
  refine j_iload_n (pc := 40) X d_RM_mend_40 rfl 2 rfl ?_
  refine j_iload_n (pc := 41) X d_RM_mend_41 rfl 3 rfl ?_
  refine j_iconst (pc := 42) X d_RM_mend_42 ic_1 ?_
  refine j_iload (pc := 43) X d_RM_mend_43 4 rfl ?_
  refine j_ishl (pc := 45) X d_RM_mend_45 ?_
  refine j_ixor (pc := 46) X d_RM_mend_46 ?_
  refine j_callSp (pc := 47) (As := [.int v1, .int (v2 ^^^ (1 <<< ((v4 : Int32) &&& 31)))]) (rest := []) X (c_RM_header (plg E) a st v1 (v2 ^^^ (1 <<< ((v4 : Int32) &&& 31))) hs) ml_RM_264 ⟨Nat.le_of_ble_eq_true rfl, Nat.le_of_ble_eq_true rfl⟩ rfl rfl (Nat.le_of_ble_eq_true rfl) d_RM_mend_47 ?_
  refine j_if_eq (pc := 50) (tgt := 61) X d_RM_mend_50 rfl (fun hc => ?_) (fun hc => ?_)
  · have hk := hk.trans (if_pos hc)
    refine j_iload_n (pc := 61) X d_RM_mend_61 rfl 0 rfl ?_
    refine j_sub [1, 2, 3, 4] (lv' := [(0, .ref (a 0)), (1, .int v1), (2, .int v2), (4, .int v4)]) rfl ?_
    exact j_RM_mend_5L62 X a T st v1 v2 hb hx v4 k0 hk
  · have hk := hk.trans (if_neg hc)
    refine j_iload_n (pc := 53) X d_RM_mend_53 rfl 2 rfl ?_
    refine j_sipush (pc := 54) X d_RM_mend_54 sp_182 ?_
    refine j_ixor (pc := 57) X d_RM_mend_57 ?_
    refine j_goto (pc := 58) (tgt := 62) X d_RM_mend_58 rfl ?_
    refine j_sub [1, 2, 3, 4] (lv' := [(0, .ref (a 0)), (1, .int v1), (2, .int v2), (4, .int v4)]) rfl ?_
    exact j_RM_mend_5L62 X a T st v1 v2 hb hx v4 (v1 ^^^ 182) hk
def K_RM_mend_5L (st : plS) (v1 : Int32) (v2 : Int32) (v3 : Int32) (v4 : Int32) : Bool × (Int32 × Int32) := (if 8 ≤ v4 then (false, (v3, v4)) else (if (K_RM_header (v1 ^^^ (1 <<< ((v4 : Int32) &&& 31))) v2) = 0 then K_RM_mend_5L39 st v1 v2 v4 v3 else K_RM_mend_5L39 st v1 v2 v4 ((v1 ^^^ (1 <<< ((v4 : Int32) &&& 31))) ^^^ 182)))
def P_RM_mend_5L (st : plS) (v1 : Int32) (v2 : Int32) (v3 : Int32) (v4 : Int32) : Prop := (¬ 8 ≤ v4 → (P_RM_header (v1 ^^^ (1 <<< ((v4 : Int32) &&& 31))) v2 ∧ (((K_RM_header (v1 ^^^ (1 <<< ((v4 : Int32) &&& 31))) v2) = 0 → P_RM_mend_5L39 st v1 v2 v4 v3) ∧ (¬ (K_RM_header (v1 ^^^ (1 <<< ((v4 : Int32) &&& 31))) v2) = 0 → P_RM_mend_5L39 st v1 v2 v4 ((v1 ^^^ (1 <<< ((v4 : Int32) &&& 31))) ^^^ 182)))))
set_option maxRecDepth 20000 in
theorem j_RM_mend_5L {E : plE} (X : plX E b_RM_mend "ProtectedLineModel" 5 none 2 43) (a : Nat → Nat) (T : Bool × (Int32 × Int32)) (st : plS) (v1 : Int32) (v2 : Int32) (hb : ∀ (c0 : Int32) (c1 : Int32), T = (true, (c0, c1)) → plJ E 5 (plwR (plg E) a st) 0 0 [(0, .ref (a 0)), (1, .int v1), (2, .int v2), (3, .int c0), (4, .int c1)] 5 []) (hx : ∀ (c0 : Int32) (c1 : Int32), T = (false, (c0, c1)) → plJ E 5 (plwR (plg E) a st) 0 0 [(0, .ref (a 0)), (1, .int v1), (2, .int v2), (3, .int c0), (4, .int c1)] 69 []) (v3 : Int32) (v4 : Int32) (hs : P_RM_mend_5L st v1 v2 v3 v4) (hk : T = K_RM_mend_5L st v1 v2 v3 v4) : plJ E 5 (plwR (plg E) a st) 0 0 [(0, .ref (a 0)), (1, .int v1), (2, .int v2), (3, .int v3), (4, .int v4)] 5 [] := by
  unfold P_RM_mend_5L at hs
  unfold K_RM_mend_5L at hk
  refine j_iload (pc := 5) X d_RM_mend_5 4 rfl ?_
  refine j_bipush (pc := 7) X d_RM_mend_7 bp_8 ?_
  refine j_icmp_ge (pc := 9) (tgt := 69) X d_RM_mend_9 rfl (fun hc => ?_) (fun hc => ?_)
  · have hk := hk.trans (if_pos hc)
    exact hx v3 v4 hk
  · have hk := hk.trans (if_neg hc)
    have hs := hs hc
    refine j_iload_n (pc := 12) X d_RM_mend_12 rfl 1 rfl ?_
    refine j_iconst (pc := 13) X d_RM_mend_13 ic_1 ?_
    refine j_iload (pc := 14) X d_RM_mend_14 4 rfl ?_
    refine j_ishl (pc := 16) X d_RM_mend_16 ?_
    refine j_ixor (pc := 17) X d_RM_mend_17 ?_
    refine j_iload_n (pc := 18) X d_RM_mend_18 rfl 2 rfl ?_
    refine j_callSp (pc := 19) (As := [.int (v1 ^^^ (1 <<< ((v4 : Int32) &&& 31))), .int v2]) (rest := []) X (c_RM_header (plg E) a st (v1 ^^^ (1 <<< ((v4 : Int32) &&& 31))) v2 hs.1) ml_RM_264 ⟨Nat.le_of_ble_eq_true rfl, Nat.le_of_ble_eq_true rfl⟩ rfl rfl (Nat.le_of_ble_eq_true rfl) d_RM_mend_19 ?_
    have hs := hs.2
    refine j_if_eq (pc := 22) (tgt := 38) X d_RM_mend_22 rfl (fun hc => ?_) (fun hc => ?_)
    · have hk := hk.trans (if_pos hc)
      have hs := hs.1 hc
      refine j_iload_n (pc := 38) X d_RM_mend_38 rfl 3 rfl ?_
      refine j_sub [0, 1, 2, 4] (lv' := [(0, .ref (a 0)), (1, .int v1), (2, .int v2), (4, .int v4)]) rfl ?_
      exact j_RM_mend_5L39 X a T st v1 v2 hb hx v4 v3 hs hk
    · have hk := hk.trans (if_neg hc)
      have hs := hs.2 hc
      refine j_iload_n (pc := 25) X d_RM_mend_25 rfl 1 rfl ?_
      refine j_iconst (pc := 26) X d_RM_mend_26 ic_1 ?_
      refine j_iload (pc := 27) X d_RM_mend_27 4 rfl ?_
      refine j_ishl (pc := 29) X d_RM_mend_29 ?_
      refine j_ixor (pc := 30) X d_RM_mend_30 ?_
      refine j_sipush (pc := 31) X d_RM_mend_31 sp_182 ?_
      refine j_ixor (pc := 34) X d_RM_mend_34 ?_
      refine j_goto (pc := 35) (tgt := 39) X d_RM_mend_35 rfl ?_
      refine j_sub [0, 1, 2, 4] (lv' := [(0, .ref (a 0)), (1, .int v1), (2, .int v2), (4, .int v4)]) rfl ?_
      exact j_RM_mend_5L39 X a T st v1 v2 hb hx v4 ((v1 ^^^ (1 <<< ((v4 : Int32) &&& 31))) ^^^ 182) hs hk
def F_RM_mend_5 (st : plS) (v1 : Int32) (v2 : Int32) (c : Int32 × Int32) : Bool × (Int32 × Int32) := K_RM_mend_5L st v1 v2 c.1 c.2
def G_RM_mend_5 (st : plS) (v1 : Int32) (v2 : Int32) (c : Int32 × Int32) : Prop := P_RM_mend_5L st v1 v2 c.1 c.2
def K_RM_mend_85 (st : plS) : plS := st
set_option maxRecDepth 20000 in
theorem j_RM_mend_85 {E : plE} (X : plX E b_RM_mend "ProtectedLineModel" 5 none 2 43) (a : Nat → Nat) (T : plS) (hQ : plRv E (plwR (plg E) a) T) (st : plS)  (hk : T = K_RM_mend_85 st) : plJ E 5 (plwR (plg E) a st) 0 0 [] 85 [] := by
  unfold K_RM_mend_85 at hk
  exact j_retv (pc := 85) X hQ d_RM_mend_85 hk
def K_RM_mend_5X (st : plS) (v1 : Int32) (v2 : Int32) (c : Int32 × Int32) : plS := (if 0 ≤ c.1 then K_RM_mend_85 (K_RM_enter st c.1) else K_RM_mend_85 (K_RM_hunt st))
set_option maxRecDepth 20000 in
theorem j_RM_mend_5X {E : plE} (X : plX E b_RM_mend "ProtectedLineModel" 5 none 2 43) (a : Nat → Nat) (T : plS) (hQ : plRv E (plwR (plg E) a) T) (st : plS) (v1 : Int32) (v2 : Int32) (c : Int32 × Int32) (hk : T = K_RM_mend_5X st v1 v2 c) : plJ E 5 (plwR (plg E) a st) 0 0 [(0, .ref (a 0)), (1, .int v1), (2, .int v2), (3, .int c.1), (4, .int c.2)] 69 [] := by
  unfold K_RM_mend_5X at hk
  refine j_iload_n (pc := 69) X d_RM_mend_69 rfl 3 rfl ?_
  refine j_if_ge (pc := 70) (tgt := 80) X d_RM_mend_70 rfl (fun hc => ?_) (fun hc => ?_)
  · have hk := hk.trans (if_pos hc)
    refine j_aload_n (pc := 80) X d_RM_mend_80 rfl 0 rfl ?_
    refine j_iload_n (pc := 81) X d_RM_mend_81 rfl 3 rfl ?_
    refine j_callVv (pc := 82) (As := [.int c.1]) (rest := []) X (c_RM_enter (plg E) a st c.1) ml_RM_268 0 rfl rfl ⟨Nat.le_of_ble_eq_true rfl, Nat.le_of_ble_eq_true rfl⟩ rfl rfl (Nat.le_of_ble_eq_true rfl) d_RM_mend_82 ?_
    refine j_sub [] (lv' := []) rfl ?_
    exact j_RM_mend_85 X a T hQ (K_RM_enter st c.1) hk
  · have hk := hk.trans (if_neg hc)
    refine j_aload_n (pc := 73) X d_RM_mend_73 rfl 0 rfl ?_
    refine j_callVv (pc := 74) (As := []) (rest := []) X (c_RM_hunt (plg E) a st) ml_RM_215 0 rfl rfl ⟨Nat.le_of_ble_eq_true rfl, Nat.le_of_ble_eq_true rfl⟩ rfl rfl (Nat.le_of_ble_eq_true rfl) d_RM_mend_74 ?_
    refine j_goto (pc := 77) (tgt := 85) X d_RM_mend_77 rfl ?_
    refine j_sub [] (lv' := []) rfl ?_
    exact j_RM_mend_85 X a T hQ (K_RM_hunt st) hk
def K_RM_mend (st : plS) (v1 : Int32) (v2 : Int32) : plS := K_RM_mend_5X st v1 v2 (lpR (F_RM_mend_5 st v1 v2) 64 ((-1), 0))
def P_RM_mend (st : plS) (v1 : Int32) (v2 : Int32) : Prop := lpP (G_RM_mend_5 st v1 v2) (F_RM_mend_5 st v1 v2) 64 ((-1), 0)
set_option maxRecDepth 20000 in
theorem j_RM_mend {E : plE} (X : plX E b_RM_mend "ProtectedLineModel" 5 none 2 43) (a : Nat → Nat) (T : plS) (hQ : plRv E (plwR (plg E) a) T) (st : plS) (v1 : Int32) (v2 : Int32) (hs : P_RM_mend st v1 v2) (hk : T = K_RM_mend st v1 v2) : plJ E 5 (plwR (plg E) a st) 0 0 [(0, .ref (a 0)), (1, .int v1), (2, .int v2)] 0 [] := by
  unfold P_RM_mend at hs
  unfold K_RM_mend at hk
  refine j_iconst (pc := 0) X d_RM_mend_0 ic_m1 ?_
  refine j_istore_n (pc := 1) X d_RM_mend_1 rfl (lv' := [(3, .int ((-1))), (0, .ref (a 0)), (1, .int v1), (2, .int v2)]) (Nat.le_of_ble_eq_true rfl) rfl ?_
  refine j_iconst (pc := 2) X d_RM_mend_2 ic_0 ?_
  refine j_istore (pc := 3) X d_RM_mend_3 (lv' := [(4, .int 0), (3, .int ((-1))), (0, .ref (a 0)), (1, .int v1), (2, .int v2)]) (Nat.le_of_ble_eq_true rfl) rfl ?_
  refine j_sub [2, 3, 4, 1, 0] (lv' := [(0, .ref (a 0)), (1, .int v1), (2, .int v2), (3, .int ((-1))), (4, .int 0)]) rfl ?_
  exact lpJ (G_RM_mend_5 st v1 v2) (F_RM_mend_5 st v1 v2) (fun c => plJ E 5 (plwR (plg E) a st) 0 0 [(0, .ref (a 0)), (1, .int v1), (2, .int v2), (3, .int c.1), (4, .int c.2)] 5 []) (fun c => plJ E 5 (plwR (plg E) a st) 0 0 [(0, .ref (a 0)), (1, .int v1), (2, .int v2), (3, .int c.1), (4, .int c.2)] 69 []) (fun c hp h1 h2 => j_RM_mend_5L X a (F_RM_mend_5 st v1 v2 c) st v1 v2 (fun c0 c1 => h1 (c0, c1)) (fun c0 c1 => h2 (c0, c1)) c.1 c.2 hp rfl) 64 ((-1), 0) hs (j_RM_mend_5X X a T hQ st v1 v2 (lpR (F_RM_mend_5 st v1 v2) 64 ((-1), 0)) hk)
set_option maxRecDepth 20000 in
theorem c_RM_mend (g : plG) (a : Nat → Nat) (st : plS) (v1 : Int32) (v2 : Int32) (hs : P_RM_mend st v1 v2) : plMv g y_RM_mend b_RM_mend 5 none 2 43 [.ref (a 0), .int v1, .int v2] (plwR g a) st (K_RM_mend st v1 v2) := by
  refine plMv.of (own := "ProtectedLineModel") (lv := [(0, .ref (a 0)), (1, .int v1), (2, .int v2)]) rfl rfl (Nat.le_of_ble_eq_true rfl) rfl (fun E hE X hQ => ?_)
  subst hE
  exact j_RM_mend X a _ hQ st v1 v2 hs rfl
theorem d_RM_pair_0 : decode b_RM_pair 0 = .ok (.aload_n 0, 1) := by decide +kernel
theorem d_RM_pair_1 : decode b_RM_pair 1 = .ok (.iconst (-1), 1) := by decide +kernel
theorem d_RM_pair_2 : decode b_RM_pair 2 = .ok (.putfield 78, 3) := by decide +kernel
theorem d_RM_pair_5 : decode b_RM_pair 5 = .ok (.iload_n 1, 1) := by decide +kernel
theorem d_RM_pair_6 : decode b_RM_pair 6 = .ok (.iload_n 2, 1) := by decide +kernel
theorem d_RM_pair_7 : decode b_RM_pair 7 = .ok (.invokestatic 264, 3) := by decide +kernel
theorem d_RM_pair_10 : decode b_RM_pair 10 = .ok (.ifCond .eq (37), 3) := by decide +kernel
theorem d_RM_pair_13 : decode b_RM_pair 13 = .ok (.aload_n 0, 1) := by decide +kernel
theorem d_RM_pair_14 : decode b_RM_pair 14 = .ok (.aload_n 0, 1) := by decide +kernel
theorem d_RM_pair_15 : decode b_RM_pair 15 = .ok (.getfield 252, 3) := by decide +kernel
theorem d_RM_pair_18 : decode b_RM_pair 18 = .ok (.iconst 2, 1) := by decide +kernel
theorem d_RM_pair_19 : decode b_RM_pair 19 = .ok (.if_icmp .ge (12), 3) := by decide +kernel
theorem d_RM_pair_22 : decode b_RM_pair 22 = .ok (.aload_n 0, 1) := by decide +kernel
theorem d_RM_pair_23 : decode b_RM_pair 23 = .ok (.getfield 252, 3) := by decide +kernel
theorem d_RM_pair_26 : decode b_RM_pair 26 = .ok (.iconst 1, 1) := by decide +kernel
theorem d_RM_pair_27 : decode b_RM_pair 27 = .ok (.iadd, 1) := by decide +kernel
theorem d_RM_pair_28 : decode b_RM_pair 28 = .ok (.goto (4), 3) := by decide +kernel
theorem d_RM_pair_31 : decode b_RM_pair 31 = .ok (.iconst 2, 1) := by decide +kernel
theorem d_RM_pair_32 : decode b_RM_pair 32 = .ok (.putfield 252, 3) := by decide +kernel
theorem d_RM_pair_35 : decode b_RM_pair 35 = .ok (.aload_n 0, 1) := by decide +kernel
theorem d_RM_pair_36 : decode b_RM_pair 36 = .ok (.iload_n 1, 1) := by decide +kernel
theorem d_RM_pair_37 : decode b_RM_pair 37 = .ok (.sipush (182), 3) := by decide +kernel
theorem d_RM_pair_40 : decode b_RM_pair 40 = .ok (.ixor, 1) := by decide +kernel
theorem d_RM_pair_41 : decode b_RM_pair 41 = .ok (.invokevirtual 268, 3) := by decide +kernel
theorem d_RM_pair_44 : decode b_RM_pair 44 = .ok (.goto (39), 3) := by decide +kernel
theorem d_RM_pair_47 : decode b_RM_pair 47 = .ok (.aload_n 0, 1) := by decide +kernel
theorem d_RM_pair_48 : decode b_RM_pair 48 = .ok (.getfield 252, 3) := by decide +kernel
theorem d_RM_pair_51 : decode b_RM_pair 51 = .ok (.ifCond .ne (11), 3) := by decide +kernel
theorem d_RM_pair_54 : decode b_RM_pair 54 = .ok (.aload_n 0, 1) := by decide +kernel
theorem d_RM_pair_55 : decode b_RM_pair 55 = .ok (.iload_n 2, 1) := by decide +kernel
theorem d_RM_pair_56 : decode b_RM_pair 56 = .ok (.putfield 78, 3) := by decide +kernel
theorem d_RM_pair_59 : decode b_RM_pair 59 = .ok (.goto (24), 3) := by decide +kernel
theorem d_RM_pair_62 : decode b_RM_pair 62 = .ok (.aload_n 0, 1) := by decide +kernel
theorem d_RM_pair_63 : decode b_RM_pair 63 = .ok (.getfield 252, 3) := by decide +kernel
theorem d_RM_pair_66 : decode b_RM_pair 66 = .ok (.iconst 1, 1) := by decide +kernel
theorem d_RM_pair_67 : decode b_RM_pair 67 = .ok (.if_icmp .ne (10), 3) := by decide +kernel
theorem d_RM_pair_70 : decode b_RM_pair 70 = .ok (.aload_n 0, 1) := by decide +kernel
theorem d_RM_pair_71 : decode b_RM_pair 71 = .ok (.invokevirtual 215, 3) := by decide +kernel
theorem d_RM_pair_74 : decode b_RM_pair 74 = .ok (.goto (9), 3) := by decide +kernel
theorem d_RM_pair_77 : decode b_RM_pair 77 = .ok (.aload_n 0, 1) := by decide +kernel
theorem d_RM_pair_78 : decode b_RM_pair 78 = .ok (.iload_n 1, 1) := by decide +kernel
theorem d_RM_pair_79 : decode b_RM_pair 79 = .ok (.iload_n 2, 1) := by decide +kernel
theorem d_RM_pair_80 : decode b_RM_pair 80 = .ok (.invokevirtual 271, 3) := by decide +kernel
theorem d_RM_pair_83 : decode b_RM_pair 83 = .ok (.return_, 1) := by decide +kernel
def K_RM_pair_83 (st : plS) : plS := st
set_option maxRecDepth 20000 in
theorem j_RM_pair_83 {E : plE} (X : plX E b_RM_pair "ProtectedLineModel" 3 none 3 67) (a : Nat → Nat) (T : plS) (hQ : plRv E (plwR (plg E) a) T) (st : plS)  (hk : T = K_RM_pair_83 st) : plJ E 3 (plwR (plg E) a st) 0 0 [] 83 [] := by
  unfold K_RM_pair_83 at hk
  exact j_retv (pc := 83) X hQ d_RM_pair_83 hk
def K_RM_pair_35 (st : plS) (v1 : Int32) : plS := K_RM_pair_83 (K_RM_enter st (v1 ^^^ 182))
set_option maxRecDepth 20000 in
theorem j_RM_pair_35 {E : plE} (X : plX E b_RM_pair "ProtectedLineModel" 3 none 3 67) (a : Nat → Nat) (T : plS) (hQ : plRv E (plwR (plg E) a) T) (st : plS) (v1 : Int32) (hk : T = K_RM_pair_35 st v1) : plJ E 3 (plwR (plg E) a st) 0 0 [(0, .ref (a 0)), (1, .int v1)] 35 [] := by
  unfold K_RM_pair_35 at hk
  refine j_aload_n (pc := 35) X d_RM_pair_35 rfl 0 rfl ?_
  refine j_iload_n (pc := 36) X d_RM_pair_36 rfl 1 rfl ?_
  refine j_sipush (pc := 37) X d_RM_pair_37 sp_182 ?_
  refine j_ixor (pc := 40) X d_RM_pair_40 ?_
  refine j_callVv (pc := 41) (As := [.int (v1 ^^^ 182)]) (rest := []) X (c_RM_enter (plg E) a st (v1 ^^^ 182)) ml_RM_268 0 rfl rfl ⟨Nat.le_of_ble_eq_true rfl, Nat.le_of_ble_eq_true rfl⟩ rfl rfl (Nat.le_of_ble_eq_true rfl) d_RM_pair_41 ?_
  refine j_goto (pc := 44) (tgt := 83) X d_RM_pair_44 rfl ?_
  refine j_sub [] (lv' := []) rfl ?_
  exact j_RM_pair_83 X a T hQ (K_RM_enter st (v1 ^^^ 182)) hk
def K_RM_pair_32 (st : plS) (v1 : Int32) (k0 : Int32) : plS := K_RM_pair_35 (plUp st 0 49 k0) v1
set_option maxRecDepth 20000 in
theorem j_RM_pair_32 {E : plE} (X : plX E b_RM_pair "ProtectedLineModel" 3 none 3 67) (a : Nat → Nat) (T : plS) (hQ : plRv E (plwR (plg E) a) T) (st : plS) (v1 : Int32) (k0 : Int32) (hk : T = K_RM_pair_32 st v1 k0) : plJ E 3 (plwR (plg E) a st) 0 0 [(0, .ref (a 0)), (1, .int v1)] 32 [.int k0, .ref (a 0)] := by
  unfold K_RM_pair_32 at hk
  refine put_RM_sync (pc := 32) X fl_RM_252 d_RM_pair_32 ?_
  exact j_RM_pair_35 X a T hQ (plUp st 0 49 k0) v1 hk
def K_RM_pair_5 (st : plS) (v1 : Int32) (v2 : Int32) : plS := (if (K_RM_header v1 v2) = 0 then (if (st 0 49) = 0 then K_RM_pair_83 (plUp st 0 50 v2) else (if (st 0 49) = 1 then K_RM_pair_83 (K_RM_hunt st) else K_RM_pair_83 (K_RM_mend st v1 v2))) else (if 2 ≤ (st 0 49) then K_RM_pair_32 st v1 2 else K_RM_pair_32 st v1 ((st 0 49) + 1)))
def P_RM_pair_5 (st : plS) (v1 : Int32) (v2 : Int32) : Prop := (P_RM_header v1 v2 ∧ ((K_RM_header v1 v2) = 0 → (¬ (st 0 49) = 0 → (¬ (st 0 49) = 1 → P_RM_mend st v1 v2))))
set_option maxRecDepth 20000 in
theorem j_RM_pair_5 {E : plE} (X : plX E b_RM_pair "ProtectedLineModel" 3 none 3 67) (a : Nat → Nat) (T : plS) (hQ : plRv E (plwR (plg E) a) T) (st : plS) (v1 : Int32) (v2 : Int32) (hs : P_RM_pair_5 st v1 v2) (hk : T = K_RM_pair_5 st v1 v2) : plJ E 3 (plwR (plg E) a st) 0 0 [(0, .ref (a 0)), (1, .int v1), (2, .int v2)] 5 [] := by
  unfold P_RM_pair_5 at hs
  unfold K_RM_pair_5 at hk
  refine j_iload_n (pc := 5) X d_RM_pair_5 rfl 1 rfl ?_
  refine j_iload_n (pc := 6) X d_RM_pair_6 rfl 2 rfl ?_
  refine j_callSp (pc := 7) (As := [.int v1, .int v2]) (rest := []) X (c_RM_header (plg E) a st v1 v2 hs.1) ml_RM_264 ⟨Nat.le_of_ble_eq_true rfl, Nat.le_of_ble_eq_true rfl⟩ rfl rfl (Nat.le_of_ble_eq_true rfl) d_RM_pair_7 ?_
  have hs := hs.2
  refine j_if_eq (pc := 10) (tgt := 47) X d_RM_pair_10 rfl (fun hc => ?_) (fun hc => ?_)
  · have hk := hk.trans (if_pos hc)
    have hs := hs hc
    refine j_aload_n (pc := 47) X d_RM_pair_47 rfl 0 rfl ?_
    refine get_RM_sync (pc := 48) X fl_RM_252 d_RM_pair_48 ?_
    refine j_if_ne (pc := 51) (tgt := 62) X d_RM_pair_51 rfl (fun hc => ?_) (fun hc => ?_)
    · have hk := hk.trans (if_neg hc)
      have hs := hs hc
      refine j_aload_n (pc := 62) X d_RM_pair_62 rfl 0 rfl ?_
      refine get_RM_sync (pc := 63) X fl_RM_252 d_RM_pair_63 ?_
      refine j_iconst (pc := 66) X d_RM_pair_66 ic_1 ?_
      refine j_icmp_ne (pc := 67) (tgt := 77) X d_RM_pair_67 rfl (fun hc => ?_) (fun hc => ?_)
      · have hk := hk.trans (if_neg hc)
        have hs := hs hc
        refine j_aload_n (pc := 77) X d_RM_pair_77 rfl 0 rfl ?_
        refine j_iload_n (pc := 78) X d_RM_pair_78 rfl 1 rfl ?_
        refine j_iload_n (pc := 79) X d_RM_pair_79 rfl 2 rfl ?_
        refine j_callVv (pc := 80) (As := [.int v1, .int v2]) (rest := []) X (c_RM_mend (plg E) a st v1 v2 hs) ml_RM_271 0 rfl rfl ⟨Nat.le_of_ble_eq_true rfl, Nat.le_of_ble_eq_true rfl⟩ rfl rfl (Nat.le_of_ble_eq_true rfl) d_RM_pair_80 ?_
        refine j_sub [] (lv' := []) rfl ?_
        exact j_RM_pair_83 X a T hQ (K_RM_mend st v1 v2) hk
      · have hk := hk.trans (if_pos hc)
        refine j_aload_n (pc := 70) X d_RM_pair_70 rfl 0 rfl ?_
        refine j_callVv (pc := 71) (As := []) (rest := []) X (c_RM_hunt (plg E) a st) ml_RM_215 0 rfl rfl ⟨Nat.le_of_ble_eq_true rfl, Nat.le_of_ble_eq_true rfl⟩ rfl rfl (Nat.le_of_ble_eq_true rfl) d_RM_pair_71 ?_
        refine j_goto (pc := 74) (tgt := 83) X d_RM_pair_74 rfl ?_
        refine j_sub [] (lv' := []) rfl ?_
        exact j_RM_pair_83 X a T hQ (K_RM_hunt st) hk
    · have hk := hk.trans (if_pos hc)
      refine j_aload_n (pc := 54) X d_RM_pair_54 rfl 0 rfl ?_
      refine j_iload_n (pc := 55) X d_RM_pair_55 rfl 2 rfl ?_
      refine put_RM_first (pc := 56) X fl_RM_78 d_RM_pair_56 ?_
      refine j_goto (pc := 59) (tgt := 83) X d_RM_pair_59 rfl ?_
      refine j_sub [] (lv' := []) rfl ?_
      exact j_RM_pair_83 X a T hQ (plUp st 0 50 v2) hk
  · have hk := hk.trans (if_neg hc)
    refine j_aload_n (pc := 13) X d_RM_pair_13 rfl 0 rfl ?_
    refine j_aload_n (pc := 14) X d_RM_pair_14 rfl 0 rfl ?_
    refine get_RM_sync (pc := 15) X fl_RM_252 d_RM_pair_15 ?_
    refine j_iconst (pc := 18) X d_RM_pair_18 ic_2 ?_
    refine j_icmp_ge (pc := 19) (tgt := 31) X d_RM_pair_19 rfl (fun hc => ?_) (fun hc => ?_)
    · have hk := hk.trans (if_pos hc)
      refine j_iconst (pc := 31) X d_RM_pair_31 ic_2 ?_
      refine j_sub [0, 1] (lv' := [(0, .ref (a 0)), (1, .int v1)]) rfl ?_
      exact j_RM_pair_32 X a T hQ st v1 2 hk
    · have hk := hk.trans (if_neg hc)
      refine j_aload_n (pc := 22) X d_RM_pair_22 rfl 0 rfl ?_
      refine get_RM_sync (pc := 23) X fl_RM_252 d_RM_pair_23 ?_
      refine j_iconst (pc := 26) X d_RM_pair_26 ic_1 ?_
      refine j_iadd (pc := 27) X d_RM_pair_27 ?_
      refine j_goto (pc := 28) (tgt := 32) X d_RM_pair_28 rfl ?_
      refine j_sub [0, 1] (lv' := [(0, .ref (a 0)), (1, .int v1)]) rfl ?_
      exact j_RM_pair_32 X a T hQ st v1 ((st 0 49) + 1) hk
def K_RM_pair (st : plS) (v1 : Int32) (v2 : Int32) : plS := K_RM_pair_5 (plUp st 0 50 ((-1))) v1 v2
def P_RM_pair (st : plS) (v1 : Int32) (v2 : Int32) : Prop := P_RM_pair_5 (plUp st 0 50 ((-1))) v1 v2
set_option maxRecDepth 20000 in
theorem j_RM_pair {E : plE} (X : plX E b_RM_pair "ProtectedLineModel" 3 none 3 67) (a : Nat → Nat) (T : plS) (hQ : plRv E (plwR (plg E) a) T) (st : plS) (v1 : Int32) (v2 : Int32) (hs : P_RM_pair st v1 v2) (hk : T = K_RM_pair st v1 v2) : plJ E 3 (plwR (plg E) a st) 0 0 [(0, .ref (a 0)), (1, .int v1), (2, .int v2)] 0 [] := by
  unfold P_RM_pair at hs
  unfold K_RM_pair at hk
  refine j_aload_n (pc := 0) X d_RM_pair_0 rfl 0 rfl ?_
  refine j_iconst (pc := 1) X d_RM_pair_1 ic_m1 ?_
  refine put_RM_first (pc := 2) X fl_RM_78 d_RM_pair_2 ?_
  exact j_RM_pair_5 X a T hQ (plUp st 0 50 ((-1))) v1 v2 hs hk
set_option maxRecDepth 20000 in
theorem c_RM_pair (g : plG) (a : Nat → Nat) (st : plS) (v1 : Int32) (v2 : Int32) (hs : P_RM_pair st v1 v2) : plMv g y_RM_pair b_RM_pair 3 none 3 67 [.ref (a 0), .int v1, .int v2] (plwR g a) st (K_RM_pair st v1 v2) := by
  refine plMv.of (own := "ProtectedLineModel") (lv := [(0, .ref (a 0)), (1, .int v1), (2, .int v2)]) rfl rfl (Nat.le_of_ble_eq_true rfl) rfl (fun E hE X hQ => ?_)
  subst hE
  exact j_RM_pair X a _ hQ st v1 v2 hs rfl
