theorem d_PR_doubt_0 : decode b_PR_doubt 0 = .ok (.aload_n 0, 1) := by decide +kernel
theorem d_PR_doubt_1 : decode b_PR_doubt 1 = .ok (.dup, 1) := by decide +kernel
theorem d_PR_doubt_2 : decode b_PR_doubt 2 = .ok (.getfield 83, 3) := by decide +kernel
theorem d_PR_doubt_5 : decode b_PR_doubt 5 = .ok (.iconst 1, 1) := by decide +kernel
theorem d_PR_doubt_6 : decode b_PR_doubt 6 = .ok (.iadd, 1) := by decide +kernel
theorem d_PR_doubt_7 : decode b_PR_doubt 7 = .ok (.putfield 83, 3) := by decide +kernel
theorem d_PR_doubt_10 : decode b_PR_doubt 10 = .ok (.aload_n 0, 1) := by decide +kernel
theorem d_PR_doubt_11 : decode b_PR_doubt 11 = .ok (.iload_n 1, 1) := by decide +kernel
theorem d_PR_doubt_12 : decode b_PR_doubt 12 = .ok (.invokevirtual 77, 3) := by decide +kernel
theorem d_PR_doubt_15 : decode b_PR_doubt 15 = .ok (.aload_n 0, 1) := by decide +kernel
theorem d_PR_doubt_16 : decode b_PR_doubt 16 = .ok (.getfield 22, 3) := by decide +kernel
theorem d_PR_doubt_19 : decode b_PR_doubt 19 = .ok (.iconst 3, 1) := by decide +kernel
theorem d_PR_doubt_20 : decode b_PR_doubt 20 = .ok (.if_icmp .ne (23), 3) := by decide +kernel
theorem d_PR_doubt_23 : decode b_PR_doubt 23 = .ok (.aload_n 0, 1) := by decide +kernel
theorem d_PR_doubt_24 : decode b_PR_doubt 24 = .ok (.aload_n 0, 1) := by decide +kernel
theorem d_PR_doubt_25 : decode b_PR_doubt 25 = .ok (.getfield 80, 3) := by decide +kernel
theorem d_PR_doubt_28 : decode b_PR_doubt 28 = .ok (.putfield 11, 3) := by decide +kernel
theorem d_PR_doubt_31 : decode b_PR_doubt 31 = .ok (.aload_n 0, 1) := by decide +kernel
theorem d_PR_doubt_32 : decode b_PR_doubt 32 = .ok (.iconst 0, 1) := by decide +kernel
theorem d_PR_doubt_33 : decode b_PR_doubt 33 = .ok (.putfield 47, 3) := by decide +kernel
theorem d_PR_doubt_36 : decode b_PR_doubt 36 = .ok (.aload_n 0, 1) := by decide +kernel
theorem d_PR_doubt_37 : decode b_PR_doubt 37 = .ok (.invokevirtual 25, 3) := by decide +kernel
theorem d_PR_doubt_40 : decode b_PR_doubt 40 = .ok (.goto (21), 3) := by decide +kernel
theorem d_PR_doubt_43 : decode b_PR_doubt 43 = .ok (.aload_n 0, 1) := by decide +kernel
theorem d_PR_doubt_44 : decode b_PR_doubt 44 = .ok (.getfield 83, 3) := by decide +kernel
theorem d_PR_doubt_47 : decode b_PR_doubt 47 = .ok (.bipush (8), 2) := by decide +kernel
theorem d_PR_doubt_49 : decode b_PR_doubt 49 = .ok (.if_icmp .ne (12), 3) := by decide +kernel
theorem d_PR_doubt_52 : decode b_PR_doubt 52 = .ok (.aload_n 0, 1) := by decide +kernel
theorem d_PR_doubt_53 : decode b_PR_doubt 53 = .ok (.iconst (-1), 1) := by decide +kernel
theorem d_PR_doubt_54 : decode b_PR_doubt 54 = .ok (.putfield 11, 3) := by decide +kernel
theorem d_PR_doubt_57 : decode b_PR_doubt 57 = .ok (.aload_n 0, 1) := by decide +kernel
theorem d_PR_doubt_58 : decode b_PR_doubt 58 = .ok (.invokevirtual 25, 3) := by decide +kernel
theorem d_PR_doubt_61 : decode b_PR_doubt 61 = .ok (.return_, 1) := by decide +kernel
def K_PR_doubt_61 (st : plS) : plS := st
set_option maxRecDepth 20000 in
theorem j_PR_doubt_61 {E : plE} (X : plX E b_PR_doubt "ProtectedLine$PointerReader" 2 none 3 63) (a : Nat → Nat) (T : plS) (hQ : plRv E (plwC (plg E) a) T) (st : plS)  (hk : T = K_PR_doubt_61 st) : plJ E 2 (plwC (plg E) a st) 0 0 [] 61 [] := by
  unfold K_PR_doubt_61 at hk
  exact j_retv (pc := 61) X hQ d_PR_doubt_61 hk
def K_PR_doubt_57 (st : plS) : plS := K_PR_doubt_61 (K_PR_endRows st)
set_option maxRecDepth 20000 in
theorem j_PR_doubt_57 {E : plE} (X : plX E b_PR_doubt "ProtectedLine$PointerReader" 2 none 3 63) (a : Nat → Nat) (T : plS) (hQ : plRv E (plwC (plg E) a) T) (st : plS)  (hk : T = K_PR_doubt_57 st) : plJ E 2 (plwC (plg E) a st) 0 0 [(0, .ref (a 25))] 57 [] := by
  unfold K_PR_doubt_57 at hk
  refine j_aload_n (pc := 57) X d_PR_doubt_57 rfl 0 rfl ?_
  refine j_callVv (pc := 58) (As := []) (rest := []) X (c_PR_endRows (plg E) a st) ml_PR_25 25 rfl rfl ⟨Nat.le_of_ble_eq_true rfl, Nat.le_of_ble_eq_true rfl⟩ rfl rfl (Nat.le_of_ble_eq_true rfl) d_PR_doubt_58 ?_
  refine j_sub [] (lv' := []) rfl ?_
  exact j_PR_doubt_61 X a T hQ (K_PR_endRows st) hk
def K_PR_doubt_36 (st : plS) : plS := K_PR_doubt_61 (K_PR_endRows st)
set_option maxRecDepth 20000 in
theorem j_PR_doubt_36 {E : plE} (X : plX E b_PR_doubt "ProtectedLine$PointerReader" 2 none 3 63) (a : Nat → Nat) (T : plS) (hQ : plRv E (plwC (plg E) a) T) (st : plS)  (hk : T = K_PR_doubt_36 st) : plJ E 2 (plwC (plg E) a st) 0 0 [(0, .ref (a 25))] 36 [] := by
  unfold K_PR_doubt_36 at hk
  refine j_aload_n (pc := 36) X d_PR_doubt_36 rfl 0 rfl ?_
  refine j_callVv (pc := 37) (As := []) (rest := []) X (c_PR_endRows (plg E) a st) ml_PR_25 25 rfl rfl ⟨Nat.le_of_ble_eq_true rfl, Nat.le_of_ble_eq_true rfl⟩ rfl rfl (Nat.le_of_ble_eq_true rfl) d_PR_doubt_37 ?_
  refine j_goto (pc := 40) (tgt := 61) X d_PR_doubt_40 rfl ?_
  refine j_sub [] (lv' := []) rfl ?_
  exact j_PR_doubt_61 X a T hQ (K_PR_endRows st) hk
def K_PR_doubt_31 (st : plS) : plS := K_PR_doubt_36 (plUp st 25 6 0)
set_option maxRecDepth 20000 in
theorem j_PR_doubt_31 {E : plE} (X : plX E b_PR_doubt "ProtectedLine$PointerReader" 2 none 3 63) (a : Nat → Nat) (T : plS) (hQ : plRv E (plwC (plg E) a) T) (st : plS)  (hk : T = K_PR_doubt_31 st) : plJ E 2 (plwC (plg E) a st) 0 0 [(0, .ref (a 25))] 31 [] := by
  unfold K_PR_doubt_31 at hk
  refine j_aload_n (pc := 31) X d_PR_doubt_31 rfl 0 rfl ?_
  refine j_iconst (pc := 32) X d_PR_doubt_32 ic_0 ?_
  refine put_PR_sinceFirst (pc := 33) X fl_PR_47 d_PR_doubt_33 ?_
  exact j_PR_doubt_36 X a T hQ (plUp st 25 6 0) hk
def K_PR_doubt_15 (st : plS) : plS := (if (st 25 3) = 3 then K_PR_doubt_31 (plUp st 25 1 (st 25 4)) else (if (st 25 5) = 8 then K_PR_doubt_57 (plUp st 25 1 ((-1))) else K_PR_doubt_61 st))
set_option maxRecDepth 20000 in
theorem j_PR_doubt_15 {E : plE} (X : plX E b_PR_doubt "ProtectedLine$PointerReader" 2 none 3 63) (a : Nat → Nat) (T : plS) (hQ : plRv E (plwC (plg E) a) T) (st : plS)  (hk : T = K_PR_doubt_15 st) : plJ E 2 (plwC (plg E) a st) 0 0 [(0, .ref (a 25))] 15 [] := by
  unfold K_PR_doubt_15 at hk
  refine j_aload_n (pc := 15) X d_PR_doubt_15 rfl 0 rfl ?_
  refine get_PR_plainRow (pc := 16) X fl_PR_22 d_PR_doubt_16 ?_
  refine j_iconst (pc := 19) X d_PR_doubt_19 ic_3 ?_
  refine j_icmp_ne (pc := 20) (tgt := 43) X d_PR_doubt_20 rfl (fun hc => ?_) (fun hc => ?_)
  · have hk := hk.trans (if_neg hc)
    refine j_aload_n (pc := 43) X d_PR_doubt_43 rfl 0 rfl ?_
    refine get_PR_strangeRow (pc := 44) X fl_PR_83 d_PR_doubt_44 ?_
    refine j_bipush (pc := 47) X d_PR_doubt_47 bp_8 ?_
    refine j_icmp_ne (pc := 49) (tgt := 61) X d_PR_doubt_49 rfl (fun hc => ?_) (fun hc => ?_)
    · have hk := hk.trans (if_neg hc)
      refine j_sub [] (lv' := []) rfl ?_
      exact j_PR_doubt_61 X a T hQ st hk
    · have hk := hk.trans (if_pos hc)
      refine j_aload_n (pc := 52) X d_PR_doubt_52 rfl 0 rfl ?_
      refine j_iconst (pc := 53) X d_PR_doubt_53 ic_m1 ?_
      refine put_PR_v (pc := 54) X fl_PR_11 d_PR_doubt_54 ?_
      exact j_PR_doubt_57 X a T hQ (plUp st 25 1 ((-1))) hk
  · have hk := hk.trans (if_pos hc)
    refine j_aload_n (pc := 23) X d_PR_doubt_23 rfl 0 rfl ?_
    refine j_aload_n (pc := 24) X d_PR_doubt_24 rfl 0 rfl ?_
    refine get_PR_plainQ (pc := 25) X fl_PR_80 d_PR_doubt_25 ?_
    refine put_PR_v (pc := 28) X fl_PR_11 d_PR_doubt_28 ?_
    exact j_PR_doubt_31 X a T hQ (plUp st 25 1 (st 25 4)) hk
def K_PR_doubt_10 (st : plS) (v1 : Int32) : plS := K_PR_doubt_15 (K_PR_countPlain st v1)
set_option maxRecDepth 20000 in
theorem j_PR_doubt_10 {E : plE} (X : plX E b_PR_doubt "ProtectedLine$PointerReader" 2 none 3 63) (a : Nat → Nat) (T : plS) (hQ : plRv E (plwC (plg E) a) T) (st : plS) (v1 : Int32) (hk : T = K_PR_doubt_10 st v1) : plJ E 2 (plwC (plg E) a st) 0 0 [(0, .ref (a 25)), (1, .int v1)] 10 [] := by
  unfold K_PR_doubt_10 at hk
  refine j_aload_n (pc := 10) X d_PR_doubt_10 rfl 0 rfl ?_
  refine j_iload_n (pc := 11) X d_PR_doubt_11 rfl 1 rfl ?_
  refine j_callVv (pc := 12) (As := [.int v1]) (rest := []) X (c_PR_countPlain (plg E) a st v1) ml_PR_77 25 rfl rfl ⟨Nat.le_of_ble_eq_true rfl, Nat.le_of_ble_eq_true rfl⟩ rfl rfl (Nat.le_of_ble_eq_true rfl) d_PR_doubt_12 ?_
  refine j_sub [0] (lv' := [(0, .ref (a 25))]) rfl ?_
  exact j_PR_doubt_15 X a T hQ (K_PR_countPlain st v1) hk
def K_PR_doubt (st : plS) (v1 : Int32) : plS := K_PR_doubt_10 (plUp st 25 5 ((st 25 5) + 1)) v1
set_option maxRecDepth 20000 in
theorem j_PR_doubt {E : plE} (X : plX E b_PR_doubt "ProtectedLine$PointerReader" 2 none 3 63) (a : Nat → Nat) (T : plS) (hQ : plRv E (plwC (plg E) a) T) (st : plS) (v1 : Int32) (hk : T = K_PR_doubt st v1) : plJ E 2 (plwC (plg E) a st) 0 0 [(0, .ref (a 25)), (1, .int v1)] 0 [] := by
  unfold K_PR_doubt at hk
  refine j_aload_n (pc := 0) X d_PR_doubt_0 rfl 0 rfl ?_
  refine j_dup (pc := 1) X d_PR_doubt_1 rfl ?_
  refine get_PR_strangeRow (pc := 2) X fl_PR_83 d_PR_doubt_2 ?_
  refine j_iconst (pc := 5) X d_PR_doubt_5 ic_1 ?_
  refine j_iadd (pc := 6) X d_PR_doubt_6 ?_
  refine put_PR_strangeRow (pc := 7) X fl_PR_83 d_PR_doubt_7 ?_
  exact j_PR_doubt_10 X a T hQ (plUp st 25 5 ((st 25 5) + 1)) v1 hk
set_option maxRecDepth 20000 in
theorem c_PR_doubt (g : plG) (a : Nat → Nat) (st : plS) (v1 : Int32) : plMv g y_PR_doubt b_PR_doubt 2 none 3 63 [.ref (a 25), .int v1] (plwC g a) st (K_PR_doubt st v1) := by
  refine plMv.of (own := "ProtectedLine$PointerReader") (lv := [(0, .ref (a 25)), (1, .int v1)]) rfl rfl (Nat.le_of_ble_eq_true rfl) rfl (fun E hE X hQ => ?_)
  subst hE
  exact j_PR_doubt X a _ hQ st v1 rfl
theorem d_PR_seek_0 : decode b_PR_seek 0 = .ok (.aload_n 0, 1) := by decide +kernel
theorem d_PR_seek_1 : decode b_PR_seek 1 = .ok (.iload_n 1, 1) := by decide +kernel
theorem d_PR_seek_2 : decode b_PR_seek 2 = .ok (.invokevirtual 77, 3) := by decide +kernel
theorem d_PR_seek_5 : decode b_PR_seek 5 = .ok (.aload_n 0, 1) := by decide +kernel
theorem d_PR_seek_6 : decode b_PR_seek 6 = .ok (.getfield 22, 3) := by decide +kernel
theorem d_PR_seek_9 : decode b_PR_seek 9 = .ok (.iconst 3, 1) := by decide +kernel
theorem d_PR_seek_10 : decode b_PR_seek 10 = .ok (.if_icmp .ne (15), 3) := by decide +kernel
theorem d_PR_seek_13 : decode b_PR_seek 13 = .ok (.aload_n 0, 1) := by decide +kernel
theorem d_PR_seek_14 : decode b_PR_seek 14 = .ok (.aload_n 0, 1) := by decide +kernel
theorem d_PR_seek_15 : decode b_PR_seek 15 = .ok (.getfield 80, 3) := by decide +kernel
theorem d_PR_seek_18 : decode b_PR_seek 18 = .ok (.putfield 11, 3) := by decide +kernel
theorem d_PR_seek_21 : decode b_PR_seek 21 = .ok (.aload_n 0, 1) := by decide +kernel
theorem d_PR_seek_22 : decode b_PR_seek 22 = .ok (.invokevirtual 25, 3) := by decide +kernel
theorem d_PR_seek_25 : decode b_PR_seek 25 = .ok (.return_, 1) := by decide +kernel
def K_PR_seek_25 (st : plS) : plS := st
set_option maxRecDepth 20000 in
theorem j_PR_seek_25 {E : plE} (X : plX E b_PR_seek "ProtectedLine$PointerReader" 2 none 3 63) (a : Nat → Nat) (T : plS) (hQ : plRv E (plwC (plg E) a) T) (st : plS)  (hk : T = K_PR_seek_25 st) : plJ E 2 (plwC (plg E) a st) 0 0 [] 25 [] := by
  unfold K_PR_seek_25 at hk
  exact j_retv (pc := 25) X hQ d_PR_seek_25 hk
def K_PR_seek_21 (st : plS) : plS := K_PR_seek_25 (K_PR_endRows st)
set_option maxRecDepth 20000 in
theorem j_PR_seek_21 {E : plE} (X : plX E b_PR_seek "ProtectedLine$PointerReader" 2 none 3 63) (a : Nat → Nat) (T : plS) (hQ : plRv E (plwC (plg E) a) T) (st : plS)  (hk : T = K_PR_seek_21 st) : plJ E 2 (plwC (plg E) a st) 0 0 [(0, .ref (a 25))] 21 [] := by
  unfold K_PR_seek_21 at hk
  refine j_aload_n (pc := 21) X d_PR_seek_21 rfl 0 rfl ?_
  refine j_callVv (pc := 22) (As := []) (rest := []) X (c_PR_endRows (plg E) a st) ml_PR_25 25 rfl rfl ⟨Nat.le_of_ble_eq_true rfl, Nat.le_of_ble_eq_true rfl⟩ rfl rfl (Nat.le_of_ble_eq_true rfl) d_PR_seek_22 ?_
  refine j_sub [] (lv' := []) rfl ?_
  exact j_PR_seek_25 X a T hQ (K_PR_endRows st) hk
def K_PR_seek_5 (st : plS) : plS := (if (st 25 3) = 3 then K_PR_seek_21 (plUp st 25 1 (st 25 4)) else K_PR_seek_25 st)
set_option maxRecDepth 20000 in
theorem j_PR_seek_5 {E : plE} (X : plX E b_PR_seek "ProtectedLine$PointerReader" 2 none 3 63) (a : Nat → Nat) (T : plS) (hQ : plRv E (plwC (plg E) a) T) (st : plS)  (hk : T = K_PR_seek_5 st) : plJ E 2 (plwC (plg E) a st) 0 0 [(0, .ref (a 25))] 5 [] := by
  unfold K_PR_seek_5 at hk
  refine j_aload_n (pc := 5) X d_PR_seek_5 rfl 0 rfl ?_
  refine get_PR_plainRow (pc := 6) X fl_PR_22 d_PR_seek_6 ?_
  refine j_iconst (pc := 9) X d_PR_seek_9 ic_3 ?_
  refine j_icmp_ne (pc := 10) (tgt := 25) X d_PR_seek_10 rfl (fun hc => ?_) (fun hc => ?_)
  · have hk := hk.trans (if_neg hc)
    refine j_sub [] (lv' := []) rfl ?_
    exact j_PR_seek_25 X a T hQ st hk
  · have hk := hk.trans (if_pos hc)
    refine j_aload_n (pc := 13) X d_PR_seek_13 rfl 0 rfl ?_
    refine j_aload_n (pc := 14) X d_PR_seek_14 rfl 0 rfl ?_
    refine get_PR_plainQ (pc := 15) X fl_PR_80 d_PR_seek_15 ?_
    refine put_PR_v (pc := 18) X fl_PR_11 d_PR_seek_18 ?_
    exact j_PR_seek_21 X a T hQ (plUp st 25 1 (st 25 4)) hk
def K_PR_seek (st : plS) (v1 : Int32) : plS := K_PR_seek_5 (K_PR_countPlain st v1)
set_option maxRecDepth 20000 in
theorem j_PR_seek {E : plE} (X : plX E b_PR_seek "ProtectedLine$PointerReader" 2 none 3 63) (a : Nat → Nat) (T : plS) (hQ : plRv E (plwC (plg E) a) T) (st : plS) (v1 : Int32) (hk : T = K_PR_seek st v1) : plJ E 2 (plwC (plg E) a st) 0 0 [(0, .ref (a 25)), (1, .int v1)] 0 [] := by
  unfold K_PR_seek at hk
  refine j_aload_n (pc := 0) X d_PR_seek_0 rfl 0 rfl ?_
  refine j_iload_n (pc := 1) X d_PR_seek_1 rfl 1 rfl ?_
  refine j_callVv (pc := 2) (As := [.int v1]) (rest := []) X (c_PR_countPlain (plg E) a st v1) ml_PR_77 25 rfl rfl ⟨Nat.le_of_ble_eq_true rfl, Nat.le_of_ble_eq_true rfl⟩ rfl rfl (Nat.le_of_ble_eq_true rfl) d_PR_seek_2 ?_
  refine j_sub [0] (lv' := [(0, .ref (a 25))]) rfl ?_
  exact j_PR_seek_5 X a T hQ (K_PR_countPlain st v1) hk
set_option maxRecDepth 20000 in
theorem c_PR_seek (g : plG) (a : Nat → Nat) (st : plS) (v1 : Int32) : plMv g y_PR_seek b_PR_seek 2 none 3 63 [.ref (a 25), .int v1] (plwC g a) st (K_PR_seek st v1) := by
  refine plMv.of (own := "ProtectedLine$PointerReader") (lv := [(0, .ref (a 25)), (1, .int v1)]) rfl rfl (Nat.le_of_ble_eq_true rfl) rfl (fun E hE X hQ => ?_)
  subst hE
  exact j_PR_seek X a _ hQ st v1 rfl
theorem d_PR_follow_0 : decode b_PR_follow 0 = .ok (.aload_n 0, 1) := by decide +kernel
theorem d_PR_follow_1 : decode b_PR_follow 1 = .ok (.getfield 11, 3) := by decide +kernel
theorem d_PR_follow_4 : decode b_PR_follow 4 = .ok (.iconst (-1), 1) := by decide +kernel
theorem d_PR_follow_5 : decode b_PR_follow 5 = .ok (.if_icmp .ne (10), 3) := by decide +kernel
theorem d_PR_follow_8 : decode b_PR_follow 8 = .ok (.aload_n 0, 1) := by decide +kernel
theorem d_PR_follow_9 : decode b_PR_follow 9 = .ok (.iload_n 1, 1) := by decide +kernel
theorem d_PR_follow_10 : decode b_PR_follow 10 = .ok (.invokevirtual 63, 3) := by decide +kernel
theorem d_PR_follow_13 : decode b_PR_follow 13 = .ok (.iconst 0, 1) := by decide +kernel
theorem d_PR_follow_14 : decode b_PR_follow 14 = .ok (.ireturn, 1) := by decide +kernel
theorem d_PR_follow_15 : decode b_PR_follow 15 = .ok (.aload_n 0, 1) := by decide +kernel
theorem d_PR_follow_16 : decode b_PR_follow 16 = .ok (.iload_n 1, 1) := by decide +kernel
theorem d_PR_follow_17 : decode b_PR_follow 17 = .ok (.invokevirtual 66, 3) := by decide +kernel
theorem d_PR_follow_20 : decode b_PR_follow 20 = .ok (.istore_n 2, 1) := by decide +kernel
theorem d_PR_follow_21 : decode b_PR_follow 21 = .ok (.iload_n 2, 1) := by decide +kernel
theorem d_PR_follow_22 : decode b_PR_follow 22 = .ok (.ifCond .ne (14), 3) := by decide +kernel
theorem d_PR_follow_25 : decode b_PR_follow 25 = .ok (.iload_n 1, 1) := by decide +kernel
theorem d_PR_follow_26 : decode b_PR_follow 26 = .ok (.aload_n 0, 1) := by decide +kernel
theorem d_PR_follow_27 : decode b_PR_follow 27 = .ok (.getfield 11, 3) := by decide +kernel
theorem d_PR_follow_30 : decode b_PR_follow 30 = .ok (.invokestatic 69, 3) := by decide +kernel
theorem d_PR_follow_33 : decode b_PR_follow 33 = .ok (.if_icmp .ne (10), 3) := by decide +kernel
theorem d_PR_follow_36 : decode b_PR_follow 36 = .ok (.aload_n 0, 1) := by decide +kernel
theorem d_PR_follow_37 : decode b_PR_follow 37 = .ok (.invokevirtual 25, 3) := by decide +kernel
theorem d_PR_follow_40 : decode b_PR_follow 40 = .ok (.goto (8), 3) := by decide +kernel
theorem d_PR_follow_43 : decode b_PR_follow 43 = .ok (.aload_n 0, 1) := by decide +kernel
theorem d_PR_follow_44 : decode b_PR_follow 44 = .ok (.iload_n 1, 1) := by decide +kernel
theorem d_PR_follow_45 : decode b_PR_follow 45 = .ok (.invokevirtual 74, 3) := by decide +kernel
theorem d_PR_follow_48 : decode b_PR_follow 48 = .ok (.iload_n 2, 1) := by decide +kernel
theorem d_PR_follow_49 : decode b_PR_follow 49 = .ok (.ireturn, 1) := by decide +kernel
def K_PR_follow_48 (st : plS) (v2 : Int32) : Int32 × plS := (v2, st)
set_option maxRecDepth 20000 in
theorem j_PR_follow_48 {E : plE} (X : plX E b_PR_follow "ProtectedLine$PointerReader" 3 (some .int) 4 84) (a : Nat → Nat) (T : Int32 × plS) (hQ : plRi E (plwC (plg E) a) T) (st : plS) (v2 : Int32) (hk : T = K_PR_follow_48 st v2) : plJ E 3 (plwC (plg E) a st) 0 0 [(2, .int v2)] 48 [] := by
  unfold K_PR_follow_48 at hk
  refine j_iload_n (pc := 48) X d_PR_follow_48 rfl 0 rfl ?_
  exact j_reti (pc := 49) X hQ d_PR_follow_49 hk
def K_PR_follow_36 (st : plS) (v2 : Int32) : Int32 × plS := K_PR_follow_48 (K_PR_endRows st) v2
set_option maxRecDepth 20000 in
theorem j_PR_follow_36 {E : plE} (X : plX E b_PR_follow "ProtectedLine$PointerReader" 3 (some .int) 4 84) (a : Nat → Nat) (T : Int32 × plS) (hQ : plRi E (plwC (plg E) a) T) (st : plS) (v2 : Int32) (hk : T = K_PR_follow_36 st v2) : plJ E 3 (plwC (plg E) a st) 0 0 [(0, .ref (a 25)), (2, .int v2)] 36 [] := by
  unfold K_PR_follow_36 at hk
  refine j_aload_n (pc := 36) X d_PR_follow_36 rfl 0 rfl ?_
  refine j_callVv (pc := 37) (As := []) (rest := []) X (c_PR_endRows (plg E) a st) ml_PR_25 25 rfl rfl ⟨Nat.le_of_ble_eq_true rfl, Nat.le_of_ble_eq_true rfl⟩ rfl rfl (Nat.le_of_ble_eq_true rfl) d_PR_follow_37 ?_
  refine j_goto (pc := 40) (tgt := 48) X d_PR_follow_40 rfl ?_
  refine j_sub [1] (lv' := [(2, .int v2)]) rfl ?_
  exact j_PR_follow_48 X a T hQ (K_PR_endRows st) v2 hk
def K_PR_follow (st : plS) (v1 : Int32) : Int32 × plS := (if (st 25 1) = ((-1)) then (0, K_PR_seek st v1) else (if (K_PR_shiftIn st v1) = 0 then (if v1 = (K_CO_pointerByte (st 25 1)) then K_PR_follow_36 st (K_PR_shiftIn st v1) else K_PR_follow_48 (K_PR_doubt st v1) (K_PR_shiftIn st v1)) else K_PR_follow_36 st (K_PR_shiftIn st v1)))
set_option maxRecDepth 20000 in
theorem j_PR_follow {E : plE} (X : plX E b_PR_follow "ProtectedLine$PointerReader" 3 (some .int) 4 84) (a : Nat → Nat) (T : Int32 × plS) (hQ : plRi E (plwC (plg E) a) T) (st : plS) (v1 : Int32) (hk : T = K_PR_follow st v1) : plJ E 3 (plwC (plg E) a st) 0 0 [(0, .ref (a 25)), (1, .int v1)] 0 [] := by
  unfold K_PR_follow at hk
  refine j_aload_n (pc := 0) X d_PR_follow_0 rfl 0 rfl ?_
  refine get_PR_v (pc := 1) X fl_PR_11 d_PR_follow_1 ?_
  refine j_iconst (pc := 4) X d_PR_follow_4 ic_m1 ?_
  refine j_icmp_ne (pc := 5) (tgt := 15) X d_PR_follow_5 rfl (fun hc => ?_) (fun hc => ?_)
  · have hk := hk.trans (if_neg hc)
    refine j_aload_n (pc := 15) X d_PR_follow_15 rfl 0 rfl ?_
    refine j_iload_n (pc := 16) X d_PR_follow_16 rfl 1 rfl ?_
    refine j_callVp (pc := 17) (As := [.int v1]) (rest := []) X (c_PR_shiftIn (plg E) a st v1) ml_PR_66 25 rfl rfl ⟨Nat.le_of_ble_eq_true rfl, Nat.le_of_ble_eq_true rfl⟩ rfl rfl (Nat.le_of_ble_eq_true rfl) d_PR_follow_17 ?_
    refine j_istore_n (pc := 20) X d_PR_follow_20 rfl (lv' := [(2, .int (K_PR_shiftIn st v1)), (0, .ref (a 25)), (1, .int v1)]) (Nat.le_of_ble_eq_true rfl) rfl ?_
    refine j_iload_n (pc := 21) X d_PR_follow_21 rfl 0 rfl ?_
    refine j_if_ne (pc := 22) (tgt := 36) X d_PR_follow_22 rfl (fun hc => ?_) (fun hc => ?_)
    · have hk := hk.trans (if_neg hc)
      refine j_sub [1, 0] (lv' := [(0, .ref (a 25)), (2, .int (K_PR_shiftIn st v1))]) rfl ?_
      exact j_PR_follow_36 X a T hQ st (K_PR_shiftIn st v1) hk
    · have hk := hk.trans (if_pos hc)
      refine j_iload_n (pc := 25) X d_PR_follow_25 rfl 2 rfl ?_
      refine j_aload_n (pc := 26) X d_PR_follow_26 rfl 1 rfl ?_
      refine get_PR_v (pc := 27) X fl_PR_11 d_PR_follow_27 ?_
      refine j_callSp (pc := 30) (As := [.int (st 25 1)]) (rest := [.int v1]) X (c_CO_pointerByte (plg E) a st (st 25 1)) ml_PR_69 ⟨Nat.le_of_ble_eq_true rfl, Nat.le_of_ble_eq_true rfl⟩ rfl rfl (Nat.le_of_ble_eq_true rfl) d_PR_follow_30 ?_
      refine j_icmp_ne (pc := 33) (tgt := 43) X d_PR_follow_33 rfl (fun hc => ?_) (fun hc => ?_)
      · have hk := hk.trans (if_neg hc)
        refine j_aload_n (pc := 43) X d_PR_follow_43 rfl 1 rfl ?_
        refine j_iload_n (pc := 44) X d_PR_follow_44 rfl 2 rfl ?_
        refine j_callVv (pc := 45) (As := [.int v1]) (rest := []) X (c_PR_doubt (plg E) a st v1) ml_PR_74 25 rfl rfl ⟨Nat.le_of_ble_eq_true rfl, Nat.le_of_ble_eq_true rfl⟩ rfl rfl (Nat.le_of_ble_eq_true rfl) d_PR_follow_45 ?_
        refine j_sub [0] (lv' := [(2, .int (K_PR_shiftIn st v1))]) rfl ?_
        exact j_PR_follow_48 X a T hQ (K_PR_doubt st v1) (K_PR_shiftIn st v1) hk
      · have hk := hk.trans (if_pos hc)
        refine j_sub [1, 0] (lv' := [(0, .ref (a 25)), (2, .int (K_PR_shiftIn st v1))]) rfl ?_
        exact j_PR_follow_36 X a T hQ st (K_PR_shiftIn st v1) hk
  · have hk := hk.trans (if_pos hc)
    refine j_aload_n (pc := 8) X d_PR_follow_8 rfl 0 rfl ?_
    refine j_iload_n (pc := 9) X d_PR_follow_9 rfl 1 rfl ?_
    refine j_callVv (pc := 10) (As := [.int v1]) (rest := []) X (c_PR_seek (plg E) a st v1) ml_PR_63 25 rfl rfl ⟨Nat.le_of_ble_eq_true rfl, Nat.le_of_ble_eq_true rfl⟩ rfl rfl (Nat.le_of_ble_eq_true rfl) d_PR_follow_10 ?_
    refine j_iconst (pc := 13) X d_PR_follow_13 ic_0 ?_
    exact j_reti (pc := 14) X hQ d_PR_follow_14 hk
set_option maxRecDepth 20000 in
theorem c_PR_follow (g : plG) (a : Nat → Nat) (st : plS) (v1 : Int32) : plMi g y_PR_follow b_PR_follow 3 (some .int) 4 84 [.ref (a 25), .int v1] (plwC g a) st (K_PR_follow st v1) := by
  refine plMi.of (own := "ProtectedLine$PointerReader") (lv := [(0, .ref (a 25)), (1, .int v1)]) rfl rfl (Nat.le_of_ble_eq_true rfl) rfl (fun E hE X hQ => ?_)
  subst hE
  exact j_PR_follow X a _ hQ st v1 rfl
theorem d_CO_lengthIn_0 : decode b_CO_lengthIn 0 = .ok (.iload_n 0, 1) := by decide +kernel
theorem d_CO_lengthIn_1 : decode b_CO_lengthIn 1 = .ok (.sipush (182), 3) := by decide +kernel
theorem d_CO_lengthIn_4 : decode b_CO_lengthIn 4 = .ok (.ixor, 1) := by decide +kernel
theorem d_CO_lengthIn_5 : decode b_CO_lengthIn 5 = .ok (.istore_n 2, 1) := by decide +kernel
theorem d_CO_lengthIn_6 : decode b_CO_lengthIn 6 = .ok (.iload_n 2, 1) := by decide +kernel
theorem d_CO_lengthIn_7 : decode b_CO_lengthIn 7 = .ok (.invokestatic 11, 3) := by decide +kernel
theorem d_CO_lengthIn_10 : decode b_CO_lengthIn 10 = .ok (.iload_n 1, 1) := by decide +kernel
theorem d_CO_lengthIn_11 : decode b_CO_lengthIn 11 = .ok (.sipush (171), 3) := by decide +kernel
theorem d_CO_lengthIn_14 : decode b_CO_lengthIn 14 = .ok (.ixor, 1) := by decide +kernel
theorem d_CO_lengthIn_15 : decode b_CO_lengthIn 15 = .ok (.if_icmp .ne (7), 3) := by decide +kernel
theorem d_CO_lengthIn_18 : decode b_CO_lengthIn 18 = .ok (.iload_n 2, 1) := by decide +kernel
theorem d_CO_lengthIn_19 : decode b_CO_lengthIn 19 = .ok (.goto (4), 3) := by decide +kernel
theorem d_CO_lengthIn_22 : decode b_CO_lengthIn 22 = .ok (.iconst (-1), 1) := by decide +kernel
theorem d_CO_lengthIn_23 : decode b_CO_lengthIn 23 = .ok (.ireturn, 1) := by decide +kernel
def K_CO_lengthIn_23 (k0 : Int32) : Int32 := k0
set_option maxRecDepth 20000 in
theorem j_CO_lengthIn_23 {E : plE} (X : plX E b_CO_lengthIn "ProtectedLine$Code" 3 (some .int) 1 22) (a : Nat → Nat) (T : Int32) (st : plS) (hQ : plRp E (plwC (plg E) a) st T) (k0 : Int32) (hk : T = K_CO_lengthIn_23 k0) : plJ E 3 (plwC (plg E) a st) 0 0 [] 23 [.int k0] := by
  unfold K_CO_lengthIn_23 at hk
  exact j_retip (pc := 23) X hQ d_CO_lengthIn_23 hk
def K_CO_lengthIn (v0 : Int32) (v1 : Int32) : Int32 := (if (K_CO_hash (v0 ^^^ 182)) = (v1 ^^^ 171) then K_CO_lengthIn_23 (v0 ^^^ 182) else K_CO_lengthIn_23 ((-1)))
def P_CO_lengthIn (v0 : Int32) (v1 : Int32) : Prop := P_CO_hash (v0 ^^^ 182)
set_option maxRecDepth 20000 in
theorem j_CO_lengthIn {E : plE} (X : plX E b_CO_lengthIn "ProtectedLine$Code" 3 (some .int) 1 22) (a : Nat → Nat) (T : Int32) (st : plS) (hQ : plRp E (plwC (plg E) a) st T) (v0 : Int32) (v1 : Int32) (hs : P_CO_lengthIn v0 v1) (hk : T = K_CO_lengthIn v0 v1) : plJ E 3 (plwC (plg E) a st) 0 0 [(0, .int v0), (1, .int v1)] 0 [] := by
  unfold P_CO_lengthIn at hs
  unfold K_CO_lengthIn at hk
  refine j_iload_n (pc := 0) X d_CO_lengthIn_0 rfl 0 rfl ?_
  refine j_sipush (pc := 1) X d_CO_lengthIn_1 sp_182 ?_
  refine j_ixor (pc := 4) X d_CO_lengthIn_4 ?_
  refine j_istore_n (pc := 5) X d_CO_lengthIn_5 rfl (lv' := [(2, .int (v0 ^^^ 182)), (0, .int v0), (1, .int v1)]) (Nat.le_of_ble_eq_true rfl) rfl ?_
  refine j_iload_n (pc := 6) X d_CO_lengthIn_6 rfl 0 rfl ?_
  refine j_callSp (pc := 7) (As := [.int (v0 ^^^ 182)]) (rest := []) X (c_CO_hash (plg E) a st (v0 ^^^ 182) hs) ml_CO_11 ⟨Nat.le_of_ble_eq_true rfl, Nat.le_of_ble_eq_true rfl⟩ rfl rfl (Nat.le_of_ble_eq_true rfl) d_CO_lengthIn_7 ?_
  refine j_iload_n (pc := 10) X d_CO_lengthIn_10 rfl 2 rfl ?_
  refine j_sipush (pc := 11) X d_CO_lengthIn_11 sp_171 ?_
  refine j_ixor (pc := 14) X d_CO_lengthIn_14 ?_
  refine j_icmp_ne (pc := 15) (tgt := 22) X d_CO_lengthIn_15 rfl (fun hc => ?_) (fun hc => ?_)
  · have hk := hk.trans (if_neg hc)
    refine j_iconst (pc := 22) X d_CO_lengthIn_22 ic_m1 ?_
    refine j_sub [] (lv' := []) rfl ?_
    exact j_CO_lengthIn_23 X a T st hQ ((-1)) hk
  · have hk := hk.trans (if_pos hc)
    refine j_iload_n (pc := 18) X d_CO_lengthIn_18 rfl 0 rfl ?_
    refine j_goto (pc := 19) (tgt := 23) X d_CO_lengthIn_19 rfl ?_
    refine j_sub [] (lv' := []) rfl ?_
    exact j_CO_lengthIn_23 X a T st hQ (v0 ^^^ 182) hk
set_option maxRecDepth 20000 in
theorem c_CO_lengthIn (g : plG) (a : Nat → Nat) (st : plS) (v0 : Int32) (v1 : Int32) (hs : P_CO_lengthIn v0 v1) : plMp g y_CO_lengthIn b_CO_lengthIn 3 (some .int) 1 22 [.int v0, .int v1] (plwC g a) st (K_CO_lengthIn v0 v1) := by
  refine plMp.of (own := "ProtectedLine$Code") (lv := [(0, .int v0), (1, .int v1)]) rfl rfl (Nat.le_of_ble_eq_true rfl) rfl (fun E hE X hQ => ?_)
  subst hE
  exact j_CO_lengthIn X a _ st hQ v0 v1 hs rfl
theorem d_CO_lengthRepaired_0 : decode b_CO_lengthRepaired 0 = .ok (.iload_n 0, 1) := by decide +kernel
theorem d_CO_lengthRepaired_1 : decode b_CO_lengthRepaired 1 = .ok (.sipush (182), 3) := by decide +kernel
theorem d_CO_lengthRepaired_4 : decode b_CO_lengthRepaired 4 = .ok (.ixor, 1) := by decide +kernel
theorem d_CO_lengthRepaired_5 : decode b_CO_lengthRepaired 5 = .ok (.istore_n 2, 1) := by decide +kernel
theorem d_CO_lengthRepaired_6 : decode b_CO_lengthRepaired 6 = .ok (.iload_n 1, 1) := by decide +kernel
theorem d_CO_lengthRepaired_7 : decode b_CO_lengthRepaired 7 = .ok (.sipush (171), 3) := by decide +kernel
theorem d_CO_lengthRepaired_10 : decode b_CO_lengthRepaired 10 = .ok (.ixor, 1) := by decide +kernel
theorem d_CO_lengthRepaired_11 : decode b_CO_lengthRepaired 11 = .ok (.istore_n 3, 1) := by decide +kernel
theorem d_CO_lengthRepaired_12 : decode b_CO_lengthRepaired 12 = .ok (.iload_n 2, 1) := by decide +kernel
theorem d_CO_lengthRepaired_13 : decode b_CO_lengthRepaired 13 = .ok (.invokestatic 11, 3) := by decide +kernel
theorem d_CO_lengthRepaired_16 : decode b_CO_lengthRepaired 16 = .ok (.iload_n 3, 1) := by decide +kernel
theorem d_CO_lengthRepaired_17 : decode b_CO_lengthRepaired 17 = .ok (.ixor, 1) := by decide +kernel
theorem d_CO_lengthRepaired_18 : decode b_CO_lengthRepaired 18 = .ok (.invokestatic 15, 3) := by decide +kernel
theorem d_CO_lengthRepaired_21 : decode b_CO_lengthRepaired 21 = .ok (.iconst 1, 1) := by decide +kernel
theorem d_CO_lengthRepaired_22 : decode b_CO_lengthRepaired 22 = .ok (.if_icmp .gt (5), 3) := by decide +kernel
theorem d_CO_lengthRepaired_25 : decode b_CO_lengthRepaired 25 = .ok (.iload_n 2, 1) := by decide +kernel
theorem d_CO_lengthRepaired_26 : decode b_CO_lengthRepaired 26 = .ok (.ireturn, 1) := by decide +kernel
theorem d_CO_lengthRepaired_27 : decode b_CO_lengthRepaired 27 = .ok (.iconst 0, 1) := by decide +kernel
theorem d_CO_lengthRepaired_28 : decode b_CO_lengthRepaired 28 = .ok (.istore 4, 2) := by decide +kernel
theorem d_CO_lengthRepaired_30 : decode b_CO_lengthRepaired 30 = .ok (.iload 4, 2) := by decide +kernel
theorem d_CO_lengthRepaired_32 : decode b_CO_lengthRepaired 32 = .ok (.bipush (8), 2) := by decide +kernel
theorem d_CO_lengthRepaired_34 : decode b_CO_lengthRepaired 34 = .ok (.if_icmp .ge (29), 3) := by decide +kernel
theorem d_CO_lengthRepaired_37 : decode b_CO_lengthRepaired 37 = .ok (.iload_n 2, 1) := by decide +kernel
theorem d_CO_lengthRepaired_38 : decode b_CO_lengthRepaired 38 = .ok (.iconst 1, 1) := by decide +kernel
theorem d_CO_lengthRepaired_39 : decode b_CO_lengthRepaired 39 = .ok (.iload 4, 2) := by decide +kernel
theorem d_CO_lengthRepaired_41 : decode b_CO_lengthRepaired 41 = .ok (.ishl, 1) := by decide +kernel
theorem d_CO_lengthRepaired_42 : decode b_CO_lengthRepaired 42 = .ok (.ixor, 1) := by decide +kernel
theorem d_CO_lengthRepaired_43 : decode b_CO_lengthRepaired 43 = .ok (.istore 5, 2) := by decide +kernel
theorem d_CO_lengthRepaired_45 : decode b_CO_lengthRepaired 45 = .ok (.iload 5, 2) := by decide +kernel
theorem d_CO_lengthRepaired_47 : decode b_CO_lengthRepaired 47 = .ok (.invokestatic 11, 3) := by decide +kernel
theorem d_CO_lengthRepaired_50 : decode b_CO_lengthRepaired 50 = .ok (.iload_n 3, 1) := by decide +kernel
theorem d_CO_lengthRepaired_51 : decode b_CO_lengthRepaired 51 = .ok (.if_icmp .ne (6), 3) := by decide +kernel
theorem d_CO_lengthRepaired_54 : decode b_CO_lengthRepaired 54 = .ok (.iload 5, 2) := by decide +kernel
theorem d_CO_lengthRepaired_56 : decode b_CO_lengthRepaired 56 = .ok (.ireturn, 1) := by decide +kernel
theorem d_CO_lengthRepaired_57 : decode b_CO_lengthRepaired 57 = .ok (.iinc 4 (1), 3) := by decide +kernel
theorem d_CO_lengthRepaired_60 : decode b_CO_lengthRepaired 60 = .ok (.goto (-30), 3) := by decide +kernel
theorem d_CO_lengthRepaired_63 : decode b_CO_lengthRepaired 63 = .ok (.iconst (-1), 1) := by decide +kernel
theorem d_CO_lengthRepaired_64 : decode b_CO_lengthRepaired 64 = .ok (.ireturn, 1) := by decide +kernel
def K_CO_lengthRepaired_30 : Nat → Int32 → Int32 → Int32 → Int32
  | 0, _, _, _ => 0
  | n + 1, v2, v3, v4 => (if 8 ≤ v4 then (-1) else (if (K_CO_hash (v2 ^^^ (1 <<< ((v4 : Int32) &&& 31)))) = v3 then v2 ^^^ (1 <<< ((v4 : Int32) &&& 31)) else K_CO_lengthRepaired_30 n v2 v3 (v4 + 1)))
def P_CO_lengthRepaired_30 : Nat → Int32 → Int32 → Int32 → Prop
  | 0, _, _, _ => False
  | n + 1, v2, v3, v4 => (¬ 8 ≤ v4 → (P_CO_hash (v2 ^^^ (1 <<< ((v4 : Int32) &&& 31))) ∧ (¬ (K_CO_hash (v2 ^^^ (1 <<< ((v4 : Int32) &&& 31)))) = v3 → P_CO_lengthRepaired_30 n v2 v3 (v4 + 1))))
set_option maxRecDepth 20000 in
theorem j_CO_lengthRepaired_30 {E : plE} (X : plX E b_CO_lengthRepaired "ProtectedLine$Code" 6 (some .int) 1 22) (a : Nat → Nat) (T : Int32) (st : plS) (hQ : plRp E (plwC (plg E) a) st T) (n : Nat) : ∀ (v2 : Int32) (v3 : Int32) (v4 : Int32), P_CO_lengthRepaired_30 n v2 v3 v4 → T = K_CO_lengthRepaired_30 n v2 v3 v4 → plJ E 6 (plwC (plg E) a st) 0 0 [(2, .int v2), (3, .int v3), (4, .int v4)] 30 [] := by
  induction n with
  | zero => intro v2 v3 v4 hs _; exact False.elim hs
  | succ n ih =>
    intro v2 v3 v4 hs hk
    unfold P_CO_lengthRepaired_30 at hs
    unfold K_CO_lengthRepaired_30 at hk
    refine j_iload (pc := 30) X d_CO_lengthRepaired_30 2 rfl ?_
    refine j_bipush (pc := 32) X d_CO_lengthRepaired_32 bp_8 ?_
    refine j_icmp_ge (pc := 34) (tgt := 63) X d_CO_lengthRepaired_34 rfl (fun hc => ?_) (fun hc => ?_)
    · have hk := hk.trans (if_pos hc)
      refine j_iconst (pc := 63) X d_CO_lengthRepaired_63 ic_m1 ?_
      exact j_retip (pc := 64) X hQ d_CO_lengthRepaired_64 hk
    · have hk := hk.trans (if_neg hc)
      have hs := hs hc
      refine j_iload_n (pc := 37) X d_CO_lengthRepaired_37 rfl 0 rfl ?_
      refine j_iconst (pc := 38) X d_CO_lengthRepaired_38 ic_1 ?_
      refine j_iload (pc := 39) X d_CO_lengthRepaired_39 2 rfl ?_
      refine j_ishl (pc := 41) X d_CO_lengthRepaired_41 ?_
      refine j_ixor (pc := 42) X d_CO_lengthRepaired_42 ?_
      refine j_istore (pc := 43) X d_CO_lengthRepaired_43 (lv' := [(5, .int (v2 ^^^ (1 <<< ((v4 : Int32) &&& 31)))), (2, .int v2), (3, .int v3), (4, .int v4)]) (Nat.le_of_ble_eq_true rfl) rfl ?_
      refine j_iload (pc := 45) X d_CO_lengthRepaired_45 0 rfl ?_
      refine j_callSp (pc := 47) (As := [.int (v2 ^^^ (1 <<< ((v4 : Int32) &&& 31)))]) (rest := []) X (c_CO_hash (plg E) a st (v2 ^^^ (1 <<< ((v4 : Int32) &&& 31))) hs.1) ml_CO_11 ⟨Nat.le_of_ble_eq_true rfl, Nat.le_of_ble_eq_true rfl⟩ rfl rfl (Nat.le_of_ble_eq_true rfl) d_CO_lengthRepaired_47 ?_
      have hs := hs.2
      refine j_iload_n (pc := 50) X d_CO_lengthRepaired_50 rfl 2 rfl ?_
      refine j_icmp_ne (pc := 51) (tgt := 57) X d_CO_lengthRepaired_51 rfl (fun hc => ?_) (fun hc => ?_)
      · have hk := hk.trans (if_neg hc)
        have hs := hs hc
        refine j_iinc (pc := 57) X d_CO_lengthRepaired_57 3 rfl ic_1 (lv' := [(4, .int (v4 + 1)), (5, .int (v2 ^^^ (1 <<< ((v4 : Int32) &&& 31)))), (2, .int v2), (3, .int v3)]) (Nat.le_of_ble_eq_true rfl) rfl ?_
        refine j_goto (pc := 60) (tgt := 30) X d_CO_lengthRepaired_60 rfl ?_
        refine j_sub [2, 3, 0] (lv' := [(2, .int v2), (3, .int v3), (4, .int (v4 + 1))]) rfl ?_
        exact ih v2 v3 (v4 + 1) hs hk
      · have hk := hk.trans (if_pos hc)
        refine j_iload (pc := 54) X d_CO_lengthRepaired_54 0 rfl ?_
        exact j_retip (pc := 56) X hQ d_CO_lengthRepaired_56 hk
def K_CO_lengthRepaired (v0 : Int32) (v1 : Int32) : Int32 := (if 1 < (K_JI_bitCount ((K_CO_hash (v0 ^^^ 182)) ^^^ (v1 ^^^ 171))) then K_CO_lengthRepaired_30 64 (v0 ^^^ 182) (v1 ^^^ 171) 0 else v0 ^^^ 182)
def P_CO_lengthRepaired (v0 : Int32) (v1 : Int32) : Prop := (P_CO_hash (v0 ^^^ 182) ∧ (1 < (K_JI_bitCount ((K_CO_hash (v0 ^^^ 182)) ^^^ (v1 ^^^ 171))) → P_CO_lengthRepaired_30 64 (v0 ^^^ 182) (v1 ^^^ 171) 0))
set_option maxRecDepth 20000 in
theorem j_CO_lengthRepaired {E : plE} (X : plX E b_CO_lengthRepaired "ProtectedLine$Code" 6 (some .int) 1 22) (a : Nat → Nat) (T : Int32) (st : plS) (hQ : plRp E (plwC (plg E) a) st T) (v0 : Int32) (v1 : Int32) (hs : P_CO_lengthRepaired v0 v1) (hk : T = K_CO_lengthRepaired v0 v1) : plJ E 6 (plwC (plg E) a st) 0 0 [(0, .int v0), (1, .int v1)] 0 [] := by
  unfold P_CO_lengthRepaired at hs
  unfold K_CO_lengthRepaired at hk
  refine j_iload_n (pc := 0) X d_CO_lengthRepaired_0 rfl 0 rfl ?_
  refine j_sipush (pc := 1) X d_CO_lengthRepaired_1 sp_182 ?_
  refine j_ixor (pc := 4) X d_CO_lengthRepaired_4 ?_
  refine j_istore_n (pc := 5) X d_CO_lengthRepaired_5 rfl (lv' := [(2, .int (v0 ^^^ 182)), (0, .int v0), (1, .int v1)]) (Nat.le_of_ble_eq_true rfl) rfl ?_
  refine j_iload_n (pc := 6) X d_CO_lengthRepaired_6 rfl 2 rfl ?_
  refine j_sipush (pc := 7) X d_CO_lengthRepaired_7 sp_171 ?_
  refine j_ixor (pc := 10) X d_CO_lengthRepaired_10 ?_
  refine j_istore_n (pc := 11) X d_CO_lengthRepaired_11 rfl (lv' := [(3, .int (v1 ^^^ 171)), (2, .int (v0 ^^^ 182)), (0, .int v0), (1, .int v1)]) (Nat.le_of_ble_eq_true rfl) rfl ?_
  refine j_iload_n (pc := 12) X d_CO_lengthRepaired_12 rfl 1 rfl ?_
  refine j_callSp (pc := 13) (As := [.int (v0 ^^^ 182)]) (rest := []) X (c_CO_hash (plg E) a st (v0 ^^^ 182) hs.1) ml_CO_11 ⟨Nat.le_of_ble_eq_true rfl, Nat.le_of_ble_eq_true rfl⟩ rfl rfl (Nat.le_of_ble_eq_true rfl) d_CO_lengthRepaired_13 ?_
  have hs := hs.2
  refine j_iload_n (pc := 16) X d_CO_lengthRepaired_16 rfl 0 rfl ?_
  refine j_ixor (pc := 17) X d_CO_lengthRepaired_17 ?_
  refine j_callSp (pc := 18) (As := [.int ((K_CO_hash (v0 ^^^ 182)) ^^^ (v1 ^^^ 171))]) (rest := []) X (c_JI_bitCount (plg E) a st ((K_CO_hash (v0 ^^^ 182)) ^^^ (v1 ^^^ 171))) ml_CO_15 ⟨Nat.le_of_ble_eq_true rfl, Nat.le_of_ble_eq_true rfl⟩ rfl rfl (Nat.le_of_ble_eq_true rfl) d_CO_lengthRepaired_18 ?_
  refine j_iconst (pc := 21) X d_CO_lengthRepaired_21 ic_1 ?_
  refine j_icmp_gt (pc := 22) (tgt := 27) X d_CO_lengthRepaired_22 rfl (fun hc => ?_) (fun hc => ?_)
  · have hk := hk.trans (if_pos hc)
    have hs := hs hc
    refine j_iconst (pc := 27) X d_CO_lengthRepaired_27 ic_0 ?_
    refine j_istore (pc := 28) X d_CO_lengthRepaired_28 (lv' := [(4, .int 0), (3, .int (v1 ^^^ 171)), (2, .int (v0 ^^^ 182)), (0, .int v0), (1, .int v1)]) (Nat.le_of_ble_eq_true rfl) rfl ?_
    refine j_sub [2, 1, 0] (lv' := [(2, .int (v0 ^^^ 182)), (3, .int (v1 ^^^ 171)), (4, .int 0)]) rfl ?_
    exact j_CO_lengthRepaired_30 X a T st hQ 64 (v0 ^^^ 182) (v1 ^^^ 171) 0 hs hk
  · have hk := hk.trans (if_neg hc)
    refine j_iload_n (pc := 25) X d_CO_lengthRepaired_25 rfl 1 rfl ?_
    exact j_retip (pc := 26) X hQ d_CO_lengthRepaired_26 hk
set_option maxRecDepth 20000 in
theorem c_CO_lengthRepaired (g : plG) (a : Nat → Nat) (st : plS) (v0 : Int32) (v1 : Int32) (hs : P_CO_lengthRepaired v0 v1) : plMp g y_CO_lengthRepaired b_CO_lengthRepaired 6 (some .int) 1 22 [.int v0, .int v1] (plwC g a) st (K_CO_lengthRepaired v0 v1) := by
  refine plMp.of (own := "ProtectedLine$Code") (lv := [(0, .int v0), (1, .int v1)]) rfl rfl (Nat.le_of_ble_eq_true rfl) rfl (fun E hE X hQ => ?_)
  subst hE
  exact j_CO_lengthRepaired X a _ st hQ v0 v1 hs rfl
theorem d_SR_takeHeader_0 : decode b_SR_takeHeader 0 = .ok (.aload_n 0, 1) := by decide +kernel
theorem d_SR_takeHeader_1 : decode b_SR_takeHeader 1 = .ok (.getfield 11, 3) := by decide +kernel
theorem d_SR_takeHeader_4 : decode b_SR_takeHeader 4 = .ok (.iconst 2, 1) := by decide +kernel
theorem d_SR_takeHeader_5 : decode b_SR_takeHeader 5 = .ok (.if_icmp .ne (7), 3) := by decide +kernel
theorem d_SR_takeHeader_8 : decode b_SR_takeHeader 8 = .ok (.iconst 1, 1) := by decide +kernel
theorem d_SR_takeHeader_9 : decode b_SR_takeHeader 9 = .ok (.goto (4), 3) := by decide +kernel
theorem d_SR_takeHeader_12 : decode b_SR_takeHeader 12 = .ok (.iconst 0, 1) := by decide +kernel
theorem d_SR_takeHeader_13 : decode b_SR_takeHeader 13 = .ok (.istore_n 2, 1) := by decide +kernel
theorem d_SR_takeHeader_14 : decode b_SR_takeHeader 14 = .ok (.iload_n 2, 1) := by decide +kernel
theorem d_SR_takeHeader_15 : decode b_SR_takeHeader 15 = .ok (.ifCond .eq (14), 3) := by decide +kernel
theorem d_SR_takeHeader_18 : decode b_SR_takeHeader 18 = .ok (.aload_n 0, 1) := by decide +kernel
theorem d_SR_takeHeader_19 : decode b_SR_takeHeader 19 = .ok (.getfield 44, 3) := by decide +kernel
theorem d_SR_takeHeader_22 : decode b_SR_takeHeader 22 = .ok (.iload_n 1, 1) := by decide +kernel
theorem d_SR_takeHeader_23 : decode b_SR_takeHeader 23 = .ok (.invokestatic 47, 3) := by decide +kernel
theorem d_SR_takeHeader_26 : decode b_SR_takeHeader 26 = .ok (.goto (11), 3) := by decide +kernel
theorem d_SR_takeHeader_29 : decode b_SR_takeHeader 29 = .ok (.aload_n 0, 1) := by decide +kernel
theorem d_SR_takeHeader_30 : decode b_SR_takeHeader 30 = .ok (.getfield 44, 3) := by decide +kernel
theorem d_SR_takeHeader_33 : decode b_SR_takeHeader 33 = .ok (.iload_n 1, 1) := by decide +kernel
theorem d_SR_takeHeader_34 : decode b_SR_takeHeader 34 = .ok (.invokestatic 51, 3) := by decide +kernel
theorem d_SR_takeHeader_37 : decode b_SR_takeHeader 37 = .ok (.istore_n 3, 1) := by decide +kernel
theorem d_SR_takeHeader_38 : decode b_SR_takeHeader 38 = .ok (.iload_n 3, 1) := by decide +kernel
theorem d_SR_takeHeader_39 : decode b_SR_takeHeader 39 = .ok (.iconst (-1), 1) := by decide +kernel
theorem d_SR_takeHeader_40 : decode b_SR_takeHeader 40 = .ok (.if_icmp .eq (44), 3) := by decide +kernel
theorem d_SR_takeHeader_43 : decode b_SR_takeHeader 43 = .ok (.aload_n 0, 1) := by decide +kernel
theorem d_SR_takeHeader_44 : decode b_SR_takeHeader 44 = .ok (.aload_n 0, 1) := by decide +kernel
theorem d_SR_takeHeader_45 : decode b_SR_takeHeader 45 = .ok (.getfield 11, 3) := by decide +kernel
theorem d_SR_takeHeader_48 : decode b_SR_takeHeader 48 = .ok (.ifCond .ne (7), 3) := by decide +kernel
theorem d_SR_takeHeader_51 : decode b_SR_takeHeader 51 = .ok (.iconst 1, 1) := by decide +kernel
theorem d_SR_takeHeader_52 : decode b_SR_takeHeader 52 = .ok (.goto (4), 3) := by decide +kernel
theorem d_SR_takeHeader_55 : decode b_SR_takeHeader 55 = .ok (.iconst 2, 1) := by decide +kernel
theorem d_SR_takeHeader_56 : decode b_SR_takeHeader 56 = .ok (.putfield 11, 3) := by decide +kernel
theorem d_SR_takeHeader_59 : decode b_SR_takeHeader 59 = .ok (.aload_n 0, 1) := by decide +kernel
theorem d_SR_takeHeader_60 : decode b_SR_takeHeader 60 = .ok (.iconst 0, 1) := by decide +kernel
theorem d_SR_takeHeader_61 : decode b_SR_takeHeader 61 = .ok (.putfield 27, 3) := by decide +kernel
theorem d_SR_takeHeader_64 : decode b_SR_takeHeader 64 = .ok (.aload_n 0, 1) := by decide +kernel
theorem d_SR_takeHeader_65 : decode b_SR_takeHeader 65 = .ok (.iload_n 3, 1) := by decide +kernel
theorem d_SR_takeHeader_66 : decode b_SR_takeHeader 66 = .ok (.putfield 31, 3) := by decide +kernel
theorem d_SR_takeHeader_69 : decode b_SR_takeHeader 69 = .ok (.aload_n 0, 1) := by decide +kernel
theorem d_SR_takeHeader_70 : decode b_SR_takeHeader 70 = .ok (.iconst 0, 1) := by decide +kernel
theorem d_SR_takeHeader_71 : decode b_SR_takeHeader 71 = .ok (.putfield 34, 3) := by decide +kernel
theorem d_SR_takeHeader_74 : decode b_SR_takeHeader 74 = .ok (.aload_n 0, 1) := by decide +kernel
theorem d_SR_takeHeader_75 : decode b_SR_takeHeader 75 = .ok (.sipush (255), 3) := by decide +kernel
theorem d_SR_takeHeader_78 : decode b_SR_takeHeader 78 = .ok (.putfield 54, 3) := by decide +kernel
theorem d_SR_takeHeader_81 : decode b_SR_takeHeader 81 = .ok (.goto (22), 3) := by decide +kernel
theorem d_SR_takeHeader_84 : decode b_SR_takeHeader 84 = .ok (.aload_n 0, 1) := by decide +kernel
theorem d_SR_takeHeader_85 : decode b_SR_takeHeader 85 = .ok (.getfield 11, 3) := by decide +kernel
theorem d_SR_takeHeader_88 : decode b_SR_takeHeader 88 = .ok (.ifCond .ne (11), 3) := by decide +kernel
theorem d_SR_takeHeader_91 : decode b_SR_takeHeader 91 = .ok (.aload_n 0, 1) := by decide +kernel
theorem d_SR_takeHeader_92 : decode b_SR_takeHeader 92 = .ok (.iload_n 1, 1) := by decide +kernel
theorem d_SR_takeHeader_93 : decode b_SR_takeHeader 93 = .ok (.putfield 44, 3) := by decide +kernel
theorem d_SR_takeHeader_96 : decode b_SR_takeHeader 96 = .ok (.goto (7), 3) := by decide +kernel
theorem d_SR_takeHeader_99 : decode b_SR_takeHeader 99 = .ok (.aload_n 0, 1) := by decide +kernel
theorem d_SR_takeHeader_100 : decode b_SR_takeHeader 100 = .ok (.invokevirtual 57, 3) := by decide +kernel
theorem d_SR_takeHeader_103 : decode b_SR_takeHeader 103 = .ok (.return_, 1) := by decide +kernel
def K_SR_takeHeader_103 (st : plS) : plS := st
set_option maxRecDepth 20000 in
theorem j_SR_takeHeader_103 {E : plE} (X : plX E b_SR_takeHeader "ProtectedLine$StreamReader" 4 none 2 47) (a : Nat → Nat) (T : plS) (hQ : plRv E (plwC (plg E) a) T) (st : plS)  (hk : T = K_SR_takeHeader_103 st) : plJ E 4 (plwC (plg E) a st) 0 0 [] 103 [] := by
  unfold K_SR_takeHeader_103 at hk
  exact j_retv (pc := 103) X hQ d_SR_takeHeader_103 hk
def K_SR_takeHeader_74 (st : plS) : plS := K_SR_takeHeader_103 (plUp st 21 6 255)
set_option maxRecDepth 20000 in
theorem j_SR_takeHeader_74 {E : plE} (X : plX E b_SR_takeHeader "ProtectedLine$StreamReader" 4 none 2 47) (a : Nat → Nat) (T : plS) (hQ : plRv E (plwC (plg E) a) T) (st : plS)  (hk : T = K_SR_takeHeader_74 st) : plJ E 4 (plwC (plg E) a st) 0 0 [(0, .ref (a 21))] 74 [] := by
  unfold K_SR_takeHeader_74 at hk
  refine j_aload_n (pc := 74) X d_SR_takeHeader_74 rfl 0 rfl ?_
  refine j_sipush (pc := 75) X d_SR_takeHeader_75 sp_255 ?_
  refine put_SR_check (pc := 78) X fl_SR_54 d_SR_takeHeader_78 ?_
  refine j_goto (pc := 81) (tgt := 103) X d_SR_takeHeader_81 rfl ?_
  refine j_sub [] (lv' := []) rfl ?_
  exact j_SR_takeHeader_103 X a T hQ (plUp st 21 6 255) hk
def K_SR_takeHeader_69 (st : plS) : plS := K_SR_takeHeader_74 (plUp st 21 4 0)
set_option maxRecDepth 20000 in
theorem j_SR_takeHeader_69 {E : plE} (X : plX E b_SR_takeHeader "ProtectedLine$StreamReader" 4 none 2 47) (a : Nat → Nat) (T : plS) (hQ : plRv E (plwC (plg E) a) T) (st : plS)  (hk : T = K_SR_takeHeader_69 st) : plJ E 4 (plwC (plg E) a st) 0 0 [(0, .ref (a 21))] 69 [] := by
  unfold K_SR_takeHeader_69 at hk
  refine j_aload_n (pc := 69) X d_SR_takeHeader_69 rfl 0 rfl ?_
  refine j_iconst (pc := 70) X d_SR_takeHeader_70 ic_0 ?_
  refine put_SR_done (pc := 71) X fl_SR_34 d_SR_takeHeader_71 ?_
  exact j_SR_takeHeader_74 X a T hQ (plUp st 21 4 0) hk
def K_SR_takeHeader_64 (st : plS) (v3 : Int32) : plS := K_SR_takeHeader_69 (plUp st 21 3 v3)
set_option maxRecDepth 20000 in
theorem j_SR_takeHeader_64 {E : plE} (X : plX E b_SR_takeHeader "ProtectedLine$StreamReader" 4 none 2 47) (a : Nat → Nat) (T : plS) (hQ : plRv E (plwC (plg E) a) T) (st : plS) (v3 : Int32) (hk : T = K_SR_takeHeader_64 st v3) : plJ E 4 (plwC (plg E) a st) 0 0 [(0, .ref (a 21)), (3, .int v3)] 64 [] := by
  unfold K_SR_takeHeader_64 at hk
  refine j_aload_n (pc := 64) X d_SR_takeHeader_64 rfl 0 rfl ?_
  refine j_iload_n (pc := 65) X d_SR_takeHeader_65 rfl 1 rfl ?_
  refine put_SR_length (pc := 66) X fl_SR_31 d_SR_takeHeader_66 ?_
  refine j_sub [0] (lv' := [(0, .ref (a 21))]) rfl ?_
  exact j_SR_takeHeader_69 X a T hQ (plUp st 21 3 v3) hk
def K_SR_takeHeader_59 (st : plS) (v3 : Int32) : plS := K_SR_takeHeader_64 (plUp st 21 1 0) v3
set_option maxRecDepth 20000 in
theorem j_SR_takeHeader_59 {E : plE} (X : plX E b_SR_takeHeader "ProtectedLine$StreamReader" 4 none 2 47) (a : Nat → Nat) (T : plS) (hQ : plRv E (plwC (plg E) a) T) (st : plS) (v3 : Int32) (hk : T = K_SR_takeHeader_59 st v3) : plJ E 4 (plwC (plg E) a st) 0 0 [(0, .ref (a 21)), (3, .int v3)] 59 [] := by
  unfold K_SR_takeHeader_59 at hk
  refine j_aload_n (pc := 59) X d_SR_takeHeader_59 rfl 0 rfl ?_
  refine j_iconst (pc := 60) X d_SR_takeHeader_60 ic_0 ?_
  refine put_SR_half (pc := 61) X fl_SR_27 d_SR_takeHeader_61 (Or.inl rfl) ?_
  exact j_SR_takeHeader_64 X a T hQ (plUp st 21 1 0) v3 hk
def K_SR_takeHeader_56 (st : plS) (v3 : Int32) (k0 : Int32) : plS := K_SR_takeHeader_59 (plUp st 21 0 k0) v3
set_option maxRecDepth 20000 in
theorem j_SR_takeHeader_56 {E : plE} (X : plX E b_SR_takeHeader "ProtectedLine$StreamReader" 4 none 2 47) (a : Nat → Nat) (T : plS) (hQ : plRv E (plwC (plg E) a) T) (st : plS) (v3 : Int32) (k0 : Int32) (hk : T = K_SR_takeHeader_56 st v3 k0) : plJ E 4 (plwC (plg E) a st) 0 0 [(0, .ref (a 21)), (3, .int v3)] 56 [.int k0, .ref (a 21)] := by
  unfold K_SR_takeHeader_56 at hk
  refine put_SR_state (pc := 56) X fl_SR_11 d_SR_takeHeader_56 ?_
  exact j_SR_takeHeader_59 X a T hQ (plUp st 21 0 k0) v3 hk
def K_SR_takeHeader_37 (st : plS) (v1 : Int32) (k0 : Int32) : plS := (if k0 = ((-1)) then (if (st 21 0) = 0 then K_SR_takeHeader_103 (plUp st 21 2 v1) else K_SR_takeHeader_103 (K_SR_hunt st)) else (if (st 21 0) = 0 then K_SR_takeHeader_56 st k0 1 else K_SR_takeHeader_56 st k0 2))
set_option maxRecDepth 20000 in
theorem j_SR_takeHeader_37 {E : plE} (X : plX E b_SR_takeHeader "ProtectedLine$StreamReader" 4 none 2 47) (a : Nat → Nat) (T : plS) (hQ : plRv E (plwC (plg E) a) T) (st : plS) (v1 : Int32) (k0 : Int32) (hk : T = K_SR_takeHeader_37 st v1 k0) : plJ E 4 (plwC (plg E) a st) 0 0 [(0, .ref (a 21)), (1, .int v1)] 37 [.int k0] := by
  unfold K_SR_takeHeader_37 at hk
  refine j_istore_n (pc := 37) X d_SR_takeHeader_37 rfl (lv' := [(3, .int k0), (0, .ref (a 21)), (1, .int v1)]) (Nat.le_of_ble_eq_true rfl) rfl ?_
  refine j_iload_n (pc := 38) X d_SR_takeHeader_38 rfl 0 rfl ?_
  refine j_iconst (pc := 39) X d_SR_takeHeader_39 ic_m1 ?_
  refine j_icmp_eq (pc := 40) (tgt := 84) X d_SR_takeHeader_40 rfl (fun hc => ?_) (fun hc => ?_)
  · have hk := hk.trans (if_pos hc)
    refine j_aload_n (pc := 84) X d_SR_takeHeader_84 rfl 1 rfl ?_
    refine get_SR_state (pc := 85) X fl_SR_11 d_SR_takeHeader_85 ?_
    refine j_if_ne (pc := 88) (tgt := 99) X d_SR_takeHeader_88 rfl (fun hc => ?_) (fun hc => ?_)
    · have hk := hk.trans (if_neg hc)
      refine j_aload_n (pc := 99) X d_SR_takeHeader_99 rfl 1 rfl ?_
      refine j_callVv (pc := 100) (As := []) (rest := []) X (c_SR_hunt (plg E) a st) ml_SR_57 21 rfl rfl ⟨Nat.le_of_ble_eq_true rfl, Nat.le_of_ble_eq_true rfl⟩ rfl rfl (Nat.le_of_ble_eq_true rfl) d_SR_takeHeader_100 ?_
      refine j_sub [] (lv' := []) rfl ?_
      exact j_SR_takeHeader_103 X a T hQ (K_SR_hunt st) hk
    · have hk := hk.trans (if_pos hc)
      refine j_aload_n (pc := 91) X d_SR_takeHeader_91 rfl 1 rfl ?_
      refine j_iload_n (pc := 92) X d_SR_takeHeader_92 rfl 2 rfl ?_
      refine put_SR_first (pc := 93) X fl_SR_44 d_SR_takeHeader_93 ?_
      refine j_goto (pc := 96) (tgt := 103) X d_SR_takeHeader_96 rfl ?_
      refine j_sub [] (lv' := []) rfl ?_
      exact j_SR_takeHeader_103 X a T hQ (plUp st 21 2 v1) hk
  · have hk := hk.trans (if_neg hc)
    refine j_aload_n (pc := 43) X d_SR_takeHeader_43 rfl 1 rfl ?_
    refine j_aload_n (pc := 44) X d_SR_takeHeader_44 rfl 1 rfl ?_
    refine get_SR_state (pc := 45) X fl_SR_11 d_SR_takeHeader_45 ?_
    refine j_if_ne (pc := 48) (tgt := 55) X d_SR_takeHeader_48 rfl (fun hc => ?_) (fun hc => ?_)
    · have hk := hk.trans (if_neg hc)
      refine j_iconst (pc := 55) X d_SR_takeHeader_55 ic_2 ?_
      refine j_sub [1, 0] (lv' := [(0, .ref (a 21)), (3, .int k0)]) rfl ?_
      exact j_SR_takeHeader_56 X a T hQ st k0 2 hk
    · have hk := hk.trans (if_pos hc)
      refine j_iconst (pc := 51) X d_SR_takeHeader_51 ic_1 ?_
      refine j_goto (pc := 52) (tgt := 56) X d_SR_takeHeader_52 rfl ?_
      refine j_sub [1, 0] (lv' := [(0, .ref (a 21)), (3, .int k0)]) rfl ?_
      exact j_SR_takeHeader_56 X a T hQ st k0 1 hk
def K_SR_takeHeader_13 (st : plS) (v1 : Int32) (k0 : Int32) : plS := (if k0 = 0 then K_SR_takeHeader_37 st v1 (K_CO_lengthIn (st 21 2) v1) else K_SR_takeHeader_37 st v1 (K_CO_lengthRepaired (st 21 2) v1))
def P_SR_takeHeader_13 (st : plS) (v1 : Int32) (k0 : Int32) : Prop := ((k0 = 0 → P_CO_lengthIn (st 21 2) v1) ∧ (¬ k0 = 0 → P_CO_lengthRepaired (st 21 2) v1))
set_option maxRecDepth 20000 in
theorem j_SR_takeHeader_13 {E : plE} (X : plX E b_SR_takeHeader "ProtectedLine$StreamReader" 4 none 2 47) (a : Nat → Nat) (T : plS) (hQ : plRv E (plwC (plg E) a) T) (st : plS) (v1 : Int32) (k0 : Int32) (hs : P_SR_takeHeader_13 st v1 k0) (hk : T = K_SR_takeHeader_13 st v1 k0) : plJ E 4 (plwC (plg E) a st) 0 0 [(0, .ref (a 21)), (1, .int v1)] 13 [.int k0] := by
  unfold P_SR_takeHeader_13 at hs
  unfold K_SR_takeHeader_13 at hk
  refine j_istore_n (pc := 13) X d_SR_takeHeader_13 rfl (lv' := [(2, .int k0), (0, .ref (a 21)), (1, .int v1)]) (Nat.le_of_ble_eq_true rfl) rfl ?_
  refine j_iload_n (pc := 14) X d_SR_takeHeader_14 rfl 0 rfl ?_
  refine j_if_eq (pc := 15) (tgt := 29) X d_SR_takeHeader_15 rfl (fun hc => ?_) (fun hc => ?_)
  · have hk := hk.trans (if_pos hc)
    have hs := hs.1 hc
    refine j_aload_n (pc := 29) X d_SR_takeHeader_29 rfl 1 rfl ?_
    refine get_SR_first (pc := 30) X fl_SR_44 d_SR_takeHeader_30 ?_
    refine j_iload_n (pc := 33) X d_SR_takeHeader_33 rfl 2 rfl ?_
    refine j_callSp (pc := 34) (As := [.int (st 21 2), .int v1]) (rest := []) X (c_CO_lengthIn (plg E) a st (st 21 2) v1 hs) ml_SR_51 ⟨Nat.le_of_ble_eq_true rfl, Nat.le_of_ble_eq_true rfl⟩ rfl rfl (Nat.le_of_ble_eq_true rfl) d_SR_takeHeader_34 ?_
    refine j_sub [1, 2] (lv' := [(0, .ref (a 21)), (1, .int v1)]) rfl ?_
    exact j_SR_takeHeader_37 X a T hQ st v1 (K_CO_lengthIn (st 21 2) v1) hk
  · have hk := hk.trans (if_neg hc)
    have hs := hs.2 hc
    refine j_aload_n (pc := 18) X d_SR_takeHeader_18 rfl 1 rfl ?_
    refine get_SR_first (pc := 19) X fl_SR_44 d_SR_takeHeader_19 ?_
    refine j_iload_n (pc := 22) X d_SR_takeHeader_22 rfl 2 rfl ?_
    refine j_callSp (pc := 23) (As := [.int (st 21 2), .int v1]) (rest := []) X (c_CO_lengthRepaired (plg E) a st (st 21 2) v1 hs) ml_SR_47 ⟨Nat.le_of_ble_eq_true rfl, Nat.le_of_ble_eq_true rfl⟩ rfl rfl (Nat.le_of_ble_eq_true rfl) d_SR_takeHeader_23 ?_
    refine j_goto (pc := 26) (tgt := 37) X d_SR_takeHeader_26 rfl ?_
    refine j_sub [1, 2] (lv' := [(0, .ref (a 21)), (1, .int v1)]) rfl ?_
    exact j_SR_takeHeader_37 X a T hQ st v1 (K_CO_lengthRepaired (st 21 2) v1) hk
def K_SR_takeHeader (st : plS) (v1 : Int32) : plS := (if (st 21 0) = 2 then K_SR_takeHeader_13 st v1 1 else K_SR_takeHeader_13 st v1 0)
def P_SR_takeHeader (st : plS) (v1 : Int32) : Prop := (((st 21 0) = 2 → P_SR_takeHeader_13 st v1 1) ∧ (¬ (st 21 0) = 2 → P_SR_takeHeader_13 st v1 0))
set_option maxRecDepth 20000 in
theorem j_SR_takeHeader {E : plE} (X : plX E b_SR_takeHeader "ProtectedLine$StreamReader" 4 none 2 47) (a : Nat → Nat) (T : plS) (hQ : plRv E (plwC (plg E) a) T) (st : plS) (v1 : Int32) (hs : P_SR_takeHeader st v1) (hk : T = K_SR_takeHeader st v1) : plJ E 4 (plwC (plg E) a st) 0 0 [(0, .ref (a 21)), (1, .int v1)] 0 [] := by
  unfold P_SR_takeHeader at hs
  unfold K_SR_takeHeader at hk
  refine j_aload_n (pc := 0) X d_SR_takeHeader_0 rfl 0 rfl ?_
  refine get_SR_state (pc := 1) X fl_SR_11 d_SR_takeHeader_1 ?_
  refine j_iconst (pc := 4) X d_SR_takeHeader_4 ic_2 ?_
  refine j_icmp_ne (pc := 5) (tgt := 12) X d_SR_takeHeader_5 rfl (fun hc => ?_) (fun hc => ?_)
  · have hk := hk.trans (if_neg hc)
    have hs := hs.2 hc
    refine j_iconst (pc := 12) X d_SR_takeHeader_12 ic_0 ?_
    exact j_SR_takeHeader_13 X a T hQ st v1 0 hs hk
  · have hk := hk.trans (if_pos hc)
    have hs := hs.1 hc
    refine j_iconst (pc := 8) X d_SR_takeHeader_8 ic_1 ?_
    refine j_goto (pc := 9) (tgt := 13) X d_SR_takeHeader_9 rfl ?_
    exact j_SR_takeHeader_13 X a T hQ st v1 1 hs hk
set_option maxRecDepth 20000 in
theorem c_SR_takeHeader (g : plG) (a : Nat → Nat) (st : plS) (v1 : Int32) (hs : P_SR_takeHeader st v1) : plMv g y_SR_takeHeader b_SR_takeHeader 4 none 2 47 [.ref (a 21), .int v1] (plwC g a) st (K_SR_takeHeader st v1) := by
  refine plMv.of (own := "ProtectedLine$StreamReader") (lv := [(0, .ref (a 21)), (1, .int v1)]) rfl rfl (Nat.le_of_ble_eq_true rfl) rfl (fun E hE X hQ => ?_)
  subst hE
  exact j_SR_takeHeader X a _ hQ st v1 hs rfl
theorem d_SR_slotOf_0 : decode b_SR_slotOf 0 = .ok (.iload_n 0, 1) := by decide +kernel
theorem d_SR_slotOf_1 : decode b_SR_slotOf 1 = .ok (.bipush (7), 2) := by decide +kernel
theorem d_SR_slotOf_3 : decode b_SR_slotOf 3 = .ok (.iand, 1) := by decide +kernel
theorem d_SR_slotOf_4 : decode b_SR_slotOf 4 = .ok (.ireturn, 1) := by decide +kernel
def K_SR_slotOf (v0 : Int32) : Int32 := v0 &&& 7
set_option maxRecDepth 20000 in
theorem j_SR_slotOf {E : plE} (X : plX E b_SR_slotOf "ProtectedLine$StreamReader" 1 (some .int) 0 0) (a : Nat → Nat) (T : Int32) (st : plS) (hQ : plRp E (plwC (plg E) a) st T) (v0 : Int32) (hk : T = K_SR_slotOf v0) : plJ E 1 (plwC (plg E) a st) 0 0 [(0, .int v0)] 0 [] := by
  unfold K_SR_slotOf at hk
  refine j_iload_n (pc := 0) X d_SR_slotOf_0 rfl 0 rfl ?_
  refine j_bipush (pc := 1) X d_SR_slotOf_1 bp_7 ?_
  refine j_iand (pc := 3) X d_SR_slotOf_3 ?_
  exact j_retip (pc := 4) X hQ d_SR_slotOf_4 hk
set_option maxRecDepth 20000 in
theorem c_SR_slotOf (g : plG) (a : Nat → Nat) (st : plS) (v0 : Int32) : plMp g y_SR_slotOf b_SR_slotOf 1 (some .int) 0 0 [.int v0] (plwC g a) st (K_SR_slotOf v0) := by
  refine plMp.of (own := "ProtectedLine$StreamReader") (lv := [(0, .int v0)]) rfl rfl (Nat.le_of_ble_eq_true rfl) rfl (fun E hE X hQ => ?_)
  subst hE
  exact j_SR_slotOf X a _ st hQ v0 rfl
