theorem d_SW_decide_0 : decode b_SW_decide 0 = .ok (.aload_n 0, 1) := by decide +kernel
theorem d_SW_decide_1 : decode b_SW_decide 1 = .ok (.iload_n 1, 1) := by decide +kernel
theorem d_SW_decide_2 : decode b_SW_decide 2 = .ok (.ifCond .eq (12), 3) := by decide +kernel
theorem d_SW_decide_5 : decode b_SW_decide 5 = .ok (.aload_n 0, 1) := by decide +kernel
theorem d_SW_decide_6 : decode b_SW_decide 6 = .ok (.getfield 23, 3) := by decide +kernel
theorem d_SW_decide_9 : decode b_SW_decide 9 = .ok (.iconst 1, 1) := by decide +kernel
theorem d_SW_decide_10 : decode b_SW_decide 10 = .ok (.iadd, 1) := by decide +kernel
theorem d_SW_decide_11 : decode b_SW_decide 11 = .ok (.goto (4), 3) := by decide +kernel
theorem d_SW_decide_14 : decode b_SW_decide 14 = .ok (.iconst 0, 1) := by decide +kernel
theorem d_SW_decide_15 : decode b_SW_decide 15 = .ok (.putfield 23, 3) := by decide +kernel
theorem d_SW_decide_18 : decode b_SW_decide 18 = .ok (.aload_n 0, 1) := by decide +kernel
theorem d_SW_decide_19 : decode b_SW_decide 19 = .ok (.iload_n 2, 1) := by decide +kernel
theorem d_SW_decide_20 : decode b_SW_decide 20 = .ok (.invokevirtual 26, 3) := by decide +kernel
theorem d_SW_decide_23 : decode b_SW_decide 23 = .ok (.istore_n 3, 1) := by decide +kernel
theorem d_SW_decide_24 : decode b_SW_decide 24 = .ok (.aload_n 0, 1) := by decide +kernel
theorem d_SW_decide_25 : decode b_SW_decide 25 = .ok (.iload_n 3, 1) := by decide +kernel
theorem d_SW_decide_26 : decode b_SW_decide 26 = .ok (.ifCond .ne (10), 3) := by decide +kernel
theorem d_SW_decide_29 : decode b_SW_decide 29 = .ok (.aload_n 0, 1) := by decide +kernel
theorem d_SW_decide_30 : decode b_SW_decide 30 = .ok (.invokevirtual 30, 3) := by decide +kernel
theorem d_SW_decide_33 : decode b_SW_decide 33 = .ok (.goto (4), 3) := by decide +kernel
theorem d_SW_decide_36 : decode b_SW_decide 36 = .ok (.iload_n 3, 1) := by decide +kernel
theorem d_SW_decide_37 : decode b_SW_decide 37 = .ok (.putfield 34, 3) := by decide +kernel
theorem d_SW_decide_40 : decode b_SW_decide 40 = .ok (.aload_n 0, 1) := by decide +kernel
theorem d_SW_decide_41 : decode b_SW_decide 41 = .ok (.getfield 34, 3) := by decide +kernel
theorem d_SW_decide_44 : decode b_SW_decide 44 = .ok (.iconst 1, 1) := by decide +kernel
theorem d_SW_decide_45 : decode b_SW_decide 45 = .ok (.if_icmp .lt (28), 3) := by decide +kernel
theorem d_SW_decide_48 : decode b_SW_decide 48 = .ok (.aload_n 0, 1) := by decide +kernel
theorem d_SW_decide_49 : decode b_SW_decide 49 = .ok (.getfield 34, 3) := by decide +kernel
theorem d_SW_decide_52 : decode b_SW_decide 52 = .ok (.iconst 4, 1) := by decide +kernel
theorem d_SW_decide_53 : decode b_SW_decide 53 = .ok (.if_icmp .gt (20), 3) := by decide +kernel
theorem d_SW_decide_56 : decode b_SW_decide 56 = .ok (.aload_n 0, 1) := by decide +kernel
theorem d_SW_decide_57 : decode b_SW_decide 57 = .ok (.getfield 10, 3) := by decide +kernel
theorem d_SW_decide_60 : decode b_SW_decide 60 = .ok (.getfield 37, 3) := by decide +kernel
theorem d_SW_decide_63 : decode b_SW_decide 63 = .ok (.iconst 2, 1) := by decide +kernel
theorem d_SW_decide_64 : decode b_SW_decide 64 = .ok (.irem, 1) := by decide +kernel
theorem d_SW_decide_65 : decode b_SW_decide 65 = .ok (.iconst 1, 1) := by decide +kernel
theorem d_SW_decide_66 : decode b_SW_decide 66 = .ok (.if_icmp .ne (7), 3) := by decide +kernel
theorem d_SW_decide_69 : decode b_SW_decide 69 = .ok (.iconst 1, 1) := by decide +kernel
theorem d_SW_decide_70 : decode b_SW_decide 70 = .ok (.goto (4), 3) := by decide +kernel
theorem d_SW_decide_73 : decode b_SW_decide 73 = .ok (.iconst 0, 1) := by decide +kernel
theorem d_SW_decide_74 : decode b_SW_decide 74 = .ok (.istore 4, 2) := by decide +kernel
theorem d_SW_decide_76 : decode b_SW_decide 76 = .ok (.aload_n 0, 1) := by decide +kernel
theorem d_SW_decide_77 : decode b_SW_decide 77 = .ok (.iload 4, 2) := by decide +kernel
theorem d_SW_decide_79 : decode b_SW_decide 79 = .ok (.ifCond .eq (7), 3) := by decide +kernel
theorem d_SW_decide_82 : decode b_SW_decide 82 = .ok (.iconst 1, 1) := by decide +kernel
theorem d_SW_decide_83 : decode b_SW_decide 83 = .ok (.goto (4), 3) := by decide +kernel
theorem d_SW_decide_86 : decode b_SW_decide 86 = .ok (.iconst 0, 1) := by decide +kernel
theorem d_SW_decide_87 : decode b_SW_decide 87 = .ok (.putfield 40, 3) := by decide +kernel
theorem d_SW_decide_90 : decode b_SW_decide 90 = .ok (.return_, 1) := by decide +kernel
def K_SW_decide_87 (st : plS) (k0 : Int32) : plS := plUp st 19 7 k0
set_option maxRecDepth 20000 in
theorem j_SW_decide_87 {E : plE} (X : plX E b_SW_decide "ProtectedLine$Switch" 5 none 1 21) (a : Nat → Nat) (T : plS) (hQ : plRv E (plwC (plg E) a) T) (st : plS) (k0 : Int32) (hk : T = K_SW_decide_87 st k0) : plJ E 5 (plwC (plg E) a st) 0 0 [] 87 [.int k0, .ref (a 19)] := by
  unfold K_SW_decide_87 at hk
  refine put_SW_chosen (pc := 87) X fl_SW_40 d_SW_decide_87 ?_
  exact j_retv (pc := 90) X hQ d_SW_decide_90 hk
def K_SW_decide_74 (st : plS) (k0 : Int32) : plS := (if k0 = 0 then K_SW_decide_87 st 0 else K_SW_decide_87 st 1)
set_option maxRecDepth 20000 in
theorem j_SW_decide_74 {E : plE} (X : plX E b_SW_decide "ProtectedLine$Switch" 5 none 1 21) (a : Nat → Nat) (T : plS) (hQ : plRv E (plwC (plg E) a) T) (st : plS) (k0 : Int32) (hk : T = K_SW_decide_74 st k0) : plJ E 5 (plwC (plg E) a st) 0 0 [(0, .ref (a 19))] 74 [.int k0] := by
  unfold K_SW_decide_74 at hk
  refine j_istore (pc := 74) X d_SW_decide_74 (lv' := [(4, .int k0), (0, .ref (a 19))]) (Nat.le_of_ble_eq_true rfl) rfl ?_
  refine j_aload_n (pc := 76) X d_SW_decide_76 rfl 1 rfl ?_
  refine j_iload (pc := 77) X d_SW_decide_77 0 rfl ?_
  refine j_if_eq (pc := 79) (tgt := 86) X d_SW_decide_79 rfl (fun hc => ?_) (fun hc => ?_)
  · have hk := hk.trans (if_pos hc)
    refine j_iconst (pc := 86) X d_SW_decide_86 ic_0 ?_
    refine j_sub [] (lv' := []) rfl ?_
    exact j_SW_decide_87 X a T hQ st 0 hk
  · have hk := hk.trans (if_neg hc)
    refine j_iconst (pc := 82) X d_SW_decide_82 ic_1 ?_
    refine j_goto (pc := 83) (tgt := 87) X d_SW_decide_83 rfl ?_
    refine j_sub [] (lv' := []) rfl ?_
    exact j_SW_decide_87 X a T hQ st 1 hk
def K_SW_decide_73 (st : plS) : plS := K_SW_decide_74 st 0
set_option maxRecDepth 20000 in
theorem j_SW_decide_73 {E : plE} (X : plX E b_SW_decide "ProtectedLine$Switch" 5 none 1 21) (a : Nat → Nat) (T : plS) (hQ : plRv E (plwC (plg E) a) T) (st : plS)  (hk : T = K_SW_decide_73 st) : plJ E 5 (plwC (plg E) a st) 0 0 [(0, .ref (a 19))] 73 [] := by
  unfold K_SW_decide_73 at hk
  refine j_iconst (pc := 73) X d_SW_decide_73 ic_0 ?_
  exact j_SW_decide_74 X a T hQ st 0 hk
def K_SW_decide_40 (st : plS) : plS := (if (st 19 6) < 1 then K_SW_decide_73 st else (if 4 < (st 19 6) then K_SW_decide_73 st else (if ((st 20 0) - (st 20 0) / 2 * 2) = 1 then K_SW_decide_74 st 1 else K_SW_decide_73 st)))
set_option maxRecDepth 20000 in
theorem j_SW_decide_40 {E : plE} (X : plX E b_SW_decide "ProtectedLine$Switch" 5 none 1 21) (a : Nat → Nat) (T : plS) (hQ : plRv E (plwC (plg E) a) T) (st : plS)  (hk : T = K_SW_decide_40 st) : plJ E 5 (plwC (plg E) a st) 0 0 [(0, .ref (a 19))] 40 [] := by
  unfold K_SW_decide_40 at hk
  refine j_aload_n (pc := 40) X d_SW_decide_40 rfl 0 rfl ?_
  refine get_SW_asked (pc := 41) X fl_SW_34 d_SW_decide_41 ?_
  refine j_iconst (pc := 44) X d_SW_decide_44 ic_1 ?_
  refine j_icmp_lt (pc := 45) (tgt := 73) X d_SW_decide_45 rfl (fun hc => ?_) (fun hc => ?_)
  · have hk := hk.trans (if_pos hc)
    exact j_SW_decide_73 X a T hQ st hk
  · have hk := hk.trans (if_neg hc)
    refine j_aload_n (pc := 48) X d_SW_decide_48 rfl 0 rfl ?_
    refine get_SW_asked (pc := 49) X fl_SW_34 d_SW_decide_49 ?_
    refine j_iconst (pc := 52) X d_SW_decide_52 ic_4 ?_
    refine j_icmp_gt (pc := 53) (tgt := 73) X d_SW_decide_53 rfl (fun hc => ?_) (fun hc => ?_)
    · have hk := hk.trans (if_pos hc)
      exact j_SW_decide_73 X a T hQ st hk
    · have hk := hk.trans (if_neg hc)
      refine j_aload_n (pc := 56) X d_SW_decide_56 rfl 0 rfl ?_
      refine get_SW_heard (pc := 57) X fl_SW_10 d_SW_decide_57 ?_
      refine get_LB_accepted (pc := 60) X fl_SW_37 d_SW_decide_60 ?_
      refine j_iconst (pc := 63) X d_SW_decide_63 ic_2 ?_
      refine j_irem (pc := 64) X d_SW_decide_64 nz_2 ?_
      refine j_iconst (pc := 65) X d_SW_decide_65 ic_1 ?_
      refine j_icmp_ne (pc := 66) (tgt := 73) X d_SW_decide_66 rfl (fun hc => ?_) (fun hc => ?_)
      · have hk := hk.trans (if_neg hc)
        exact j_SW_decide_73 X a T hQ st hk
      · have hk := hk.trans (if_pos hc)
        refine j_iconst (pc := 69) X d_SW_decide_69 ic_1 ?_
        refine j_goto (pc := 70) (tgt := 74) X d_SW_decide_70 rfl ?_
        exact j_SW_decide_74 X a T hQ st 1 hk
def K_SW_decide_37 (st : plS) (k0 : Int32) : plS := K_SW_decide_40 (plUp st 19 6 k0)
set_option maxRecDepth 20000 in
theorem j_SW_decide_37 {E : plE} (X : plX E b_SW_decide "ProtectedLine$Switch" 5 none 1 21) (a : Nat → Nat) (T : plS) (hQ : plRv E (plwC (plg E) a) T) (st : plS) (k0 : Int32) (hk : T = K_SW_decide_37 st k0) : plJ E 5 (plwC (plg E) a st) 0 0 [(0, .ref (a 19))] 37 [.int k0, .ref (a 19)] := by
  unfold K_SW_decide_37 at hk
  refine put_SW_asked (pc := 37) X fl_SW_34 d_SW_decide_37 ?_
  exact j_SW_decide_40 X a T hQ (plUp st 19 6 k0) hk
def K_SW_decide_33q  (q : Int32 × plS) : plS := K_SW_decide_37 q.2 q.1
set_option maxRecDepth 20000 in
theorem j_SW_decide_33q {E : plE} (X : plX E b_SW_decide "ProtectedLine$Switch" 5 none 1 21) (a : Nat → Nat) (T : plS) (hQ : plRv E (plwC (plg E) a) T)  (q : Int32 × plS) (hk : T = K_SW_decide_33q  q) : plJ E 5 (plwC (plg E) a q.2) 0 0 [(0, .ref (a 19))] 33 [.int q.1, .ref (a 19)] := by
  unfold K_SW_decide_33q at hk
  refine j_goto (pc := 33) (tgt := 37) X d_SW_decide_33 rfl ?_
  exact j_SW_decide_37 X a T hQ q.2 q.1 hk
def K_SW_decide_18 (st : plS) (v2 : Int32) : plS := (if (K_SW_pressing st v2) = 0 then K_SW_decide_33q (K_SW_waitOn st) else K_SW_decide_37 st (K_SW_pressing st v2))
set_option maxRecDepth 20000 in
theorem j_SW_decide_18 {E : plE} (X : plX E b_SW_decide "ProtectedLine$Switch" 5 none 1 21) (a : Nat → Nat) (T : plS) (hQ : plRv E (plwC (plg E) a) T) (st : plS) (v2 : Int32) (hk : T = K_SW_decide_18 st v2) : plJ E 5 (plwC (plg E) a st) 0 0 [(0, .ref (a 19)), (2, .int v2)] 18 [] := by
  unfold K_SW_decide_18 at hk
  refine j_aload_n (pc := 18) X d_SW_decide_18 rfl 0 rfl ?_
  refine j_iload_n (pc := 19) X d_SW_decide_19 rfl 1 rfl ?_
  refine j_callVp (pc := 20) (As := [.int v2]) (rest := []) X (c_SW_pressing (plg E) a st v2) ml_SW_26 19 rfl rfl ⟨Nat.le_of_ble_eq_true rfl, Nat.le_of_ble_eq_true rfl⟩ rfl rfl (Nat.le_of_ble_eq_true rfl) d_SW_decide_20 ?_
  refine j_istore_n (pc := 23) X d_SW_decide_23 rfl (lv' := [(3, .int (K_SW_pressing st v2)), (0, .ref (a 19)), (2, .int v2)]) (Nat.le_of_ble_eq_true rfl) rfl ?_
  refine j_aload_n (pc := 24) X d_SW_decide_24 rfl 1 rfl ?_
  refine j_iload_n (pc := 25) X d_SW_decide_25 rfl 0 rfl ?_
  refine j_if_ne (pc := 26) (tgt := 36) X d_SW_decide_26 rfl (fun hc => ?_) (fun hc => ?_)
  · have hk := hk.trans (if_neg hc)
    refine j_iload_n (pc := 36) X d_SW_decide_36 rfl 0 rfl ?_
    refine j_sub [1] (lv' := [(0, .ref (a 19))]) rfl ?_
    exact j_SW_decide_37 X a T hQ st (K_SW_pressing st v2) hk
  · have hk := hk.trans (if_pos hc)
    refine j_aload_n (pc := 29) X d_SW_decide_29 rfl 1 rfl ?_
    refine j_callVi (pc := 30) (As := []) (rest := [.ref (a 19)]) X (c_SW_waitOn (plg E) a st) ml_SW_30 19 rfl rfl ⟨Nat.le_of_ble_eq_true rfl, Nat.le_of_ble_eq_true rfl⟩ rfl rfl (Nat.le_of_ble_eq_true rfl) d_SW_decide_30 ?_
    refine j_sub [1] (lv' := [(0, .ref (a 19))]) rfl ?_
    exact j_SW_decide_33q X a T hQ (K_SW_waitOn st) hk
def K_SW_decide_15 (st : plS) (v2 : Int32) (k0 : Int32) : plS := K_SW_decide_18 (plUp st 19 4 k0) v2
set_option maxRecDepth 20000 in
theorem j_SW_decide_15 {E : plE} (X : plX E b_SW_decide "ProtectedLine$Switch" 5 none 1 21) (a : Nat → Nat) (T : plS) (hQ : plRv E (plwC (plg E) a) T) (st : plS) (v2 : Int32) (k0 : Int32) (hk : T = K_SW_decide_15 st v2 k0) : plJ E 5 (plwC (plg E) a st) 0 0 [(0, .ref (a 19)), (2, .int v2)] 15 [.int k0, .ref (a 19)] := by
  unfold K_SW_decide_15 at hk
  refine put_SW_failedFor (pc := 15) X fl_SW_23 d_SW_decide_15 ?_
  exact j_SW_decide_18 X a T hQ (plUp st 19 4 k0) v2 hk
def K_SW_decide (st : plS) (v1 : Int32) (v2 : Int32) : plS := (if v1 = 0 then K_SW_decide_15 st v2 0 else K_SW_decide_15 st v2 ((st 19 4) + 1))
set_option maxRecDepth 20000 in
theorem j_SW_decide {E : plE} (X : plX E b_SW_decide "ProtectedLine$Switch" 5 none 1 21) (a : Nat → Nat) (T : plS) (hQ : plRv E (plwC (plg E) a) T) (st : plS) (v1 : Int32) (v2 : Int32) (hk : T = K_SW_decide st v1 v2) : plJ E 5 (plwC (plg E) a st) 0 0 [(0, .ref (a 19)), (1, .int v1), (2, .int v2)] 0 [] := by
  unfold K_SW_decide at hk
  refine j_aload_n (pc := 0) X d_SW_decide_0 rfl 0 rfl ?_
  refine j_iload_n (pc := 1) X d_SW_decide_1 rfl 1 rfl ?_
  refine j_if_eq (pc := 2) (tgt := 14) X d_SW_decide_2 rfl (fun hc => ?_) (fun hc => ?_)
  · have hk := hk.trans (if_pos hc)
    refine j_iconst (pc := 14) X d_SW_decide_14 ic_0 ?_
    refine j_sub [0, 2] (lv' := [(0, .ref (a 19)), (2, .int v2)]) rfl ?_
    exact j_SW_decide_15 X a T hQ st v2 0 hk
  · have hk := hk.trans (if_neg hc)
    refine j_aload_n (pc := 5) X d_SW_decide_5 rfl 0 rfl ?_
    refine get_SW_failedFor (pc := 6) X fl_SW_23 d_SW_decide_6 ?_
    refine j_iconst (pc := 9) X d_SW_decide_9 ic_1 ?_
    refine j_iadd (pc := 10) X d_SW_decide_10 ?_
    refine j_goto (pc := 11) (tgt := 15) X d_SW_decide_11 rfl ?_
    refine j_sub [0, 2] (lv' := [(0, .ref (a 19)), (2, .int v2)]) rfl ?_
    exact j_SW_decide_15 X a T hQ st v2 ((st 19 4) + 1) hk
set_option maxRecDepth 20000 in
theorem c_SW_decide (g : plG) (a : Nat → Nat) (st : plS) (v1 : Int32) (v2 : Int32) : plMv g y_SW_decide b_SW_decide 5 none 1 21 [.ref (a 19), .int v1, .int v2] (plwC g a) st (K_SW_decide st v1 v2) := by
  refine plMv.of (own := "ProtectedLine$Switch") (lv := [(0, .ref (a 19)), (1, .int v1), (2, .int v2)]) rfl rfl (Nat.le_of_ble_eq_true rfl) rfl (fun E hE X hQ => ?_)
  subst hE
  exact j_SW_decide X a _ hQ st v1 v2 rfl
theorem d_SR_hunt_0 : decode b_SR_hunt 0 = .ok (.aload_n 0, 1) := by decide +kernel
theorem d_SR_hunt_1 : decode b_SR_hunt 1 = .ok (.iconst 0, 1) := by decide +kernel
theorem d_SR_hunt_2 : decode b_SR_hunt 2 = .ok (.putfield 11, 3) := by decide +kernel
theorem d_SR_hunt_5 : decode b_SR_hunt 5 = .ok (.aload_n 0, 1) := by decide +kernel
theorem d_SR_hunt_6 : decode b_SR_hunt 6 = .ok (.iconst 0, 1) := by decide +kernel
theorem d_SR_hunt_7 : decode b_SR_hunt 7 = .ok (.putfield 27, 3) := by decide +kernel
theorem d_SR_hunt_10 : decode b_SR_hunt 10 = .ok (.aload_n 0, 1) := by decide +kernel
theorem d_SR_hunt_11 : decode b_SR_hunt 11 = .ok (.iconst 0, 1) := by decide +kernel
theorem d_SR_hunt_12 : decode b_SR_hunt 12 = .ok (.putfield 31, 3) := by decide +kernel
theorem d_SR_hunt_15 : decode b_SR_hunt 15 = .ok (.aload_n 0, 1) := by decide +kernel
theorem d_SR_hunt_16 : decode b_SR_hunt 16 = .ok (.iconst 0, 1) := by decide +kernel
theorem d_SR_hunt_17 : decode b_SR_hunt 17 = .ok (.putfield 34, 3) := by decide +kernel
theorem d_SR_hunt_20 : decode b_SR_hunt 20 = .ok (.return_, 1) := by decide +kernel
def K_SR_hunt_15 (st : plS) : plS := plUp st 21 4 0
set_option maxRecDepth 20000 in
theorem j_SR_hunt_15 {E : plE} (X : plX E b_SR_hunt "ProtectedLine$StreamReader" 1 none 0 0) (a : Nat → Nat) (T : plS) (hQ : plRv E (plwC (plg E) a) T) (st : plS)  (hk : T = K_SR_hunt_15 st) : plJ E 1 (plwC (plg E) a st) 0 0 [(0, .ref (a 21))] 15 [] := by
  unfold K_SR_hunt_15 at hk
  refine j_aload_n (pc := 15) X d_SR_hunt_15 rfl 0 rfl ?_
  refine j_iconst (pc := 16) X d_SR_hunt_16 ic_0 ?_
  refine put_SR_done (pc := 17) X fl_SR_34 d_SR_hunt_17 ?_
  exact j_retv (pc := 20) X hQ d_SR_hunt_20 hk
def K_SR_hunt_10 (st : plS) : plS := K_SR_hunt_15 (plUp st 21 3 0)
set_option maxRecDepth 20000 in
theorem j_SR_hunt_10 {E : plE} (X : plX E b_SR_hunt "ProtectedLine$StreamReader" 1 none 0 0) (a : Nat → Nat) (T : plS) (hQ : plRv E (plwC (plg E) a) T) (st : plS)  (hk : T = K_SR_hunt_10 st) : plJ E 1 (plwC (plg E) a st) 0 0 [(0, .ref (a 21))] 10 [] := by
  unfold K_SR_hunt_10 at hk
  refine j_aload_n (pc := 10) X d_SR_hunt_10 rfl 0 rfl ?_
  refine j_iconst (pc := 11) X d_SR_hunt_11 ic_0 ?_
  refine put_SR_length (pc := 12) X fl_SR_31 d_SR_hunt_12 ?_
  exact j_SR_hunt_15 X a T hQ (plUp st 21 3 0) hk
def K_SR_hunt_5 (st : plS) : plS := K_SR_hunt_10 (plUp st 21 1 0)
set_option maxRecDepth 20000 in
theorem j_SR_hunt_5 {E : plE} (X : plX E b_SR_hunt "ProtectedLine$StreamReader" 1 none 0 0) (a : Nat → Nat) (T : plS) (hQ : plRv E (plwC (plg E) a) T) (st : plS)  (hk : T = K_SR_hunt_5 st) : plJ E 1 (plwC (plg E) a st) 0 0 [(0, .ref (a 21))] 5 [] := by
  unfold K_SR_hunt_5 at hk
  refine j_aload_n (pc := 5) X d_SR_hunt_5 rfl 0 rfl ?_
  refine j_iconst (pc := 6) X d_SR_hunt_6 ic_0 ?_
  refine put_SR_half (pc := 7) X fl_SR_27 d_SR_hunt_7 (Or.inl rfl) ?_
  exact j_SR_hunt_10 X a T hQ (plUp st 21 1 0) hk
def K_SR_hunt (st : plS) : plS := K_SR_hunt_5 (plUp st 21 0 0)
set_option maxRecDepth 20000 in
theorem j_SR_hunt {E : plE} (X : plX E b_SR_hunt "ProtectedLine$StreamReader" 1 none 0 0) (a : Nat → Nat) (T : plS) (hQ : plRv E (plwC (plg E) a) T) (st : plS)  (hk : T = K_SR_hunt st) : plJ E 1 (plwC (plg E) a st) 0 0 [(0, .ref (a 21))] 0 [] := by
  unfold K_SR_hunt at hk
  refine j_aload_n (pc := 0) X d_SR_hunt_0 rfl 0 rfl ?_
  refine j_iconst (pc := 1) X d_SR_hunt_1 ic_0 ?_
  refine put_SR_state (pc := 2) X fl_SR_11 d_SR_hunt_2 ?_
  exact j_SR_hunt_5 X a T hQ (plUp st 21 0 0) hk
set_option maxRecDepth 20000 in
theorem c_SR_hunt (g : plG) (a : Nat → Nat) (st : plS)  : plMv g y_SR_hunt b_SR_hunt 1 none 0 0 [.ref (a 21)] (plwC g a) st (K_SR_hunt st ) := by
  refine plMv.of (own := "ProtectedLine$StreamReader") (lv := [(0, .ref (a 21))]) rfl rfl (Nat.le_of_ble_eq_true rfl) rfl (fun E hE X hQ => ?_)
  subst hE
  exact j_SR_hunt X a _ hQ st  rfl
theorem d_PR_breakOff_0 : decode b_PR_breakOff 0 = .ok (.aload_n 0, 1) := by decide +kernel
theorem d_PR_breakOff_1 : decode b_PR_breakOff 1 = .ok (.iconst 0, 1) := by decide +kernel
theorem d_PR_breakOff_2 : decode b_PR_breakOff 2 = .ok (.putfield 47, 3) := by decide +kernel
theorem d_PR_breakOff_5 : decode b_PR_breakOff 5 = .ok (.aload_n 0, 1) := by decide +kernel
theorem d_PR_breakOff_6 : decode b_PR_breakOff 6 = .ok (.getfield 15, 3) := by decide +kernel
theorem d_PR_breakOff_9 : decode b_PR_breakOff 9 = .ok (.invokevirtual 89, 3) := by decide +kernel
theorem d_PR_breakOff_12 : decode b_PR_breakOff 12 = .ok (.return_, 1) := by decide +kernel
def K_PR_breakOff_5 (st : plS) : plS := K_SR_hunt st
set_option maxRecDepth 20000 in
theorem j_PR_breakOff_5 {E : plE} (X : plX E b_PR_breakOff "ProtectedLine$PointerReader" 1 none 1 20) (a : Nat → Nat) (T : plS) (hQ : plRv E (plwC (plg E) a) T) (st : plS)  (hk : T = K_PR_breakOff_5 st) : plJ E 1 (plwC (plg E) a st) 0 0 [(0, .ref (a 25))] 5 [] := by
  unfold K_PR_breakOff_5 at hk
  refine j_aload_n (pc := 5) X d_PR_breakOff_5 rfl 0 rfl ?_
  refine get_PR_stream (pc := 6) X fl_PR_15 d_PR_breakOff_6 ?_
  refine j_callVv (pc := 9) (As := []) (rest := []) X (c_SR_hunt (plg E) a st) ml_PR_89 21 rfl rfl ⟨Nat.le_of_ble_eq_true rfl, Nat.le_of_ble_eq_true rfl⟩ rfl rfl (Nat.le_of_ble_eq_true rfl) d_PR_breakOff_9 ?_
  exact j_retv (pc := 12) X hQ d_PR_breakOff_12 hk
def K_PR_breakOff (st : plS) : plS := K_PR_breakOff_5 (plUp st 25 6 0)
set_option maxRecDepth 20000 in
theorem j_PR_breakOff {E : plE} (X : plX E b_PR_breakOff "ProtectedLine$PointerReader" 1 none 1 20) (a : Nat → Nat) (T : plS) (hQ : plRv E (plwC (plg E) a) T) (st : plS)  (hk : T = K_PR_breakOff st) : plJ E 1 (plwC (plg E) a st) 0 0 [(0, .ref (a 25))] 0 [] := by
  unfold K_PR_breakOff at hk
  refine j_aload_n (pc := 0) X d_PR_breakOff_0 rfl 0 rfl ?_
  refine j_iconst (pc := 1) X d_PR_breakOff_1 ic_0 ?_
  refine put_PR_sinceFirst (pc := 2) X fl_PR_47 d_PR_breakOff_2 ?_
  exact j_PR_breakOff_5 X a T hQ (plUp st 25 6 0) hk
set_option maxRecDepth 20000 in
theorem c_PR_breakOff (g : plG) (a : Nat → Nat) (st : plS)  : plMv g y_PR_breakOff b_PR_breakOff 1 none 1 20 [.ref (a 25)] (plwC g a) st (K_PR_breakOff st ) := by
  refine plMv.of (own := "ProtectedLine$PointerReader") (lv := [(0, .ref (a 25))]) rfl rfl (Nat.le_of_ble_eq_true rfl) rfl (fun E hE X hQ => ?_)
  subst hE
  exact j_PR_breakOff X a _ hQ st  rfl
theorem d_PR_endRows_0 : decode b_PR_endRows 0 = .ok (.aload_n 0, 1) := by decide +kernel
theorem d_PR_endRows_1 : decode b_PR_endRows 1 = .ok (.iconst 0, 1) := by decide +kernel
theorem d_PR_endRows_2 : decode b_PR_endRows 2 = .ok (.putfield 22, 3) := by decide +kernel
theorem d_PR_endRows_5 : decode b_PR_endRows 5 = .ok (.aload_n 0, 1) := by decide +kernel
theorem d_PR_endRows_6 : decode b_PR_endRows 6 = .ok (.iconst 0, 1) := by decide +kernel
theorem d_PR_endRows_7 : decode b_PR_endRows 7 = .ok (.putfield 83, 3) := by decide +kernel
theorem d_PR_endRows_10 : decode b_PR_endRows 10 = .ok (.return_, 1) := by decide +kernel
def K_PR_endRows_5 (st : plS) : plS := plUp st 25 5 0
set_option maxRecDepth 20000 in
theorem j_PR_endRows_5 {E : plE} (X : plX E b_PR_endRows "ProtectedLine$PointerReader" 1 none 0 0) (a : Nat → Nat) (T : plS) (hQ : plRv E (plwC (plg E) a) T) (st : plS)  (hk : T = K_PR_endRows_5 st) : plJ E 1 (plwC (plg E) a st) 0 0 [(0, .ref (a 25))] 5 [] := by
  unfold K_PR_endRows_5 at hk
  refine j_aload_n (pc := 5) X d_PR_endRows_5 rfl 0 rfl ?_
  refine j_iconst (pc := 6) X d_PR_endRows_6 ic_0 ?_
  refine put_PR_strangeRow (pc := 7) X fl_PR_83 d_PR_endRows_7 ?_
  exact j_retv (pc := 10) X hQ d_PR_endRows_10 hk
def K_PR_endRows (st : plS) : plS := K_PR_endRows_5 (plUp st 25 3 0)
set_option maxRecDepth 20000 in
theorem j_PR_endRows {E : plE} (X : plX E b_PR_endRows "ProtectedLine$PointerReader" 1 none 0 0) (a : Nat → Nat) (T : plS) (hQ : plRv E (plwC (plg E) a) T) (st : plS)  (hk : T = K_PR_endRows st) : plJ E 1 (plwC (plg E) a st) 0 0 [(0, .ref (a 25))] 0 [] := by
  unfold K_PR_endRows at hk
  refine j_aload_n (pc := 0) X d_PR_endRows_0 rfl 0 rfl ?_
  refine j_iconst (pc := 1) X d_PR_endRows_1 ic_0 ?_
  refine put_PR_plainRow (pc := 2) X fl_PR_22 d_PR_endRows_2 ?_
  exact j_PR_endRows_5 X a T hQ (plUp st 25 3 0) hk
set_option maxRecDepth 20000 in
theorem c_PR_endRows (g : plG) (a : Nat → Nat) (st : plS)  : plMv g y_PR_endRows b_PR_endRows 1 none 0 0 [.ref (a 25)] (plwC g a) st (K_PR_endRows st ) := by
  refine plMv.of (own := "ProtectedLine$PointerReader") (lv := [(0, .ref (a 25))]) rfl rfl (Nat.le_of_ble_eq_true rfl) rfl (fun E hE X hQ => ?_)
  subst hE
  exact j_PR_endRows X a _ hQ st  rfl
theorem d_PR_gap_0 : decode b_PR_gap 0 = .ok (.aload_n 0, 1) := by decide +kernel
theorem d_PR_gap_1 : decode b_PR_gap 1 = .ok (.dup, 1) := by decide +kernel
theorem d_PR_gap_2 : decode b_PR_gap 2 = .ok (.getfield 19, 3) := by decide +kernel
theorem d_PR_gap_5 : decode b_PR_gap 5 = .ok (.iconst 1, 1) := by decide +kernel
theorem d_PR_gap_6 : decode b_PR_gap 6 = .ok (.iadd, 1) := by decide +kernel
theorem d_PR_gap_7 : decode b_PR_gap 7 = .ok (.putfield 19, 3) := by decide +kernel
theorem d_PR_gap_10 : decode b_PR_gap 10 = .ok (.aload_n 0, 1) := by decide +kernel
theorem d_PR_gap_11 : decode b_PR_gap 11 = .ok (.getfield 11, 3) := by decide +kernel
theorem d_PR_gap_14 : decode b_PR_gap 14 = .ok (.iconst (-1), 1) := by decide +kernel
theorem d_PR_gap_15 : decode b_PR_gap 15 = .ok (.if_icmp .ne (11), 3) := by decide +kernel
theorem d_PR_gap_18 : decode b_PR_gap 18 = .ok (.aload_n 0, 1) := by decide +kernel
theorem d_PR_gap_19 : decode b_PR_gap 19 = .ok (.iconst 0, 1) := by decide +kernel
theorem d_PR_gap_20 : decode b_PR_gap 20 = .ok (.putfield 22, 3) := by decide +kernel
theorem d_PR_gap_23 : decode b_PR_gap 23 = .ok (.goto (20), 3) := by decide +kernel
theorem d_PR_gap_26 : decode b_PR_gap 26 = .ok (.aload_n 0, 1) := by decide +kernel
theorem d_PR_gap_27 : decode b_PR_gap 27 = .ok (.getfield 19, 3) := by decide +kernel
theorem d_PR_gap_30 : decode b_PR_gap 30 = .ok (.iconst 3, 1) := by decide +kernel
theorem d_PR_gap_31 : decode b_PR_gap 31 = .ok (.if_icmp .lt (12), 3) := by decide +kernel
theorem d_PR_gap_34 : decode b_PR_gap 34 = .ok (.aload_n 0, 1) := by decide +kernel
theorem d_PR_gap_35 : decode b_PR_gap 35 = .ok (.iconst (-1), 1) := by decide +kernel
theorem d_PR_gap_36 : decode b_PR_gap 36 = .ok (.putfield 11, 3) := by decide +kernel
theorem d_PR_gap_39 : decode b_PR_gap 39 = .ok (.aload_n 0, 1) := by decide +kernel
theorem d_PR_gap_40 : decode b_PR_gap 40 = .ok (.invokevirtual 25, 3) := by decide +kernel
theorem d_PR_gap_43 : decode b_PR_gap 43 = .ok (.aload_n 0, 1) := by decide +kernel
theorem d_PR_gap_44 : decode b_PR_gap 44 = .ok (.invokevirtual 28, 3) := by decide +kernel
theorem d_PR_gap_47 : decode b_PR_gap 47 = .ok (.return_, 1) := by decide +kernel
def K_PR_gap_43 (st : plS) : plS := K_PR_breakOff st
set_option maxRecDepth 20000 in
theorem j_PR_gap_43 {E : plE} (X : plX E b_PR_gap "ProtectedLine$PointerReader" 1 none 2 40) (a : Nat → Nat) (T : plS) (hQ : plRv E (plwC (plg E) a) T) (st : plS)  (hk : T = K_PR_gap_43 st) : plJ E 1 (plwC (plg E) a st) 0 0 [(0, .ref (a 25))] 43 [] := by
  unfold K_PR_gap_43 at hk
  refine j_aload_n (pc := 43) X d_PR_gap_43 rfl 0 rfl ?_
  refine j_callVv (pc := 44) (As := []) (rest := []) X (c_PR_breakOff (plg E) a st) ml_PR_28 25 rfl rfl ⟨Nat.le_of_ble_eq_true rfl, Nat.le_of_ble_eq_true rfl⟩ rfl rfl (Nat.le_of_ble_eq_true rfl) d_PR_gap_44 ?_
  exact j_retv (pc := 47) X hQ d_PR_gap_47 hk
def K_PR_gap_39 (st : plS) : plS := K_PR_gap_43 (K_PR_endRows st)
set_option maxRecDepth 20000 in
theorem j_PR_gap_39 {E : plE} (X : plX E b_PR_gap "ProtectedLine$PointerReader" 1 none 2 40) (a : Nat → Nat) (T : plS) (hQ : plRv E (plwC (plg E) a) T) (st : plS)  (hk : T = K_PR_gap_39 st) : plJ E 1 (plwC (plg E) a st) 0 0 [(0, .ref (a 25))] 39 [] := by
  unfold K_PR_gap_39 at hk
  refine j_aload_n (pc := 39) X d_PR_gap_39 rfl 0 rfl ?_
  refine j_callVv (pc := 40) (As := []) (rest := []) X (c_PR_endRows (plg E) a st) ml_PR_25 25 rfl rfl ⟨Nat.le_of_ble_eq_true rfl, Nat.le_of_ble_eq_true rfl⟩ rfl rfl (Nat.le_of_ble_eq_true rfl) d_PR_gap_40 ?_
  exact j_PR_gap_43 X a T hQ (K_PR_endRows st) hk
def K_PR_gap_10 (st : plS) : plS := (if (st 25 1) = ((-1)) then K_PR_gap_43 (plUp st 25 3 0) else (if (st 25 2) < 3 then K_PR_gap_43 st else K_PR_gap_39 (plUp st 25 1 ((-1)))))
set_option maxRecDepth 20000 in
theorem j_PR_gap_10 {E : plE} (X : plX E b_PR_gap "ProtectedLine$PointerReader" 1 none 2 40) (a : Nat → Nat) (T : plS) (hQ : plRv E (plwC (plg E) a) T) (st : plS)  (hk : T = K_PR_gap_10 st) : plJ E 1 (plwC (plg E) a st) 0 0 [(0, .ref (a 25))] 10 [] := by
  unfold K_PR_gap_10 at hk
  refine j_aload_n (pc := 10) X d_PR_gap_10 rfl 0 rfl ?_
  refine get_PR_v (pc := 11) X fl_PR_11 d_PR_gap_11 ?_
  refine j_iconst (pc := 14) X d_PR_gap_14 ic_m1 ?_
  refine j_icmp_ne (pc := 15) (tgt := 26) X d_PR_gap_15 rfl (fun hc => ?_) (fun hc => ?_)
  · have hk := hk.trans (if_neg hc)
    refine j_aload_n (pc := 26) X d_PR_gap_26 rfl 0 rfl ?_
    refine get_PR_gapRow (pc := 27) X fl_PR_19 d_PR_gap_27 ?_
    refine j_iconst (pc := 30) X d_PR_gap_30 ic_3 ?_
    refine j_icmp_lt (pc := 31) (tgt := 43) X d_PR_gap_31 rfl (fun hc => ?_) (fun hc => ?_)
    · have hk := hk.trans (if_pos hc)
      exact j_PR_gap_43 X a T hQ st hk
    · have hk := hk.trans (if_neg hc)
      refine j_aload_n (pc := 34) X d_PR_gap_34 rfl 0 rfl ?_
      refine j_iconst (pc := 35) X d_PR_gap_35 ic_m1 ?_
      refine put_PR_v (pc := 36) X fl_PR_11 d_PR_gap_36 ?_
      exact j_PR_gap_39 X a T hQ (plUp st 25 1 ((-1))) hk
  · have hk := hk.trans (if_pos hc)
    refine j_aload_n (pc := 18) X d_PR_gap_18 rfl 0 rfl ?_
    refine j_iconst (pc := 19) X d_PR_gap_19 ic_0 ?_
    refine put_PR_plainRow (pc := 20) X fl_PR_22 d_PR_gap_20 ?_
    refine j_goto (pc := 23) (tgt := 43) X d_PR_gap_23 rfl ?_
    exact j_PR_gap_43 X a T hQ (plUp st 25 3 0) hk
def K_PR_gap (st : plS) : plS := K_PR_gap_10 (plUp st 25 2 ((st 25 2) + 1))
set_option maxRecDepth 20000 in
theorem j_PR_gap {E : plE} (X : plX E b_PR_gap "ProtectedLine$PointerReader" 1 none 2 40) (a : Nat → Nat) (T : plS) (hQ : plRv E (plwC (plg E) a) T) (st : plS)  (hk : T = K_PR_gap st) : plJ E 1 (plwC (plg E) a st) 0 0 [(0, .ref (a 25))] 0 [] := by
  unfold K_PR_gap at hk
  refine j_aload_n (pc := 0) X d_PR_gap_0 rfl 0 rfl ?_
  refine j_dup (pc := 1) X d_PR_gap_1 rfl ?_
  refine get_PR_gapRow (pc := 2) X fl_PR_19 d_PR_gap_2 ?_
  refine j_iconst (pc := 5) X d_PR_gap_5 ic_1 ?_
  refine j_iadd (pc := 6) X d_PR_gap_6 ?_
  refine put_PR_gapRow (pc := 7) X fl_PR_19 d_PR_gap_7 ?_
  exact j_PR_gap_10 X a T hQ (plUp st 25 2 ((st 25 2) + 1)) hk
set_option maxRecDepth 20000 in
theorem c_PR_gap (g : plG) (a : Nat → Nat) (st : plS)  : plMv g y_PR_gap b_PR_gap 1 none 2 40 [.ref (a 25)] (plwC g a) st (K_PR_gap st ) := by
  refine plMv.of (own := "ProtectedLine$PointerReader") (lv := [(0, .ref (a 25))]) rfl rfl (Nat.le_of_ble_eq_true rfl) rfl (fun E hE X hQ => ?_)
  subst hE
  exact j_PR_gap X a _ hQ st  rfl
theorem d_SW_kByte_0 : decode b_SW_kByte 0 = .ok (.bipush (16), 2) := by decide +kernel
theorem d_SW_kByte_2 : decode b_SW_kByte 2 = .ok (.aload_n 0, 1) := by decide +kernel
theorem d_SW_kByte_3 : decode b_SW_kByte 3 = .ok (.getfield 34, 3) := by decide +kernel
theorem d_SW_kByte_6 : decode b_SW_kByte 6 = .ok (.imul, 1) := by decide +kernel
theorem d_SW_kByte_7 : decode b_SW_kByte 7 = .ok (.aload_n 0, 1) := by decide +kernel
theorem d_SW_kByte_8 : decode b_SW_kByte 8 = .ok (.getfield 40, 3) := by decide +kernel
theorem d_SW_kByte_11 : decode b_SW_kByte 11 = .ok (.iadd, 1) := by decide +kernel
theorem d_SW_kByte_12 : decode b_SW_kByte 12 = .ok (.ireturn, 1) := by decide +kernel
def K_SW_kByte (st : plS) : Int32 := (16 * (st 19 6)) + (st 19 7)
set_option maxRecDepth 20000 in
theorem j_SW_kByte {E : plE} (X : plX E b_SW_kByte "ProtectedLine$Switch" 1 (some .int) 0 0) (a : Nat → Nat) (T : Int32) (st : plS) (hQ : plRp E (plwC (plg E) a) st T)  (hk : T = K_SW_kByte st) : plJ E 1 (plwC (plg E) a st) 0 0 [(0, .ref (a 19))] 0 [] := by
  unfold K_SW_kByte at hk
  refine j_bipush (pc := 0) X d_SW_kByte_0 bp_16 ?_
  refine j_aload_n (pc := 2) X d_SW_kByte_2 rfl 0 rfl ?_
  refine get_SW_asked (pc := 3) X fl_SW_34 d_SW_kByte_3 ?_
  refine j_imul (pc := 6) X d_SW_kByte_6 ?_
  refine j_aload_n (pc := 7) X d_SW_kByte_7 rfl 0 rfl ?_
  refine get_SW_chosen (pc := 8) X fl_SW_40 d_SW_kByte_8 ?_
  refine j_iadd (pc := 11) X d_SW_kByte_11 ?_
  exact j_retip (pc := 12) X hQ d_SW_kByte_12 hk
set_option maxRecDepth 20000 in
theorem c_SW_kByte (g : plG) (a : Nat → Nat) (st : plS)  : plMp g y_SW_kByte b_SW_kByte 1 (some .int) 0 0 [.ref (a 19)] (plwC g a) st (K_SW_kByte st ) := by
  refine plMp.of (own := "ProtectedLine$Switch") (lv := [(0, .ref (a 19))]) rfl rfl (Nat.le_of_ble_eq_true rfl) rfl (fun E hE X hQ => ?_)
  subst hE
  exact j_SW_kByte X a _ st hQ  rfl
theorem d_BL_launch_0 : decode b_BL_launch 0 = .ok (.aload_n 0, 1) := by decide +kernel
theorem d_BL_launch_1 : decode b_BL_launch 1 = .ok (.getfield 11, 3) := by decide +kernel
theorem d_BL_launch_4 : decode b_BL_launch 4 = .ok (.aload_n 0, 1) := by decide +kernel
theorem d_BL_launch_5 : decode b_BL_launch 5 = .ok (.getfield 19, 3) := by decide +kernel
theorem d_BL_launch_8 : decode b_BL_launch 8 = .ok (.bipush (7), 2) := by decide +kernel
theorem d_BL_launch_10 : decode b_BL_launch 10 = .ok (.iand, 1) := by decide +kernel
theorem d_BL_launch_11 : decode b_BL_launch 11 = .ok (.iload_n 1, 1) := by decide +kernel
theorem d_BL_launch_12 : decode b_BL_launch 12 = .ok (.iastore, 1) := by decide +kernel
theorem d_BL_launch_13 : decode b_BL_launch 13 = .ok (.aload_n 0, 1) := by decide +kernel
theorem d_BL_launch_14 : decode b_BL_launch 14 = .ok (.dup, 1) := by decide +kernel
theorem d_BL_launch_15 : decode b_BL_launch 15 = .ok (.getfield 19, 3) := by decide +kernel
theorem d_BL_launch_18 : decode b_BL_launch 18 = .ok (.iconst 1, 1) := by decide +kernel
theorem d_BL_launch_19 : decode b_BL_launch 19 = .ok (.iadd, 1) := by decide +kernel
theorem d_BL_launch_20 : decode b_BL_launch 20 = .ok (.putfield 19, 3) := by decide +kernel
theorem d_BL_launch_23 : decode b_BL_launch 23 = .ok (.return_, 1) := by decide +kernel
def K_BL_launch_13 (st : plS) : plS := plUp st 17 2 ((st 17 2) + 1)
set_option maxRecDepth 20000 in
theorem j_BL_launch_13 {E : plE} (X : plX E b_BL_launch "ProtectedLine$BackLine" 2 none 0 0) (a : Nat → Nat) (T : plS) (hQ : plRv E (plwC (plg E) a) T) (st : plS)  (hk : T = K_BL_launch_13 st) : plJ E 2 (plwC (plg E) a st) 0 0 [(0, .ref (a 17))] 13 [] := by
  unfold K_BL_launch_13 at hk
  refine j_aload_n (pc := 13) X d_BL_launch_13 rfl 0 rfl ?_
  refine j_dup (pc := 14) X d_BL_launch_14 rfl ?_
  refine get_BL_launched (pc := 15) X fl_BL_19 d_BL_launch_15 ?_
  refine j_iconst (pc := 18) X d_BL_launch_18 ic_1 ?_
  refine j_iadd (pc := 19) X d_BL_launch_19 ?_
  refine put_BL_launched (pc := 20) X fl_BL_19 d_BL_launch_20 ?_
  exact j_retv (pc := 23) X hQ d_BL_launch_23 hk
def K_BL_launch (st : plS) (v1 : Int32) : plS := K_BL_launch_13 (plUp st 18 (plIx ((st 17 2) &&& 7)) v1)
def P_BL_launch (st : plS) (v1 : Int32) : Prop := vp_in ((st 17 2) &&& 7) 8
set_option maxRecDepth 20000 in
theorem j_BL_launch {E : plE} (X : plX E b_BL_launch "ProtectedLine$BackLine" 2 none 0 0) (a : Nat → Nat) (T : plS) (hQ : plRv E (plwC (plg E) a) T) (st : plS) (v1 : Int32) (hs : P_BL_launch st v1) (hk : T = K_BL_launch st v1) : plJ E 2 (plwC (plg E) a st) 0 0 [(0, .ref (a 17)), (1, .int v1)] 0 [] := by
  unfold P_BL_launch at hs
  unfold K_BL_launch at hk
  refine j_aload_n (pc := 0) X d_BL_launch_0 rfl 0 rfl ?_
  refine get_BL_underWay (pc := 1) X fl_BL_11 d_BL_launch_1 ?_
  refine j_aload_n (pc := 4) X d_BL_launch_4 rfl 0 rfl ?_
  refine get_BL_launched (pc := 5) X fl_BL_19 d_BL_launch_5 ?_
  refine j_bipush (pc := 8) X d_BL_launch_8 bp_7 ?_
  refine j_iand (pc := 10) X d_BL_launch_10 ?_
  refine j_iload_n (pc := 11) X d_BL_launch_11 rfl 1 rfl ?_
  refine ast_BLu (pc := 12) X hs d_BL_launch_12 ?_
  refine j_sub [0] (lv' := [(0, .ref (a 17))]) rfl ?_
  exact j_BL_launch_13 X a T hQ (plUp st 18 (plIx ((st 17 2) &&& 7)) v1) hk
set_option maxRecDepth 20000 in
theorem c_BL_launch (g : plG) (a : Nat → Nat) (st : plS) (v1 : Int32) (hs : P_BL_launch st v1) : plMv g y_BL_launch b_BL_launch 2 none 0 0 [.ref (a 17), .int v1] (plwC g a) st (K_BL_launch st v1) := by
  refine plMv.of (own := "ProtectedLine$BackLine") (lv := [(0, .ref (a 17)), (1, .int v1)]) rfl rfl (Nat.le_of_ble_eq_true rfl) rfl (fun E hE X hQ => ?_)
  subst hE
  exact j_BL_launch X a _ hQ st v1 hs rfl
theorem d_PR_shiftIn_0 : decode b_PR_shiftIn 0 = .ok (.iload_n 1, 1) := by decide +kernel
theorem d_PR_shiftIn_1 : decode b_PR_shiftIn 1 = .ok (.bipush (64), 2) := by decide +kernel
theorem d_PR_shiftIn_3 : decode b_PR_shiftIn 3 = .ok (.idiv, 1) := by decide +kernel
theorem d_PR_shiftIn_4 : decode b_PR_shiftIn 4 = .ok (.iconst 1, 1) := by decide +kernel
theorem d_PR_shiftIn_5 : decode b_PR_shiftIn 5 = .ok (.if_icmp .eq (5), 3) := by decide +kernel
theorem d_PR_shiftIn_8 : decode b_PR_shiftIn 8 = .ok (.iconst 0, 1) := by decide +kernel
theorem d_PR_shiftIn_9 : decode b_PR_shiftIn 9 = .ok (.ireturn, 1) := by decide +kernel
theorem d_PR_shiftIn_10 : decode b_PR_shiftIn 10 = .ok (.iload_n 1, 1) := by decide +kernel
theorem d_PR_shiftIn_11 : decode b_PR_shiftIn 11 = .ok (.aload_n 0, 1) := by decide +kernel
theorem d_PR_shiftIn_12 : decode b_PR_shiftIn 12 = .ok (.getfield 11, 3) := by decide +kernel
theorem d_PR_shiftIn_15 : decode b_PR_shiftIn 15 = .ok (.invokestatic 69, 3) := by decide +kernel
theorem d_PR_shiftIn_18 : decode b_PR_shiftIn 18 = .ok (.ixor, 1) := by decide +kernel
theorem d_PR_shiftIn_19 : decode b_PR_shiftIn 19 = .ok (.istore_n 2, 1) := by decide +kernel
theorem d_PR_shiftIn_20 : decode b_PR_shiftIn 20 = .ok (.iload_n 2, 1) := by decide +kernel
theorem d_PR_shiftIn_21 : decode b_PR_shiftIn 21 = .ok (.bipush (21), 2) := by decide +kernel
theorem d_PR_shiftIn_23 : decode b_PR_shiftIn 23 = .ok (.iand, 1) := by decide +kernel
theorem d_PR_shiftIn_24 : decode b_PR_shiftIn 24 = .ok (.invokestatic 58, 3) := by decide +kernel
theorem d_PR_shiftIn_27 : decode b_PR_shiftIn 27 = .ok (.istore_n 3, 1) := by decide +kernel
theorem d_PR_shiftIn_28 : decode b_PR_shiftIn 28 = .ok (.iload_n 2, 1) := by decide +kernel
theorem d_PR_shiftIn_29 : decode b_PR_shiftIn 29 = .ok (.bipush (42), 2) := by decide +kernel
theorem d_PR_shiftIn_31 : decode b_PR_shiftIn 31 = .ok (.iand, 1) := by decide +kernel
theorem d_PR_shiftIn_32 : decode b_PR_shiftIn 32 = .ok (.invokestatic 58, 3) := by decide +kernel
theorem d_PR_shiftIn_35 : decode b_PR_shiftIn 35 = .ok (.istore 4, 2) := by decide +kernel
theorem d_PR_shiftIn_37 : decode b_PR_shiftIn 37 = .ok (.iload_n 3, 1) := by decide +kernel
theorem d_PR_shiftIn_38 : decode b_PR_shiftIn 38 = .ok (.iconst 2, 1) := by decide +kernel
theorem d_PR_shiftIn_39 : decode b_PR_shiftIn 39 = .ok (.if_icmp .lt (11), 3) := by decide +kernel
theorem d_PR_shiftIn_42 : decode b_PR_shiftIn 42 = .ok (.iload 4, 2) := by decide +kernel
theorem d_PR_shiftIn_44 : decode b_PR_shiftIn 44 = .ok (.iconst 1, 1) := by decide +kernel
theorem d_PR_shiftIn_45 : decode b_PR_shiftIn 45 = .ok (.if_icmp .gt (5), 3) := by decide +kernel
theorem d_PR_shiftIn_48 : decode b_PR_shiftIn 48 = .ok (.iconst 1, 1) := by decide +kernel
theorem d_PR_shiftIn_49 : decode b_PR_shiftIn 49 = .ok (.ireturn, 1) := by decide +kernel
theorem d_PR_shiftIn_50 : decode b_PR_shiftIn 50 = .ok (.iload 4, 2) := by decide +kernel
theorem d_PR_shiftIn_52 : decode b_PR_shiftIn 52 = .ok (.iconst 2, 1) := by decide +kernel
theorem d_PR_shiftIn_53 : decode b_PR_shiftIn 53 = .ok (.if_icmp .lt (12), 3) := by decide +kernel
theorem d_PR_shiftIn_56 : decode b_PR_shiftIn 56 = .ok (.iload_n 3, 1) := by decide +kernel
theorem d_PR_shiftIn_57 : decode b_PR_shiftIn 57 = .ok (.iconst 1, 1) := by decide +kernel
theorem d_PR_shiftIn_58 : decode b_PR_shiftIn 58 = .ok (.if_icmp .gt (7), 3) := by decide +kernel
theorem d_PR_shiftIn_61 : decode b_PR_shiftIn 61 = .ok (.iconst (-1), 1) := by decide +kernel
theorem d_PR_shiftIn_62 : decode b_PR_shiftIn 62 = .ok (.goto (4), 3) := by decide +kernel
theorem d_PR_shiftIn_65 : decode b_PR_shiftIn 65 = .ok (.iconst 0, 1) := by decide +kernel
theorem d_PR_shiftIn_66 : decode b_PR_shiftIn 66 = .ok (.ireturn, 1) := by decide +kernel
def K_PR_shiftIn_66 (st : plS) (k0 : Int32) : Int32 := k0
set_option maxRecDepth 20000 in
theorem j_PR_shiftIn_66 {E : plE} (X : plX E b_PR_shiftIn "ProtectedLine$PointerReader" 5 (some .int) 1 20) (a : Nat → Nat) (T : Int32) (st : plS) (hQ : plRp E (plwC (plg E) a) st T) (k0 : Int32) (hk : T = K_PR_shiftIn_66 st k0) : plJ E 5 (plwC (plg E) a st) 0 0 [] 66 [.int k0] := by
  unfold K_PR_shiftIn_66 at hk
  exact j_retip (pc := 66) X hQ d_PR_shiftIn_66 hk
def K_PR_shiftIn_65 (st : plS) : Int32 := K_PR_shiftIn_66 st 0
set_option maxRecDepth 20000 in
theorem j_PR_shiftIn_65 {E : plE} (X : plX E b_PR_shiftIn "ProtectedLine$PointerReader" 5 (some .int) 1 20) (a : Nat → Nat) (T : Int32) (st : plS) (hQ : plRp E (plwC (plg E) a) st T)  (hk : T = K_PR_shiftIn_65 st) : plJ E 5 (plwC (plg E) a st) 0 0 [] 65 [] := by
  unfold K_PR_shiftIn_65 at hk
  refine j_iconst (pc := 65) X d_PR_shiftIn_65 ic_0 ?_
  exact j_PR_shiftIn_66 X a T st hQ 0 hk
def K_PR_shiftIn_50 (st : plS) (v3 : Int32) (v4 : Int32) : Int32 := (if v4 < 2 then K_PR_shiftIn_65 st else (if 1 < v3 then K_PR_shiftIn_65 st else K_PR_shiftIn_66 st ((-1))))
set_option maxRecDepth 20000 in
theorem j_PR_shiftIn_50 {E : plE} (X : plX E b_PR_shiftIn "ProtectedLine$PointerReader" 5 (some .int) 1 20) (a : Nat → Nat) (T : Int32) (st : plS) (hQ : plRp E (plwC (plg E) a) st T) (v3 : Int32) (v4 : Int32) (hk : T = K_PR_shiftIn_50 st v3 v4) : plJ E 5 (plwC (plg E) a st) 0 0 [(3, .int v3), (4, .int v4)] 50 [] := by
  unfold K_PR_shiftIn_50 at hk
  refine j_iload (pc := 50) X d_PR_shiftIn_50 1 rfl ?_
  refine j_iconst (pc := 52) X d_PR_shiftIn_52 ic_2 ?_
  refine j_icmp_lt (pc := 53) (tgt := 65) X d_PR_shiftIn_53 rfl (fun hc => ?_) (fun hc => ?_)
  · have hk := hk.trans (if_pos hc)
    refine j_sub [] (lv' := []) rfl ?_
    exact j_PR_shiftIn_65 X a T st hQ hk
  · have hk := hk.trans (if_neg hc)
    refine j_iload_n (pc := 56) X d_PR_shiftIn_56 rfl 0 rfl ?_
    refine j_iconst (pc := 57) X d_PR_shiftIn_57 ic_1 ?_
    refine j_icmp_gt (pc := 58) (tgt := 65) X d_PR_shiftIn_58 rfl (fun hc => ?_) (fun hc => ?_)
    · have hk := hk.trans (if_pos hc)
      refine j_sub [] (lv' := []) rfl ?_
      exact j_PR_shiftIn_65 X a T st hQ hk
    · have hk := hk.trans (if_neg hc)
      refine j_iconst (pc := 61) X d_PR_shiftIn_61 ic_m1 ?_
      refine j_goto (pc := 62) (tgt := 66) X d_PR_shiftIn_62 rfl ?_
      refine j_sub [] (lv' := []) rfl ?_
      exact j_PR_shiftIn_66 X a T st hQ ((-1)) hk
def K_PR_shiftIn (st : plS) (v1 : Int32) : Int32 := (if (v1 / 64) = 1 then (if (K_JI_bitCount ((v1 ^^^ (K_CO_pointerByte (st 25 1))) &&& 21)) < 2 then K_PR_shiftIn_50 st (K_JI_bitCount ((v1 ^^^ (K_CO_pointerByte (st 25 1))) &&& 21)) (K_JI_bitCount ((v1 ^^^ (K_CO_pointerByte (st 25 1))) &&& 42)) else (if 1 < (K_JI_bitCount ((v1 ^^^ (K_CO_pointerByte (st 25 1))) &&& 42)) then K_PR_shiftIn_50 st (K_JI_bitCount ((v1 ^^^ (K_CO_pointerByte (st 25 1))) &&& 21)) (K_JI_bitCount ((v1 ^^^ (K_CO_pointerByte (st 25 1))) &&& 42)) else 1)) else 0)
set_option maxRecDepth 20000 in
theorem j_PR_shiftIn {E : plE} (X : plX E b_PR_shiftIn "ProtectedLine$PointerReader" 5 (some .int) 1 20) (a : Nat → Nat) (T : Int32) (st : plS) (hQ : plRp E (plwC (plg E) a) st T) (v1 : Int32) (hk : T = K_PR_shiftIn st v1) : plJ E 5 (plwC (plg E) a st) 0 0 [(0, .ref (a 25)), (1, .int v1)] 0 [] := by
  unfold K_PR_shiftIn at hk
  refine j_iload_n (pc := 0) X d_PR_shiftIn_0 rfl 1 rfl ?_
  refine j_bipush (pc := 1) X d_PR_shiftIn_1 bp_64 ?_
  refine j_idiv (pc := 3) X d_PR_shiftIn_3 nz_64 ?_
  refine j_iconst (pc := 4) X d_PR_shiftIn_4 ic_1 ?_
  refine j_icmp_eq (pc := 5) (tgt := 10) X d_PR_shiftIn_5 rfl (fun hc => ?_) (fun hc => ?_)
  · have hk := hk.trans (if_pos hc)
    refine j_iload_n (pc := 10) X d_PR_shiftIn_10 rfl 1 rfl ?_
    refine j_aload_n (pc := 11) X d_PR_shiftIn_11 rfl 0 rfl ?_
    refine get_PR_v (pc := 12) X fl_PR_11 d_PR_shiftIn_12 ?_
    refine j_callSp (pc := 15) (As := [.int (st 25 1)]) (rest := [.int v1]) X (c_CO_pointerByte (plg E) a st (st 25 1)) ml_PR_69 ⟨Nat.le_of_ble_eq_true rfl, Nat.le_of_ble_eq_true rfl⟩ rfl rfl (Nat.le_of_ble_eq_true rfl) d_PR_shiftIn_15 ?_
    refine j_ixor (pc := 18) X d_PR_shiftIn_18 ?_
    refine j_istore_n (pc := 19) X d_PR_shiftIn_19 rfl (lv' := [(2, .int (v1 ^^^ (K_CO_pointerByte (st 25 1)))), (0, .ref (a 25)), (1, .int v1)]) (Nat.le_of_ble_eq_true rfl) rfl ?_
    refine j_iload_n (pc := 20) X d_PR_shiftIn_20 rfl 0 rfl ?_
    refine j_bipush (pc := 21) X d_PR_shiftIn_21 bp_21 ?_
    refine j_iand (pc := 23) X d_PR_shiftIn_23 ?_
    refine j_callSp (pc := 24) (As := [.int ((v1 ^^^ (K_CO_pointerByte (st 25 1))) &&& 21)]) (rest := []) X (c_JI_bitCount (plg E) a st ((v1 ^^^ (K_CO_pointerByte (st 25 1))) &&& 21)) ml_PR_58 ⟨Nat.le_of_ble_eq_true rfl, Nat.le_of_ble_eq_true rfl⟩ rfl rfl (Nat.le_of_ble_eq_true rfl) d_PR_shiftIn_24 ?_
    refine j_istore_n (pc := 27) X d_PR_shiftIn_27 rfl (lv' := [(3, .int (K_JI_bitCount ((v1 ^^^ (K_CO_pointerByte (st 25 1))) &&& 21))), (2, .int (v1 ^^^ (K_CO_pointerByte (st 25 1)))), (0, .ref (a 25)), (1, .int v1)]) (Nat.le_of_ble_eq_true rfl) rfl ?_
    refine j_iload_n (pc := 28) X d_PR_shiftIn_28 rfl 1 rfl ?_
    refine j_bipush (pc := 29) X d_PR_shiftIn_29 bp_42 ?_
    refine j_iand (pc := 31) X d_PR_shiftIn_31 ?_
    refine j_callSp (pc := 32) (As := [.int ((v1 ^^^ (K_CO_pointerByte (st 25 1))) &&& 42)]) (rest := []) X (c_JI_bitCount (plg E) a st ((v1 ^^^ (K_CO_pointerByte (st 25 1))) &&& 42)) ml_PR_58 ⟨Nat.le_of_ble_eq_true rfl, Nat.le_of_ble_eq_true rfl⟩ rfl rfl (Nat.le_of_ble_eq_true rfl) d_PR_shiftIn_32 ?_
    refine j_istore (pc := 35) X d_PR_shiftIn_35 (lv' := [(4, .int (K_JI_bitCount ((v1 ^^^ (K_CO_pointerByte (st 25 1))) &&& 42))), (3, .int (K_JI_bitCount ((v1 ^^^ (K_CO_pointerByte (st 25 1))) &&& 21))), (2, .int (v1 ^^^ (K_CO_pointerByte (st 25 1)))), (0, .ref (a 25)), (1, .int v1)]) (Nat.le_of_ble_eq_true rfl) rfl ?_
    refine j_iload_n (pc := 37) X d_PR_shiftIn_37 rfl 1 rfl ?_
    refine j_iconst (pc := 38) X d_PR_shiftIn_38 ic_2 ?_
    refine j_icmp_lt (pc := 39) (tgt := 50) X d_PR_shiftIn_39 rfl (fun hc => ?_) (fun hc => ?_)
    · have hk := hk.trans (if_pos hc)
      refine j_sub [1, 0] (lv' := [(3, .int (K_JI_bitCount ((v1 ^^^ (K_CO_pointerByte (st 25 1))) &&& 21))), (4, .int (K_JI_bitCount ((v1 ^^^ (K_CO_pointerByte (st 25 1))) &&& 42)))]) rfl ?_
      exact j_PR_shiftIn_50 X a T st hQ (K_JI_bitCount ((v1 ^^^ (K_CO_pointerByte (st 25 1))) &&& 21)) (K_JI_bitCount ((v1 ^^^ (K_CO_pointerByte (st 25 1))) &&& 42)) hk
    · have hk := hk.trans (if_neg hc)
      refine j_iload (pc := 42) X d_PR_shiftIn_42 0 rfl ?_
      refine j_iconst (pc := 44) X d_PR_shiftIn_44 ic_1 ?_
      refine j_icmp_gt (pc := 45) (tgt := 50) X d_PR_shiftIn_45 rfl (fun hc => ?_) (fun hc => ?_)
      · have hk := hk.trans (if_pos hc)
        refine j_sub [1, 0] (lv' := [(3, .int (K_JI_bitCount ((v1 ^^^ (K_CO_pointerByte (st 25 1))) &&& 21))), (4, .int (K_JI_bitCount ((v1 ^^^ (K_CO_pointerByte (st 25 1))) &&& 42)))]) rfl ?_
        exact j_PR_shiftIn_50 X a T st hQ (K_JI_bitCount ((v1 ^^^ (K_CO_pointerByte (st 25 1))) &&& 21)) (K_JI_bitCount ((v1 ^^^ (K_CO_pointerByte (st 25 1))) &&& 42)) hk
      · have hk := hk.trans (if_neg hc)
        refine j_iconst (pc := 48) X d_PR_shiftIn_48 ic_1 ?_
        exact j_retip (pc := 49) X hQ d_PR_shiftIn_49 hk
  · have hk := hk.trans (if_neg hc)
    refine j_iconst (pc := 8) X d_PR_shiftIn_8 ic_0 ?_
    exact j_retip (pc := 9) X hQ d_PR_shiftIn_9 hk
set_option maxRecDepth 20000 in
theorem c_PR_shiftIn (g : plG) (a : Nat → Nat) (st : plS) (v1 : Int32) : plMp g y_PR_shiftIn b_PR_shiftIn 5 (some .int) 1 20 [.ref (a 25), .int v1] (plwC g a) st (K_PR_shiftIn st v1) := by
  refine plMp.of (own := "ProtectedLine$PointerReader") (lv := [(0, .ref (a 25)), (1, .int v1)]) rfl rfl (Nat.le_of_ble_eq_true rfl) rfl (fun E hE X hQ => ?_)
  subst hE
  exact j_PR_shiftIn X a _ st hQ v1 rfl
theorem d_CO_plainFor_0 : decode b_CO_plainFor 0 = .ok (.iload_n 0, 1) := by decide +kernel
theorem d_CO_plainFor_1 : decode b_CO_plainFor 1 = .ok (.bipush (64), 2) := by decide +kernel
theorem d_CO_plainFor_3 : decode b_CO_plainFor 3 = .ok (.isub, 1) := by decide +kernel
theorem d_CO_plainFor_4 : decode b_CO_plainFor 4 = .ok (.bipush (9), 2) := by decide +kernel
theorem d_CO_plainFor_6 : decode b_CO_plainFor 6 = .ok (.idiv, 1) := by decide +kernel
theorem d_CO_plainFor_7 : decode b_CO_plainFor 7 = .ok (.istore_n 1, 1) := by decide +kernel
theorem d_CO_plainFor_8 : decode b_CO_plainFor 8 = .ok (.iload_n 1, 1) := by decide +kernel
theorem d_CO_plainFor_9 : decode b_CO_plainFor 9 = .ok (.ifCond .lt (21), 3) := by decide +kernel
theorem d_CO_plainFor_12 : decode b_CO_plainFor 12 = .ok (.iload_n 1, 1) := by decide +kernel
theorem d_CO_plainFor_13 : decode b_CO_plainFor 13 = .ok (.bipush (6), 2) := by decide +kernel
theorem d_CO_plainFor_15 : decode b_CO_plainFor 15 = .ok (.if_icmp .ge (15), 3) := by decide +kernel
theorem d_CO_plainFor_18 : decode b_CO_plainFor 18 = .ok (.iload_n 1, 1) := by decide +kernel
theorem d_CO_plainFor_19 : decode b_CO_plainFor 19 = .ok (.invokestatic 20, 3) := by decide +kernel
theorem d_CO_plainFor_22 : decode b_CO_plainFor 22 = .ok (.iload_n 0, 1) := by decide +kernel
theorem d_CO_plainFor_23 : decode b_CO_plainFor 23 = .ok (.if_icmp .ne (7), 3) := by decide +kernel
theorem d_CO_plainFor_26 : decode b_CO_plainFor 26 = .ok (.iload_n 1, 1) := by decide +kernel
theorem d_CO_plainFor_27 : decode b_CO_plainFor 27 = .ok (.goto (4), 3) := by decide +kernel
theorem d_CO_plainFor_30 : decode b_CO_plainFor 30 = .ok (.iconst (-1), 1) := by decide +kernel
theorem d_CO_plainFor_31 : decode b_CO_plainFor 31 = .ok (.ireturn, 1) := by decide +kernel
def K_CO_plainFor_31 (k0 : Int32) : Int32 := k0
set_option maxRecDepth 20000 in
theorem j_CO_plainFor_31 {E : plE} (X : plX E b_CO_plainFor "ProtectedLine$Code" 2 (some .int) 1 20) (a : Nat → Nat) (T : Int32) (st : plS) (hQ : plRp E (plwC (plg E) a) st T) (k0 : Int32) (hk : T = K_CO_plainFor_31 k0) : plJ E 2 (plwC (plg E) a st) 0 0 [] 31 [.int k0] := by
  unfold K_CO_plainFor_31 at hk
  exact j_retip (pc := 31) X hQ d_CO_plainFor_31 hk
def K_CO_plainFor_30  : Int32 := K_CO_plainFor_31 ((-1))
set_option maxRecDepth 20000 in
theorem j_CO_plainFor_30 {E : plE} (X : plX E b_CO_plainFor "ProtectedLine$Code" 2 (some .int) 1 20) (a : Nat → Nat) (T : Int32) (st : plS) (hQ : plRp E (plwC (plg E) a) st T)  (hk : T = K_CO_plainFor_30 ) : plJ E 2 (plwC (plg E) a st) 0 0 [] 30 [] := by
  unfold K_CO_plainFor_30 at hk
  refine j_iconst (pc := 30) X d_CO_plainFor_30 ic_m1 ?_
  exact j_CO_plainFor_31 X a T st hQ ((-1)) hk
def K_CO_plainFor (v0 : Int32) : Int32 := (if ((v0 - 64) / 9) < 0 then K_CO_plainFor_30 else (if 6 ≤ ((v0 - 64) / 9) then K_CO_plainFor_30 else (if (K_CO_pointerByte ((v0 - 64) / 9)) = v0 then K_CO_plainFor_31 ((v0 - 64) / 9) else K_CO_plainFor_30)))
set_option maxRecDepth 20000 in
theorem j_CO_plainFor {E : plE} (X : plX E b_CO_plainFor "ProtectedLine$Code" 2 (some .int) 1 20) (a : Nat → Nat) (T : Int32) (st : plS) (hQ : plRp E (plwC (plg E) a) st T) (v0 : Int32) (hk : T = K_CO_plainFor v0) : plJ E 2 (plwC (plg E) a st) 0 0 [(0, .int v0)] 0 [] := by
  unfold K_CO_plainFor at hk
  refine j_iload_n (pc := 0) X d_CO_plainFor_0 rfl 0 rfl ?_
  refine j_bipush (pc := 1) X d_CO_plainFor_1 bp_64 ?_
  refine j_isub (pc := 3) X d_CO_plainFor_3 ?_
  refine j_bipush (pc := 4) X d_CO_plainFor_4 bp_9 ?_
  refine j_idiv (pc := 6) X d_CO_plainFor_6 nz_9 ?_
  refine j_istore_n (pc := 7) X d_CO_plainFor_7 rfl (lv' := [(1, .int ((v0 - 64) / 9)), (0, .int v0)]) (Nat.le_of_ble_eq_true rfl) rfl ?_
  refine j_iload_n (pc := 8) X d_CO_plainFor_8 rfl 0 rfl ?_
  refine j_if_lt (pc := 9) (tgt := 30) X d_CO_plainFor_9 rfl (fun hc => ?_) (fun hc => ?_)
  · have hk := hk.trans (if_pos hc)
    refine j_sub [] (lv' := []) rfl ?_
    exact j_CO_plainFor_30 X a T st hQ hk
  · have hk := hk.trans (if_neg hc)
    refine j_iload_n (pc := 12) X d_CO_plainFor_12 rfl 0 rfl ?_
    refine j_bipush (pc := 13) X d_CO_plainFor_13 bp_6 ?_
    refine j_icmp_ge (pc := 15) (tgt := 30) X d_CO_plainFor_15 rfl (fun hc => ?_) (fun hc => ?_)
    · have hk := hk.trans (if_pos hc)
      refine j_sub [] (lv' := []) rfl ?_
      exact j_CO_plainFor_30 X a T st hQ hk
    · have hk := hk.trans (if_neg hc)
      refine j_iload_n (pc := 18) X d_CO_plainFor_18 rfl 0 rfl ?_
      refine j_callSp (pc := 19) (As := [.int ((v0 - 64) / 9)]) (rest := []) X (c_CO_pointerByte (plg E) a st ((v0 - 64) / 9)) ml_CO_20 ⟨Nat.le_of_ble_eq_true rfl, Nat.le_of_ble_eq_true rfl⟩ rfl rfl (Nat.le_of_ble_eq_true rfl) d_CO_plainFor_19 ?_
      refine j_iload_n (pc := 22) X d_CO_plainFor_22 rfl 1 rfl ?_
      refine j_icmp_ne (pc := 23) (tgt := 30) X d_CO_plainFor_23 rfl (fun hc => ?_) (fun hc => ?_)
      · have hk := hk.trans (if_neg hc)
        refine j_sub [] (lv' := []) rfl ?_
        exact j_CO_plainFor_30 X a T st hQ hk
      · have hk := hk.trans (if_pos hc)
        refine j_iload_n (pc := 26) X d_CO_plainFor_26 rfl 0 rfl ?_
        refine j_goto (pc := 27) (tgt := 31) X d_CO_plainFor_27 rfl ?_
        refine j_sub [] (lv' := []) rfl ?_
        exact j_CO_plainFor_31 X a T st hQ ((v0 - 64) / 9) hk
set_option maxRecDepth 20000 in
theorem c_CO_plainFor (g : plG) (a : Nat → Nat) (st : plS) (v0 : Int32) : plMp g y_CO_plainFor b_CO_plainFor 2 (some .int) 1 20 [.int v0] (plwC g a) st (K_CO_plainFor v0) := by
  refine plMp.of (own := "ProtectedLine$Code") (lv := [(0, .int v0)]) rfl rfl (Nat.le_of_ble_eq_true rfl) rfl (fun E hE X hQ => ?_)
  subst hE
  exact j_CO_plainFor X a _ st hQ v0 rfl
theorem d_PR_countPlain_0 : decode b_PR_countPlain 0 = .ok (.iload_n 1, 1) := by decide +kernel
theorem d_PR_countPlain_1 : decode b_PR_countPlain 1 = .ok (.invokestatic 86, 3) := by decide +kernel
theorem d_PR_countPlain_4 : decode b_PR_countPlain 4 = .ok (.istore_n 2, 1) := by decide +kernel
theorem d_PR_countPlain_5 : decode b_PR_countPlain 5 = .ok (.iload_n 2, 1) := by decide +kernel
theorem d_PR_countPlain_6 : decode b_PR_countPlain 6 = .ok (.iconst (-1), 1) := by decide +kernel
theorem d_PR_countPlain_7 : decode b_PR_countPlain 7 = .ok (.if_icmp .ne (9), 3) := by decide +kernel
theorem d_PR_countPlain_10 : decode b_PR_countPlain 10 = .ok (.aload_n 0, 1) := by decide +kernel
theorem d_PR_countPlain_11 : decode b_PR_countPlain 11 = .ok (.iconst 0, 1) := by decide +kernel
theorem d_PR_countPlain_12 : decode b_PR_countPlain 12 = .ok (.putfield 22, 3) := by decide +kernel
theorem d_PR_countPlain_15 : decode b_PR_countPlain 15 = .ok (.return_, 1) := by decide +kernel
theorem d_PR_countPlain_16 : decode b_PR_countPlain 16 = .ok (.aload_n 0, 1) := by decide +kernel
theorem d_PR_countPlain_17 : decode b_PR_countPlain 17 = .ok (.iload_n 2, 1) := by decide +kernel
theorem d_PR_countPlain_18 : decode b_PR_countPlain 18 = .ok (.aload_n 0, 1) := by decide +kernel
theorem d_PR_countPlain_19 : decode b_PR_countPlain 19 = .ok (.getfield 80, 3) := by decide +kernel
theorem d_PR_countPlain_22 : decode b_PR_countPlain 22 = .ok (.if_icmp .ne (12), 3) := by decide +kernel
theorem d_PR_countPlain_25 : decode b_PR_countPlain 25 = .ok (.aload_n 0, 1) := by decide +kernel
theorem d_PR_countPlain_26 : decode b_PR_countPlain 26 = .ok (.getfield 22, 3) := by decide +kernel
theorem d_PR_countPlain_29 : decode b_PR_countPlain 29 = .ok (.iconst 1, 1) := by decide +kernel
theorem d_PR_countPlain_30 : decode b_PR_countPlain 30 = .ok (.iadd, 1) := by decide +kernel
theorem d_PR_countPlain_31 : decode b_PR_countPlain 31 = .ok (.goto (4), 3) := by decide +kernel
theorem d_PR_countPlain_34 : decode b_PR_countPlain 34 = .ok (.iconst 1, 1) := by decide +kernel
theorem d_PR_countPlain_35 : decode b_PR_countPlain 35 = .ok (.putfield 22, 3) := by decide +kernel
theorem d_PR_countPlain_38 : decode b_PR_countPlain 38 = .ok (.aload_n 0, 1) := by decide +kernel
theorem d_PR_countPlain_39 : decode b_PR_countPlain 39 = .ok (.iload_n 2, 1) := by decide +kernel
theorem d_PR_countPlain_40 : decode b_PR_countPlain 40 = .ok (.putfield 80, 3) := by decide +kernel
theorem d_PR_countPlain_43 : decode b_PR_countPlain 43 = .ok (.return_, 1) := by decide +kernel
def K_PR_countPlain_38 (st : plS) (v2 : Int32) : plS := plUp st 25 4 v2
set_option maxRecDepth 20000 in
theorem j_PR_countPlain_38 {E : plE} (X : plX E b_PR_countPlain "ProtectedLine$PointerReader" 3 none 2 41) (a : Nat → Nat) (T : plS) (hQ : plRv E (plwC (plg E) a) T) (st : plS) (v2 : Int32) (hk : T = K_PR_countPlain_38 st v2) : plJ E 3 (plwC (plg E) a st) 0 0 [(0, .ref (a 25)), (2, .int v2)] 38 [] := by
  unfold K_PR_countPlain_38 at hk
  refine j_aload_n (pc := 38) X d_PR_countPlain_38 rfl 0 rfl ?_
  refine j_iload_n (pc := 39) X d_PR_countPlain_39 rfl 1 rfl ?_
  refine put_PR_plainQ (pc := 40) X fl_PR_80 d_PR_countPlain_40 ?_
  exact j_retv (pc := 43) X hQ d_PR_countPlain_43 hk
def K_PR_countPlain_35 (st : plS) (v2 : Int32) (k0 : Int32) : plS := K_PR_countPlain_38 (plUp st 25 3 k0) v2
set_option maxRecDepth 20000 in
theorem j_PR_countPlain_35 {E : plE} (X : plX E b_PR_countPlain "ProtectedLine$PointerReader" 3 none 2 41) (a : Nat → Nat) (T : plS) (hQ : plRv E (plwC (plg E) a) T) (st : plS) (v2 : Int32) (k0 : Int32) (hk : T = K_PR_countPlain_35 st v2 k0) : plJ E 3 (plwC (plg E) a st) 0 0 [(0, .ref (a 25)), (2, .int v2)] 35 [.int k0, .ref (a 25)] := by
  unfold K_PR_countPlain_35 at hk
  refine put_PR_plainRow (pc := 35) X fl_PR_22 d_PR_countPlain_35 ?_
  exact j_PR_countPlain_38 X a T hQ (plUp st 25 3 k0) v2 hk
def K_PR_countPlain (st : plS) (v1 : Int32) : plS := (if (K_CO_plainFor v1) = ((-1)) then plUp st 25 3 0 else (if (K_CO_plainFor v1) = (st 25 4) then K_PR_countPlain_35 st (K_CO_plainFor v1) ((st 25 3) + 1) else K_PR_countPlain_35 st (K_CO_plainFor v1) 1))
set_option maxRecDepth 20000 in
theorem j_PR_countPlain {E : plE} (X : plX E b_PR_countPlain "ProtectedLine$PointerReader" 3 none 2 41) (a : Nat → Nat) (T : plS) (hQ : plRv E (plwC (plg E) a) T) (st : plS) (v1 : Int32) (hk : T = K_PR_countPlain st v1) : plJ E 3 (plwC (plg E) a st) 0 0 [(0, .ref (a 25)), (1, .int v1)] 0 [] := by
  unfold K_PR_countPlain at hk
  refine j_iload_n (pc := 0) X d_PR_countPlain_0 rfl 1 rfl ?_
  refine j_callSp (pc := 1) (As := [.int v1]) (rest := []) X (c_CO_plainFor (plg E) a st v1) ml_PR_86 ⟨Nat.le_of_ble_eq_true rfl, Nat.le_of_ble_eq_true rfl⟩ rfl rfl (Nat.le_of_ble_eq_true rfl) d_PR_countPlain_1 ?_
  refine j_istore_n (pc := 4) X d_PR_countPlain_4 rfl (lv' := [(2, .int (K_CO_plainFor v1)), (0, .ref (a 25)), (1, .int v1)]) (Nat.le_of_ble_eq_true rfl) rfl ?_
  refine j_iload_n (pc := 5) X d_PR_countPlain_5 rfl 0 rfl ?_
  refine j_iconst (pc := 6) X d_PR_countPlain_6 ic_m1 ?_
  refine j_icmp_ne (pc := 7) (tgt := 16) X d_PR_countPlain_7 rfl (fun hc => ?_) (fun hc => ?_)
  · have hk := hk.trans (if_neg hc)
    refine j_aload_n (pc := 16) X d_PR_countPlain_16 rfl 1 rfl ?_
    refine j_iload_n (pc := 17) X d_PR_countPlain_17 rfl 0 rfl ?_
    refine j_aload_n (pc := 18) X d_PR_countPlain_18 rfl 1 rfl ?_
    refine get_PR_plainQ (pc := 19) X fl_PR_80 d_PR_countPlain_19 ?_
    refine j_icmp_ne (pc := 22) (tgt := 34) X d_PR_countPlain_22 rfl (fun hc => ?_) (fun hc => ?_)
    · have hk := hk.trans (if_neg hc)
      refine j_iconst (pc := 34) X d_PR_countPlain_34 ic_1 ?_
      refine j_sub [1, 0] (lv' := [(0, .ref (a 25)), (2, .int (K_CO_plainFor v1))]) rfl ?_
      exact j_PR_countPlain_35 X a T hQ st (K_CO_plainFor v1) 1 hk
    · have hk := hk.trans (if_pos hc)
      refine j_aload_n (pc := 25) X d_PR_countPlain_25 rfl 1 rfl ?_
      refine get_PR_plainRow (pc := 26) X fl_PR_22 d_PR_countPlain_26 ?_
      refine j_iconst (pc := 29) X d_PR_countPlain_29 ic_1 ?_
      refine j_iadd (pc := 30) X d_PR_countPlain_30 ?_
      refine j_goto (pc := 31) (tgt := 35) X d_PR_countPlain_31 rfl ?_
      refine j_sub [1, 0] (lv' := [(0, .ref (a 25)), (2, .int (K_CO_plainFor v1))]) rfl ?_
      exact j_PR_countPlain_35 X a T hQ st (K_CO_plainFor v1) ((st 25 3) + 1) hk
  · have hk := hk.trans (if_pos hc)
    refine j_aload_n (pc := 10) X d_PR_countPlain_10 rfl 1 rfl ?_
    refine j_iconst (pc := 11) X d_PR_countPlain_11 ic_0 ?_
    refine put_PR_plainRow (pc := 12) X fl_PR_22 d_PR_countPlain_12 ?_
    exact j_retv (pc := 15) X hQ d_PR_countPlain_15 hk
set_option maxRecDepth 20000 in
theorem c_PR_countPlain (g : plG) (a : Nat → Nat) (st : plS) (v1 : Int32) : plMv g y_PR_countPlain b_PR_countPlain 3 none 2 41 [.ref (a 25), .int v1] (plwC g a) st (K_PR_countPlain st v1) := by
  refine plMv.of (own := "ProtectedLine$PointerReader") (lv := [(0, .ref (a 25)), (1, .int v1)]) rfl rfl (Nat.le_of_ble_eq_true rfl) rfl (fun E hE X hQ => ?_)
  subst hE
  exact j_PR_countPlain X a _ hQ st v1 rfl
