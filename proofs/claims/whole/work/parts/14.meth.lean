def K_LN_joinedFrom_LWa_4L (st : plS) (v1 : Int32) (v2 : Int32) (v3 : Int32) : Bool × (Int32 × Int32) := (if 12 ≤ v3 then (false, (v2, v3)) else (true, (v2 ^^^ (st 12 (plIx (v1 + v3))), v3 + 1)))
def P_LN_joinedFrom_LWa_4L (st : plS) (v1 : Int32) (v2 : Int32) (v3 : Int32) : Prop := (¬ 12 ≤ v3 → vp_in (v1 + v3) 12)
set_option maxRecDepth 20000 in
theorem j_LN_joinedFrom_LWa_4L {E : plE} (X : plX E b_LN_joinedFrom "ProtectedLine$Line" 4 (some .int) 0 0) (a : Nat → Nat) (T : Bool × (Int32 × Int32)) (st : plS) (v1 : Int32) (hb : ∀ (c0 : Int32) (c1 : Int32), T = (true, (c0, c1)) → plJ E 4 (plwC (plg E) a st) 0 0 [(0, .ref (a 12)), (1, .int v1), (2, .int c0), (3, .int c1)] 4 []) (hx : ∀ (c0 : Int32) (c1 : Int32), T = (false, (c0, c1)) → plJ E 4 (plwC (plg E) a st) 0 0 [(0, .ref (a 12)), (1, .int v1), (2, .int c0), (3, .int c1)] 24 []) (v2 : Int32) (v3 : Int32) (hs : P_LN_joinedFrom_LWa_4L st v1 v2 v3) (hk : T = K_LN_joinedFrom_LWa_4L st v1 v2 v3) : plJ E 4 (plwC (plg E) a st) 0 0 [(0, .ref (a 12)), (1, .int v1), (2, .int v2), (3, .int v3)] 4 [] := by
  unfold P_LN_joinedFrom_LWa_4L at hs
  unfold K_LN_joinedFrom_LWa_4L at hk
  refine j_iload_n (pc := 4) X d_LN_joinedFrom_4 rfl 3 rfl ?_
  refine j_bipush (pc := 5) X d_LN_joinedFrom_5 bp_12 ?_
  refine j_icmp_ge (pc := 7) (tgt := 24) X d_LN_joinedFrom_7 rfl (fun hc => ?_) (fun hc => ?_)
  · have hk := hk.trans (if_pos hc)
    exact hx v2 v3 hk
  · have hk := hk.trans (if_neg hc)
    have hs := hs hc
    refine j_iload_n (pc := 10) X d_LN_joinedFrom_10 rfl 2 rfl ?_
    refine j_aload_n (pc := 11) X d_LN_joinedFrom_11 rfl 0 rfl ?_
    refine j_iload_n (pc := 12) X d_LN_joinedFrom_12 rfl 1 rfl ?_
    refine j_iload_n (pc := 13) X d_LN_joinedFrom_13 rfl 3 rfl ?_
    refine j_iadd (pc := 14) X d_LN_joinedFrom_14 ?_
    refine ald_LWa (pc := 15) X hs d_LN_joinedFrom_15 ?_
    refine j_ixor (pc := 16) X d_LN_joinedFrom_16 ?_
    refine j_istore_n (pc := 17) X d_LN_joinedFrom_17 rfl (lv' := [(2, .int (v2 ^^^ (st 12 (plIx (v1 + v3))))), (0, .ref (a 12)), (1, .int v1), (3, .int v3)]) (Nat.le_of_ble_eq_true rfl) rfl ?_
    refine j_iinc (pc := 18) X d_LN_joinedFrom_18 3 rfl ic_1 (lv' := [(3, .int (v3 + 1)), (2, .int (v2 ^^^ (st 12 (plIx (v1 + v3))))), (0, .ref (a 12)), (1, .int v1)]) (Nat.le_of_ble_eq_true rfl) rfl ?_
    refine j_goto (pc := 21) (tgt := 4) X d_LN_joinedFrom_21 rfl ?_
    refine j_sub [2, 3, 1, 0] (lv' := [(0, .ref (a 12)), (1, .int v1), (2, .int (v2 ^^^ (st 12 (plIx (v1 + v3))))), (3, .int (v3 + 1))]) rfl ?_
    exact hb (v2 ^^^ (st 12 (plIx (v1 + v3)))) (v3 + 1) hk
def F_LN_joinedFrom_LWa_4 (st : plS) (v1 : Int32) (c : Int32 × Int32) : Bool × (Int32 × Int32) := K_LN_joinedFrom_LWa_4L st v1 c.1 c.2
def G_LN_joinedFrom_LWa_4 (st : plS) (v1 : Int32) (c : Int32 × Int32) : Prop := P_LN_joinedFrom_LWa_4L st v1 c.1 c.2
def K_LN_joinedFrom_LWa_4X (st : plS) (v1 : Int32) (c : Int32 × Int32) : Int32 := c.1
set_option maxRecDepth 20000 in
theorem j_LN_joinedFrom_LWa_4X {E : plE} (X : plX E b_LN_joinedFrom "ProtectedLine$Line" 4 (some .int) 0 0) (a : Nat → Nat) (T : Int32) (st : plS) (hQ : plRp E (plwC (plg E) a) st T) (v1 : Int32) (c : Int32 × Int32) (hk : T = K_LN_joinedFrom_LWa_4X st v1 c) : plJ E 4 (plwC (plg E) a st) 0 0 [(0, .ref (a 12)), (1, .int v1), (2, .int c.1), (3, .int c.2)] 24 [] := by
  unfold K_LN_joinedFrom_LWa_4X at hk
  refine j_iload_n (pc := 24) X d_LN_joinedFrom_24 rfl 2 rfl ?_
  exact j_retip (pc := 25) X hQ d_LN_joinedFrom_25 hk
def K_LN_joinedFrom_LWa (st : plS) (v1 : Int32) : Int32 := K_LN_joinedFrom_LWa_4X st v1 (lpR (F_LN_joinedFrom_LWa_4 st v1) 64 (0, 0))
def P_LN_joinedFrom_LWa (st : plS) (v1 : Int32) : Prop := lpP (G_LN_joinedFrom_LWa_4 st v1) (F_LN_joinedFrom_LWa_4 st v1) 64 (0, 0)
set_option maxRecDepth 20000 in
theorem j_LN_joinedFrom_LWa {E : plE} (X : plX E b_LN_joinedFrom "ProtectedLine$Line" 4 (some .int) 0 0) (a : Nat → Nat) (T : Int32) (st : plS) (hQ : plRp E (plwC (plg E) a) st T) (v1 : Int32) (hs : P_LN_joinedFrom_LWa st v1) (hk : T = K_LN_joinedFrom_LWa st v1) : plJ E 4 (plwC (plg E) a st) 0 0 [(0, .ref (a 12)), (1, .int v1)] 0 [] := by
  unfold P_LN_joinedFrom_LWa at hs
  unfold K_LN_joinedFrom_LWa at hk
  refine j_iconst (pc := 0) X d_LN_joinedFrom_0 ic_0 ?_
  refine j_istore_n (pc := 1) X d_LN_joinedFrom_1 rfl (lv' := [(2, .int 0), (0, .ref (a 12)), (1, .int v1)]) (Nat.le_of_ble_eq_true rfl) rfl ?_
  refine j_iconst (pc := 2) X d_LN_joinedFrom_2 ic_0 ?_
  refine j_istore_n (pc := 3) X d_LN_joinedFrom_3 rfl (lv' := [(3, .int 0), (2, .int 0), (0, .ref (a 12)), (1, .int v1)]) (Nat.le_of_ble_eq_true rfl) rfl ?_
  refine j_sub [2, 3, 1, 0] (lv' := [(0, .ref (a 12)), (1, .int v1), (2, .int 0), (3, .int 0)]) rfl ?_
  exact lpJ (G_LN_joinedFrom_LWa_4 st v1) (F_LN_joinedFrom_LWa_4 st v1) (fun c => plJ E 4 (plwC (plg E) a st) 0 0 [(0, .ref (a 12)), (1, .int v1), (2, .int c.1), (3, .int c.2)] 4 []) (fun c => plJ E 4 (plwC (plg E) a st) 0 0 [(0, .ref (a 12)), (1, .int v1), (2, .int c.1), (3, .int c.2)] 24 []) (fun c hp h1 h2 => j_LN_joinedFrom_LWa_4L X a (F_LN_joinedFrom_LWa_4 st v1 c) st v1 (fun c0 c1 => h1 (c0, c1)) (fun c0 c1 => h2 (c0, c1)) c.1 c.2 hp rfl) 64 (0, 0) hs (j_LN_joinedFrom_LWa_4X X a T st hQ v1 (lpR (F_LN_joinedFrom_LWa_4 st v1) 64 (0, 0)) hk)
set_option maxRecDepth 20000 in
theorem c_LN_joinedFrom_LWa (g : plG) (a : Nat → Nat) (st : plS) (v1 : Int32) (hs : P_LN_joinedFrom_LWa st v1) : plMp g y_LN_joinedFrom b_LN_joinedFrom 4 (some .int) 0 0 [.ref (a 12), .int v1] (plwC g a) st (K_LN_joinedFrom_LWa st v1) := by
  refine plMp.of (own := "ProtectedLine$Line") (lv := [(0, .ref (a 12)), (1, .int v1)]) rfl rfl (Nat.le_of_ble_eq_true rfl) rfl (fun E hE X hQ => ?_)
  subst hE
  exact j_LN_joinedFrom_LWa X a _ st hQ v1 hs rfl
theorem d_LN_bringIn_0 : decode b_LN_bringIn 0 = .ok (.iconst 0, 1) := by decide +kernel
theorem d_LN_bringIn_1 : decode b_LN_bringIn 1 = .ok (.istore_n 2, 1) := by decide +kernel
theorem d_LN_bringIn_2 : decode b_LN_bringIn 2 = .ok (.iload_n 2, 1) := by decide +kernel
theorem d_LN_bringIn_3 : decode b_LN_bringIn 3 = .ok (.bipush (12), 2) := by decide +kernel
theorem d_LN_bringIn_5 : decode b_LN_bringIn 5 = .ok (.if_icmp .ge (30), 3) := by decide +kernel
theorem d_LN_bringIn_8 : decode b_LN_bringIn 8 = .ok (.aload_n 0, 1) := by decide +kernel
theorem d_LN_bringIn_9 : decode b_LN_bringIn 9 = .ok (.getfield 18, 3) := by decide +kernel
theorem d_LN_bringIn_12 : decode b_LN_bringIn 12 = .ok (.iload_n 2, 1) := by decide +kernel
theorem d_LN_bringIn_13 : decode b_LN_bringIn 13 = .ok (.aload_n 0, 1) := by decide +kernel
theorem d_LN_bringIn_14 : decode b_LN_bringIn 14 = .ok (.getfield 11, 3) := by decide +kernel
theorem d_LN_bringIn_17 : decode b_LN_bringIn 17 = .ok (.iload_n 1, 1) := by decide +kernel
theorem d_LN_bringIn_18 : decode b_LN_bringIn 18 = .ok (.iload_n 2, 1) := by decide +kernel
theorem d_LN_bringIn_19 : decode b_LN_bringIn 19 = .ok (.iadd, 1) := by decide +kernel
theorem d_LN_bringIn_20 : decode b_LN_bringIn 20 = .ok (.iaload, 1) := by decide +kernel
theorem d_LN_bringIn_21 : decode b_LN_bringIn 21 = .ok (.aload_n 0, 1) := by decide +kernel
theorem d_LN_bringIn_22 : decode b_LN_bringIn 22 = .ok (.getfield 15, 3) := by decide +kernel
theorem d_LN_bringIn_25 : decode b_LN_bringIn 25 = .ok (.iload_n 2, 1) := by decide +kernel
theorem d_LN_bringIn_26 : decode b_LN_bringIn 26 = .ok (.iaload, 1) := by decide +kernel
theorem d_LN_bringIn_27 : decode b_LN_bringIn 27 = .ok (.ixor, 1) := by decide +kernel
theorem d_LN_bringIn_28 : decode b_LN_bringIn 28 = .ok (.iastore, 1) := by decide +kernel
theorem d_LN_bringIn_29 : decode b_LN_bringIn 29 = .ok (.iinc 2 (1), 3) := by decide +kernel
theorem d_LN_bringIn_32 : decode b_LN_bringIn 32 = .ok (.goto (-30), 3) := by decide +kernel
theorem d_LN_bringIn_35 : decode b_LN_bringIn 35 = .ok (.aload_n 0, 1) := by decide +kernel
theorem d_LN_bringIn_36 : decode b_LN_bringIn 36 = .ok (.aload_n 0, 1) := by decide +kernel
theorem d_LN_bringIn_37 : decode b_LN_bringIn 37 = .ok (.getfield 18, 3) := by decide +kernel
theorem d_LN_bringIn_40 : decode b_LN_bringIn 40 = .ok (.iconst 0, 1) := by decide +kernel
theorem d_LN_bringIn_41 : decode b_LN_bringIn 41 = .ok (.invokestatic 38, 3) := by decide +kernel
theorem d_LN_bringIn_44 : decode b_LN_bringIn 44 = .ok (.putfield 46, 3) := by decide +kernel
theorem d_LN_bringIn_47 : decode b_LN_bringIn 47 = .ok (.return_, 1) := by decide +kernel
def K_LW_bringIn_2L (st : plS) (v1 : Int32) (v2 : Int32) : Bool × (plS × Int32) := (if 12 ≤ v2 then (false, (st, v2)) else (true, (plUp st 12 (plIx v2) ((st 10 (plIx (v1 + v2))) ^^^ (st 11 (plIx v2))), v2 + 1)))
def P_LW_bringIn_2L (st : plS) (v1 : Int32) (v2 : Int32) : Prop := (¬ 12 ≤ v2 → (vp_in (v1 + v2) 96 ∧ (vp_in v2 12 ∧ vp_in v2 12)))
set_option maxRecDepth 20000 in
theorem j_LW_bringIn_2L {E : plE} (X : plX E b_LN_bringIn "ProtectedLine$Line" 3 none 1 23) (a : Nat → Nat) (T : Bool × (plS × Int32)) (v1 : Int32) (hb : ∀ (c0 : plS) (c1 : Int32), T = (true, (c0, c1)) → plJ E 3 (plwC (plg E) a c0) 0 0 [(0, .ref (a 9)), (1, .int v1), (2, .int c1)] 2 []) (hx : ∀ (c0 : plS) (c1 : Int32), T = (false, (c0, c1)) → plJ E 3 (plwC (plg E) a c0) 0 0 [(0, .ref (a 9)), (1, .int v1), (2, .int c1)] 35 []) (st : plS) (v2 : Int32) (hs : P_LW_bringIn_2L st v1 v2) (hk : T = K_LW_bringIn_2L st v1 v2) : plJ E 3 (plwC (plg E) a st) 0 0 [(0, .ref (a 9)), (1, .int v1), (2, .int v2)] 2 [] := by
  unfold P_LW_bringIn_2L at hs
  unfold K_LW_bringIn_2L at hk
  refine j_iload_n (pc := 2) X d_LN_bringIn_2 rfl 2 rfl ?_
  refine j_bipush (pc := 3) X d_LN_bringIn_3 bp_12 ?_
  refine j_icmp_ge (pc := 5) (tgt := 35) X d_LN_bringIn_5 rfl (fun hc => ?_) (fun hc => ?_)
  · have hk := hk.trans (if_pos hc)
    exact hx st v2 hk
  · have hk := hk.trans (if_neg hc)
    have hs := hs hc
    refine j_aload_n (pc := 8) X d_LN_bringIn_8 rfl 0 rfl ?_
    refine get_LW_arrived (pc := 9) X fl_LN_18 d_LN_bringIn_9 ?_
    refine j_iload_n (pc := 12) X d_LN_bringIn_12 rfl 2 rfl ?_
    refine j_aload_n (pc := 13) X d_LN_bringIn_13 rfl 0 rfl ?_
    refine get_LW_underWay (pc := 14) X fl_LN_11 d_LN_bringIn_14 ?_
    refine j_iload_n (pc := 17) X d_LN_bringIn_17 rfl 1 rfl ?_
    refine j_iload_n (pc := 18) X d_LN_bringIn_18 rfl 2 rfl ?_
    refine j_iadd (pc := 19) X d_LN_bringIn_19 ?_
    refine ald_LWu (pc := 20) X hs.1 d_LN_bringIn_20 ?_
    have hs := hs.2
    refine j_aload_n (pc := 21) X d_LN_bringIn_21 rfl 0 rfl ?_
    refine get_LW_harm (pc := 22) X fl_LN_15 d_LN_bringIn_22 ?_
    refine j_iload_n (pc := 25) X d_LN_bringIn_25 rfl 2 rfl ?_
    refine ald_LWh (pc := 26) X hs.1 d_LN_bringIn_26 ?_
    have hs := hs.2
    refine j_ixor (pc := 27) X d_LN_bringIn_27 ?_
    refine ast_LWa (pc := 28) X hs d_LN_bringIn_28 ?_
    refine j_iinc (pc := 29) X d_LN_bringIn_29 2 rfl ic_1 (lv' := [(2, .int (v2 + 1)), (0, .ref (a 9)), (1, .int v1)]) (Nat.le_of_ble_eq_true rfl) rfl ?_
    refine j_goto (pc := 32) (tgt := 2) X d_LN_bringIn_32 rfl ?_
    refine j_sub [1, 2, 0] (lv' := [(0, .ref (a 9)), (1, .int v1), (2, .int (v2 + 1))]) rfl ?_
    exact hb (plUp st 12 (plIx v2) ((st 10 (plIx (v1 + v2))) ^^^ (st 11 (plIx v2)))) (v2 + 1) hk
def F_LW_bringIn_2 (v1 : Int32) (c : plS × Int32) : Bool × (plS × Int32) := K_LW_bringIn_2L c.1 v1 c.2
def G_LW_bringIn_2 (v1 : Int32) (c : plS × Int32) : Prop := P_LW_bringIn_2L c.1 v1 c.2
def K_LW_bringIn_2X (v1 : Int32) (c : plS × Int32) : plS := plUp c.1 9 8 (K_LN_joinedFrom_LWa c.1 0)
def P_LW_bringIn_2X (v1 : Int32) (c : plS × Int32) : Prop := P_LN_joinedFrom_LWa c.1 0
set_option maxRecDepth 20000 in
theorem j_LW_bringIn_2X {E : plE} (X : plX E b_LN_bringIn "ProtectedLine$Line" 3 none 1 23) (a : Nat → Nat) (T : plS) (hQ : plRv E (plwC (plg E) a) T) (v1 : Int32) (c : plS × Int32) (hs : P_LW_bringIn_2X v1 c) (hk : T = K_LW_bringIn_2X v1 c) : plJ E 3 (plwC (plg E) a c.1) 0 0 [(0, .ref (a 9)), (1, .int v1), (2, .int c.2)] 35 [] := by
  unfold P_LW_bringIn_2X at hs
  unfold K_LW_bringIn_2X at hk
  refine j_aload_n (pc := 35) X d_LN_bringIn_35 rfl 0 rfl ?_
  refine j_aload_n (pc := 36) X d_LN_bringIn_36 rfl 0 rfl ?_
  refine get_LW_arrived (pc := 37) X fl_LN_18 d_LN_bringIn_37 ?_
  refine j_iconst (pc := 40) X d_LN_bringIn_40 ic_0 ?_
  refine j_callSp (pc := 41) (As := [.ref (a 12), .int 0]) (rest := [.ref (a 9)]) X (c_LN_joinedFrom_LWa (plg E) a c.1 0 hs) ml_LN_38 ⟨Nat.le_of_ble_eq_true rfl, Nat.le_of_ble_eq_true rfl⟩ rfl rfl (Nat.le_of_ble_eq_true rfl) d_LN_bringIn_41 ?_
  refine put_LW_joinedArrived (pc := 44) X fl_LN_46 d_LN_bringIn_44 ?_
  exact j_retv (pc := 47) X hQ d_LN_bringIn_47 hk
def K_LW_bringIn (st : plS) (v1 : Int32) : plS := K_LW_bringIn_2X v1 (lpR (F_LW_bringIn_2 v1) 64 (st, 0))
def P_LW_bringIn (st : plS) (v1 : Int32) : Prop := (lpP (G_LW_bringIn_2 v1) (F_LW_bringIn_2 v1) 64 (st, 0) ∧ P_LW_bringIn_2X v1 (lpR (F_LW_bringIn_2 v1) 64 (st, 0)))
set_option maxRecDepth 20000 in
theorem j_LW_bringIn {E : plE} (X : plX E b_LN_bringIn "ProtectedLine$Line" 3 none 1 23) (a : Nat → Nat) (T : plS) (hQ : plRv E (plwC (plg E) a) T) (st : plS) (v1 : Int32) (hs : P_LW_bringIn st v1) (hk : T = K_LW_bringIn st v1) : plJ E 3 (plwC (plg E) a st) 0 0 [(0, .ref (a 9)), (1, .int v1)] 0 [] := by
  unfold P_LW_bringIn at hs
  unfold K_LW_bringIn at hk
  refine j_iconst (pc := 0) X d_LN_bringIn_0 ic_0 ?_
  refine j_istore_n (pc := 1) X d_LN_bringIn_1 rfl (lv' := [(2, .int 0), (0, .ref (a 9)), (1, .int v1)]) (Nat.le_of_ble_eq_true rfl) rfl ?_
  refine j_sub [1, 2, 0] (lv' := [(0, .ref (a 9)), (1, .int v1), (2, .int 0)]) rfl ?_
  exact lpJ (G_LW_bringIn_2 v1) (F_LW_bringIn_2 v1) (fun c => plJ E 3 (plwC (plg E) a c.1) 0 0 [(0, .ref (a 9)), (1, .int v1), (2, .int c.2)] 2 []) (fun c => plJ E 3 (plwC (plg E) a c.1) 0 0 [(0, .ref (a 9)), (1, .int v1), (2, .int c.2)] 35 []) (fun c hp h1 h2 => j_LW_bringIn_2L X a (F_LW_bringIn_2 v1 c) v1 (fun c0 c1 => h1 (c0, c1)) (fun c0 c1 => h2 (c0, c1)) c.1 c.2 hp rfl) 64 (st, 0) hs.1 (j_LW_bringIn_2X X a T hQ v1 (lpR (F_LW_bringIn_2 v1) 64 (st, 0)) hs.2 hk)
set_option maxRecDepth 20000 in
theorem c_LW_bringIn (g : plG) (a : Nat → Nat) (st : plS) (v1 : Int32) (hs : P_LW_bringIn st v1) : plMv g y_LN_bringIn b_LN_bringIn 3 none 1 23 [.ref (a 9), .int v1] (plwC g a) st (K_LW_bringIn st v1) := by
  refine plMv.of (own := "ProtectedLine$Line") (lv := [(0, .ref (a 9)), (1, .int v1)]) rfl rfl (Nat.le_of_ble_eq_true rfl) rfl (fun E hE X hQ => ?_)
  subst hE
  exact j_LW_bringIn X a _ hQ st v1 hs rfl
theorem d_LN_receive_0 : decode b_LN_receive 0 = .ok (.aload_n 0, 1) := by decide +kernel
theorem d_LN_receive_1 : decode b_LN_receive 1 = .ok (.getfield 42, 3) := by decide +kernel
theorem d_LN_receive_4 : decode b_LN_receive 4 = .ok (.istore_n 1, 1) := by decide +kernel
theorem d_LN_receive_5 : decode b_LN_receive 5 = .ok (.aload_n 0, 1) := by decide +kernel
theorem d_LN_receive_6 : decode b_LN_receive 6 = .ok (.getfield 46, 3) := by decide +kernel
theorem d_LN_receive_9 : decode b_LN_receive 9 = .ok (.istore_n 2, 1) := by decide +kernel
theorem d_LN_receive_10 : decode b_LN_receive 10 = .ok (.aload_n 0, 1) := by decide +kernel
theorem d_LN_receive_11 : decode b_LN_receive 11 = .ok (.aload_n 0, 1) := by decide +kernel
theorem d_LN_receive_12 : decode b_LN_receive 12 = .ok (.getfield 49, 3) := by decide +kernel
theorem d_LN_receive_15 : decode b_LN_receive 15 = .ok (.ifCond .ne (18), 3) := by decide +kernel
theorem d_LN_receive_18 : decode b_LN_receive 18 = .ok (.aload_n 0, 1) := by decide +kernel
theorem d_LN_receive_19 : decode b_LN_receive 19 = .ok (.getfield 25, 3) := by decide +kernel
theorem d_LN_receive_22 : decode b_LN_receive 22 = .ok (.aload_n 0, 1) := by decide +kernel
theorem d_LN_receive_23 : decode b_LN_receive 23 = .ok (.getfield 21, 3) := by decide +kernel
theorem d_LN_receive_26 : decode b_LN_receive 26 = .ok (.if_icmp .le (7), 3) := by decide +kernel
theorem d_LN_receive_29 : decode b_LN_receive 29 = .ok (.iconst 1, 1) := by decide +kernel
theorem d_LN_receive_30 : decode b_LN_receive 30 = .ok (.goto (4), 3) := by decide +kernel
theorem d_LN_receive_33 : decode b_LN_receive 33 = .ok (.iconst 0, 1) := by decide +kernel
theorem d_LN_receive_34 : decode b_LN_receive 34 = .ok (.putfield 42, 3) := by decide +kernel
theorem d_LN_receive_37 : decode b_LN_receive 37 = .ok (.aload_n 0, 1) := by decide +kernel
theorem d_LN_receive_38 : decode b_LN_receive 38 = .ok (.getfield 42, 3) := by decide +kernel
theorem d_LN_receive_41 : decode b_LN_receive 41 = .ok (.ifCond .eq (21), 3) := by decide +kernel
theorem d_LN_receive_44 : decode b_LN_receive 44 = .ok (.aload_n 0, 1) := by decide +kernel
theorem d_LN_receive_45 : decode b_LN_receive 45 = .ok (.aload_n 0, 1) := by decide +kernel
theorem d_LN_receive_46 : decode b_LN_receive 46 = .ok (.getfield 25, 3) := by decide +kernel
theorem d_LN_receive_49 : decode b_LN_receive 49 = .ok (.iconst 1, 1) := by decide +kernel
theorem d_LN_receive_50 : decode b_LN_receive 50 = .ok (.isub, 1) := by decide +kernel
theorem d_LN_receive_51 : decode b_LN_receive 51 = .ok (.aload_n 0, 1) := by decide +kernel
theorem d_LN_receive_52 : decode b_LN_receive 52 = .ok (.getfield 21, 3) := by decide +kernel
theorem d_LN_receive_55 : decode b_LN_receive 55 = .ok (.isub, 1) := by decide +kernel
theorem d_LN_receive_56 : decode b_LN_receive 56 = .ok (.invokestatic 28, 3) := by decide +kernel
theorem d_LN_receive_59 : decode b_LN_receive 59 = .ok (.invokevirtual 52, 3) := by decide +kernel
theorem d_LN_receive_62 : decode b_LN_receive 62 = .ok (.aload_n 0, 1) := by decide +kernel
theorem d_LN_receive_63 : decode b_LN_receive 63 = .ok (.getfield 15, 3) := by decide +kernel
theorem d_LN_receive_66 : decode b_LN_receive 66 = .ok (.iconst 0, 1) := by decide +kernel
theorem d_LN_receive_67 : decode b_LN_receive 67 = .ok (.invokestatic 56, 3) := by decide +kernel
theorem d_LN_receive_70 : decode b_LN_receive 70 = .ok (.aload_n 0, 1) := by decide +kernel
theorem d_LN_receive_71 : decode b_LN_receive 71 = .ok (.aload_n 0, 1) := by decide +kernel
theorem d_LN_receive_72 : decode b_LN_receive 72 = .ok (.getfield 42, 3) := by decide +kernel
theorem d_LN_receive_75 : decode b_LN_receive 75 = .ok (.ifCond .eq (30), 3) := by decide +kernel
theorem d_LN_receive_78 : decode b_LN_receive 78 = .ok (.aload_n 0, 1) := by decide +kernel
theorem d_LN_receive_79 : decode b_LN_receive 79 = .ok (.getfield 18, 3) := by decide +kernel
theorem d_LN_receive_82 : decode b_LN_receive 82 = .ok (.iconst 0, 1) := by decide +kernel
theorem d_LN_receive_83 : decode b_LN_receive 83 = .ok (.iaload, 1) := by decide +kernel
theorem d_LN_receive_84 : decode b_LN_receive 84 = .ok (.sipush (246), 3) := by decide +kernel
theorem d_LN_receive_87 : decode b_LN_receive 87 = .ok (.if_icmp .ne (18), 3) := by decide +kernel
theorem d_LN_receive_90 : decode b_LN_receive 90 = .ok (.aload_n 0, 1) := by decide +kernel
theorem d_LN_receive_91 : decode b_LN_receive 91 = .ok (.getfield 18, 3) := by decide +kernel
theorem d_LN_receive_94 : decode b_LN_receive 94 = .ok (.iconst 1, 1) := by decide +kernel
theorem d_LN_receive_95 : decode b_LN_receive 95 = .ok (.iaload, 1) := by decide +kernel
theorem d_LN_receive_96 : decode b_LN_receive 96 = .ok (.bipush (40), 2) := by decide +kernel
theorem d_LN_receive_98 : decode b_LN_receive 98 = .ok (.if_icmp .ne (7), 3) := by decide +kernel
theorem d_LN_receive_101 : decode b_LN_receive 101 = .ok (.iconst 1, 1) := by decide +kernel
theorem d_LN_receive_102 : decode b_LN_receive 102 = .ok (.goto (4), 3) := by decide +kernel
theorem d_LN_receive_105 : decode b_LN_receive 105 = .ok (.iconst 0, 1) := by decide +kernel
theorem d_LN_receive_106 : decode b_LN_receive 106 = .ok (.invokevirtual 62, 3) := by decide +kernel
theorem d_LN_receive_109 : decode b_LN_receive 109 = .ok (.aload_n 0, 1) := by decide +kernel
theorem d_LN_receive_110 : decode b_LN_receive 110 = .ok (.invokevirtual 66, 3) := by decide +kernel
theorem d_LN_receive_113 : decode b_LN_receive 113 = .ok (.ifCond .eq (26), 3) := by decide +kernel
theorem d_LN_receive_116 : decode b_LN_receive 116 = .ok (.iload_n 1, 1) := by decide +kernel
theorem d_LN_receive_117 : decode b_LN_receive 117 = .ok (.ifCond .eq (22), 3) := by decide +kernel
theorem d_LN_receive_120 : decode b_LN_receive 120 = .ok (.aload_n 0, 1) := by decide +kernel
theorem d_LN_receive_121 : decode b_LN_receive 121 = .ok (.dup, 1) := by decide +kernel
theorem d_LN_receive_122 : decode b_LN_receive 122 = .ok (.getfield 70, 3) := by decide +kernel
theorem d_LN_receive_125 : decode b_LN_receive 125 = .ok (.aload_n 0, 1) := by decide +kernel
theorem d_LN_receive_126 : decode b_LN_receive 126 = .ok (.iconst 2, 1) := by decide +kernel
theorem d_LN_receive_127 : decode b_LN_receive 127 = .ok (.invokevirtual 73, 3) := by decide +kernel
theorem d_LN_receive_130 : decode b_LN_receive 130 = .ok (.iload_n 2, 1) := by decide +kernel
theorem d_LN_receive_131 : decode b_LN_receive 131 = .ok (.ixor, 1) := by decide +kernel
theorem d_LN_receive_132 : decode b_LN_receive 132 = .ok (.invokestatic 76, 3) := by decide +kernel
theorem d_LN_receive_135 : decode b_LN_receive 135 = .ok (.iadd, 1) := by decide +kernel
theorem d_LN_receive_136 : decode b_LN_receive 136 = .ok (.putfield 70, 3) := by decide +kernel
theorem d_LN_receive_139 : decode b_LN_receive 139 = .ok (.return_, 1) := by decide +kernel
def K_LW_receive_139 (st : plS) : plS := st
set_option maxRecDepth 20000 in
theorem j_LW_receive_139 {E : plE} (X : plX E b_LN_receive "ProtectedLine$Line" 3 none 2 45) (a : Nat → Nat) (T : plS) (hQ : plRv E (plwC (plg E) a) T) (st : plS)  (hk : T = K_LW_receive_139 st) : plJ E 3 (plwC (plg E) a st) 0 0 [] 139 [] := by
  unfold K_LW_receive_139 at hk
  exact j_retv (pc := 139) X hQ d_LN_receive_139 hk
def K_LW_receive_109 (st : plS) (v1 : Int32) (v2 : Int32) : plS := (if (K_LW_readable st) = 0 then K_LW_receive_139 st else (if v1 = 0 then K_LW_receive_139 st else K_LW_receive_139 (plUp st 9 11 ((st 9 11) + (K_JI_bitCount ((K_LW_plainAt st 2) ^^^ v2))))))
def P_LW_receive_109 (st : plS) (v1 : Int32) (v2 : Int32) : Prop := (P_LW_readable st ∧ (¬ (K_LW_readable st) = 0 → (¬ v1 = 0 → P_LW_plainAt st 2)))
set_option maxRecDepth 20000 in
theorem j_LW_receive_109 {E : plE} (X : plX E b_LN_receive "ProtectedLine$Line" 3 none 2 45) (a : Nat → Nat) (T : plS) (hQ : plRv E (plwC (plg E) a) T) (st : plS) (v1 : Int32) (v2 : Int32) (hs : P_LW_receive_109 st v1 v2) (hk : T = K_LW_receive_109 st v1 v2) : plJ E 3 (plwC (plg E) a st) 0 0 [(0, .ref (a 9)), (1, .int v1), (2, .int v2)] 109 [] := by
  unfold P_LW_receive_109 at hs
  unfold K_LW_receive_109 at hk
  refine j_aload_n (pc := 109) X d_LN_receive_109 rfl 0 rfl ?_
  refine j_callVp (pc := 110) (As := []) (rest := []) X (c_LW_readable (plg E) a st hs.1) ml_LN_66 9 rfl rfl ⟨Nat.le_of_ble_eq_true rfl, Nat.le_of_ble_eq_true rfl⟩ rfl rfl (Nat.le_of_ble_eq_true rfl) d_LN_receive_110 ?_
  have hs := hs.2
  refine j_if_eq (pc := 113) (tgt := 139) X d_LN_receive_113 rfl (fun hc => ?_) (fun hc => ?_)
  · have hk := hk.trans (if_pos hc)
    refine j_sub [] (lv' := []) rfl ?_
    exact j_LW_receive_139 X a T hQ st hk
  · have hk := hk.trans (if_neg hc)
    have hs := hs hc
    refine j_iload_n (pc := 116) X d_LN_receive_116 rfl 1 rfl ?_
    refine j_if_eq (pc := 117) (tgt := 139) X d_LN_receive_117 rfl (fun hc => ?_) (fun hc => ?_)
    · have hk := hk.trans (if_pos hc)
      refine j_sub [] (lv' := []) rfl ?_
      exact j_LW_receive_139 X a T hQ st hk
    · have hk := hk.trans (if_neg hc)
      have hs := hs hc
      refine j_aload_n (pc := 120) X d_LN_receive_120 rfl 0 rfl ?_
      refine j_dup (pc := 121) X d_LN_receive_121 rfl ?_
      refine get_LW_errorBits (pc := 122) X fl_LN_70 d_LN_receive_122 ?_
      refine j_aload_n (pc := 125) X d_LN_receive_125 rfl 0 rfl ?_
      refine j_iconst (pc := 126) X d_LN_receive_126 ic_2 ?_
      refine j_callVp (pc := 127) (As := [.int 2]) (rest := [.int (st 9 11), .ref (a 9)]) X (c_LW_plainAt (plg E) a st 2 hs) ml_LN_73 9 rfl rfl ⟨Nat.le_of_ble_eq_true rfl, Nat.le_of_ble_eq_true rfl⟩ rfl rfl (Nat.le_of_ble_eq_true rfl) d_LN_receive_127 ?_
      refine j_iload_n (pc := 130) X d_LN_receive_130 rfl 2 rfl ?_
      refine j_ixor (pc := 131) X d_LN_receive_131 ?_
      refine j_callSp (pc := 132) (As := [.int ((K_LW_plainAt st 2) ^^^ v2)]) (rest := [.int (st 9 11), .ref (a 9)]) X (c_JI_bitCount (plg E) a st ((K_LW_plainAt st 2) ^^^ v2)) ml_LN_76 ⟨Nat.le_of_ble_eq_true rfl, Nat.le_of_ble_eq_true rfl⟩ rfl rfl (Nat.le_of_ble_eq_true rfl) d_LN_receive_132 ?_
      refine j_iadd (pc := 135) X d_LN_receive_135 ?_
      refine put_LW_errorBits (pc := 136) X fl_LN_70 d_LN_receive_136 ?_
      refine j_sub [] (lv' := []) rfl ?_
      exact j_LW_receive_139 X a T hQ (plUp st 9 11 ((st 9 11) + (K_JI_bitCount ((K_LW_plainAt st 2) ^^^ v2)))) hk
def K_LW_receive_106 (st : plS) (v1 : Int32) (v2 : Int32) (k0 : Int32) : plS := K_LW_receive_109 (K_LW_align st k0) v1 v2
def P_LW_receive_106 (st : plS) (v1 : Int32) (v2 : Int32) (k0 : Int32) : Prop := P_LW_receive_109 (K_LW_align st k0) v1 v2
set_option maxRecDepth 20000 in
theorem j_LW_receive_106 {E : plE} (X : plX E b_LN_receive "ProtectedLine$Line" 3 none 2 45) (a : Nat → Nat) (T : plS) (hQ : plRv E (plwC (plg E) a) T) (st : plS) (v1 : Int32) (v2 : Int32) (k0 : Int32) (hs : P_LW_receive_106 st v1 v2 k0) (hk : T = K_LW_receive_106 st v1 v2 k0) : plJ E 3 (plwC (plg E) a st) 0 0 [(0, .ref (a 9)), (1, .int v1), (2, .int v2)] 106 [.int k0, .ref (a 9)] := by
  unfold P_LW_receive_106 at hs
  unfold K_LW_receive_106 at hk
  refine j_callVv (pc := 106) (As := [.int k0]) (rest := []) X (c_LW_align (plg E) a st k0) ml_LN_62 9 rfl rfl ⟨Nat.le_of_ble_eq_true rfl, Nat.le_of_ble_eq_true rfl⟩ rfl rfl (Nat.le_of_ble_eq_true rfl) d_LN_receive_106 ?_
  exact j_LW_receive_109 X a T hQ (K_LW_align st k0) v1 v2 hs hk
def K_LW_receive_105 (st : plS) (v1 : Int32) (v2 : Int32) : plS := K_LW_receive_106 st v1 v2 0
def P_LW_receive_105 (st : plS) (v1 : Int32) (v2 : Int32) : Prop := P_LW_receive_106 st v1 v2 0
set_option maxRecDepth 20000 in
theorem j_LW_receive_105 {E : plE} (X : plX E b_LN_receive "ProtectedLine$Line" 3 none 2 45) (a : Nat → Nat) (T : plS) (hQ : plRv E (plwC (plg E) a) T) (st : plS) (v1 : Int32) (v2 : Int32) (hs : P_LW_receive_105 st v1 v2) (hk : T = K_LW_receive_105 st v1 v2) : plJ E 3 (plwC (plg E) a st) 0 0 [(0, .ref (a 9)), (1, .int v1), (2, .int v2)] 105 [.ref (a 9)] := by
  unfold P_LW_receive_105 at hs
  unfold K_LW_receive_105 at hk
  refine j_iconst (pc := 105) X d_LN_receive_105 ic_0 ?_
  exact j_LW_receive_106 X a T hQ st v1 v2 0 hs hk
def K_LW_receive_70 (st : plS) (v1 : Int32) (v2 : Int32) : plS := (if (st 9 7) = 0 then K_LW_receive_105 st v1 v2 else (if (st 12 (plIx 0)) = 246 then (if (st 12 (plIx 1)) = 40 then K_LW_receive_106 st v1 v2 1 else K_LW_receive_105 st v1 v2) else K_LW_receive_105 st v1 v2))
def P_LW_receive_70 (st : plS) (v1 : Int32) (v2 : Int32) : Prop := (((st 9 7) = 0 → P_LW_receive_105 st v1 v2) ∧ (¬ (st 9 7) = 0 → (((st 12 (plIx 0)) = 246 → (((st 12 (plIx 1)) = 40 → P_LW_receive_106 st v1 v2 1) ∧ (¬ (st 12 (plIx 1)) = 40 → P_LW_receive_105 st v1 v2))) ∧ (¬ (st 12 (plIx 0)) = 246 → P_LW_receive_105 st v1 v2))))
set_option maxRecDepth 20000 in
theorem j_LW_receive_70 {E : plE} (X : plX E b_LN_receive "ProtectedLine$Line" 3 none 2 45) (a : Nat → Nat) (T : plS) (hQ : plRv E (plwC (plg E) a) T) (st : plS) (v1 : Int32) (v2 : Int32) (hs : P_LW_receive_70 st v1 v2) (hk : T = K_LW_receive_70 st v1 v2) : plJ E 3 (plwC (plg E) a st) 0 0 [(0, .ref (a 9)), (1, .int v1), (2, .int v2)] 70 [] := by
  unfold P_LW_receive_70 at hs
  unfold K_LW_receive_70 at hk
  refine j_aload_n (pc := 70) X d_LN_receive_70 rfl 0 rfl ?_
  refine j_aload_n (pc := 71) X d_LN_receive_71 rfl 0 rfl ?_
  refine get_LW_hasArrived (pc := 72) X fl_LN_42 d_LN_receive_72 ?_
  refine j_if_eq (pc := 75) (tgt := 105) X d_LN_receive_75 rfl (fun hc => ?_) (fun hc => ?_)
  · have hk := hk.trans (if_pos hc)
    have hs := hs.1 hc
    exact j_LW_receive_105 X a T hQ st v1 v2 hs hk
  · have hk := hk.trans (if_neg hc)
    have hs := hs.2 hc
    refine j_aload_n (pc := 78) X d_LN_receive_78 rfl 0 rfl ?_
    refine get_LW_arrived (pc := 79) X fl_LN_18 d_LN_receive_79 ?_
    refine j_iconst (pc := 82) X d_LN_receive_82 ic_0 ?_
    refine ald_LWa (pc := 83) X vi_0_12 d_LN_receive_83 ?_
    refine j_sipush (pc := 84) X d_LN_receive_84 sp_246 ?_
    refine j_icmp_ne (pc := 87) (tgt := 105) X d_LN_receive_87 rfl (fun hc => ?_) (fun hc => ?_)
    · have hk := hk.trans (if_neg hc)
      have hs := hs.2 hc
      exact j_LW_receive_105 X a T hQ st v1 v2 hs hk
    · have hk := hk.trans (if_pos hc)
      have hs := hs.1 hc
      refine j_aload_n (pc := 90) X d_LN_receive_90 rfl 0 rfl ?_
      refine get_LW_arrived (pc := 91) X fl_LN_18 d_LN_receive_91 ?_
      refine j_iconst (pc := 94) X d_LN_receive_94 ic_1 ?_
      refine ald_LWa (pc := 95) X vi_1_12 d_LN_receive_95 ?_
      refine j_bipush (pc := 96) X d_LN_receive_96 bp_40 ?_
      refine j_icmp_ne (pc := 98) (tgt := 105) X d_LN_receive_98 rfl (fun hc => ?_) (fun hc => ?_)
      · have hk := hk.trans (if_neg hc)
        have hs := hs.2 hc
        exact j_LW_receive_105 X a T hQ st v1 v2 hs hk
      · have hk := hk.trans (if_pos hc)
        have hs := hs.1 hc
        refine j_iconst (pc := 101) X d_LN_receive_101 ic_1 ?_
        refine j_goto (pc := 102) (tgt := 106) X d_LN_receive_102 rfl ?_
        exact j_LW_receive_106 X a T hQ st v1 v2 1 hs hk
def K_LW_receive_62 (st : plS) (v1 : Int32) (v2 : Int32) : plS := K_LW_receive_70 (K_JA_fill_LWh st 0) v1 v2
def P_LW_receive_62 (st : plS) (v1 : Int32) (v2 : Int32) : Prop := (P_JA_fill_LWh st 0 ∧ P_LW_receive_70 (K_JA_fill_LWh st 0) v1 v2)
set_option maxRecDepth 20000 in
theorem j_LW_receive_62 {E : plE} (X : plX E b_LN_receive "ProtectedLine$Line" 3 none 2 45) (a : Nat → Nat) (T : plS) (hQ : plRv E (plwC (plg E) a) T) (st : plS) (v1 : Int32) (v2 : Int32) (hs : P_LW_receive_62 st v1 v2) (hk : T = K_LW_receive_62 st v1 v2) : plJ E 3 (plwC (plg E) a st) 0 0 [(0, .ref (a 9)), (1, .int v1), (2, .int v2)] 62 [] := by
  unfold P_LW_receive_62 at hs
  unfold K_LW_receive_62 at hk
  refine j_aload_n (pc := 62) X d_LN_receive_62 rfl 0 rfl ?_
  refine get_LW_harm (pc := 63) X fl_LN_15 d_LN_receive_63 ?_
  refine j_iconst (pc := 66) X d_LN_receive_66 ic_0 ?_
  refine j_callSv (pc := 67) (As := [.ref (a 11), .int 0]) (rest := []) X (c_JA_fill_LWh (plg E) a st 0 hs.1) ml_LN_56 ⟨Nat.le_of_ble_eq_true rfl, Nat.le_of_ble_eq_true rfl⟩ rfl rfl (Nat.le_of_ble_eq_true rfl) d_LN_receive_67 ?_
  have hs := hs.2
  exact j_LW_receive_70 X a T hQ (K_JA_fill_LWh st 0) v1 v2 hs hk
def K_LW_receive_37 (st : plS) (v1 : Int32) (v2 : Int32) : plS := (if (st 9 7) = 0 then K_LW_receive_62 st v1 v2 else K_LW_receive_62 (K_LW_bringIn st (K_LN_slotOf (((st 9 2) - 1) - (st 9 0)))) v1 v2)
def P_LW_receive_37 (st : plS) (v1 : Int32) (v2 : Int32) : Prop := (((st 9 7) = 0 → P_LW_receive_62 st v1 v2) ∧ (¬ (st 9 7) = 0 → (P_LW_bringIn st (K_LN_slotOf (((st 9 2) - 1) - (st 9 0))) ∧ P_LW_receive_62 (K_LW_bringIn st (K_LN_slotOf (((st 9 2) - 1) - (st 9 0)))) v1 v2)))
set_option maxRecDepth 20000 in
theorem j_LW_receive_37 {E : plE} (X : plX E b_LN_receive "ProtectedLine$Line" 3 none 2 45) (a : Nat → Nat) (T : plS) (hQ : plRv E (plwC (plg E) a) T) (st : plS) (v1 : Int32) (v2 : Int32) (hs : P_LW_receive_37 st v1 v2) (hk : T = K_LW_receive_37 st v1 v2) : plJ E 3 (plwC (plg E) a st) 0 0 [(0, .ref (a 9)), (1, .int v1), (2, .int v2)] 37 [] := by
  unfold P_LW_receive_37 at hs
  unfold K_LW_receive_37 at hk
  refine j_aload_n (pc := 37) X d_LN_receive_37 rfl 0 rfl ?_
  refine get_LW_hasArrived (pc := 38) X fl_LN_42 d_LN_receive_38 ?_
  refine j_if_eq (pc := 41) (tgt := 62) X d_LN_receive_41 rfl (fun hc => ?_) (fun hc => ?_)
  · have hk := hk.trans (if_pos hc)
    have hs := hs.1 hc
    exact j_LW_receive_62 X a T hQ st v1 v2 hs hk
  · have hk := hk.trans (if_neg hc)
    have hs := hs.2 hc
    refine j_aload_n (pc := 44) X d_LN_receive_44 rfl 0 rfl ?_
    refine j_aload_n (pc := 45) X d_LN_receive_45 rfl 0 rfl ?_
    refine get_LW_launched (pc := 46) X fl_LN_25 d_LN_receive_46 ?_
    refine j_iconst (pc := 49) X d_LN_receive_49 ic_1 ?_
    refine j_isub (pc := 50) X d_LN_receive_50 ?_
    refine j_aload_n (pc := 51) X d_LN_receive_51 rfl 0 rfl ?_
    refine get_LW_delay (pc := 52) X fl_LN_21 d_LN_receive_52 ?_
    refine j_isub (pc := 55) X d_LN_receive_55 ?_
    refine j_callSp (pc := 56) (As := [.int (((st 9 2) - 1) - (st 9 0))]) (rest := [.ref (a 9)]) X (c_LN_slotOf (plg E) a st (((st 9 2) - 1) - (st 9 0))) ml_LN_28 ⟨Nat.le_of_ble_eq_true rfl, Nat.le_of_ble_eq_true rfl⟩ rfl rfl (Nat.le_of_ble_eq_true rfl) d_LN_receive_56 ?_
    refine j_callVv (pc := 59) (As := [.int (K_LN_slotOf (((st 9 2) - 1) - (st 9 0)))]) (rest := []) X (c_LW_bringIn (plg E) a st (K_LN_slotOf (((st 9 2) - 1) - (st 9 0))) hs.1) ml_LN_52 9 rfl rfl ⟨Nat.le_of_ble_eq_true rfl, Nat.le_of_ble_eq_true rfl⟩ rfl rfl (Nat.le_of_ble_eq_true rfl) d_LN_receive_59 ?_
    have hs := hs.2
    exact j_LW_receive_62 X a T hQ (K_LW_bringIn st (K_LN_slotOf (((st 9 2) - 1) - (st 9 0)))) v1 v2 hs hk
def K_LW_receive_34 (st : plS) (v1 : Int32) (v2 : Int32) (k0 : Int32) : plS := K_LW_receive_37 (plUp st 9 7 k0) v1 v2
def P_LW_receive_34 (st : plS) (v1 : Int32) (v2 : Int32) (k0 : Int32) : Prop := (plB k0 ∧ P_LW_receive_37 (plUp st 9 7 k0) v1 v2)
set_option maxRecDepth 20000 in
theorem j_LW_receive_34 {E : plE} (X : plX E b_LN_receive "ProtectedLine$Line" 3 none 2 45) (a : Nat → Nat) (T : plS) (hQ : plRv E (plwC (plg E) a) T) (st : plS) (v1 : Int32) (v2 : Int32) (k0 : Int32) (hs : P_LW_receive_34 st v1 v2 k0) (hk : T = K_LW_receive_34 st v1 v2 k0) : plJ E 3 (plwC (plg E) a st) 0 0 [(0, .ref (a 9)), (1, .int v1), (2, .int v2)] 34 [.int k0, .ref (a 9)] := by
  unfold P_LW_receive_34 at hs
  unfold K_LW_receive_34 at hk
  refine put_LW_hasArrived (pc := 34) X fl_LN_42 d_LN_receive_34 hs.1 ?_
  have hs := hs.2
  exact j_LW_receive_37 X a T hQ (plUp st 9 7 k0) v1 v2 hs hk
def K_LW_receive_33 (st : plS) (v1 : Int32) (v2 : Int32) : plS := K_LW_receive_34 st v1 v2 0
def P_LW_receive_33 (st : plS) (v1 : Int32) (v2 : Int32) : Prop := P_LW_receive_34 st v1 v2 0
set_option maxRecDepth 20000 in
theorem j_LW_receive_33 {E : plE} (X : plX E b_LN_receive "ProtectedLine$Line" 3 none 2 45) (a : Nat → Nat) (T : plS) (hQ : plRv E (plwC (plg E) a) T) (st : plS) (v1 : Int32) (v2 : Int32) (hs : P_LW_receive_33 st v1 v2) (hk : T = K_LW_receive_33 st v1 v2) : plJ E 3 (plwC (plg E) a st) 0 0 [(0, .ref (a 9)), (1, .int v1), (2, .int v2)] 33 [.ref (a 9)] := by
  unfold P_LW_receive_33 at hs
  unfold K_LW_receive_33 at hk
  refine j_iconst (pc := 33) X d_LN_receive_33 ic_0 ?_
  exact j_LW_receive_34 X a T hQ st v1 v2 0 hs hk
def K_LW_receive (st : plS) : plS := (if (st 9 4) = 0 then (if (st 9 2) ≤ (st 9 0) then K_LW_receive_33 st (st 9 7) (st 9 8) else K_LW_receive_34 st (st 9 7) (st 9 8) 1) else K_LW_receive_33 st (st 9 7) (st 9 8))
def P_LW_receive (st : plS) : Prop := (((st 9 4) = 0 → (((st 9 2) ≤ (st 9 0) → P_LW_receive_33 st (st 9 7) (st 9 8)) ∧ (¬ (st 9 2) ≤ (st 9 0) → P_LW_receive_34 st (st 9 7) (st 9 8) 1))) ∧ (¬ (st 9 4) = 0 → P_LW_receive_33 st (st 9 7) (st 9 8)))
set_option maxRecDepth 20000 in
theorem j_LW_receive {E : plE} (X : plX E b_LN_receive "ProtectedLine$Line" 3 none 2 45) (a : Nat → Nat) (T : plS) (hQ : plRv E (plwC (plg E) a) T) (st : plS)  (hs : P_LW_receive st) (hk : T = K_LW_receive st) : plJ E 3 (plwC (plg E) a st) 0 0 [(0, .ref (a 9))] 0 [] := by
  unfold P_LW_receive at hs
  unfold K_LW_receive at hk
  refine j_aload_n (pc := 0) X d_LN_receive_0 rfl 0 rfl ?_
  refine get_LW_hasArrived (pc := 1) X fl_LN_42 d_LN_receive_1 ?_
  refine j_istore_n (pc := 4) X d_LN_receive_4 rfl (lv' := [(1, .int (st 9 7)), (0, .ref (a 9))]) (Nat.le_of_ble_eq_true rfl) rfl ?_
  refine j_aload_n (pc := 5) X d_LN_receive_5 rfl 1 rfl ?_
  refine get_LW_joinedArrived (pc := 6) X fl_LN_46 d_LN_receive_6 ?_
  refine j_istore_n (pc := 9) X d_LN_receive_9 rfl (lv' := [(2, .int (st 9 8)), (1, .int (st 9 7)), (0, .ref (a 9))]) (Nat.le_of_ble_eq_true rfl) rfl ?_
  refine j_aload_n (pc := 10) X d_LN_receive_10 rfl 2 rfl ?_
  refine j_aload_n (pc := 11) X d_LN_receive_11 rfl 2 rfl ?_
  refine get_LW_broken (pc := 12) X fl_LN_49 d_LN_receive_12 ?_
  refine j_if_ne (pc := 15) (tgt := 33) X d_LN_receive_15 rfl (fun hc => ?_) (fun hc => ?_)
  · have hk := hk.trans (if_neg hc)
    have hs := hs.2 hc
    refine j_sub [2, 1, 0] (lv' := [(0, .ref (a 9)), (1, .int (st 9 7)), (2, .int (st 9 8))]) rfl ?_
    exact j_LW_receive_33 X a T hQ st (st 9 7) (st 9 8) hs hk
  · have hk := hk.trans (if_pos hc)
    have hs := hs.1 hc
    refine j_aload_n (pc := 18) X d_LN_receive_18 rfl 2 rfl ?_
    refine get_LW_launched (pc := 19) X fl_LN_25 d_LN_receive_19 ?_
    refine j_aload_n (pc := 22) X d_LN_receive_22 rfl 2 rfl ?_
    refine get_LW_delay (pc := 23) X fl_LN_21 d_LN_receive_23 ?_
    refine j_icmp_le (pc := 26) (tgt := 33) X d_LN_receive_26 rfl (fun hc => ?_) (fun hc => ?_)
    · have hk := hk.trans (if_pos hc)
      have hs := hs.1 hc
      refine j_sub [2, 1, 0] (lv' := [(0, .ref (a 9)), (1, .int (st 9 7)), (2, .int (st 9 8))]) rfl ?_
      exact j_LW_receive_33 X a T hQ st (st 9 7) (st 9 8) hs hk
    · have hk := hk.trans (if_neg hc)
      have hs := hs.2 hc
      refine j_iconst (pc := 29) X d_LN_receive_29 ic_1 ?_
      refine j_goto (pc := 30) (tgt := 34) X d_LN_receive_30 rfl ?_
      refine j_sub [2, 1, 0] (lv' := [(0, .ref (a 9)), (1, .int (st 9 7)), (2, .int (st 9 8))]) rfl ?_
      exact j_LW_receive_34 X a T hQ st (st 9 7) (st 9 8) 1 hs hk
set_option maxRecDepth 20000 in
theorem c_LW_receive (g : plG) (a : Nat → Nat) (st : plS)  (hs : P_LW_receive st ) : plMv g y_LN_receive b_LN_receive 3 none 2 45 [.ref (a 9)] (plwC g a) st (K_LW_receive st ) := by
  refine plMv.of (own := "ProtectedLine$Line") (lv := [(0, .ref (a 9))]) rfl rfl (Nat.le_of_ble_eq_true rfl) rfl (fun E hE X hQ => ?_)
  subst hE
  exact j_LW_receive X a _ hQ st  hs rfl
def K_JA_fill_LPh_5L (st : plS) (v1 : Int32) (v2 : Int32) (v3 : Int32) : Bool × (plS × Int32) := (if v3 ≤ v2 then (false, (st, v2)) else (true, (plUp st 15 (plIx v2) v1, v2 + 1)))
def P_JA_fill_LPh_5L (st : plS) (v1 : Int32) (v2 : Int32) (v3 : Int32) : Prop := (¬ v3 ≤ v2 → vp_in v2 12)
set_option maxRecDepth 20000 in
theorem j_JA_fill_LPh_5L {E : plE} (X : plX E b_JA_fill "java/util/Arrays" 4 none 0 0) (a : Nat → Nat) (T : Bool × (plS × Int32)) (v1 : Int32) (v3 : Int32) (hb : ∀ (c0 : plS) (c1 : Int32), T = (true, (c0, c1)) → plJ E 4 (plwC (plg E) a c0) 0 0 [(0, .ref (a 15)), (1, .int v1), (2, .int c1), (3, .int v3)] 5 []) (hx : ∀ (c0 : plS) (c1 : Int32), T = (false, (c0, c1)) → plJ E 4 (plwC (plg E) a c0) 0 0 [(0, .ref (a 15)), (1, .int v1), (2, .int c1), (3, .int v3)] 20 []) (st : plS) (v2 : Int32) (hs : P_JA_fill_LPh_5L st v1 v2 v3) (hk : T = K_JA_fill_LPh_5L st v1 v2 v3) : plJ E 4 (plwC (plg E) a st) 0 0 [(0, .ref (a 15)), (1, .int v1), (2, .int v2), (3, .int v3)] 5 [] := by
  unfold P_JA_fill_LPh_5L at hs
  unfold K_JA_fill_LPh_5L at hk
  refine j_iload_n (pc := 5) X d_JA_fill_5 rfl 2 rfl ?_
  refine j_iload_n (pc := 6) X d_JA_fill_6 rfl 3 rfl ?_
  refine j_icmp_ge (pc := 7) (tgt := 20) X d_JA_fill_7 rfl (fun hc => ?_) (fun hc => ?_)
  · have hk := hk.trans (if_pos hc)
    exact hx st v2 hk
  · have hk := hk.trans (if_neg hc)
    have hs := hs hc
    refine j_aload_n (pc := 10) X d_JA_fill_10 rfl 0 rfl ?_
    refine j_iload_n (pc := 11) X d_JA_fill_11 rfl 2 rfl ?_
    refine j_iload_n (pc := 12) X d_JA_fill_12 rfl 1 rfl ?_
    refine ast_LPh (pc := 13) X hs d_JA_fill_13 ?_
    refine j_iinc (pc := 14) X d_JA_fill_14 2 rfl ic_1 (lv' := [(2, .int (v2 + 1)), (0, .ref (a 15)), (1, .int v1), (3, .int v3)]) (Nat.le_of_ble_eq_true rfl) rfl ?_
    refine j_goto (pc := 17) (tgt := 5) X d_JA_fill_17 rfl ?_
    refine j_sub [1, 2, 0, 3] (lv' := [(0, .ref (a 15)), (1, .int v1), (2, .int (v2 + 1)), (3, .int v3)]) rfl ?_
    exact hb (plUp st 15 (plIx v2) v1) (v2 + 1) hk
def F_JA_fill_LPh_5 (v1 : Int32) (v3 : Int32) (c : plS × Int32) : Bool × (plS × Int32) := K_JA_fill_LPh_5L c.1 v1 c.2 v3
def G_JA_fill_LPh_5 (v1 : Int32) (v3 : Int32) (c : plS × Int32) : Prop := P_JA_fill_LPh_5L c.1 v1 c.2 v3
def K_JA_fill_LPh_5X (v1 : Int32) (v3 : Int32) (c : plS × Int32) : plS := c.1
set_option maxRecDepth 20000 in
theorem j_JA_fill_LPh_5X {E : plE} (X : plX E b_JA_fill "java/util/Arrays" 4 none 0 0) (a : Nat → Nat) (T : plS) (hQ : plRv E (plwC (plg E) a) T) (v1 : Int32) (v3 : Int32) (c : plS × Int32) (hk : T = K_JA_fill_LPh_5X v1 v3 c) : plJ E 4 (plwC (plg E) a c.1) 0 0 [(0, .ref (a 15)), (1, .int v1), (2, .int c.2), (3, .int v3)] 20 [] := by
  unfold K_JA_fill_LPh_5X at hk
  exact j_retv (pc := 20) X hQ d_JA_fill_20 hk
def K_JA_fill_LPh (st : plS) (v1 : Int32) : plS := K_JA_fill_LPh_5X v1 12 (lpR (F_JA_fill_LPh_5 v1 12) 64 (st, 0))
def P_JA_fill_LPh (st : plS) (v1 : Int32) : Prop := lpP (G_JA_fill_LPh_5 v1 12) (F_JA_fill_LPh_5 v1 12) 64 (st, 0)
set_option maxRecDepth 20000 in
theorem j_JA_fill_LPh {E : plE} (X : plX E b_JA_fill "java/util/Arrays" 4 none 0 0) (a : Nat → Nat) (T : plS) (hQ : plRv E (plwC (plg E) a) T) (st : plS) (v1 : Int32) (hs : P_JA_fill_LPh st v1) (hk : T = K_JA_fill_LPh st v1) : plJ E 4 (plwC (plg E) a st) 0 0 [(0, .ref (a 15)), (1, .int v1)] 0 [] := by
  unfold P_JA_fill_LPh at hs
  unfold K_JA_fill_LPh at hk
  refine j_iconst (pc := 0) X d_JA_fill_0 ic_0 ?_
  refine j_istore_n (pc := 1) X d_JA_fill_1 rfl (lv' := [(2, .int 0), (0, .ref (a 15)), (1, .int v1)]) (Nat.le_of_ble_eq_true rfl) rfl ?_
  refine j_aload_n (pc := 2) X d_JA_fill_2 rfl 1 rfl ?_
  refine len_LPh (pc := 3) X d_JA_fill_3 ?_
  refine j_istore_n (pc := 4) X d_JA_fill_4 rfl (lv' := [(3, .int 12), (2, .int 0), (0, .ref (a 15)), (1, .int v1)]) (Nat.le_of_ble_eq_true rfl) rfl ?_
  refine j_sub [2, 3, 1, 0] (lv' := [(0, .ref (a 15)), (1, .int v1), (2, .int 0), (3, .int 12)]) rfl ?_
  exact lpJ (G_JA_fill_LPh_5 v1 12) (F_JA_fill_LPh_5 v1 12) (fun c => plJ E 4 (plwC (plg E) a c.1) 0 0 [(0, .ref (a 15)), (1, .int v1), (2, .int c.2), (3, .int 12)] 5 []) (fun c => plJ E 4 (plwC (plg E) a c.1) 0 0 [(0, .ref (a 15)), (1, .int v1), (2, .int c.2), (3, .int 12)] 20 []) (fun c hp h1 h2 => j_JA_fill_LPh_5L X a (F_JA_fill_LPh_5 v1 12 c) v1 12 (fun c0 c1 => h1 (c0, c1)) (fun c0 c1 => h2 (c0, c1)) c.1 c.2 hp rfl) 64 (st, 0) hs (j_JA_fill_LPh_5X X a T hQ v1 12 (lpR (F_JA_fill_LPh_5 v1 12) 64 (st, 0)) hk)
set_option maxRecDepth 20000 in
theorem c_JA_fill_LPh (g : plG) (a : Nat → Nat) (st : plS) (v1 : Int32) (hs : P_JA_fill_LPh st v1) : plMv g y_JA_fill b_JA_fill 4 none 0 0 [.ref (a 15), .int v1] (plwC g a) st (K_JA_fill_LPh st v1) := by
  refine plMv.of (own := "java/util/Arrays") (lv := [(0, .ref (a 15)), (1, .int v1)]) rfl rfl (Nat.le_of_ble_eq_true rfl) rfl (fun E hE X hQ => ?_)
  subst hE
  exact j_JA_fill_LPh X a _ hQ st v1 hs rfl
def K_LP_align_57 (st : plS) : plS := st
set_option maxRecDepth 20000 in
theorem j_LP_align_57 {E : plE} (X : plX E b_LN_align "ProtectedLine$Line" 2 none 0 0) (a : Nat → Nat) (T : plS) (hQ : plRv E (plwC (plg E) a) T) (st : plS)  (hk : T = K_LP_align_57 st) : plJ E 2 (plwC (plg E) a st) 0 0 [] 57 [] := by
  unfold K_LP_align_57 at hk
  exact j_retv (pc := 57) X hQ d_LN_align_57 hk
def K_LP_align_52 (st : plS) : plS := K_LP_align_57 (plUp st 13 9 0)
set_option maxRecDepth 20000 in
theorem j_LP_align_52 {E : plE} (X : plX E b_LN_align "ProtectedLine$Line" 2 none 0 0) (a : Nat → Nat) (T : plS) (hQ : plRv E (plwC (plg E) a) T) (st : plS)  (hk : T = K_LP_align_52 st) : plJ E 2 (plwC (plg E) a st) 0 0 [(0, .ref (a 13))] 52 [] := by
  unfold K_LP_align_52 at hk
  refine j_aload_n (pc := 52) X d_LN_align_52 rfl 0 rfl ?_
  refine j_iconst (pc := 53) X d_LN_align_53 ic_0 ?_
  refine put_LP_state (pc := 54) X fl_LN_84 d_LN_align_54 ?_
  refine j_sub [] (lv' := []) rfl ?_
  exact j_LP_align_57 X a T hQ (plUp st 13 9 0) hk
def K_LP_align_36 (st : plS) : plS := (if (st 13 9) = 1 then K_LP_align_52 st else (if (st 13 10) < 3 then K_LP_align_57 st else K_LP_align_52 st))
set_option maxRecDepth 20000 in
theorem j_LP_align_36 {E : plE} (X : plX E b_LN_align "ProtectedLine$Line" 2 none 0 0) (a : Nat → Nat) (T : plS) (hQ : plRv E (plwC (plg E) a) T) (st : plS)  (hk : T = K_LP_align_36 st) : plJ E 2 (plwC (plg E) a st) 0 0 [(0, .ref (a 13))] 36 [] := by
  unfold K_LP_align_36 at hk
  refine j_aload_n (pc := 36) X d_LN_align_36 rfl 0 rfl ?_
  refine get_LP_state (pc := 37) X fl_LN_84 d_LN_align_37 ?_
  refine j_iconst (pc := 40) X d_LN_align_40 ic_1 ?_
  refine j_icmp_eq (pc := 41) (tgt := 52) X d_LN_align_41 rfl (fun hc => ?_) (fun hc => ?_)
  · have hk := hk.trans (if_pos hc)
    exact j_LP_align_52 X a T hQ st hk
  · have hk := hk.trans (if_neg hc)
    refine j_aload_n (pc := 44) X d_LN_align_44 rfl 0 rfl ?_
    refine get_LP_badRow (pc := 45) X fl_LN_81 d_LN_align_45 ?_
    refine j_iconst (pc := 48) X d_LN_align_48 ic_3 ?_
    refine j_icmp_lt (pc := 49) (tgt := 57) X d_LN_align_49 rfl (fun hc => ?_) (fun hc => ?_)
    · have hk := hk.trans (if_pos hc)
      refine j_sub [] (lv' := []) rfl ?_
      exact j_LP_align_57 X a T hQ st hk
    · have hk := hk.trans (if_neg hc)
      exact j_LP_align_52 X a T hQ st hk
def K_LP_align_22 (st : plS) (k0 : Int32) : plS := plUp st 13 9 k0
set_option maxRecDepth 20000 in
theorem j_LP_align_22 {E : plE} (X : plX E b_LN_align "ProtectedLine$Line" 2 none 0 0) (a : Nat → Nat) (T : plS) (hQ : plRv E (plwC (plg E) a) T) (st : plS) (k0 : Int32) (hk : T = K_LP_align_22 st k0) : plJ E 2 (plwC (plg E) a st) 0 0 [] 22 [.int k0, .ref (a 13)] := by
  unfold K_LP_align_22 at hk
  refine put_LP_state (pc := 22) X fl_LN_84 d_LN_align_22 ?_
  exact j_retv (pc := 25) X hQ d_LN_align_25 hk
def K_LP_align_9 (st : plS) : plS := (if (st 13 9) = 0 then K_LP_align_22 st 1 else K_LP_align_22 st 2)
set_option maxRecDepth 20000 in
theorem j_LP_align_9 {E : plE} (X : plX E b_LN_align "ProtectedLine$Line" 2 none 0 0) (a : Nat → Nat) (T : plS) (hQ : plRv E (plwC (plg E) a) T) (st : plS)  (hk : T = K_LP_align_9 st) : plJ E 2 (plwC (plg E) a st) 0 0 [(0, .ref (a 13))] 9 [] := by
  unfold K_LP_align_9 at hk
  refine j_aload_n (pc := 9) X d_LN_align_9 rfl 0 rfl ?_
  refine j_aload_n (pc := 10) X d_LN_align_10 rfl 0 rfl ?_
  refine get_LP_state (pc := 11) X fl_LN_84 d_LN_align_11 ?_
  refine j_if_ne (pc := 14) (tgt := 21) X d_LN_align_14 rfl (fun hc => ?_) (fun hc => ?_)
  · have hk := hk.trans (if_neg hc)
    refine j_iconst (pc := 21) X d_LN_align_21 ic_2 ?_
    refine j_sub [] (lv' := []) rfl ?_
    exact j_LP_align_22 X a T hQ st 2 hk
  · have hk := hk.trans (if_pos hc)
    refine j_iconst (pc := 17) X d_LN_align_17 ic_1 ?_
    refine j_goto (pc := 18) (tgt := 22) X d_LN_align_18 rfl ?_
    refine j_sub [] (lv' := []) rfl ?_
    exact j_LP_align_22 X a T hQ st 1 hk
def K_LP_align (st : plS) (v1 : Int32) : plS := (if v1 = 0 then K_LP_align_36 (plUp st 13 10 ((st 13 10) + 1)) else K_LP_align_9 (plUp st 13 10 0))
set_option maxRecDepth 20000 in
theorem j_LP_align {E : plE} (X : plX E b_LN_align "ProtectedLine$Line" 2 none 0 0) (a : Nat → Nat) (T : plS) (hQ : plRv E (plwC (plg E) a) T) (st : plS) (v1 : Int32) (hk : T = K_LP_align st v1) : plJ E 2 (plwC (plg E) a st) 0 0 [(0, .ref (a 13)), (1, .int v1)] 0 [] := by
  unfold K_LP_align at hk
  refine j_iload_n (pc := 0) X d_LN_align_0 rfl 1 rfl ?_
  refine j_if_eq (pc := 1) (tgt := 26) X d_LN_align_1 rfl (fun hc => ?_) (fun hc => ?_)
  · have hk := hk.trans (if_pos hc)
    refine j_aload_n (pc := 26) X d_LN_align_26 rfl 0 rfl ?_
    refine j_dup (pc := 27) X d_LN_align_27 rfl ?_
    refine get_LP_badRow (pc := 28) X fl_LN_81 d_LN_align_28 ?_
    refine j_iconst (pc := 31) X d_LN_align_31 ic_1 ?_
    refine j_iadd (pc := 32) X d_LN_align_32 ?_
    refine put_LP_badRow (pc := 33) X fl_LN_81 d_LN_align_33 ?_
    refine j_sub [0] (lv' := [(0, .ref (a 13))]) rfl ?_
    exact j_LP_align_36 X a T hQ (plUp st 13 10 ((st 13 10) + 1)) hk
  · have hk := hk.trans (if_neg hc)
    refine j_aload_n (pc := 4) X d_LN_align_4 rfl 0 rfl ?_
    refine j_iconst (pc := 5) X d_LN_align_5 ic_0 ?_
    refine put_LP_badRow (pc := 6) X fl_LN_81 d_LN_align_6 ?_
    refine j_sub [0] (lv' := [(0, .ref (a 13))]) rfl ?_
    exact j_LP_align_9 X a T hQ (plUp st 13 10 0) hk
set_option maxRecDepth 20000 in
theorem c_LP_align (g : plG) (a : Nat → Nat) (st : plS) (v1 : Int32) : plMv g y_LN_align b_LN_align 2 none 0 0 [.ref (a 13), .int v1] (plwC g a) st (K_LP_align st v1) := by
  refine plMv.of (own := "ProtectedLine$Line") (lv := [(0, .ref (a 13)), (1, .int v1)]) rfl rfl (Nat.le_of_ble_eq_true rfl) rfl (fun E hE X hQ => ?_)
  subst hE
  exact j_LP_align X a _ hQ st v1 rfl
def K_LP_readable_20 (st : plS) (k0 : Int32) : Int32 := k0
def P_LP_readable_20 (st : plS) (k0 : Int32) : Prop := plB k0
set_option maxRecDepth 20000 in
theorem j_LP_readable_20 {E : plE} (X : plX E b_LN_readable "ProtectedLine$Line" 1 (some .boolean) 0 0) (a : Nat → Nat) (T : Int32) (st : plS) (hQ : plRp E (plwC (plg E) a) st T) (k0 : Int32) (hs : P_LP_readable_20 st k0) (hk : T = K_LP_readable_20 st k0) : plJ E 1 (plwC (plg E) a st) 0 0 [] 20 [.int k0] := by
  unfold P_LP_readable_20 at hs
  unfold K_LP_readable_20 at hk
  exact j_retzp (pc := 20) X hQ d_LN_readable_20 hs hk
def K_LP_readable_19 (st : plS) : Int32 := K_LP_readable_20 st 0
def P_LP_readable_19 (st : plS) : Prop := P_LP_readable_20 st 0
set_option maxRecDepth 20000 in
theorem j_LP_readable_19 {E : plE} (X : plX E b_LN_readable "ProtectedLine$Line" 1 (some .boolean) 0 0) (a : Nat → Nat) (T : Int32) (st : plS) (hQ : plRp E (plwC (plg E) a) st T)  (hs : P_LP_readable_19 st) (hk : T = K_LP_readable_19 st) : plJ E 1 (plwC (plg E) a st) 0 0 [] 19 [] := by
  unfold P_LP_readable_19 at hs
  unfold K_LP_readable_19 at hk
  refine j_iconst (pc := 19) X d_LN_readable_19 ic_0 ?_
  exact j_LP_readable_20 X a T st hQ 0 hs hk
def K_LP_readable (st : plS) : Int32 := (if (st 13 9) = 2 then (if (st 13 7) = 0 then K_LP_readable_19 st else K_LP_readable_20 st 1) else K_LP_readable_19 st)
def P_LP_readable (st : plS) : Prop := (((st 13 9) = 2 → (((st 13 7) = 0 → P_LP_readable_19 st) ∧ (¬ (st 13 7) = 0 → P_LP_readable_20 st 1))) ∧ (¬ (st 13 9) = 2 → P_LP_readable_19 st))
set_option maxRecDepth 20000 in
theorem j_LP_readable {E : plE} (X : plX E b_LN_readable "ProtectedLine$Line" 1 (some .boolean) 0 0) (a : Nat → Nat) (T : Int32) (st : plS) (hQ : plRp E (plwC (plg E) a) st T)  (hs : P_LP_readable st) (hk : T = K_LP_readable st) : plJ E 1 (plwC (plg E) a st) 0 0 [(0, .ref (a 13))] 0 [] := by
  unfold P_LP_readable at hs
  unfold K_LP_readable at hk
  refine j_aload_n (pc := 0) X d_LN_readable_0 rfl 0 rfl ?_
  refine get_LP_state (pc := 1) X fl_LN_84 d_LN_readable_1 ?_
  refine j_iconst (pc := 4) X d_LN_readable_4 ic_2 ?_
  refine j_icmp_ne (pc := 5) (tgt := 19) X d_LN_readable_5 rfl (fun hc => ?_) (fun hc => ?_)
  · have hk := hk.trans (if_neg hc)
    have hs := hs.2 hc
    refine j_sub [] (lv' := []) rfl ?_
    exact j_LP_readable_19 X a T st hQ hs hk
  · have hk := hk.trans (if_pos hc)
    have hs := hs.1 hc
    refine j_aload_n (pc := 8) X d_LN_readable_8 rfl 0 rfl ?_
    refine get_LP_hasArrived (pc := 9) X fl_LN_42 d_LN_readable_9 ?_
    refine j_if_eq (pc := 12) (tgt := 19) X d_LN_readable_12 rfl (fun hc => ?_) (fun hc => ?_)
    · have hk := hk.trans (if_pos hc)
      have hs := hs.1 hc
      refine j_sub [] (lv' := []) rfl ?_
      exact j_LP_readable_19 X a T st hQ hs hk
    · have hk := hk.trans (if_neg hc)
      have hs := hs.2 hc
      refine j_iconst (pc := 15) X d_LN_readable_15 ic_1 ?_
      refine j_goto (pc := 16) (tgt := 20) X d_LN_readable_16 rfl ?_
      refine j_sub [] (lv' := []) rfl ?_
      exact j_LP_readable_20 X a T st hQ 1 hs hk
set_option maxRecDepth 20000 in
theorem c_LP_readable (g : plG) (a : Nat → Nat) (st : plS)  (hs : P_LP_readable st ) : plMp g y_LN_readable b_LN_readable 1 (some .boolean) 0 0 [.ref (a 13)] (plwC g a) st (K_LP_readable st ) := by
  refine plMp.of (own := "ProtectedLine$Line") (lv := [(0, .ref (a 13))]) rfl rfl (Nat.le_of_ble_eq_true rfl) rfl (fun E hE X hQ => ?_)
  subst hE
  exact j_LP_readable X a _ st hQ  hs rfl
def K_LP_plainAt (st : plS) (v1 : Int32) : Int32 := (st 16 (plIx v1)) ^^^ (plROW (plIx (v1 - 2)))
def P_LP_plainAt (st : plS) (v1 : Int32) : Prop := (vp_in v1 12 ∧ vp_in (v1 - 2) 10)
set_option maxRecDepth 20000 in
theorem j_LP_plainAt {E : plE} (X : plX E b_LN_plainAt "ProtectedLine$Line" 2 (some .int) 0 0) (a : Nat → Nat) (T : Int32) (st : plS) (hQ : plRp E (plwC (plg E) a) st T) (v1 : Int32) (hs : P_LP_plainAt st v1) (hk : T = K_LP_plainAt st v1) : plJ E 2 (plwC (plg E) a st) 0 0 [(0, .ref (a 13)), (1, .int v1)] 0 [] := by
  unfold P_LP_plainAt at hs
  unfold K_LP_plainAt at hk
  refine j_aload_n (pc := 0) X d_LN_plainAt_0 rfl 0 rfl ?_
  refine get_LP_arrived (pc := 1) X fl_LN_18 d_LN_plainAt_1 ?_
  refine j_iload_n (pc := 4) X d_LN_plainAt_4 rfl 1 rfl ?_
  refine ald_LPa (pc := 5) X hs.1 d_LN_plainAt_5 ?_
  have hs := hs.2
  refine j_getROW (pc := 6) X fl_LN_35 d_LN_plainAt_6 ?_
  refine j_iload_n (pc := 9) X d_LN_plainAt_9 rfl 1 rfl ?_
  refine j_iconst (pc := 10) X d_LN_plainAt_10 ic_2 ?_
  refine j_isub (pc := 11) X d_LN_plainAt_11 ?_
  refine j_aldROW (pc := 12) X hs d_LN_plainAt_12 ?_
  refine j_ixor (pc := 13) X d_LN_plainAt_13 ?_
  exact j_retip (pc := 14) X hQ d_LN_plainAt_14 hk
set_option maxRecDepth 20000 in
theorem c_LP_plainAt (g : plG) (a : Nat → Nat) (st : plS) (v1 : Int32) (hs : P_LP_plainAt st v1) : plMp g y_LN_plainAt b_LN_plainAt 2 (some .int) 0 0 [.ref (a 13), .int v1] (plwC g a) st (K_LP_plainAt st v1) := by
  refine plMp.of (own := "ProtectedLine$Line") (lv := [(0, .ref (a 13)), (1, .int v1)]) rfl rfl (Nat.le_of_ble_eq_true rfl) rfl (fun E hE X hQ => ?_)
  subst hE
  exact j_LP_plainAt X a _ st hQ v1 hs rfl
def K_LN_joinedFrom_LPa_4L (st : plS) (v1 : Int32) (v2 : Int32) (v3 : Int32) : Bool × (Int32 × Int32) := (if 12 ≤ v3 then (false, (v2, v3)) else (true, (v2 ^^^ (st 16 (plIx (v1 + v3))), v3 + 1)))
def P_LN_joinedFrom_LPa_4L (st : plS) (v1 : Int32) (v2 : Int32) (v3 : Int32) : Prop := (¬ 12 ≤ v3 → vp_in (v1 + v3) 12)
set_option maxRecDepth 20000 in
theorem j_LN_joinedFrom_LPa_4L {E : plE} (X : plX E b_LN_joinedFrom "ProtectedLine$Line" 4 (some .int) 0 0) (a : Nat → Nat) (T : Bool × (Int32 × Int32)) (st : plS) (v1 : Int32) (hb : ∀ (c0 : Int32) (c1 : Int32), T = (true, (c0, c1)) → plJ E 4 (plwC (plg E) a st) 0 0 [(0, .ref (a 16)), (1, .int v1), (2, .int c0), (3, .int c1)] 4 []) (hx : ∀ (c0 : Int32) (c1 : Int32), T = (false, (c0, c1)) → plJ E 4 (plwC (plg E) a st) 0 0 [(0, .ref (a 16)), (1, .int v1), (2, .int c0), (3, .int c1)] 24 []) (v2 : Int32) (v3 : Int32) (hs : P_LN_joinedFrom_LPa_4L st v1 v2 v3) (hk : T = K_LN_joinedFrom_LPa_4L st v1 v2 v3) : plJ E 4 (plwC (plg E) a st) 0 0 [(0, .ref (a 16)), (1, .int v1), (2, .int v2), (3, .int v3)] 4 [] := by
  unfold P_LN_joinedFrom_LPa_4L at hs
  unfold K_LN_joinedFrom_LPa_4L at hk
  refine j_iload_n (pc := 4) X d_LN_joinedFrom_4 rfl 3 rfl ?_
  refine j_bipush (pc := 5) X d_LN_joinedFrom_5 bp_12 ?_
  refine j_icmp_ge (pc := 7) (tgt := 24) X d_LN_joinedFrom_7 rfl (fun hc => ?_) (fun hc => ?_)
  · have hk := hk.trans (if_pos hc)
    exact hx v2 v3 hk
  · have hk := hk.trans (if_neg hc)
    have hs := hs hc
    refine j_iload_n (pc := 10) X d_LN_joinedFrom_10 rfl 2 rfl ?_
    refine j_aload_n (pc := 11) X d_LN_joinedFrom_11 rfl 0 rfl ?_
    refine j_iload_n (pc := 12) X d_LN_joinedFrom_12 rfl 1 rfl ?_
    refine j_iload_n (pc := 13) X d_LN_joinedFrom_13 rfl 3 rfl ?_
    refine j_iadd (pc := 14) X d_LN_joinedFrom_14 ?_
    refine ald_LPa (pc := 15) X hs d_LN_joinedFrom_15 ?_
    refine j_ixor (pc := 16) X d_LN_joinedFrom_16 ?_
    refine j_istore_n (pc := 17) X d_LN_joinedFrom_17 rfl (lv' := [(2, .int (v2 ^^^ (st 16 (plIx (v1 + v3))))), (0, .ref (a 16)), (1, .int v1), (3, .int v3)]) (Nat.le_of_ble_eq_true rfl) rfl ?_
    refine j_iinc (pc := 18) X d_LN_joinedFrom_18 3 rfl ic_1 (lv' := [(3, .int (v3 + 1)), (2, .int (v2 ^^^ (st 16 (plIx (v1 + v3))))), (0, .ref (a 16)), (1, .int v1)]) (Nat.le_of_ble_eq_true rfl) rfl ?_
    refine j_goto (pc := 21) (tgt := 4) X d_LN_joinedFrom_21 rfl ?_
    refine j_sub [2, 3, 1, 0] (lv' := [(0, .ref (a 16)), (1, .int v1), (2, .int (v2 ^^^ (st 16 (plIx (v1 + v3))))), (3, .int (v3 + 1))]) rfl ?_
    exact hb (v2 ^^^ (st 16 (plIx (v1 + v3)))) (v3 + 1) hk
def F_LN_joinedFrom_LPa_4 (st : plS) (v1 : Int32) (c : Int32 × Int32) : Bool × (Int32 × Int32) := K_LN_joinedFrom_LPa_4L st v1 c.1 c.2
def G_LN_joinedFrom_LPa_4 (st : plS) (v1 : Int32) (c : Int32 × Int32) : Prop := P_LN_joinedFrom_LPa_4L st v1 c.1 c.2
def K_LN_joinedFrom_LPa_4X (st : plS) (v1 : Int32) (c : Int32 × Int32) : Int32 := c.1
set_option maxRecDepth 20000 in
theorem j_LN_joinedFrom_LPa_4X {E : plE} (X : plX E b_LN_joinedFrom "ProtectedLine$Line" 4 (some .int) 0 0) (a : Nat → Nat) (T : Int32) (st : plS) (hQ : plRp E (plwC (plg E) a) st T) (v1 : Int32) (c : Int32 × Int32) (hk : T = K_LN_joinedFrom_LPa_4X st v1 c) : plJ E 4 (plwC (plg E) a st) 0 0 [(0, .ref (a 16)), (1, .int v1), (2, .int c.1), (3, .int c.2)] 24 [] := by
  unfold K_LN_joinedFrom_LPa_4X at hk
  refine j_iload_n (pc := 24) X d_LN_joinedFrom_24 rfl 2 rfl ?_
  exact j_retip (pc := 25) X hQ d_LN_joinedFrom_25 hk
def K_LN_joinedFrom_LPa (st : plS) (v1 : Int32) : Int32 := K_LN_joinedFrom_LPa_4X st v1 (lpR (F_LN_joinedFrom_LPa_4 st v1) 64 (0, 0))
def P_LN_joinedFrom_LPa (st : plS) (v1 : Int32) : Prop := lpP (G_LN_joinedFrom_LPa_4 st v1) (F_LN_joinedFrom_LPa_4 st v1) 64 (0, 0)
set_option maxRecDepth 20000 in
theorem j_LN_joinedFrom_LPa {E : plE} (X : plX E b_LN_joinedFrom "ProtectedLine$Line" 4 (some .int) 0 0) (a : Nat → Nat) (T : Int32) (st : plS) (hQ : plRp E (plwC (plg E) a) st T) (v1 : Int32) (hs : P_LN_joinedFrom_LPa st v1) (hk : T = K_LN_joinedFrom_LPa st v1) : plJ E 4 (plwC (plg E) a st) 0 0 [(0, .ref (a 16)), (1, .int v1)] 0 [] := by
  unfold P_LN_joinedFrom_LPa at hs
  unfold K_LN_joinedFrom_LPa at hk
  refine j_iconst (pc := 0) X d_LN_joinedFrom_0 ic_0 ?_
  refine j_istore_n (pc := 1) X d_LN_joinedFrom_1 rfl (lv' := [(2, .int 0), (0, .ref (a 16)), (1, .int v1)]) (Nat.le_of_ble_eq_true rfl) rfl ?_
  refine j_iconst (pc := 2) X d_LN_joinedFrom_2 ic_0 ?_
  refine j_istore_n (pc := 3) X d_LN_joinedFrom_3 rfl (lv' := [(3, .int 0), (2, .int 0), (0, .ref (a 16)), (1, .int v1)]) (Nat.le_of_ble_eq_true rfl) rfl ?_
  refine j_sub [2, 3, 1, 0] (lv' := [(0, .ref (a 16)), (1, .int v1), (2, .int 0), (3, .int 0)]) rfl ?_
  exact lpJ (G_LN_joinedFrom_LPa_4 st v1) (F_LN_joinedFrom_LPa_4 st v1) (fun c => plJ E 4 (plwC (plg E) a st) 0 0 [(0, .ref (a 16)), (1, .int v1), (2, .int c.1), (3, .int c.2)] 4 []) (fun c => plJ E 4 (plwC (plg E) a st) 0 0 [(0, .ref (a 16)), (1, .int v1), (2, .int c.1), (3, .int c.2)] 24 []) (fun c hp h1 h2 => j_LN_joinedFrom_LPa_4L X a (F_LN_joinedFrom_LPa_4 st v1 c) st v1 (fun c0 c1 => h1 (c0, c1)) (fun c0 c1 => h2 (c0, c1)) c.1 c.2 hp rfl) 64 (0, 0) hs (j_LN_joinedFrom_LPa_4X X a T st hQ v1 (lpR (F_LN_joinedFrom_LPa_4 st v1) 64 (0, 0)) hk)
set_option maxRecDepth 20000 in
theorem c_LN_joinedFrom_LPa (g : plG) (a : Nat → Nat) (st : plS) (v1 : Int32) (hs : P_LN_joinedFrom_LPa st v1) : plMp g y_LN_joinedFrom b_LN_joinedFrom 4 (some .int) 0 0 [.ref (a 16), .int v1] (plwC g a) st (K_LN_joinedFrom_LPa st v1) := by
  refine plMp.of (own := "ProtectedLine$Line") (lv := [(0, .ref (a 16)), (1, .int v1)]) rfl rfl (Nat.le_of_ble_eq_true rfl) rfl (fun E hE X hQ => ?_)
  subst hE
  exact j_LN_joinedFrom_LPa X a _ st hQ v1 hs rfl
