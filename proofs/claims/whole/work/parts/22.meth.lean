theorem d_RM_send_0 : decode b_RM_send 0 = .ok (.iload_n 1, 1) := by decide +kernel
theorem d_RM_send_1 : decode b_RM_send 1 = .ok (.iconst 1, 1) := by decide +kernel
theorem d_RM_send_2 : decode b_RM_send 2 = .ok (.if_icmp .lt (18), 3) := by decide +kernel
theorem d_RM_send_5 : decode b_RM_send 5 = .ok (.iload_n 1, 1) := by decide +kernel
theorem d_RM_send_6 : decode b_RM_send 6 = .ok (.bipush (6), 2) := by decide +kernel
theorem d_RM_send_8 : decode b_RM_send 8 = .ok (.if_icmp .gt (12), 3) := by decide +kernel
theorem d_RM_send_11 : decode b_RM_send 11 = .ok (.aload_n 0, 1) := by decide +kernel
theorem d_RM_send_12 : decode b_RM_send 12 = .ok (.getfield 93, 3) := by decide +kernel
theorem d_RM_send_15 : decode b_RM_send 15 = .ok (.bipush (8), 2) := by decide +kernel
theorem d_RM_send_17 : decode b_RM_send 17 = .ok (.if_icmp .lt (5), 3) := by decide +kernel
theorem d_RM_send_20 : decode b_RM_send 20 = .ok (.iconst 0, 1) := by decide +kernel
theorem d_RM_send_21 : decode b_RM_send 21 = .ok (.ireturn, 1) := by decide +kernel
theorem d_RM_send_22 : decode b_RM_send 22 = .ok (.aload_n 0, 1) := by decide +kernel
theorem d_RM_send_23 : decode b_RM_send 23 = .ok (.getfield 13, 3) := by decide +kernel
theorem d_RM_send_26 : decode b_RM_send 26 = .ok (.bipush (7), 2) := by decide +kernel
theorem d_RM_send_28 : decode b_RM_send 28 = .ok (.aload_n 0, 1) := by decide +kernel
theorem d_RM_send_29 : decode b_RM_send 29 = .ok (.getfield 93, 3) := by decide +kernel
theorem d_RM_send_32 : decode b_RM_send 32 = .ok (.imul, 1) := by decide +kernel
theorem d_RM_send_33 : decode b_RM_send 33 = .ok (.iload_n 1, 1) := by decide +kernel
theorem d_RM_send_34 : decode b_RM_send 34 = .ok (.iastore, 1) := by decide +kernel
theorem d_RM_send_35 : decode b_RM_send 35 = .ok (.iconst 0, 1) := by decide +kernel
theorem d_RM_send_36 : decode b_RM_send 36 = .ok (.istore 4, 2) := by decide +kernel
theorem d_RM_send_38 : decode b_RM_send 38 = .ok (.iload 4, 2) := by decide +kernel
theorem d_RM_send_40 : decode b_RM_send 40 = .ok (.iload_n 1, 1) := by decide +kernel
theorem d_RM_send_41 : decode b_RM_send 41 = .ok (.if_icmp .ge (38), 3) := by decide +kernel
theorem d_RM_send_44 : decode b_RM_send 44 = .ok (.aload_n 0, 1) := by decide +kernel
theorem d_RM_send_45 : decode b_RM_send 45 = .ok (.getfield 13, 3) := by decide +kernel
theorem d_RM_send_48 : decode b_RM_send 48 = .ok (.bipush (7), 2) := by decide +kernel
theorem d_RM_send_50 : decode b_RM_send 50 = .ok (.aload_n 0, 1) := by decide +kernel
theorem d_RM_send_51 : decode b_RM_send 51 = .ok (.getfield 93, 3) := by decide +kernel
theorem d_RM_send_54 : decode b_RM_send 54 = .ok (.imul, 1) := by decide +kernel
theorem d_RM_send_55 : decode b_RM_send 55 = .ok (.iconst 1, 1) := by decide +kernel
theorem d_RM_send_56 : decode b_RM_send 56 = .ok (.iadd, 1) := by decide +kernel
theorem d_RM_send_57 : decode b_RM_send 57 = .ok (.iload 4, 2) := by decide +kernel
theorem d_RM_send_59 : decode b_RM_send 59 = .ok (.iadd, 1) := by decide +kernel
theorem d_RM_send_60 : decode b_RM_send 60 = .ok (.lload_n 2, 1) := by decide +kernel
theorem d_RM_send_61 : decode b_RM_send 61 = .ok (.bipush (8), 2) := by decide +kernel
theorem d_RM_send_63 : decode b_RM_send 63 = .ok (.iload 4, 2) := by decide +kernel
theorem d_RM_send_65 : decode b_RM_send 65 = .ok (.imul, 1) := by decide +kernel
theorem d_RM_send_66 : decode b_RM_send 66 = .ok (.lshr, 1) := by decide +kernel
theorem d_RM_send_67 : decode b_RM_send 67 = .ok (.ldc2_w 96, 3) := by decide +kernel
theorem d_RM_send_70 : decode b_RM_send 70 = .ok (.land, 1) := by decide +kernel
theorem d_RM_send_71 : decode b_RM_send 71 = .ok (.l2i, 1) := by decide +kernel
theorem d_RM_send_72 : decode b_RM_send 72 = .ok (.iastore, 1) := by decide +kernel
theorem d_RM_send_73 : decode b_RM_send 73 = .ok (.iinc 4 (1), 3) := by decide +kernel
theorem d_RM_send_76 : decode b_RM_send 76 = .ok (.goto (-38), 3) := by decide +kernel
theorem d_RM_send_79 : decode b_RM_send 79 = .ok (.aload_n 0, 1) := by decide +kernel
theorem d_RM_send_80 : decode b_RM_send 80 = .ok (.dup, 1) := by decide +kernel
theorem d_RM_send_81 : decode b_RM_send 81 = .ok (.getfield 93, 3) := by decide +kernel
theorem d_RM_send_84 : decode b_RM_send 84 = .ok (.iconst 1, 1) := by decide +kernel
theorem d_RM_send_85 : decode b_RM_send 85 = .ok (.iadd, 1) := by decide +kernel
theorem d_RM_send_86 : decode b_RM_send 86 = .ok (.putfield 93, 3) := by decide +kernel
theorem d_RM_send_89 : decode b_RM_send 89 = .ok (.iconst 1, 1) := by decide +kernel
theorem d_RM_send_90 : decode b_RM_send 90 = .ok (.ireturn, 1) := by decide +kernel
def K_RM_send_20 (st : plS) : Int32 × plS := (0, st)
set_option maxRecDepth 20000 in
theorem j_RM_send_20 {E : plE} (X : plX E b_RM_send "ProtectedLineModel" 5 (some .boolean) 0 0) (a : Nat → Nat) (T : Int32 × plS) (hQ : plRi E (plwR (plg E) a) T) (st : plS)  (hk : T = K_RM_send_20 st) : plJ E 5 (plwR (plg E) a st) 0 0 [] 20 [] := by
  unfold K_RM_send_20 at hk
  refine j_iconst (pc := 20) X d_RM_send_20 ic_0 ?_
  exact j_retz (pc := 21) X hQ d_RM_send_21 (Or.inl rfl) hk
def K_RM_send_38L (st : plS) (v1 : Int32) (v2 : Int64) (v4 : Int32) : Bool × (plS × Int32) := (if v1 ≤ v4 then (false, (st, v4)) else (true, (plUp st 2 (plIx (((7 * (st 0 4)) + 1) + v4)) (Int64.toInt32 ((v2 >>> (Int32.toInt64 (8 * v4) &&& 63)) &&& 255)), v4 + 1)))
def P_RM_send_38L (st : plS) (v1 : Int32) (v2 : Int64) (v4 : Int32) : Prop := (¬ v1 ≤ v4 → vp_in (((7 * (st 0 4)) + 1) + v4) 56)
set_option maxRecDepth 20000 in
theorem j_RM_send_38L {E : plE} (X : plX E b_RM_send "ProtectedLineModel" 5 (some .boolean) 0 0) (a : Nat → Nat) (T : Bool × (plS × Int32)) (v1 : Int32) (v2 : Int64) (hb : ∀ (c0 : plS) (c1 : Int32), T = (true, (c0, c1)) → plJ E 5 (plwR (plg E) a c0) 0 0 [(0, .ref (a 0)), (1, .int v1), (2, .long v2), (4, .int c1)] 38 []) (hx : ∀ (c0 : plS) (c1 : Int32), T = (false, (c0, c1)) → plJ E 5 (plwR (plg E) a c0) 0 0 [(0, .ref (a 0)), (1, .int v1), (2, .long v2), (4, .int c1)] 79 []) (st : plS) (v4 : Int32) (hs : P_RM_send_38L st v1 v2 v4) (hk : T = K_RM_send_38L st v1 v2 v4) : plJ E 5 (plwR (plg E) a st) 0 0 [(0, .ref (a 0)), (1, .int v1), (2, .long v2), (4, .int v4)] 38 [] := by
  unfold P_RM_send_38L at hs
  unfold K_RM_send_38L at hk
  refine j_iload (pc := 38) X d_RM_send_38 3 rfl ?_
  refine j_iload_n (pc := 40) X d_RM_send_40 rfl 1 rfl ?_
  refine j_icmp_ge (pc := 41) (tgt := 79) X d_RM_send_41 rfl (fun hc => ?_) (fun hc => ?_)
  · have hk := hk.trans (if_pos hc)
    exact hx st v4 hk
  · have hk := hk.trans (if_neg hc)
    have hs := hs hc
    refine j_aload_n (pc := 44) X d_RM_send_44 rfl 0 rfl ?_
    refine get_RM_queue (pc := 45) X fl_RM_13 d_RM_send_45 ?_
    refine j_bipush (pc := 48) X d_RM_send_48 bp_7 ?_
    refine j_aload_n (pc := 50) X d_RM_send_50 rfl 0 rfl ?_
    refine get_RM_waiting (pc := 51) X fl_RM_93 d_RM_send_51 ?_
    refine j_imul (pc := 54) X d_RM_send_54 ?_
    refine j_iconst (pc := 55) X d_RM_send_55 ic_1 ?_
    refine j_iadd (pc := 56) X d_RM_send_56 ?_
    refine j_iload (pc := 57) X d_RM_send_57 3 rfl ?_
    refine j_iadd (pc := 59) X d_RM_send_59 ?_
    refine j_lload_n (pc := 60) X d_RM_send_60 rfl 2 rfl ?_
    refine j_bipush (pc := 61) X d_RM_send_61 bp_8 ?_
    refine j_iload (pc := 63) X d_RM_send_63 3 rfl ?_
    refine j_imul (pc := 65) X d_RM_send_65 ?_
    refine j_lshr (pc := 66) X d_RM_send_66 ?_
    refine j_ldc2 (pc := 67) X m_const_RM_96 d_RM_send_67 ?_
    refine j_land (pc := 70) X d_RM_send_70 ?_
    refine j_l2i (pc := 71) X d_RM_send_71 ?_
    refine ast_RMqueue (pc := 72) X hs d_RM_send_72 ?_
    refine j_iinc (pc := 73) X d_RM_send_73 3 rfl ic_1 (lv' := [(4, .int (v4 + 1)), (0, .ref (a 0)), (1, .int v1), (2, .long v2)]) (Nat.le_of_ble_eq_true rfl) rfl ?_
    refine j_goto (pc := 76) (tgt := 38) X d_RM_send_76 rfl ?_
    refine j_sub [1, 2, 3, 0] (lv' := [(0, .ref (a 0)), (1, .int v1), (2, .long v2), (4, .int (v4 + 1))]) rfl ?_
    exact hb (plUp st 2 (plIx (((7 * (st 0 4)) + 1) + v4)) (Int64.toInt32 ((v2 >>> (Int32.toInt64 (8 * v4) &&& 63)) &&& 255))) (v4 + 1) hk
def F_RM_send_38 (v1 : Int32) (v2 : Int64) (c : plS × Int32) : Bool × (plS × Int32) := K_RM_send_38L c.1 v1 v2 c.2
def G_RM_send_38 (v1 : Int32) (v2 : Int64) (c : plS × Int32) : Prop := P_RM_send_38L c.1 v1 v2 c.2
def K_RM_send_38X (v1 : Int32) (v2 : Int64) (c : plS × Int32) : Int32 × plS := (1, plUp c.1 0 4 ((c.1 0 4) + 1))
set_option maxRecDepth 20000 in
theorem j_RM_send_38X {E : plE} (X : plX E b_RM_send "ProtectedLineModel" 5 (some .boolean) 0 0) (a : Nat → Nat) (T : Int32 × plS) (hQ : plRi E (plwR (plg E) a) T) (v1 : Int32) (v2 : Int64) (c : plS × Int32) (hk : T = K_RM_send_38X v1 v2 c) : plJ E 5 (plwR (plg E) a c.1) 0 0 [(0, .ref (a 0)), (1, .int v1), (2, .long v2), (4, .int c.2)] 79 [] := by
  unfold K_RM_send_38X at hk
  refine j_aload_n (pc := 79) X d_RM_send_79 rfl 0 rfl ?_
  refine j_dup (pc := 80) X d_RM_send_80 rfl ?_
  refine get_RM_waiting (pc := 81) X fl_RM_93 d_RM_send_81 ?_
  refine j_iconst (pc := 84) X d_RM_send_84 ic_1 ?_
  refine j_iadd (pc := 85) X d_RM_send_85 ?_
  refine put_RM_waiting (pc := 86) X fl_RM_93 d_RM_send_86 ?_
  refine j_iconst (pc := 89) X d_RM_send_89 ic_1 ?_
  exact j_retz (pc := 90) X hQ d_RM_send_90 (Or.inr rfl) hk
def K_RM_send (st : plS) (v1 : Int32) (v2 : Int64) : Int32 × plS := (if v1 < 1 then K_RM_send_20 st else (if 6 < v1 then K_RM_send_20 st else (if (st 0 4) < 8 then K_RM_send_38X v1 v2 (lpR (F_RM_send_38 v1 v2) 64 (plUp st 2 (plIx (7 * (st 0 4))) v1, 0)) else K_RM_send_20 st)))
def P_RM_send (st : plS) (v1 : Int32) (v2 : Int64) : Prop := (¬ v1 < 1 → (¬ 6 < v1 → ((st 0 4) < 8 → (vp_in (7 * (st 0 4)) 56 ∧ lpP (G_RM_send_38 v1 v2) (F_RM_send_38 v1 v2) 64 (plUp st 2 (plIx (7 * (st 0 4))) v1, 0)))))
set_option maxRecDepth 20000 in
theorem j_RM_send {E : plE} (X : plX E b_RM_send "ProtectedLineModel" 5 (some .boolean) 0 0) (a : Nat → Nat) (T : Int32 × plS) (hQ : plRi E (plwR (plg E) a) T) (st : plS) (v1 : Int32) (v2 : Int64) (hs : P_RM_send st v1 v2) (hk : T = K_RM_send st v1 v2) : plJ E 5 (plwR (plg E) a st) 0 0 [(0, .ref (a 0)), (1, .int v1), (2, .long v2)] 0 [] := by
  unfold P_RM_send at hs
  unfold K_RM_send at hk
  refine j_iload_n (pc := 0) X d_RM_send_0 rfl 1 rfl ?_
  refine j_iconst (pc := 1) X d_RM_send_1 ic_1 ?_
  refine j_icmp_lt (pc := 2) (tgt := 20) X d_RM_send_2 rfl (fun hc => ?_) (fun hc => ?_)
  · have hk := hk.trans (if_pos hc)
    refine j_sub [] (lv' := []) rfl ?_
    exact j_RM_send_20 X a T hQ st hk
  · have hk := hk.trans (if_neg hc)
    have hs := hs hc
    refine j_iload_n (pc := 5) X d_RM_send_5 rfl 1 rfl ?_
    refine j_bipush (pc := 6) X d_RM_send_6 bp_6 ?_
    refine j_icmp_gt (pc := 8) (tgt := 20) X d_RM_send_8 rfl (fun hc => ?_) (fun hc => ?_)
    · have hk := hk.trans (if_pos hc)
      refine j_sub [] (lv' := []) rfl ?_
      exact j_RM_send_20 X a T hQ st hk
    · have hk := hk.trans (if_neg hc)
      have hs := hs hc
      refine j_aload_n (pc := 11) X d_RM_send_11 rfl 0 rfl ?_
      refine get_RM_waiting (pc := 12) X fl_RM_93 d_RM_send_12 ?_
      refine j_bipush (pc := 15) X d_RM_send_15 bp_8 ?_
      refine j_icmp_lt (pc := 17) (tgt := 22) X d_RM_send_17 rfl (fun hc => ?_) (fun hc => ?_)
      · have hk := hk.trans (if_pos hc)
        have hs := hs hc
        refine j_aload_n (pc := 22) X d_RM_send_22 rfl 0 rfl ?_
        refine get_RM_queue (pc := 23) X fl_RM_13 d_RM_send_23 ?_
        refine j_bipush (pc := 26) X d_RM_send_26 bp_7 ?_
        refine j_aload_n (pc := 28) X d_RM_send_28 rfl 0 rfl ?_
        refine get_RM_waiting (pc := 29) X fl_RM_93 d_RM_send_29 ?_
        refine j_imul (pc := 32) X d_RM_send_32 ?_
        refine j_iload_n (pc := 33) X d_RM_send_33 rfl 1 rfl ?_
        refine ast_RMqueue (pc := 34) X hs.1 d_RM_send_34 ?_
        have hs := hs.2
        refine j_iconst (pc := 35) X d_RM_send_35 ic_0 ?_
        refine j_istore (pc := 36) X d_RM_send_36 (lv' := [(4, .int 0), (0, .ref (a 0)), (1, .int v1), (2, .long v2)]) (Nat.le_of_ble_eq_true rfl) rfl ?_
        refine j_sub [1, 2, 3, 0] (lv' := [(0, .ref (a 0)), (1, .int v1), (2, .long v2), (4, .int 0)]) rfl ?_
        exact lpJ (G_RM_send_38 v1 v2) (F_RM_send_38 v1 v2) (fun c => plJ E 5 (plwR (plg E) a c.1) 0 0 [(0, .ref (a 0)), (1, .int v1), (2, .long v2), (4, .int c.2)] 38 []) (fun c => plJ E 5 (plwR (plg E) a c.1) 0 0 [(0, .ref (a 0)), (1, .int v1), (2, .long v2), (4, .int c.2)] 79 []) (fun c hp h1 h2 => j_RM_send_38L X a (F_RM_send_38 v1 v2 c) v1 v2 (fun c0 c1 => h1 (c0, c1)) (fun c0 c1 => h2 (c0, c1)) c.1 c.2 hp rfl) 64 (plUp st 2 (plIx (7 * (st 0 4))) v1, 0) hs (j_RM_send_38X X a T hQ v1 v2 (lpR (F_RM_send_38 v1 v2) 64 (plUp st 2 (plIx (7 * (st 0 4))) v1, 0)) hk)
      · have hk := hk.trans (if_neg hc)
        refine j_sub [] (lv' := []) rfl ?_
        exact j_RM_send_20 X a T hQ st hk
set_option maxRecDepth 20000 in
theorem c_RM_send (g : plG) (a : Nat → Nat) (st : plS) (v1 : Int32) (v2 : Int64) (hs : P_RM_send st v1 v2) : plMi g y_RM_send b_RM_send 5 (some .boolean) 0 0 [.ref (a 0), .int v1, .long v2] (plwR g a) st (K_RM_send st v1 v2) := by
  refine plMi.of (own := "ProtectedLineModel") (lv := [(0, .ref (a 0)), (1, .int v1), (2, .long v2)]) rfl rfl (Nat.le_of_ble_eq_true rfl) rfl (fun E hE X hQ => ?_)
  subst hE
  exact j_RM_send X a _ hQ st v1 v2 hs rfl
theorem d_RM_isLine_0 : decode b_RM_isLine 0 = .ok (.iload_n 0, 1) := by decide +kernel
theorem d_RM_isLine_1 : decode b_RM_isLine 1 = .ok (.ifCond .eq (8), 3) := by decide +kernel
theorem d_RM_isLine_4 : decode b_RM_isLine 4 = .ok (.iload_n 0, 1) := by decide +kernel
theorem d_RM_isLine_5 : decode b_RM_isLine 5 = .ok (.iconst 1, 1) := by decide +kernel
theorem d_RM_isLine_6 : decode b_RM_isLine 6 = .ok (.if_icmp .ne (7), 3) := by decide +kernel
theorem d_RM_isLine_9 : decode b_RM_isLine 9 = .ok (.iconst 1, 1) := by decide +kernel
theorem d_RM_isLine_10 : decode b_RM_isLine 10 = .ok (.goto (4), 3) := by decide +kernel
theorem d_RM_isLine_13 : decode b_RM_isLine 13 = .ok (.iconst 0, 1) := by decide +kernel
theorem d_RM_isLine_14 : decode b_RM_isLine 14 = .ok (.ireturn, 1) := by decide +kernel
def K_RM_isLine_14 (k0 : Int32) : Int32 := k0
def P_RM_isLine_14 (k0 : Int32) : Prop := plB k0
set_option maxRecDepth 20000 in
theorem j_RM_isLine_14 {E : plE} (X : plX E b_RM_isLine "ProtectedLineModel" 1 (some .boolean) 0 0) (a : Nat → Nat) (T : Int32) (st : plS) (hQ : plRp E (plwR (plg E) a) st T) (k0 : Int32) (hs : P_RM_isLine_14 k0) (hk : T = K_RM_isLine_14 k0) : plJ E 1 (plwR (plg E) a st) 0 0 [] 14 [.int k0] := by
  unfold P_RM_isLine_14 at hs
  unfold K_RM_isLine_14 at hk
  exact j_retzp (pc := 14) X hQ d_RM_isLine_14 hs hk
def K_RM_isLine_9  : Int32 := K_RM_isLine_14 1
def P_RM_isLine_9  : Prop := P_RM_isLine_14 1
set_option maxRecDepth 20000 in
theorem j_RM_isLine_9 {E : plE} (X : plX E b_RM_isLine "ProtectedLineModel" 1 (some .boolean) 0 0) (a : Nat → Nat) (T : Int32) (st : plS) (hQ : plRp E (plwR (plg E) a) st T)  (hs : P_RM_isLine_9 ) (hk : T = K_RM_isLine_9 ) : plJ E 1 (plwR (plg E) a st) 0 0 [] 9 [] := by
  unfold P_RM_isLine_9 at hs
  unfold K_RM_isLine_9 at hk
  refine j_iconst (pc := 9) X d_RM_isLine_9 ic_1 ?_
  refine j_goto (pc := 10) (tgt := 14) X d_RM_isLine_10 rfl ?_
  exact j_RM_isLine_14 X a T st hQ 1 hs hk
def K_RM_isLine (v0 : Int32) : Int32 := (if v0 = 0 then K_RM_isLine_9 else (if v0 = 1 then K_RM_isLine_9 else K_RM_isLine_14 0))
def P_RM_isLine (v0 : Int32) : Prop := ((v0 = 0 → P_RM_isLine_9) ∧ (¬ v0 = 0 → ((v0 = 1 → P_RM_isLine_9) ∧ (¬ v0 = 1 → P_RM_isLine_14 0))))
set_option maxRecDepth 20000 in
theorem j_RM_isLine {E : plE} (X : plX E b_RM_isLine "ProtectedLineModel" 1 (some .boolean) 0 0) (a : Nat → Nat) (T : Int32) (st : plS) (hQ : plRp E (plwR (plg E) a) st T) (v0 : Int32) (hs : P_RM_isLine v0) (hk : T = K_RM_isLine v0) : plJ E 1 (plwR (plg E) a st) 0 0 [(0, .int v0)] 0 [] := by
  unfold P_RM_isLine at hs
  unfold K_RM_isLine at hk
  refine j_iload_n (pc := 0) X d_RM_isLine_0 rfl 0 rfl ?_
  refine j_if_eq (pc := 1) (tgt := 9) X d_RM_isLine_1 rfl (fun hc => ?_) (fun hc => ?_)
  · have hk := hk.trans (if_pos hc)
    have hs := hs.1 hc
    refine j_sub [] (lv' := []) rfl ?_
    exact j_RM_isLine_9 X a T st hQ hs hk
  · have hk := hk.trans (if_neg hc)
    have hs := hs.2 hc
    refine j_iload_n (pc := 4) X d_RM_isLine_4 rfl 0 rfl ?_
    refine j_iconst (pc := 5) X d_RM_isLine_5 ic_1 ?_
    refine j_icmp_ne (pc := 6) (tgt := 13) X d_RM_isLine_6 rfl (fun hc => ?_) (fun hc => ?_)
    · have hk := hk.trans (if_neg hc)
      have hs := hs.2 hc
      refine j_iconst (pc := 13) X d_RM_isLine_13 ic_0 ?_
      refine j_sub [] (lv' := []) rfl ?_
      exact j_RM_isLine_14 X a T st hQ 0 hs hk
    · have hk := hk.trans (if_pos hc)
      have hs := hs.1 hc
      refine j_sub [] (lv' := []) rfl ?_
      exact j_RM_isLine_9 X a T st hQ hs hk
set_option maxRecDepth 20000 in
theorem c_RM_isLine (g : plG) (a : Nat → Nat) (st : plS) (v0 : Int32) (hs : P_RM_isLine v0) : plMp g y_RM_isLine b_RM_isLine 1 (some .boolean) 0 0 [.int v0] (plwR g a) st (K_RM_isLine v0) := by
  refine plMp.of (own := "ProtectedLineModel") (lv := [(0, .int v0)]) rfl rfl (Nat.le_of_ble_eq_true rfl) rfl (fun E hE X hQ => ?_)
  subst hE
  exact j_RM_isLine X a _ st hQ v0 hs rfl
theorem d_RM_cut_0 : decode b_RM_cut 0 = .ok (.iload_n 1, 1) := by decide +kernel
theorem d_RM_cut_1 : decode b_RM_cut 1 = .ok (.invokestatic 98, 3) := by decide +kernel
theorem d_RM_cut_4 : decode b_RM_cut 4 = .ok (.ifCond .eq (13), 3) := by decide +kernel
theorem d_RM_cut_7 : decode b_RM_cut 7 = .ok (.aload_n 0, 1) := by decide +kernel
theorem d_RM_cut_8 : decode b_RM_cut 8 = .ok (.getfield 38, 3) := by decide +kernel
theorem d_RM_cut_11 : decode b_RM_cut 11 = .ok (.iload_n 1, 1) := by decide +kernel
theorem d_RM_cut_12 : decode b_RM_cut 12 = .ok (.baload, 1) := by decide +kernel
theorem d_RM_cut_13 : decode b_RM_cut 13 = .ok (.iload_n 2, 1) := by decide +kernel
theorem d_RM_cut_14 : decode b_RM_cut 14 = .ok (.if_icmp .ne (5), 3) := by decide +kernel
theorem d_RM_cut_17 : decode b_RM_cut 17 = .ok (.iconst 0, 1) := by decide +kernel
theorem d_RM_cut_18 : decode b_RM_cut 18 = .ok (.ireturn, 1) := by decide +kernel
theorem d_RM_cut_19 : decode b_RM_cut 19 = .ok (.aload_n 0, 1) := by decide +kernel
theorem d_RM_cut_20 : decode b_RM_cut 20 = .ok (.getfield 38, 3) := by decide +kernel
theorem d_RM_cut_23 : decode b_RM_cut 23 = .ok (.iload_n 1, 1) := by decide +kernel
theorem d_RM_cut_24 : decode b_RM_cut 24 = .ok (.iload_n 2, 1) := by decide +kernel
theorem d_RM_cut_25 : decode b_RM_cut 25 = .ok (.bastore, 1) := by decide +kernel
theorem d_RM_cut_26 : decode b_RM_cut 26 = .ok (.iconst 1, 1) := by decide +kernel
theorem d_RM_cut_27 : decode b_RM_cut 27 = .ok (.ireturn, 1) := by decide +kernel
def K_RM_cut_17 (st : plS) : Int32 × plS := (0, st)
set_option maxRecDepth 20000 in
theorem j_RM_cut_17 {E : plE} (X : plX E b_RM_cut "ProtectedLineModel" 3 (some .boolean) 1 20) (a : Nat → Nat) (T : Int32 × plS) (hQ : plRi E (plwR (plg E) a) T) (st : plS)  (hk : T = K_RM_cut_17 st) : plJ E 3 (plwR (plg E) a st) 0 0 [] 17 [] := by
  unfold K_RM_cut_17 at hk
  refine j_iconst (pc := 17) X d_RM_cut_17 ic_0 ?_
  exact j_retz (pc := 18) X hQ d_RM_cut_18 (Or.inl rfl) hk
def K_RM_cut (st : plS) (v1 : Int32) (v2 : Int32) : Int32 × plS := (if (K_RM_isLine v1) = 0 then K_RM_cut_17 st else (if (st 8 (plIx v1)) = v2 then K_RM_cut_17 st else (1, plUp st 8 (plIx v1) v2)))
def P_RM_cut (st : plS) (v1 : Int32) (v2 : Int32) : Prop := (P_RM_isLine v1 ∧ (¬ (K_RM_isLine v1) = 0 → (vp_in v1 2 ∧ (¬ (st 8 (plIx v1)) = v2 → (plB v2 ∧ vp_in v1 2)))))
set_option maxRecDepth 20000 in
theorem j_RM_cut {E : plE} (X : plX E b_RM_cut "ProtectedLineModel" 3 (some .boolean) 1 20) (a : Nat → Nat) (T : Int32 × plS) (hQ : plRi E (plwR (plg E) a) T) (st : plS) (v1 : Int32) (v2 : Int32) (hs : P_RM_cut st v1 v2) (hk : T = K_RM_cut st v1 v2) : plJ E 3 (plwR (plg E) a st) 0 0 [(0, .ref (a 0)), (1, .int v1), (2, .int v2)] 0 [] := by
  unfold P_RM_cut at hs
  unfold K_RM_cut at hk
  refine j_iload_n (pc := 0) X d_RM_cut_0 rfl 1 rfl ?_
  refine j_callSp (pc := 1) (As := [.int v1]) (rest := []) X (c_RM_isLine (plg E) a st v1 hs.1) ml_RM_98 ⟨Nat.le_of_ble_eq_true rfl, Nat.le_of_ble_eq_true rfl⟩ rfl rfl (Nat.le_of_ble_eq_true rfl) d_RM_cut_1 ?_
  have hs := hs.2
  refine j_if_eq (pc := 4) (tgt := 17) X d_RM_cut_4 rfl (fun hc => ?_) (fun hc => ?_)
  · have hk := hk.trans (if_pos hc)
    refine j_sub [] (lv' := []) rfl ?_
    exact j_RM_cut_17 X a T hQ st hk
  · have hk := hk.trans (if_neg hc)
    have hs := hs hc
    refine j_aload_n (pc := 7) X d_RM_cut_7 rfl 0 rfl ?_
    refine get_RM_cut (pc := 8) X fl_RM_38 d_RM_cut_8 ?_
    refine j_iload_n (pc := 11) X d_RM_cut_11 rfl 1 rfl ?_
    refine ald_RMcut (pc := 12) X hs.1 d_RM_cut_12 ?_
    have hs := hs.2
    refine j_iload_n (pc := 13) X d_RM_cut_13 rfl 2 rfl ?_
    refine j_icmp_ne (pc := 14) (tgt := 19) X d_RM_cut_14 rfl (fun hc => ?_) (fun hc => ?_)
    · have hk := hk.trans (if_neg hc)
      have hs := hs hc
      refine j_aload_n (pc := 19) X d_RM_cut_19 rfl 0 rfl ?_
      refine get_RM_cut (pc := 20) X fl_RM_38 d_RM_cut_20 ?_
      refine j_iload_n (pc := 23) X d_RM_cut_23 rfl 1 rfl ?_
      refine j_iload_n (pc := 24) X d_RM_cut_24 rfl 2 rfl ?_
      refine ast_RMcut (pc := 25) X hs d_RM_cut_25 ?_
      refine j_iconst (pc := 26) X d_RM_cut_26 ic_1 ?_
      exact j_retz (pc := 27) X hQ d_RM_cut_27 (Or.inr rfl) hk
    · have hk := hk.trans (if_pos hc)
      refine j_sub [] (lv' := []) rfl ?_
      exact j_RM_cut_17 X a T hQ st hk
set_option maxRecDepth 20000 in
theorem c_RM_cut (g : plG) (a : Nat → Nat) (st : plS) (v1 : Int32) (v2 : Int32) (hs : P_RM_cut st v1 v2) : plMi g y_RM_cut b_RM_cut 3 (some .boolean) 1 20 [.ref (a 0), .int v1, .int v2] (plwR g a) st (K_RM_cut st v1 v2) := by
  refine plMi.of (own := "ProtectedLineModel") (lv := [(0, .ref (a 0)), (1, .int v1), (2, .int v2)]) rfl rfl (Nat.le_of_ble_eq_true rfl) rfl (fun E hE X hQ => ?_)
  subst hE
  exact j_RM_cut X a _ hQ st v1 v2 hs rfl
theorem d_RM_isPlace_0 : decode b_RM_isPlace 0 = .ok (.iload_n 0, 1) := by decide +kernel
theorem d_RM_isPlace_1 : decode b_RM_isPlace 1 = .ok (.ifCond .lt (13), 3) := by decide +kernel
theorem d_RM_isPlace_4 : decode b_RM_isPlace 4 = .ok (.iload_n 0, 1) := by decide +kernel
theorem d_RM_isPlace_5 : decode b_RM_isPlace 5 = .ok (.bipush (11), 2) := by decide +kernel
theorem d_RM_isPlace_7 : decode b_RM_isPlace 7 = .ok (.if_icmp .gt (7), 3) := by decide +kernel
theorem d_RM_isPlace_10 : decode b_RM_isPlace 10 = .ok (.iconst 1, 1) := by decide +kernel
theorem d_RM_isPlace_11 : decode b_RM_isPlace 11 = .ok (.goto (4), 3) := by decide +kernel
theorem d_RM_isPlace_14 : decode b_RM_isPlace 14 = .ok (.iconst 0, 1) := by decide +kernel
theorem d_RM_isPlace_15 : decode b_RM_isPlace 15 = .ok (.ireturn, 1) := by decide +kernel
def K_RM_isPlace_15 (k0 : Int32) : Int32 := k0
def P_RM_isPlace_15 (k0 : Int32) : Prop := plB k0
set_option maxRecDepth 20000 in
theorem j_RM_isPlace_15 {E : plE} (X : plX E b_RM_isPlace "ProtectedLineModel" 1 (some .boolean) 0 0) (a : Nat → Nat) (T : Int32) (st : plS) (hQ : plRp E (plwR (plg E) a) st T) (k0 : Int32) (hs : P_RM_isPlace_15 k0) (hk : T = K_RM_isPlace_15 k0) : plJ E 1 (plwR (plg E) a st) 0 0 [] 15 [.int k0] := by
  unfold P_RM_isPlace_15 at hs
  unfold K_RM_isPlace_15 at hk
  exact j_retzp (pc := 15) X hQ d_RM_isPlace_15 hs hk
def K_RM_isPlace_14  : Int32 := K_RM_isPlace_15 0
def P_RM_isPlace_14  : Prop := P_RM_isPlace_15 0
set_option maxRecDepth 20000 in
theorem j_RM_isPlace_14 {E : plE} (X : plX E b_RM_isPlace "ProtectedLineModel" 1 (some .boolean) 0 0) (a : Nat → Nat) (T : Int32) (st : plS) (hQ : plRp E (plwR (plg E) a) st T)  (hs : P_RM_isPlace_14 ) (hk : T = K_RM_isPlace_14 ) : plJ E 1 (plwR (plg E) a st) 0 0 [] 14 [] := by
  unfold P_RM_isPlace_14 at hs
  unfold K_RM_isPlace_14 at hk
  refine j_iconst (pc := 14) X d_RM_isPlace_14 ic_0 ?_
  exact j_RM_isPlace_15 X a T st hQ 0 hs hk
def K_RM_isPlace (v0 : Int32) : Int32 := (if v0 < 0 then K_RM_isPlace_14 else (if 11 < v0 then K_RM_isPlace_14 else K_RM_isPlace_15 1))
def P_RM_isPlace (v0 : Int32) : Prop := ((v0 < 0 → P_RM_isPlace_14) ∧ (¬ v0 < 0 → ((11 < v0 → P_RM_isPlace_14) ∧ (¬ 11 < v0 → P_RM_isPlace_15 1))))
set_option maxRecDepth 20000 in
theorem j_RM_isPlace {E : plE} (X : plX E b_RM_isPlace "ProtectedLineModel" 1 (some .boolean) 0 0) (a : Nat → Nat) (T : Int32) (st : plS) (hQ : plRp E (plwR (plg E) a) st T) (v0 : Int32) (hs : P_RM_isPlace v0) (hk : T = K_RM_isPlace v0) : plJ E 1 (plwR (plg E) a st) 0 0 [(0, .int v0)] 0 [] := by
  unfold P_RM_isPlace at hs
  unfold K_RM_isPlace at hk
  refine j_iload_n (pc := 0) X d_RM_isPlace_0 rfl 0 rfl ?_
  refine j_if_lt (pc := 1) (tgt := 14) X d_RM_isPlace_1 rfl (fun hc => ?_) (fun hc => ?_)
  · have hk := hk.trans (if_pos hc)
    have hs := hs.1 hc
    refine j_sub [] (lv' := []) rfl ?_
    exact j_RM_isPlace_14 X a T st hQ hs hk
  · have hk := hk.trans (if_neg hc)
    have hs := hs.2 hc
    refine j_iload_n (pc := 4) X d_RM_isPlace_4 rfl 0 rfl ?_
    refine j_bipush (pc := 5) X d_RM_isPlace_5 bp_11 ?_
    refine j_icmp_gt (pc := 7) (tgt := 14) X d_RM_isPlace_7 rfl (fun hc => ?_) (fun hc => ?_)
    · have hk := hk.trans (if_pos hc)
      have hs := hs.1 hc
      refine j_sub [] (lv' := []) rfl ?_
      exact j_RM_isPlace_14 X a T st hQ hs hk
    · have hk := hk.trans (if_neg hc)
      have hs := hs.2 hc
      refine j_iconst (pc := 10) X d_RM_isPlace_10 ic_1 ?_
      refine j_goto (pc := 11) (tgt := 15) X d_RM_isPlace_11 rfl ?_
      refine j_sub [] (lv' := []) rfl ?_
      exact j_RM_isPlace_15 X a T st hQ 1 hs hk
set_option maxRecDepth 20000 in
theorem c_RM_isPlace (g : plG) (a : Nat → Nat) (st : plS) (v0 : Int32) (hs : P_RM_isPlace v0) : plMp g y_RM_isPlace b_RM_isPlace 1 (some .boolean) 0 0 [.int v0] (plwR g a) st (K_RM_isPlace v0) := by
  refine plMp.of (own := "ProtectedLineModel") (lv := [(0, .int v0)]) rfl rfl (Nat.le_of_ble_eq_true rfl) rfl (fun E hE X hQ => ?_)
  subst hE
  exact j_RM_isPlace X a _ st hQ v0 hs rfl
theorem d_RM_damage_0 : decode b_RM_damage 0 = .ok (.iload_n 1, 1) := by decide +kernel
theorem d_RM_damage_1 : decode b_RM_damage 1 = .ok (.invokestatic 98, 3) := by decide +kernel
theorem d_RM_damage_4 : decode b_RM_damage 4 = .ok (.ifCond .eq (21), 3) := by decide +kernel
theorem d_RM_damage_7 : decode b_RM_damage 7 = .ok (.iload_n 2, 1) := by decide +kernel
theorem d_RM_damage_8 : decode b_RM_damage 8 = .ok (.invokestatic 102, 3) := by decide +kernel
theorem d_RM_damage_11 : decode b_RM_damage 11 = .ok (.ifCond .eq (14), 3) := by decide +kernel
theorem d_RM_damage_14 : decode b_RM_damage 14 = .ok (.iload_n 3, 1) := by decide +kernel
theorem d_RM_damage_15 : decode b_RM_damage 15 = .ok (.ifCond .lt (10), 3) := by decide +kernel
theorem d_RM_damage_18 : decode b_RM_damage 18 = .ok (.iload_n 3, 1) := by decide +kernel
theorem d_RM_damage_19 : decode b_RM_damage 19 = .ok (.sipush (255), 3) := by decide +kernel
theorem d_RM_damage_22 : decode b_RM_damage 22 = .ok (.if_icmp .le (5), 3) := by decide +kernel
theorem d_RM_damage_25 : decode b_RM_damage 25 = .ok (.iconst 0, 1) := by decide +kernel
theorem d_RM_damage_26 : decode b_RM_damage 26 = .ok (.ireturn, 1) := by decide +kernel
theorem d_RM_damage_27 : decode b_RM_damage 27 = .ok (.aload_n 0, 1) := by decide +kernel
theorem d_RM_damage_28 : decode b_RM_damage 28 = .ok (.getfield 42, 3) := by decide +kernel
theorem d_RM_damage_31 : decode b_RM_damage 31 = .ok (.bipush (12), 2) := by decide +kernel
theorem d_RM_damage_33 : decode b_RM_damage 33 = .ok (.iload_n 1, 1) := by decide +kernel
theorem d_RM_damage_34 : decode b_RM_damage 34 = .ok (.imul, 1) := by decide +kernel
theorem d_RM_damage_35 : decode b_RM_damage 35 = .ok (.iload_n 2, 1) := by decide +kernel
theorem d_RM_damage_36 : decode b_RM_damage 36 = .ok (.iadd, 1) := by decide +kernel
theorem d_RM_damage_37 : decode b_RM_damage 37 = .ok (.aload_n 0, 1) := by decide +kernel
theorem d_RM_damage_38 : decode b_RM_damage 38 = .ok (.getfield 42, 3) := by decide +kernel
theorem d_RM_damage_41 : decode b_RM_damage 41 = .ok (.bipush (12), 2) := by decide +kernel
theorem d_RM_damage_43 : decode b_RM_damage 43 = .ok (.iload_n 1, 1) := by decide +kernel
theorem d_RM_damage_44 : decode b_RM_damage 44 = .ok (.imul, 1) := by decide +kernel
theorem d_RM_damage_45 : decode b_RM_damage 45 = .ok (.iload_n 2, 1) := by decide +kernel
theorem d_RM_damage_46 : decode b_RM_damage 46 = .ok (.iadd, 1) := by decide +kernel
theorem d_RM_damage_47 : decode b_RM_damage 47 = .ok (.iaload, 1) := by decide +kernel
theorem d_RM_damage_48 : decode b_RM_damage 48 = .ok (.iload_n 3, 1) := by decide +kernel
theorem d_RM_damage_49 : decode b_RM_damage 49 = .ok (.ixor, 1) := by decide +kernel
theorem d_RM_damage_50 : decode b_RM_damage 50 = .ok (.iastore, 1) := by decide +kernel
theorem d_RM_damage_51 : decode b_RM_damage 51 = .ok (.iconst 1, 1) := by decide +kernel
theorem d_RM_damage_52 : decode b_RM_damage 52 = .ok (.ireturn, 1) := by decide +kernel
def K_RM_damage_25 (st : plS) : Int32 × plS := (0, st)
set_option maxRecDepth 20000 in
theorem j_RM_damage_25 {E : plE} (X : plX E b_RM_damage "ProtectedLineModel" 4 (some .boolean) 1 20) (a : Nat → Nat) (T : Int32 × plS) (hQ : plRi E (plwR (plg E) a) T) (st : plS)  (hk : T = K_RM_damage_25 st) : plJ E 4 (plwR (plg E) a st) 0 0 [] 25 [] := by
  unfold K_RM_damage_25 at hk
  refine j_iconst (pc := 25) X d_RM_damage_25 ic_0 ?_
  exact j_retz (pc := 26) X hQ d_RM_damage_26 (Or.inl rfl) hk
def K_RM_damage (st : plS) (v1 : Int32) (v2 : Int32) (v3 : Int32) : Int32 × plS := (if (K_RM_isLine v1) = 0 then K_RM_damage_25 st else (if (K_RM_isPlace v2) = 0 then K_RM_damage_25 st else (if v3 < 0 then K_RM_damage_25 st else (if v3 ≤ 255 then (1, plUp st 9 (plIx ((12 * v1) + v2)) ((st 9 (plIx ((12 * v1) + v2))) ^^^ v3)) else K_RM_damage_25 st))))
def P_RM_damage (st : plS) (v1 : Int32) (v2 : Int32) (v3 : Int32) : Prop := (P_RM_isLine v1 ∧ (¬ (K_RM_isLine v1) = 0 → (P_RM_isPlace v2 ∧ (¬ (K_RM_isPlace v2) = 0 → (¬ v3 < 0 → (v3 ≤ 255 → (vp_in ((12 * v1) + v2) 24 ∧ vp_in ((12 * v1) + v2) 24)))))))
set_option maxRecDepth 20000 in
theorem j_RM_damage {E : plE} (X : plX E b_RM_damage "ProtectedLineModel" 4 (some .boolean) 1 20) (a : Nat → Nat) (T : Int32 × plS) (hQ : plRi E (plwR (plg E) a) T) (st : plS) (v1 : Int32) (v2 : Int32) (v3 : Int32) (hs : P_RM_damage st v1 v2 v3) (hk : T = K_RM_damage st v1 v2 v3) : plJ E 4 (plwR (plg E) a st) 0 0 [(0, .ref (a 0)), (1, .int v1), (2, .int v2), (3, .int v3)] 0 [] := by
  unfold P_RM_damage at hs
  unfold K_RM_damage at hk
  refine j_iload_n (pc := 0) X d_RM_damage_0 rfl 1 rfl ?_
  refine j_callSp (pc := 1) (As := [.int v1]) (rest := []) X (c_RM_isLine (plg E) a st v1 hs.1) ml_RM_98 ⟨Nat.le_of_ble_eq_true rfl, Nat.le_of_ble_eq_true rfl⟩ rfl rfl (Nat.le_of_ble_eq_true rfl) d_RM_damage_1 ?_
  have hs := hs.2
  refine j_if_eq (pc := 4) (tgt := 25) X d_RM_damage_4 rfl (fun hc => ?_) (fun hc => ?_)
  · have hk := hk.trans (if_pos hc)
    refine j_sub [] (lv' := []) rfl ?_
    exact j_RM_damage_25 X a T hQ st hk
  · have hk := hk.trans (if_neg hc)
    have hs := hs hc
    refine j_iload_n (pc := 7) X d_RM_damage_7 rfl 2 rfl ?_
    refine j_callSp (pc := 8) (As := [.int v2]) (rest := []) X (c_RM_isPlace (plg E) a st v2 hs.1) ml_RM_102 ⟨Nat.le_of_ble_eq_true rfl, Nat.le_of_ble_eq_true rfl⟩ rfl rfl (Nat.le_of_ble_eq_true rfl) d_RM_damage_8 ?_
    have hs := hs.2
    refine j_if_eq (pc := 11) (tgt := 25) X d_RM_damage_11 rfl (fun hc => ?_) (fun hc => ?_)
    · have hk := hk.trans (if_pos hc)
      refine j_sub [] (lv' := []) rfl ?_
      exact j_RM_damage_25 X a T hQ st hk
    · have hk := hk.trans (if_neg hc)
      have hs := hs hc
      refine j_iload_n (pc := 14) X d_RM_damage_14 rfl 3 rfl ?_
      refine j_if_lt (pc := 15) (tgt := 25) X d_RM_damage_15 rfl (fun hc => ?_) (fun hc => ?_)
      · have hk := hk.trans (if_pos hc)
        refine j_sub [] (lv' := []) rfl ?_
        exact j_RM_damage_25 X a T hQ st hk
      · have hk := hk.trans (if_neg hc)
        have hs := hs hc
        refine j_iload_n (pc := 18) X d_RM_damage_18 rfl 3 rfl ?_
        refine j_sipush (pc := 19) X d_RM_damage_19 sp_255 ?_
        refine j_icmp_le (pc := 22) (tgt := 27) X d_RM_damage_22 rfl (fun hc => ?_) (fun hc => ?_)
        · have hk := hk.trans (if_pos hc)
          have hs := hs hc
          refine j_aload_n (pc := 27) X d_RM_damage_27 rfl 0 rfl ?_
          refine get_RM_spoil (pc := 28) X fl_RM_42 d_RM_damage_28 ?_
          refine j_bipush (pc := 31) X d_RM_damage_31 bp_12 ?_
          refine j_iload_n (pc := 33) X d_RM_damage_33 rfl 1 rfl ?_
          refine j_imul (pc := 34) X d_RM_damage_34 ?_
          refine j_iload_n (pc := 35) X d_RM_damage_35 rfl 2 rfl ?_
          refine j_iadd (pc := 36) X d_RM_damage_36 ?_
          refine j_aload_n (pc := 37) X d_RM_damage_37 rfl 0 rfl ?_
          refine get_RM_spoil (pc := 38) X fl_RM_42 d_RM_damage_38 ?_
          refine j_bipush (pc := 41) X d_RM_damage_41 bp_12 ?_
          refine j_iload_n (pc := 43) X d_RM_damage_43 rfl 1 rfl ?_
          refine j_imul (pc := 44) X d_RM_damage_44 ?_
          refine j_iload_n (pc := 45) X d_RM_damage_45 rfl 2 rfl ?_
          refine j_iadd (pc := 46) X d_RM_damage_46 ?_
          refine ald_RMspoil (pc := 47) X hs.1 d_RM_damage_47 ?_
          have hs := hs.2
          refine j_iload_n (pc := 48) X d_RM_damage_48 rfl 3 rfl ?_
          refine j_ixor (pc := 49) X d_RM_damage_49 ?_
          refine ast_RMspoil (pc := 50) X hs d_RM_damage_50 ?_
          refine j_iconst (pc := 51) X d_RM_damage_51 ic_1 ?_
          exact j_retz (pc := 52) X hQ d_RM_damage_52 (Or.inr rfl) hk
        · have hk := hk.trans (if_neg hc)
          refine j_sub [] (lv' := []) rfl ?_
          exact j_RM_damage_25 X a T hQ st hk
set_option maxRecDepth 20000 in
theorem c_RM_damage (g : plG) (a : Nat → Nat) (st : plS) (v1 : Int32) (v2 : Int32) (v3 : Int32) (hs : P_RM_damage st v1 v2 v3) : plMi g y_RM_damage b_RM_damage 4 (some .boolean) 1 20 [.ref (a 0), .int v1, .int v2, .int v3] (plwR g a) st (K_RM_damage st v1 v2 v3) := by
  refine plMi.of (own := "ProtectedLineModel") (lv := [(0, .ref (a 0)), (1, .int v1), (2, .int v2), (3, .int v3)]) rfl rfl (Nat.le_of_ble_eq_true rfl) rfl (fun E hE X hQ => ?_)
  subst hE
  exact j_RM_damage X a _ hQ st v1 v2 v3 hs rfl
theorem d_RM_drift_0 : decode b_RM_drift 0 = .ok (.iload_n 1, 1) := by decide +kernel
theorem d_RM_drift_1 : decode b_RM_drift 1 = .ok (.bipush (-16), 2) := by decide +kernel
theorem d_RM_drift_3 : decode b_RM_drift 3 = .ok (.if_icmp .lt (31), 3) := by decide +kernel
theorem d_RM_drift_6 : decode b_RM_drift 6 = .ok (.iload_n 1, 1) := by decide +kernel
theorem d_RM_drift_7 : decode b_RM_drift 7 = .ok (.bipush (16), 2) := by decide +kernel
theorem d_RM_drift_9 : decode b_RM_drift 9 = .ok (.if_icmp .gt (25), 3) := by decide +kernel
theorem d_RM_drift_12 : decode b_RM_drift 12 = .ok (.aload_n 0, 1) := by decide +kernel
theorem d_RM_drift_13 : decode b_RM_drift 13 = .ok (.getfield 105, 3) := by decide +kernel
theorem d_RM_drift_16 : decode b_RM_drift 16 = .ok (.iload_n 1, 1) := by decide +kernel
theorem d_RM_drift_17 : decode b_RM_drift 17 = .ok (.iadd, 1) := by decide +kernel
theorem d_RM_drift_18 : decode b_RM_drift 18 = .ok (.bipush (-8), 2) := by decide +kernel
theorem d_RM_drift_20 : decode b_RM_drift 20 = .ok (.if_icmp .lt (14), 3) := by decide +kernel
theorem d_RM_drift_23 : decode b_RM_drift 23 = .ok (.aload_n 0, 1) := by decide +kernel
theorem d_RM_drift_24 : decode b_RM_drift 24 = .ok (.getfield 105, 3) := by decide +kernel
theorem d_RM_drift_27 : decode b_RM_drift 27 = .ok (.iload_n 1, 1) := by decide +kernel
theorem d_RM_drift_28 : decode b_RM_drift 28 = .ok (.iadd, 1) := by decide +kernel
theorem d_RM_drift_29 : decode b_RM_drift 29 = .ok (.bipush (8), 2) := by decide +kernel
theorem d_RM_drift_31 : decode b_RM_drift 31 = .ok (.if_icmp .le (5), 3) := by decide +kernel
theorem d_RM_drift_34 : decode b_RM_drift 34 = .ok (.iconst 0, 1) := by decide +kernel
theorem d_RM_drift_35 : decode b_RM_drift 35 = .ok (.ireturn, 1) := by decide +kernel
theorem d_RM_drift_36 : decode b_RM_drift 36 = .ok (.aload_n 0, 1) := by decide +kernel
theorem d_RM_drift_37 : decode b_RM_drift 37 = .ok (.aload_n 0, 1) := by decide +kernel
theorem d_RM_drift_38 : decode b_RM_drift 38 = .ok (.getfield 105, 3) := by decide +kernel
theorem d_RM_drift_41 : decode b_RM_drift 41 = .ok (.iload_n 1, 1) := by decide +kernel
theorem d_RM_drift_42 : decode b_RM_drift 42 = .ok (.iadd, 1) := by decide +kernel
theorem d_RM_drift_43 : decode b_RM_drift 43 = .ok (.putfield 105, 3) := by decide +kernel
theorem d_RM_drift_46 : decode b_RM_drift 46 = .ok (.iconst 1, 1) := by decide +kernel
theorem d_RM_drift_47 : decode b_RM_drift 47 = .ok (.ireturn, 1) := by decide +kernel
def K_RM_drift_34 (st : plS) : Int32 × plS := (0, st)
set_option maxRecDepth 20000 in
theorem j_RM_drift_34 {E : plE} (X : plX E b_RM_drift "ProtectedLineModel" 2 (some .boolean) 0 0) (a : Nat → Nat) (T : Int32 × plS) (hQ : plRi E (plwR (plg E) a) T) (st : plS)  (hk : T = K_RM_drift_34 st) : plJ E 2 (plwR (plg E) a st) 0 0 [] 34 [] := by
  unfold K_RM_drift_34 at hk
  refine j_iconst (pc := 34) X d_RM_drift_34 ic_0 ?_
  exact j_retz (pc := 35) X hQ d_RM_drift_35 (Or.inl rfl) hk
def K_RM_drift (st : plS) (v1 : Int32) : Int32 × plS := (if v1 < ((-16)) then K_RM_drift_34 st else (if 16 < v1 then K_RM_drift_34 st else (if ((st 0 14) + v1) < ((-8)) then K_RM_drift_34 st else (if ((st 0 14) + v1) ≤ 8 then (1, plUp st 0 14 ((st 0 14) + v1)) else K_RM_drift_34 st))))
set_option maxRecDepth 20000 in
theorem j_RM_drift {E : plE} (X : plX E b_RM_drift "ProtectedLineModel" 2 (some .boolean) 0 0) (a : Nat → Nat) (T : Int32 × plS) (hQ : plRi E (plwR (plg E) a) T) (st : plS) (v1 : Int32) (hk : T = K_RM_drift st v1) : plJ E 2 (plwR (plg E) a st) 0 0 [(0, .ref (a 0)), (1, .int v1)] 0 [] := by
  unfold K_RM_drift at hk
  refine j_iload_n (pc := 0) X d_RM_drift_0 rfl 1 rfl ?_
  refine j_bipush (pc := 1) X d_RM_drift_1 bp_m16 ?_
  refine j_icmp_lt (pc := 3) (tgt := 34) X d_RM_drift_3 rfl (fun hc => ?_) (fun hc => ?_)
  · have hk := hk.trans (if_pos hc)
    refine j_sub [] (lv' := []) rfl ?_
    exact j_RM_drift_34 X a T hQ st hk
  · have hk := hk.trans (if_neg hc)
    refine j_iload_n (pc := 6) X d_RM_drift_6 rfl 1 rfl ?_
    refine j_bipush (pc := 7) X d_RM_drift_7 bp_16 ?_
    refine j_icmp_gt (pc := 9) (tgt := 34) X d_RM_drift_9 rfl (fun hc => ?_) (fun hc => ?_)
    · have hk := hk.trans (if_pos hc)
      refine j_sub [] (lv' := []) rfl ?_
      exact j_RM_drift_34 X a T hQ st hk
    · have hk := hk.trans (if_neg hc)
      refine j_aload_n (pc := 12) X d_RM_drift_12 rfl 0 rfl ?_
      refine get_RM_debt (pc := 13) X fl_RM_105 d_RM_drift_13 ?_
      refine j_iload_n (pc := 16) X d_RM_drift_16 rfl 1 rfl ?_
      refine j_iadd (pc := 17) X d_RM_drift_17 ?_
      refine j_bipush (pc := 18) X d_RM_drift_18 bp_m8 ?_
      refine j_icmp_lt (pc := 20) (tgt := 34) X d_RM_drift_20 rfl (fun hc => ?_) (fun hc => ?_)
      · have hk := hk.trans (if_pos hc)
        refine j_sub [] (lv' := []) rfl ?_
        exact j_RM_drift_34 X a T hQ st hk
      · have hk := hk.trans (if_neg hc)
        refine j_aload_n (pc := 23) X d_RM_drift_23 rfl 0 rfl ?_
        refine get_RM_debt (pc := 24) X fl_RM_105 d_RM_drift_24 ?_
        refine j_iload_n (pc := 27) X d_RM_drift_27 rfl 1 rfl ?_
        refine j_iadd (pc := 28) X d_RM_drift_28 ?_
        refine j_bipush (pc := 29) X d_RM_drift_29 bp_8 ?_
        refine j_icmp_le (pc := 31) (tgt := 36) X d_RM_drift_31 rfl (fun hc => ?_) (fun hc => ?_)
        · have hk := hk.trans (if_pos hc)
          refine j_aload_n (pc := 36) X d_RM_drift_36 rfl 0 rfl ?_
          refine j_aload_n (pc := 37) X d_RM_drift_37 rfl 0 rfl ?_
          refine get_RM_debt (pc := 38) X fl_RM_105 d_RM_drift_38 ?_
          refine j_iload_n (pc := 41) X d_RM_drift_41 rfl 1 rfl ?_
          refine j_iadd (pc := 42) X d_RM_drift_42 ?_
          refine put_RM_debt (pc := 43) X fl_RM_105 d_RM_drift_43 ?_
          refine j_iconst (pc := 46) X d_RM_drift_46 ic_1 ?_
          exact j_retz (pc := 47) X hQ d_RM_drift_47 (Or.inr rfl) hk
        · have hk := hk.trans (if_neg hc)
          refine j_sub [] (lv' := []) rfl ?_
          exact j_RM_drift_34 X a T hQ st hk
set_option maxRecDepth 20000 in
theorem c_RM_drift (g : plG) (a : Nat → Nat) (st : plS) (v1 : Int32) : plMi g y_RM_drift b_RM_drift 2 (some .boolean) 0 0 [.ref (a 0), .int v1] (plwR g a) st (K_RM_drift st v1) := by
  refine plMi.of (own := "ProtectedLineModel") (lv := [(0, .ref (a 0)), (1, .int v1)]) rfl rfl (Nat.le_of_ble_eq_true rfl) rfl (fun E hE X hQ => ?_)
  subst hE
  exact j_RM_drift X a _ hQ st v1 rfl
theorem d_RM_command_0 : decode b_RM_command 0 = .ok (.iload_n 1, 1) := by decide +kernel
theorem d_RM_command_1 : decode b_RM_command 1 = .ok (.ifCond .lt (8), 3) := by decide +kernel
theorem d_RM_command_4 : decode b_RM_command 4 = .ok (.iload_n 1, 1) := by decide +kernel
theorem d_RM_command_5 : decode b_RM_command 5 = .ok (.iconst 3, 1) := by decide +kernel
theorem d_RM_command_6 : decode b_RM_command 6 = .ok (.if_icmp .le (5), 3) := by decide +kernel
theorem d_RM_command_9 : decode b_RM_command 9 = .ok (.iconst 0, 1) := by decide +kernel
theorem d_RM_command_10 : decode b_RM_command 10 = .ok (.ireturn, 1) := by decide +kernel
theorem d_RM_command_11 : decode b_RM_command 11 = .ok (.aload_n 0, 1) := by decide +kernel
theorem d_RM_command_12 : decode b_RM_command 12 = .ok (.iload_n 1, 1) := by decide +kernel
theorem d_RM_command_13 : decode b_RM_command 13 = .ok (.putfield 108, 3) := by decide +kernel
theorem d_RM_command_16 : decode b_RM_command 16 = .ok (.iconst 1, 1) := by decide +kernel
theorem d_RM_command_17 : decode b_RM_command 17 = .ok (.ireturn, 1) := by decide +kernel
def K_RM_command_9 (st : plS) : Int32 × plS := (0, st)
set_option maxRecDepth 20000 in
theorem j_RM_command_9 {E : plE} (X : plX E b_RM_command "ProtectedLineModel" 2 (some .boolean) 0 0) (a : Nat → Nat) (T : Int32 × plS) (hQ : plRi E (plwR (plg E) a) T) (st : plS)  (hk : T = K_RM_command_9 st) : plJ E 2 (plwR (plg E) a st) 0 0 [] 9 [] := by
  unfold K_RM_command_9 at hk
  refine j_iconst (pc := 9) X d_RM_command_9 ic_0 ?_
  exact j_retz (pc := 10) X hQ d_RM_command_10 (Or.inl rfl) hk
def K_RM_command (st : plS) (v1 : Int32) : Int32 × plS := (if v1 < 0 then K_RM_command_9 st else (if v1 ≤ 3 then (1, plUp st 0 37 v1) else K_RM_command_9 st))
set_option maxRecDepth 20000 in
theorem j_RM_command {E : plE} (X : plX E b_RM_command "ProtectedLineModel" 2 (some .boolean) 0 0) (a : Nat → Nat) (T : Int32 × plS) (hQ : plRi E (plwR (plg E) a) T) (st : plS) (v1 : Int32) (hk : T = K_RM_command st v1) : plJ E 2 (plwR (plg E) a st) 0 0 [(0, .ref (a 0)), (1, .int v1)] 0 [] := by
  unfold K_RM_command at hk
  refine j_iload_n (pc := 0) X d_RM_command_0 rfl 1 rfl ?_
  refine j_if_lt (pc := 1) (tgt := 9) X d_RM_command_1 rfl (fun hc => ?_) (fun hc => ?_)
  · have hk := hk.trans (if_pos hc)
    refine j_sub [] (lv' := []) rfl ?_
    exact j_RM_command_9 X a T hQ st hk
  · have hk := hk.trans (if_neg hc)
    refine j_iload_n (pc := 4) X d_RM_command_4 rfl 1 rfl ?_
    refine j_iconst (pc := 5) X d_RM_command_5 ic_3 ?_
    refine j_icmp_le (pc := 6) (tgt := 11) X d_RM_command_6 rfl (fun hc => ?_) (fun hc => ?_)
    · have hk := hk.trans (if_pos hc)
      refine j_aload_n (pc := 11) X d_RM_command_11 rfl 0 rfl ?_
      refine j_iload_n (pc := 12) X d_RM_command_12 rfl 1 rfl ?_
      refine put_RM_order (pc := 13) X fl_RM_108 d_RM_command_13 ?_
      refine j_iconst (pc := 16) X d_RM_command_16 ic_1 ?_
      exact j_retz (pc := 17) X hQ d_RM_command_17 (Or.inr rfl) hk
    · have hk := hk.trans (if_neg hc)
      refine j_sub [] (lv' := []) rfl ?_
      exact j_RM_command_9 X a T hQ st hk
set_option maxRecDepth 20000 in
theorem c_RM_command (g : plG) (a : Nat → Nat) (st : plS) (v1 : Int32) : plMi g y_RM_command b_RM_command 2 (some .boolean) 0 0 [.ref (a 0), .int v1] (plwR g a) st (K_RM_command st v1) := by
  refine plMi.of (own := "ProtectedLineModel") (lv := [(0, .ref (a 0)), (1, .int v1)]) rfl rfl (Nat.le_of_ble_eq_true rfl) rfl (fun E hE X hQ => ?_)
  subst hE
  exact j_RM_command X a _ hQ st v1 rfl
