theorem d_LN_slotOf_0 : decode b_LN_slotOf 0 = .ok (.iload_n 0, 1) := by decide +kernel
theorem d_LN_slotOf_1 : decode b_LN_slotOf 1 = .ok (.bipush (7), 2) := by decide +kernel
theorem d_LN_slotOf_3 : decode b_LN_slotOf 3 = .ok (.iand, 1) := by decide +kernel
theorem d_LN_slotOf_4 : decode b_LN_slotOf 4 = .ok (.bipush (12), 2) := by decide +kernel
theorem d_LN_slotOf_6 : decode b_LN_slotOf 6 = .ok (.imul, 1) := by decide +kernel
theorem d_LN_slotOf_7 : decode b_LN_slotOf 7 = .ok (.ireturn, 1) := by decide +kernel
def K_LN_slotOf (v0 : Int32) : Int32 := (v0 &&& 7) * 12
set_option maxRecDepth 20000 in
theorem j_LN_slotOf {E : plE} (X : plX E b_LN_slotOf "ProtectedLine$Line" 1 (some .int) 0 0) (a : Nat → Nat) (T : Int32) (st : plS) (hQ : plRp E (plwC (plg E) a) st T) (v0 : Int32) (hk : T = K_LN_slotOf v0) : plJ E 1 (plwC (plg E) a st) 0 0 [(0, .int v0)] 0 [] := by
  unfold K_LN_slotOf at hk
  refine j_iload_n (pc := 0) X d_LN_slotOf_0 rfl 0 rfl ?_
  refine j_bipush (pc := 1) X d_LN_slotOf_1 bp_7 ?_
  refine j_iand (pc := 3) X d_LN_slotOf_3 ?_
  refine j_bipush (pc := 4) X d_LN_slotOf_4 bp_12 ?_
  refine j_imul (pc := 6) X d_LN_slotOf_6 ?_
  exact j_retip (pc := 7) X hQ d_LN_slotOf_7 hk
set_option maxRecDepth 20000 in
theorem c_LN_slotOf (g : plG) (a : Nat → Nat) (st : plS) (v0 : Int32) : plMp g y_LN_slotOf b_LN_slotOf 1 (some .int) 0 0 [.int v0] (plwC g a) st (K_LN_slotOf v0) := by
  refine plMp.of (own := "ProtectedLine$Line") (lv := [(0, .int v0)]) rfl rfl (Nat.le_of_ble_eq_true rfl) rfl (fun E hE X hQ => ?_)
  subst hE
  exact j_LN_slotOf X a _ st hQ v0 rfl
theorem d_LN_joinedFrom_0 : decode b_LN_joinedFrom 0 = .ok (.iconst 0, 1) := by decide +kernel
theorem d_LN_joinedFrom_1 : decode b_LN_joinedFrom 1 = .ok (.istore_n 2, 1) := by decide +kernel
theorem d_LN_joinedFrom_2 : decode b_LN_joinedFrom 2 = .ok (.iconst 0, 1) := by decide +kernel
theorem d_LN_joinedFrom_3 : decode b_LN_joinedFrom 3 = .ok (.istore_n 3, 1) := by decide +kernel
theorem d_LN_joinedFrom_4 : decode b_LN_joinedFrom 4 = .ok (.iload_n 3, 1) := by decide +kernel
theorem d_LN_joinedFrom_5 : decode b_LN_joinedFrom 5 = .ok (.bipush (12), 2) := by decide +kernel
theorem d_LN_joinedFrom_7 : decode b_LN_joinedFrom 7 = .ok (.if_icmp .ge (17), 3) := by decide +kernel
theorem d_LN_joinedFrom_10 : decode b_LN_joinedFrom 10 = .ok (.iload_n 2, 1) := by decide +kernel
theorem d_LN_joinedFrom_11 : decode b_LN_joinedFrom 11 = .ok (.aload_n 0, 1) := by decide +kernel
theorem d_LN_joinedFrom_12 : decode b_LN_joinedFrom 12 = .ok (.iload_n 1, 1) := by decide +kernel
theorem d_LN_joinedFrom_13 : decode b_LN_joinedFrom 13 = .ok (.iload_n 3, 1) := by decide +kernel
theorem d_LN_joinedFrom_14 : decode b_LN_joinedFrom 14 = .ok (.iadd, 1) := by decide +kernel
theorem d_LN_joinedFrom_15 : decode b_LN_joinedFrom 15 = .ok (.iaload, 1) := by decide +kernel
theorem d_LN_joinedFrom_16 : decode b_LN_joinedFrom 16 = .ok (.ixor, 1) := by decide +kernel
theorem d_LN_joinedFrom_17 : decode b_LN_joinedFrom 17 = .ok (.istore_n 2, 1) := by decide +kernel
theorem d_LN_joinedFrom_18 : decode b_LN_joinedFrom 18 = .ok (.iinc 3 (1), 3) := by decide +kernel
theorem d_LN_joinedFrom_21 : decode b_LN_joinedFrom 21 = .ok (.goto (-17), 3) := by decide +kernel
theorem d_LN_joinedFrom_24 : decode b_LN_joinedFrom 24 = .ok (.iload_n 2, 1) := by decide +kernel
theorem d_LN_joinedFrom_25 : decode b_LN_joinedFrom 25 = .ok (.ireturn, 1) := by decide +kernel
def K_LN_joinedFrom_LWu_4L (st : plS) (v1 : Int32) (v2 : Int32) (v3 : Int32) : Bool × (Int32 × Int32) := (if 12 ≤ v3 then (false, (v2, v3)) else (true, (v2 ^^^ (st 10 (plIx (v1 + v3))), v3 + 1)))
def P_LN_joinedFrom_LWu_4L (st : plS) (v1 : Int32) (v2 : Int32) (v3 : Int32) : Prop := (¬ 12 ≤ v3 → vp_in (v1 + v3) 96)
set_option maxRecDepth 20000 in
theorem j_LN_joinedFrom_LWu_4L {E : plE} (X : plX E b_LN_joinedFrom "ProtectedLine$Line" 4 (some .int) 0 0) (a : Nat → Nat) (T : Bool × (Int32 × Int32)) (st : plS) (v1 : Int32) (hb : ∀ (c0 : Int32) (c1 : Int32), T = (true, (c0, c1)) → plJ E 4 (plwC (plg E) a st) 0 0 [(0, .ref (a 10)), (1, .int v1), (2, .int c0), (3, .int c1)] 4 []) (hx : ∀ (c0 : Int32) (c1 : Int32), T = (false, (c0, c1)) → plJ E 4 (plwC (plg E) a st) 0 0 [(0, .ref (a 10)), (1, .int v1), (2, .int c0), (3, .int c1)] 24 []) (v2 : Int32) (v3 : Int32) (hs : P_LN_joinedFrom_LWu_4L st v1 v2 v3) (hk : T = K_LN_joinedFrom_LWu_4L st v1 v2 v3) : plJ E 4 (plwC (plg E) a st) 0 0 [(0, .ref (a 10)), (1, .int v1), (2, .int v2), (3, .int v3)] 4 [] := by
  unfold P_LN_joinedFrom_LWu_4L at hs
  unfold K_LN_joinedFrom_LWu_4L at hk
  refine j_iload_n (pc := 4) X d_LN_joinedFrom_4 rfl 3 rfl ?_
  refine j_bipush (pc := 5) X d_LN_joinedFrom_5 bp_12 ?_
  refine j_icmp_ge (pc := 7) (tgt := 24) X d_LN_joinedFrom_7 rfl (fun hc => ?_) (fun hc => ?_)
  · have hk := hk.trans (if_pos hc)
    exact hx v2 v3 hk
  · have hk := hk.trans (if_neg hc)
    have hs := hs hc
    refine j_iload_n (pc := 10) X d_LN_joinedFrom_10 rfl 2 rfl ?_
    refine j_aload_n (pc := 11) X d_LN_joinedFrom_11 rfl 0 rfl ?_
    refine j_iload_n (pc := 12) X d_LN_joinedFrom_12 rfl 1 rfl ?_
    refine j_iload_n (pc := 13) X d_LN_joinedFrom_13 rfl 3 rfl ?_
    refine j_iadd (pc := 14) X d_LN_joinedFrom_14 ?_
    refine ald_LWu (pc := 15) X hs d_LN_joinedFrom_15 ?_
    refine j_ixor (pc := 16) X d_LN_joinedFrom_16 ?_
    refine j_istore_n (pc := 17) X d_LN_joinedFrom_17 rfl (lv' := [(2, .int (v2 ^^^ (st 10 (plIx (v1 + v3))))), (0, .ref (a 10)), (1, .int v1), (3, .int v3)]) (Nat.le_of_ble_eq_true rfl) rfl ?_
    refine j_iinc (pc := 18) X d_LN_joinedFrom_18 3 rfl ic_1 (lv' := [(3, .int (v3 + 1)), (2, .int (v2 ^^^ (st 10 (plIx (v1 + v3))))), (0, .ref (a 10)), (1, .int v1)]) (Nat.le_of_ble_eq_true rfl) rfl ?_
    refine j_goto (pc := 21) (tgt := 4) X d_LN_joinedFrom_21 rfl ?_
    refine j_sub [2, 3, 1, 0] (lv' := [(0, .ref (a 10)), (1, .int v1), (2, .int (v2 ^^^ (st 10 (plIx (v1 + v3))))), (3, .int (v3 + 1))]) rfl ?_
    exact hb (v2 ^^^ (st 10 (plIx (v1 + v3)))) (v3 + 1) hk
def F_LN_joinedFrom_LWu_4 (st : plS) (v1 : Int32) (c : Int32 × Int32) : Bool × (Int32 × Int32) := K_LN_joinedFrom_LWu_4L st v1 c.1 c.2
def G_LN_joinedFrom_LWu_4 (st : plS) (v1 : Int32) (c : Int32 × Int32) : Prop := P_LN_joinedFrom_LWu_4L st v1 c.1 c.2
def K_LN_joinedFrom_LWu_4X (st : plS) (v1 : Int32) (c : Int32 × Int32) : Int32 := c.1
set_option maxRecDepth 20000 in
theorem j_LN_joinedFrom_LWu_4X {E : plE} (X : plX E b_LN_joinedFrom "ProtectedLine$Line" 4 (some .int) 0 0) (a : Nat → Nat) (T : Int32) (st : plS) (hQ : plRp E (plwC (plg E) a) st T) (v1 : Int32) (c : Int32 × Int32) (hk : T = K_LN_joinedFrom_LWu_4X st v1 c) : plJ E 4 (plwC (plg E) a st) 0 0 [(0, .ref (a 10)), (1, .int v1), (2, .int c.1), (3, .int c.2)] 24 [] := by
  unfold K_LN_joinedFrom_LWu_4X at hk
  refine j_iload_n (pc := 24) X d_LN_joinedFrom_24 rfl 2 rfl ?_
  exact j_retip (pc := 25) X hQ d_LN_joinedFrom_25 hk
def K_LN_joinedFrom_LWu (st : plS) (v1 : Int32) : Int32 := K_LN_joinedFrom_LWu_4X st v1 (lpR (F_LN_joinedFrom_LWu_4 st v1) 64 (0, 0))
def P_LN_joinedFrom_LWu (st : plS) (v1 : Int32) : Prop := lpP (G_LN_joinedFrom_LWu_4 st v1) (F_LN_joinedFrom_LWu_4 st v1) 64 (0, 0)
set_option maxRecDepth 20000 in
theorem j_LN_joinedFrom_LWu {E : plE} (X : plX E b_LN_joinedFrom "ProtectedLine$Line" 4 (some .int) 0 0) (a : Nat → Nat) (T : Int32) (st : plS) (hQ : plRp E (plwC (plg E) a) st T) (v1 : Int32) (hs : P_LN_joinedFrom_LWu st v1) (hk : T = K_LN_joinedFrom_LWu st v1) : plJ E 4 (plwC (plg E) a st) 0 0 [(0, .ref (a 10)), (1, .int v1)] 0 [] := by
  unfold P_LN_joinedFrom_LWu at hs
  unfold K_LN_joinedFrom_LWu at hk
  refine j_iconst (pc := 0) X d_LN_joinedFrom_0 ic_0 ?_
  refine j_istore_n (pc := 1) X d_LN_joinedFrom_1 rfl (lv' := [(2, .int 0), (0, .ref (a 10)), (1, .int v1)]) (Nat.le_of_ble_eq_true rfl) rfl ?_
  refine j_iconst (pc := 2) X d_LN_joinedFrom_2 ic_0 ?_
  refine j_istore_n (pc := 3) X d_LN_joinedFrom_3 rfl (lv' := [(3, .int 0), (2, .int 0), (0, .ref (a 10)), (1, .int v1)]) (Nat.le_of_ble_eq_true rfl) rfl ?_
  refine j_sub [2, 3, 1, 0] (lv' := [(0, .ref (a 10)), (1, .int v1), (2, .int 0), (3, .int 0)]) rfl ?_
  exact lpJ (G_LN_joinedFrom_LWu_4 st v1) (F_LN_joinedFrom_LWu_4 st v1) (fun c => plJ E 4 (plwC (plg E) a st) 0 0 [(0, .ref (a 10)), (1, .int v1), (2, .int c.1), (3, .int c.2)] 4 []) (fun c => plJ E 4 (plwC (plg E) a st) 0 0 [(0, .ref (a 10)), (1, .int v1), (2, .int c.1), (3, .int c.2)] 24 []) (fun c hp h1 h2 => j_LN_joinedFrom_LWu_4L X a (F_LN_joinedFrom_LWu_4 st v1 c) st v1 (fun c0 c1 => h1 (c0, c1)) (fun c0 c1 => h2 (c0, c1)) c.1 c.2 hp rfl) 64 (0, 0) hs (j_LN_joinedFrom_LWu_4X X a T st hQ v1 (lpR (F_LN_joinedFrom_LWu_4 st v1) 64 (0, 0)) hk)
set_option maxRecDepth 20000 in
theorem c_LN_joinedFrom_LWu (g : plG) (a : Nat → Nat) (st : plS) (v1 : Int32) (hs : P_LN_joinedFrom_LWu st v1) : plMp g y_LN_joinedFrom b_LN_joinedFrom 4 (some .int) 0 0 [.ref (a 10), .int v1] (plwC g a) st (K_LN_joinedFrom_LWu st v1) := by
  refine plMp.of (own := "ProtectedLine$Line") (lv := [(0, .ref (a 10)), (1, .int v1)]) rfl rfl (Nat.le_of_ble_eq_true rfl) rfl (fun E hE X hQ => ?_)
  subst hE
  exact j_LN_joinedFrom_LWu X a _ st hQ v1 hs rfl
theorem d_LN_launch_0 : decode b_LN_launch 0 = .ok (.aload_n 0, 1) := by decide +kernel
theorem d_LN_launch_1 : decode b_LN_launch 1 = .ok (.getfield 25, 3) := by decide +kernel
theorem d_LN_launch_4 : decode b_LN_launch 4 = .ok (.invokestatic 28, 3) := by decide +kernel
theorem d_LN_launch_7 : decode b_LN_launch 7 = .ok (.istore_n 3, 1) := by decide +kernel
theorem d_LN_launch_8 : decode b_LN_launch 8 = .ok (.aload_n 0, 1) := by decide +kernel
theorem d_LN_launch_9 : decode b_LN_launch 9 = .ok (.dup, 1) := by decide +kernel
theorem d_LN_launch_10 : decode b_LN_launch 10 = .ok (.getfield 25, 3) := by decide +kernel
theorem d_LN_launch_13 : decode b_LN_launch 13 = .ok (.iconst 1, 1) := by decide +kernel
theorem d_LN_launch_14 : decode b_LN_launch 14 = .ok (.iadd, 1) := by decide +kernel
theorem d_LN_launch_15 : decode b_LN_launch 15 = .ok (.putfield 25, 3) := by decide +kernel
theorem d_LN_launch_18 : decode b_LN_launch 18 = .ok (.aload_n 0, 1) := by decide +kernel
theorem d_LN_launch_19 : decode b_LN_launch 19 = .ok (.getfield 11, 3) := by decide +kernel
theorem d_LN_launch_22 : decode b_LN_launch 22 = .ok (.iload_n 3, 1) := by decide +kernel
theorem d_LN_launch_23 : decode b_LN_launch 23 = .ok (.sipush (246), 3) := by decide +kernel
theorem d_LN_launch_26 : decode b_LN_launch 26 = .ok (.iastore, 1) := by decide +kernel
theorem d_LN_launch_27 : decode b_LN_launch 27 = .ok (.aload_n 0, 1) := by decide +kernel
theorem d_LN_launch_28 : decode b_LN_launch 28 = .ok (.getfield 11, 3) := by decide +kernel
theorem d_LN_launch_31 : decode b_LN_launch 31 = .ok (.iload_n 3, 1) := by decide +kernel
theorem d_LN_launch_32 : decode b_LN_launch 32 = .ok (.iconst 1, 1) := by decide +kernel
theorem d_LN_launch_33 : decode b_LN_launch 33 = .ok (.iadd, 1) := by decide +kernel
theorem d_LN_launch_34 : decode b_LN_launch 34 = .ok (.bipush (40), 2) := by decide +kernel
theorem d_LN_launch_36 : decode b_LN_launch 36 = .ok (.iastore, 1) := by decide +kernel
theorem d_LN_launch_37 : decode b_LN_launch 37 = .ok (.aload_n 0, 1) := by decide +kernel
theorem d_LN_launch_38 : decode b_LN_launch 38 = .ok (.getfield 11, 3) := by decide +kernel
theorem d_LN_launch_41 : decode b_LN_launch 41 = .ok (.iload_n 3, 1) := by decide +kernel
theorem d_LN_launch_42 : decode b_LN_launch 42 = .ok (.iconst 2, 1) := by decide +kernel
theorem d_LN_launch_43 : decode b_LN_launch 43 = .ok (.iadd, 1) := by decide +kernel
theorem d_LN_launch_44 : decode b_LN_launch 44 = .ok (.aload_n 0, 1) := by decide +kernel
theorem d_LN_launch_45 : decode b_LN_launch 45 = .ok (.getfield 32, 3) := by decide +kernel
theorem d_LN_launch_48 : decode b_LN_launch 48 = .ok (.getstatic 35, 3) := by decide +kernel
theorem d_LN_launch_51 : decode b_LN_launch 51 = .ok (.iconst 0, 1) := by decide +kernel
theorem d_LN_launch_52 : decode b_LN_launch 52 = .ok (.iaload, 1) := by decide +kernel
theorem d_LN_launch_53 : decode b_LN_launch 53 = .ok (.ixor, 1) := by decide +kernel
theorem d_LN_launch_54 : decode b_LN_launch 54 = .ok (.iastore, 1) := by decide +kernel
theorem d_LN_launch_55 : decode b_LN_launch 55 = .ok (.aload_n 0, 1) := by decide +kernel
theorem d_LN_launch_56 : decode b_LN_launch 56 = .ok (.getfield 11, 3) := by decide +kernel
theorem d_LN_launch_59 : decode b_LN_launch 59 = .ok (.iload_n 3, 1) := by decide +kernel
theorem d_LN_launch_60 : decode b_LN_launch 60 = .ok (.iconst 3, 1) := by decide +kernel
theorem d_LN_launch_61 : decode b_LN_launch 61 = .ok (.iadd, 1) := by decide +kernel
theorem d_LN_launch_62 : decode b_LN_launch 62 = .ok (.iload_n 1, 1) := by decide +kernel
theorem d_LN_launch_63 : decode b_LN_launch 63 = .ok (.getstatic 35, 3) := by decide +kernel
theorem d_LN_launch_66 : decode b_LN_launch 66 = .ok (.iconst 1, 1) := by decide +kernel
theorem d_LN_launch_67 : decode b_LN_launch 67 = .ok (.iaload, 1) := by decide +kernel
theorem d_LN_launch_68 : decode b_LN_launch 68 = .ok (.ixor, 1) := by decide +kernel
theorem d_LN_launch_69 : decode b_LN_launch 69 = .ok (.iastore, 1) := by decide +kernel
theorem d_LN_launch_70 : decode b_LN_launch 70 = .ok (.iconst 4, 1) := by decide +kernel
theorem d_LN_launch_71 : decode b_LN_launch 71 = .ok (.istore 4, 2) := by decide +kernel
theorem d_LN_launch_73 : decode b_LN_launch 73 = .ok (.iload 4, 2) := by decide +kernel
theorem d_LN_launch_75 : decode b_LN_launch 75 = .ok (.bipush (12), 2) := by decide +kernel
theorem d_LN_launch_77 : decode b_LN_launch 77 = .ok (.if_icmp .ge (33), 3) := by decide +kernel
theorem d_LN_launch_80 : decode b_LN_launch 80 = .ok (.aload_n 0, 1) := by decide +kernel
theorem d_LN_launch_81 : decode b_LN_launch 81 = .ok (.getfield 11, 3) := by decide +kernel
theorem d_LN_launch_84 : decode b_LN_launch 84 = .ok (.iload_n 3, 1) := by decide +kernel
theorem d_LN_launch_85 : decode b_LN_launch 85 = .ok (.iload 4, 2) := by decide +kernel
theorem d_LN_launch_87 : decode b_LN_launch 87 = .ok (.iadd, 1) := by decide +kernel
theorem d_LN_launch_88 : decode b_LN_launch 88 = .ok (.aload_n 2, 1) := by decide +kernel
theorem d_LN_launch_89 : decode b_LN_launch 89 = .ok (.iload 4, 2) := by decide +kernel
theorem d_LN_launch_91 : decode b_LN_launch 91 = .ok (.iconst 4, 1) := by decide +kernel
theorem d_LN_launch_92 : decode b_LN_launch 92 = .ok (.isub, 1) := by decide +kernel
theorem d_LN_launch_93 : decode b_LN_launch 93 = .ok (.iaload, 1) := by decide +kernel
theorem d_LN_launch_94 : decode b_LN_launch 94 = .ok (.getstatic 35, 3) := by decide +kernel
theorem d_LN_launch_97 : decode b_LN_launch 97 = .ok (.iload 4, 2) := by decide +kernel
theorem d_LN_launch_99 : decode b_LN_launch 99 = .ok (.iconst 2, 1) := by decide +kernel
theorem d_LN_launch_100 : decode b_LN_launch 100 = .ok (.isub, 1) := by decide +kernel
theorem d_LN_launch_101 : decode b_LN_launch 101 = .ok (.iaload, 1) := by decide +kernel
theorem d_LN_launch_102 : decode b_LN_launch 102 = .ok (.ixor, 1) := by decide +kernel
theorem d_LN_launch_103 : decode b_LN_launch 103 = .ok (.iastore, 1) := by decide +kernel
theorem d_LN_launch_104 : decode b_LN_launch 104 = .ok (.iinc 4 (1), 3) := by decide +kernel
theorem d_LN_launch_107 : decode b_LN_launch 107 = .ok (.goto (-34), 3) := by decide +kernel
theorem d_LN_launch_110 : decode b_LN_launch 110 = .ok (.aload_n 0, 1) := by decide +kernel
theorem d_LN_launch_111 : decode b_LN_launch 111 = .ok (.aload_n 0, 1) := by decide +kernel
theorem d_LN_launch_112 : decode b_LN_launch 112 = .ok (.getfield 11, 3) := by decide +kernel
theorem d_LN_launch_115 : decode b_LN_launch 115 = .ok (.iload_n 3, 1) := by decide +kernel
theorem d_LN_launch_116 : decode b_LN_launch 116 = .ok (.invokestatic 38, 3) := by decide +kernel
theorem d_LN_launch_119 : decode b_LN_launch 119 = .ok (.putfield 32, 3) := by decide +kernel
theorem d_LN_launch_122 : decode b_LN_launch 122 = .ok (.return_, 1) := by decide +kernel
def K_LW_launch_NAc_73L (st : plS) (v3 : Int32) (v4 : Int32) : Bool × (plS × Int32) := (if 12 ≤ v4 then (false, (st, v4)) else (true, (plUp st 10 (plIx (v3 + v4)) ((st 8 (plIx (v4 - 4))) ^^^ (plROW (plIx (v4 - 2)))), v4 + 1)))
def P_LW_launch_NAc_73L (st : plS) (v3 : Int32) (v4 : Int32) : Prop := (¬ 12 ≤ v4 → (vp_in (v4 - 4) 8 ∧ (vp_in (v4 - 2) 10 ∧ vp_in (v3 + v4) 96)))
set_option maxRecDepth 20000 in
theorem j_LW_launch_NAc_73L {E : plE} (X : plX E b_LN_launch "ProtectedLine$Line" 5 none 1 23) (a : Nat → Nat) (T : Bool × (plS × Int32)) (v3 : Int32) (hb : ∀ (c0 : plS) (c1 : Int32), T = (true, (c0, c1)) → plJ E 5 (plwC (plg E) a c0) 0 0 [(0, .ref (a 9)), (2, .ref (a 8)), (3, .int v3), (4, .int c1)] 73 []) (hx : ∀ (c0 : plS) (c1 : Int32), T = (false, (c0, c1)) → plJ E 5 (plwC (plg E) a c0) 0 0 [(0, .ref (a 9)), (2, .ref (a 8)), (3, .int v3), (4, .int c1)] 110 []) (st : plS) (v4 : Int32) (hs : P_LW_launch_NAc_73L st v3 v4) (hk : T = K_LW_launch_NAc_73L st v3 v4) : plJ E 5 (plwC (plg E) a st) 0 0 [(0, .ref (a 9)), (2, .ref (a 8)), (3, .int v3), (4, .int v4)] 73 [] := by
  unfold P_LW_launch_NAc_73L at hs
  unfold K_LW_launch_NAc_73L at hk
  refine j_iload (pc := 73) X d_LN_launch_73 3 rfl ?_
  refine j_bipush (pc := 75) X d_LN_launch_75 bp_12 ?_
  refine j_icmp_ge (pc := 77) (tgt := 110) X d_LN_launch_77 rfl (fun hc => ?_) (fun hc => ?_)
  · have hk := hk.trans (if_pos hc)
    exact hx st v4 hk
  · have hk := hk.trans (if_neg hc)
    have hs := hs hc
    refine j_aload_n (pc := 80) X d_LN_launch_80 rfl 0 rfl ?_
    refine get_LW_underWay (pc := 81) X fl_LN_11 d_LN_launch_81 ?_
    refine j_iload_n (pc := 84) X d_LN_launch_84 rfl 2 rfl ?_
    refine j_iload (pc := 85) X d_LN_launch_85 3 rfl ?_
    refine j_iadd (pc := 87) X d_LN_launch_87 ?_
    refine j_aload_n (pc := 88) X d_LN_launch_88 rfl 1 rfl ?_
    refine j_iload (pc := 89) X d_LN_launch_89 3 rfl ?_
    refine j_iconst (pc := 91) X d_LN_launch_91 ic_4 ?_
    refine j_isub (pc := 92) X d_LN_launch_92 ?_
    refine ald_NAc (pc := 93) X hs.1 d_LN_launch_93 ?_
    have hs := hs.2
    refine j_getROW (pc := 94) X fl_LN_35 d_LN_launch_94 ?_
    refine j_iload (pc := 97) X d_LN_launch_97 3 rfl ?_
    refine j_iconst (pc := 99) X d_LN_launch_99 ic_2 ?_
    refine j_isub (pc := 100) X d_LN_launch_100 ?_
    refine j_aldROW (pc := 101) X hs.1 d_LN_launch_101 ?_
    have hs := hs.2
    refine j_ixor (pc := 102) X d_LN_launch_102 ?_
    refine ast_LWu (pc := 103) X hs d_LN_launch_103 ?_
    refine j_iinc (pc := 104) X d_LN_launch_104 3 rfl ic_1 (lv' := [(4, .int (v4 + 1)), (0, .ref (a 9)), (2, .ref (a 8)), (3, .int v3)]) (Nat.le_of_ble_eq_true rfl) rfl ?_
    refine j_goto (pc := 107) (tgt := 73) X d_LN_launch_107 rfl ?_
    refine j_sub [1, 2, 3, 0] (lv' := [(0, .ref (a 9)), (2, .ref (a 8)), (3, .int v3), (4, .int (v4 + 1))]) rfl ?_
    exact hb (plUp st 10 (plIx (v3 + v4)) ((st 8 (plIx (v4 - 4))) ^^^ (plROW (plIx (v4 - 2))))) (v4 + 1) hk
def F_LW_launch_NAc_73 (v3 : Int32) (c : plS × Int32) : Bool × (plS × Int32) := K_LW_launch_NAc_73L c.1 v3 c.2
def G_LW_launch_NAc_73 (v3 : Int32) (c : plS × Int32) : Prop := P_LW_launch_NAc_73L c.1 v3 c.2
def K_LW_launch_NAc_73X (v3 : Int32) (c : plS × Int32) : plS := plUp c.1 9 3 (K_LN_joinedFrom_LWu c.1 v3)
def P_LW_launch_NAc_73X (v3 : Int32) (c : plS × Int32) : Prop := P_LN_joinedFrom_LWu c.1 v3
set_option maxRecDepth 20000 in
theorem j_LW_launch_NAc_73X {E : plE} (X : plX E b_LN_launch "ProtectedLine$Line" 5 none 1 23) (a : Nat → Nat) (T : plS) (hQ : plRv E (plwC (plg E) a) T) (v3 : Int32) (c : plS × Int32) (hs : P_LW_launch_NAc_73X v3 c) (hk : T = K_LW_launch_NAc_73X v3 c) : plJ E 5 (plwC (plg E) a c.1) 0 0 [(0, .ref (a 9)), (2, .ref (a 8)), (3, .int v3), (4, .int c.2)] 110 [] := by
  unfold P_LW_launch_NAc_73X at hs
  unfold K_LW_launch_NAc_73X at hk
  refine j_aload_n (pc := 110) X d_LN_launch_110 rfl 0 rfl ?_
  refine j_aload_n (pc := 111) X d_LN_launch_111 rfl 0 rfl ?_
  refine get_LW_underWay (pc := 112) X fl_LN_11 d_LN_launch_112 ?_
  refine j_iload_n (pc := 115) X d_LN_launch_115 rfl 2 rfl ?_
  refine j_callSp (pc := 116) (As := [.ref (a 10), .int v3]) (rest := [.ref (a 9)]) X (c_LN_joinedFrom_LWu (plg E) a c.1 v3 hs) ml_LN_38 ⟨Nat.le_of_ble_eq_true rfl, Nat.le_of_ble_eq_true rfl⟩ rfl rfl (Nat.le_of_ble_eq_true rfl) d_LN_launch_116 ?_
  refine put_LW_joinedSent (pc := 119) X fl_LN_32 d_LN_launch_119 ?_
  exact j_retv (pc := 122) X hQ d_LN_launch_122 hk
def K_LW_launch_NAc_55 (st : plS) (v1 : Int32) (v3 : Int32) : plS := K_LW_launch_NAc_73X v3 (lpR (F_LW_launch_NAc_73 v3) 64 (plUp st 10 (plIx (v3 + 3)) (v1 ^^^ (plROW (plIx 1))), 4))
def P_LW_launch_NAc_55 (st : plS) (v1 : Int32) (v3 : Int32) : Prop := (vp_in (v3 + 3) 96 ∧ (lpP (G_LW_launch_NAc_73 v3) (F_LW_launch_NAc_73 v3) 64 (plUp st 10 (plIx (v3 + 3)) (v1 ^^^ (plROW (plIx 1))), 4) ∧ P_LW_launch_NAc_73X v3 (lpR (F_LW_launch_NAc_73 v3) 64 (plUp st 10 (plIx (v3 + 3)) (v1 ^^^ (plROW (plIx 1))), 4))))
set_option maxRecDepth 20000 in
theorem j_LW_launch_NAc_55 {E : plE} (X : plX E b_LN_launch "ProtectedLine$Line" 5 none 1 23) (a : Nat → Nat) (T : plS) (hQ : plRv E (plwC (plg E) a) T) (st : plS) (v1 : Int32) (v3 : Int32) (hs : P_LW_launch_NAc_55 st v1 v3) (hk : T = K_LW_launch_NAc_55 st v1 v3) : plJ E 5 (plwC (plg E) a st) 0 0 [(0, .ref (a 9)), (1, .int v1), (2, .ref (a 8)), (3, .int v3)] 55 [] := by
  unfold P_LW_launch_NAc_55 at hs
  unfold K_LW_launch_NAc_55 at hk
  refine j_aload_n (pc := 55) X d_LN_launch_55 rfl 0 rfl ?_
  refine get_LW_underWay (pc := 56) X fl_LN_11 d_LN_launch_56 ?_
  refine j_iload_n (pc := 59) X d_LN_launch_59 rfl 3 rfl ?_
  refine j_iconst (pc := 60) X d_LN_launch_60 ic_3 ?_
  refine j_iadd (pc := 61) X d_LN_launch_61 ?_
  refine j_iload_n (pc := 62) X d_LN_launch_62 rfl 1 rfl ?_
  refine j_getROW (pc := 63) X fl_LN_35 d_LN_launch_63 ?_
  refine j_iconst (pc := 66) X d_LN_launch_66 ic_1 ?_
  refine j_aldROW (pc := 67) X vi_1_10 d_LN_launch_67 ?_
  refine j_ixor (pc := 68) X d_LN_launch_68 ?_
  refine ast_LWu (pc := 69) X hs.1 d_LN_launch_69 ?_
  have hs := hs.2
  refine j_iconst (pc := 70) X d_LN_launch_70 ic_4 ?_
  refine j_istore (pc := 71) X d_LN_launch_71 (lv' := [(4, .int 4), (0, .ref (a 9)), (1, .int v1), (2, .ref (a 8)), (3, .int v3)]) (Nat.le_of_ble_eq_true rfl) rfl ?_
  refine j_sub [1, 3, 4, 0] (lv' := [(0, .ref (a 9)), (2, .ref (a 8)), (3, .int v3), (4, .int 4)]) rfl ?_
  exact lpJ (G_LW_launch_NAc_73 v3) (F_LW_launch_NAc_73 v3) (fun c => plJ E 5 (plwC (plg E) a c.1) 0 0 [(0, .ref (a 9)), (2, .ref (a 8)), (3, .int v3), (4, .int c.2)] 73 []) (fun c => plJ E 5 (plwC (plg E) a c.1) 0 0 [(0, .ref (a 9)), (2, .ref (a 8)), (3, .int v3), (4, .int c.2)] 110 []) (fun c hp h1 h2 => j_LW_launch_NAc_73L X a (F_LW_launch_NAc_73 v3 c) v3 (fun c0 c1 => h1 (c0, c1)) (fun c0 c1 => h2 (c0, c1)) c.1 c.2 hp rfl) 64 (plUp st 10 (plIx (v3 + 3)) (v1 ^^^ (plROW (plIx 1))), 4) hs.1 (j_LW_launch_NAc_73X X a T hQ v3 (lpR (F_LW_launch_NAc_73 v3) 64 (plUp st 10 (plIx (v3 + 3)) (v1 ^^^ (plROW (plIx 1))), 4)) hs.2 hk)
def K_LW_launch_NAc_37 (st : plS) (v1 : Int32) (v3 : Int32) : plS := K_LW_launch_NAc_55 (plUp st 10 (plIx (v3 + 2)) ((st 9 3) ^^^ (plROW (plIx 0)))) v1 v3
def P_LW_launch_NAc_37 (st : plS) (v1 : Int32) (v3 : Int32) : Prop := (vp_in (v3 + 2) 96 ∧ P_LW_launch_NAc_55 (plUp st 10 (plIx (v3 + 2)) ((st 9 3) ^^^ (plROW (plIx 0)))) v1 v3)
set_option maxRecDepth 20000 in
theorem j_LW_launch_NAc_37 {E : plE} (X : plX E b_LN_launch "ProtectedLine$Line" 5 none 1 23) (a : Nat → Nat) (T : plS) (hQ : plRv E (plwC (plg E) a) T) (st : plS) (v1 : Int32) (v3 : Int32) (hs : P_LW_launch_NAc_37 st v1 v3) (hk : T = K_LW_launch_NAc_37 st v1 v3) : plJ E 5 (plwC (plg E) a st) 0 0 [(0, .ref (a 9)), (1, .int v1), (2, .ref (a 8)), (3, .int v3)] 37 [] := by
  unfold P_LW_launch_NAc_37 at hs
  unfold K_LW_launch_NAc_37 at hk
  refine j_aload_n (pc := 37) X d_LN_launch_37 rfl 0 rfl ?_
  refine get_LW_underWay (pc := 38) X fl_LN_11 d_LN_launch_38 ?_
  refine j_iload_n (pc := 41) X d_LN_launch_41 rfl 3 rfl ?_
  refine j_iconst (pc := 42) X d_LN_launch_42 ic_2 ?_
  refine j_iadd (pc := 43) X d_LN_launch_43 ?_
  refine j_aload_n (pc := 44) X d_LN_launch_44 rfl 0 rfl ?_
  refine get_LW_joinedSent (pc := 45) X fl_LN_32 d_LN_launch_45 ?_
  refine j_getROW (pc := 48) X fl_LN_35 d_LN_launch_48 ?_
  refine j_iconst (pc := 51) X d_LN_launch_51 ic_0 ?_
  refine j_aldROW (pc := 52) X vi_0_10 d_LN_launch_52 ?_
  refine j_ixor (pc := 53) X d_LN_launch_53 ?_
  refine ast_LWu (pc := 54) X hs.1 d_LN_launch_54 ?_
  have hs := hs.2
  exact j_LW_launch_NAc_55 X a T hQ (plUp st 10 (plIx (v3 + 2)) ((st 9 3) ^^^ (plROW (plIx 0)))) v1 v3 hs hk
def K_LW_launch_NAc_27 (st : plS) (v1 : Int32) (v3 : Int32) : plS := K_LW_launch_NAc_37 (plUp st 10 (plIx (v3 + 1)) 40) v1 v3
def P_LW_launch_NAc_27 (st : plS) (v1 : Int32) (v3 : Int32) : Prop := (vp_in (v3 + 1) 96 ∧ P_LW_launch_NAc_37 (plUp st 10 (plIx (v3 + 1)) 40) v1 v3)
set_option maxRecDepth 20000 in
theorem j_LW_launch_NAc_27 {E : plE} (X : plX E b_LN_launch "ProtectedLine$Line" 5 none 1 23) (a : Nat → Nat) (T : plS) (hQ : plRv E (plwC (plg E) a) T) (st : plS) (v1 : Int32) (v3 : Int32) (hs : P_LW_launch_NAc_27 st v1 v3) (hk : T = K_LW_launch_NAc_27 st v1 v3) : plJ E 5 (plwC (plg E) a st) 0 0 [(0, .ref (a 9)), (1, .int v1), (2, .ref (a 8)), (3, .int v3)] 27 [] := by
  unfold P_LW_launch_NAc_27 at hs
  unfold K_LW_launch_NAc_27 at hk
  refine j_aload_n (pc := 27) X d_LN_launch_27 rfl 0 rfl ?_
  refine get_LW_underWay (pc := 28) X fl_LN_11 d_LN_launch_28 ?_
  refine j_iload_n (pc := 31) X d_LN_launch_31 rfl 3 rfl ?_
  refine j_iconst (pc := 32) X d_LN_launch_32 ic_1 ?_
  refine j_iadd (pc := 33) X d_LN_launch_33 ?_
  refine j_bipush (pc := 34) X d_LN_launch_34 bp_40 ?_
  refine ast_LWu (pc := 36) X hs.1 d_LN_launch_36 ?_
  have hs := hs.2
  exact j_LW_launch_NAc_37 X a T hQ (plUp st 10 (plIx (v3 + 1)) 40) v1 v3 hs hk
def K_LW_launch_NAc_18 (st : plS) (v1 : Int32) (v3 : Int32) : plS := K_LW_launch_NAc_27 (plUp st 10 (plIx v3) 246) v1 v3
def P_LW_launch_NAc_18 (st : plS) (v1 : Int32) (v3 : Int32) : Prop := (vp_in v3 96 ∧ P_LW_launch_NAc_27 (plUp st 10 (plIx v3) 246) v1 v3)
set_option maxRecDepth 20000 in
theorem j_LW_launch_NAc_18 {E : plE} (X : plX E b_LN_launch "ProtectedLine$Line" 5 none 1 23) (a : Nat → Nat) (T : plS) (hQ : plRv E (plwC (plg E) a) T) (st : plS) (v1 : Int32) (v3 : Int32) (hs : P_LW_launch_NAc_18 st v1 v3) (hk : T = K_LW_launch_NAc_18 st v1 v3) : plJ E 5 (plwC (plg E) a st) 0 0 [(0, .ref (a 9)), (1, .int v1), (2, .ref (a 8)), (3, .int v3)] 18 [] := by
  unfold P_LW_launch_NAc_18 at hs
  unfold K_LW_launch_NAc_18 at hk
  refine j_aload_n (pc := 18) X d_LN_launch_18 rfl 0 rfl ?_
  refine get_LW_underWay (pc := 19) X fl_LN_11 d_LN_launch_19 ?_
  refine j_iload_n (pc := 22) X d_LN_launch_22 rfl 3 rfl ?_
  refine j_sipush (pc := 23) X d_LN_launch_23 sp_246 ?_
  refine ast_LWu (pc := 26) X hs.1 d_LN_launch_26 ?_
  have hs := hs.2
  exact j_LW_launch_NAc_27 X a T hQ (plUp st 10 (plIx v3) 246) v1 v3 hs hk
def K_LW_launch_NAc (st : plS) (v1 : Int32) : plS := K_LW_launch_NAc_18 (plUp st 9 2 ((st 9 2) + 1)) v1 (K_LN_slotOf (st 9 2))
def P_LW_launch_NAc (st : plS) (v1 : Int32) : Prop := P_LW_launch_NAc_18 (plUp st 9 2 ((st 9 2) + 1)) v1 (K_LN_slotOf (st 9 2))
set_option maxRecDepth 20000 in
theorem j_LW_launch_NAc {E : plE} (X : plX E b_LN_launch "ProtectedLine$Line" 5 none 1 23) (a : Nat → Nat) (T : plS) (hQ : plRv E (plwC (plg E) a) T) (st : plS) (v1 : Int32) (hs : P_LW_launch_NAc st v1) (hk : T = K_LW_launch_NAc st v1) : plJ E 5 (plwC (plg E) a st) 0 0 [(0, .ref (a 9)), (1, .int v1), (2, .ref (a 8))] 0 [] := by
  unfold P_LW_launch_NAc at hs
  unfold K_LW_launch_NAc at hk
  refine j_aload_n (pc := 0) X d_LN_launch_0 rfl 0 rfl ?_
  refine get_LW_launched (pc := 1) X fl_LN_25 d_LN_launch_1 ?_
  refine j_callSp (pc := 4) (As := [.int (st 9 2)]) (rest := []) X (c_LN_slotOf (plg E) a st (st 9 2)) ml_LN_28 ⟨Nat.le_of_ble_eq_true rfl, Nat.le_of_ble_eq_true rfl⟩ rfl rfl (Nat.le_of_ble_eq_true rfl) d_LN_launch_4 ?_
  refine j_istore_n (pc := 7) X d_LN_launch_7 rfl (lv' := [(3, .int (K_LN_slotOf (st 9 2))), (0, .ref (a 9)), (1, .int v1), (2, .ref (a 8))]) (Nat.le_of_ble_eq_true rfl) rfl ?_
  refine j_aload_n (pc := 8) X d_LN_launch_8 rfl 1 rfl ?_
  refine j_dup (pc := 9) X d_LN_launch_9 rfl ?_
  refine get_LW_launched (pc := 10) X fl_LN_25 d_LN_launch_10 ?_
  refine j_iconst (pc := 13) X d_LN_launch_13 ic_1 ?_
  refine j_iadd (pc := 14) X d_LN_launch_14 ?_
  refine put_LW_launched (pc := 15) X fl_LN_25 d_LN_launch_15 ?_
  refine j_sub [1, 2, 3, 0] (lv' := [(0, .ref (a 9)), (1, .int v1), (2, .ref (a 8)), (3, .int (K_LN_slotOf (st 9 2)))]) rfl ?_
  exact j_LW_launch_NAc_18 X a T hQ (plUp st 9 2 ((st 9 2) + 1)) v1 (K_LN_slotOf (st 9 2)) hs hk
set_option maxRecDepth 20000 in
theorem c_LW_launch_NAc (g : plG) (a : Nat → Nat) (st : plS) (v1 : Int32) (hs : P_LW_launch_NAc st v1) : plMv g y_LN_launch b_LN_launch 5 none 1 23 [.ref (a 9), .int v1, .ref (a 8)] (plwC g a) st (K_LW_launch_NAc st v1) := by
  refine plMv.of (own := "ProtectedLine$Line") (lv := [(0, .ref (a 9)), (1, .int v1), (2, .ref (a 8))]) rfl rfl (Nat.le_of_ble_eq_true rfl) rfl (fun E hE X hQ => ?_)
  subst hE
  exact j_LW_launch_NAc X a _ hQ st v1 hs rfl
def K_LN_joinedFrom_LPu_4L (st : plS) (v1 : Int32) (v2 : Int32) (v3 : Int32) : Bool × (Int32 × Int32) := (if 12 ≤ v3 then (false, (v2, v3)) else (true, (v2 ^^^ (st 14 (plIx (v1 + v3))), v3 + 1)))
def P_LN_joinedFrom_LPu_4L (st : plS) (v1 : Int32) (v2 : Int32) (v3 : Int32) : Prop := (¬ 12 ≤ v3 → vp_in (v1 + v3) 96)
set_option maxRecDepth 20000 in
theorem j_LN_joinedFrom_LPu_4L {E : plE} (X : plX E b_LN_joinedFrom "ProtectedLine$Line" 4 (some .int) 0 0) (a : Nat → Nat) (T : Bool × (Int32 × Int32)) (st : plS) (v1 : Int32) (hb : ∀ (c0 : Int32) (c1 : Int32), T = (true, (c0, c1)) → plJ E 4 (plwC (plg E) a st) 0 0 [(0, .ref (a 14)), (1, .int v1), (2, .int c0), (3, .int c1)] 4 []) (hx : ∀ (c0 : Int32) (c1 : Int32), T = (false, (c0, c1)) → plJ E 4 (plwC (plg E) a st) 0 0 [(0, .ref (a 14)), (1, .int v1), (2, .int c0), (3, .int c1)] 24 []) (v2 : Int32) (v3 : Int32) (hs : P_LN_joinedFrom_LPu_4L st v1 v2 v3) (hk : T = K_LN_joinedFrom_LPu_4L st v1 v2 v3) : plJ E 4 (plwC (plg E) a st) 0 0 [(0, .ref (a 14)), (1, .int v1), (2, .int v2), (3, .int v3)] 4 [] := by
  unfold P_LN_joinedFrom_LPu_4L at hs
  unfold K_LN_joinedFrom_LPu_4L at hk
  refine j_iload_n (pc := 4) X d_LN_joinedFrom_4 rfl 3 rfl ?_
  refine j_bipush (pc := 5) X d_LN_joinedFrom_5 bp_12 ?_
  refine j_icmp_ge (pc := 7) (tgt := 24) X d_LN_joinedFrom_7 rfl (fun hc => ?_) (fun hc => ?_)
  · have hk := hk.trans (if_pos hc)
    exact hx v2 v3 hk
  · have hk := hk.trans (if_neg hc)
    have hs := hs hc
    refine j_iload_n (pc := 10) X d_LN_joinedFrom_10 rfl 2 rfl ?_
    refine j_aload_n (pc := 11) X d_LN_joinedFrom_11 rfl 0 rfl ?_
    refine j_iload_n (pc := 12) X d_LN_joinedFrom_12 rfl 1 rfl ?_
    refine j_iload_n (pc := 13) X d_LN_joinedFrom_13 rfl 3 rfl ?_
    refine j_iadd (pc := 14) X d_LN_joinedFrom_14 ?_
    refine ald_LPu (pc := 15) X hs d_LN_joinedFrom_15 ?_
    refine j_ixor (pc := 16) X d_LN_joinedFrom_16 ?_
    refine j_istore_n (pc := 17) X d_LN_joinedFrom_17 rfl (lv' := [(2, .int (v2 ^^^ (st 14 (plIx (v1 + v3))))), (0, .ref (a 14)), (1, .int v1), (3, .int v3)]) (Nat.le_of_ble_eq_true rfl) rfl ?_
    refine j_iinc (pc := 18) X d_LN_joinedFrom_18 3 rfl ic_1 (lv' := [(3, .int (v3 + 1)), (2, .int (v2 ^^^ (st 14 (plIx (v1 + v3))))), (0, .ref (a 14)), (1, .int v1)]) (Nat.le_of_ble_eq_true rfl) rfl ?_
    refine j_goto (pc := 21) (tgt := 4) X d_LN_joinedFrom_21 rfl ?_
    refine j_sub [2, 3, 1, 0] (lv' := [(0, .ref (a 14)), (1, .int v1), (2, .int (v2 ^^^ (st 14 (plIx (v1 + v3))))), (3, .int (v3 + 1))]) rfl ?_
    exact hb (v2 ^^^ (st 14 (plIx (v1 + v3)))) (v3 + 1) hk
def F_LN_joinedFrom_LPu_4 (st : plS) (v1 : Int32) (c : Int32 × Int32) : Bool × (Int32 × Int32) := K_LN_joinedFrom_LPu_4L st v1 c.1 c.2
def G_LN_joinedFrom_LPu_4 (st : plS) (v1 : Int32) (c : Int32 × Int32) : Prop := P_LN_joinedFrom_LPu_4L st v1 c.1 c.2
def K_LN_joinedFrom_LPu_4X (st : plS) (v1 : Int32) (c : Int32 × Int32) : Int32 := c.1
set_option maxRecDepth 20000 in
theorem j_LN_joinedFrom_LPu_4X {E : plE} (X : plX E b_LN_joinedFrom "ProtectedLine$Line" 4 (some .int) 0 0) (a : Nat → Nat) (T : Int32) (st : plS) (hQ : plRp E (plwC (plg E) a) st T) (v1 : Int32) (c : Int32 × Int32) (hk : T = K_LN_joinedFrom_LPu_4X st v1 c) : plJ E 4 (plwC (plg E) a st) 0 0 [(0, .ref (a 14)), (1, .int v1), (2, .int c.1), (3, .int c.2)] 24 [] := by
  unfold K_LN_joinedFrom_LPu_4X at hk
  refine j_iload_n (pc := 24) X d_LN_joinedFrom_24 rfl 2 rfl ?_
  exact j_retip (pc := 25) X hQ d_LN_joinedFrom_25 hk
def K_LN_joinedFrom_LPu (st : plS) (v1 : Int32) : Int32 := K_LN_joinedFrom_LPu_4X st v1 (lpR (F_LN_joinedFrom_LPu_4 st v1) 64 (0, 0))
def P_LN_joinedFrom_LPu (st : plS) (v1 : Int32) : Prop := lpP (G_LN_joinedFrom_LPu_4 st v1) (F_LN_joinedFrom_LPu_4 st v1) 64 (0, 0)
set_option maxRecDepth 20000 in
theorem j_LN_joinedFrom_LPu {E : plE} (X : plX E b_LN_joinedFrom "ProtectedLine$Line" 4 (some .int) 0 0) (a : Nat → Nat) (T : Int32) (st : plS) (hQ : plRp E (plwC (plg E) a) st T) (v1 : Int32) (hs : P_LN_joinedFrom_LPu st v1) (hk : T = K_LN_joinedFrom_LPu st v1) : plJ E 4 (plwC (plg E) a st) 0 0 [(0, .ref (a 14)), (1, .int v1)] 0 [] := by
  unfold P_LN_joinedFrom_LPu at hs
  unfold K_LN_joinedFrom_LPu at hk
  refine j_iconst (pc := 0) X d_LN_joinedFrom_0 ic_0 ?_
  refine j_istore_n (pc := 1) X d_LN_joinedFrom_1 rfl (lv' := [(2, .int 0), (0, .ref (a 14)), (1, .int v1)]) (Nat.le_of_ble_eq_true rfl) rfl ?_
  refine j_iconst (pc := 2) X d_LN_joinedFrom_2 ic_0 ?_
  refine j_istore_n (pc := 3) X d_LN_joinedFrom_3 rfl (lv' := [(3, .int 0), (2, .int 0), (0, .ref (a 14)), (1, .int v1)]) (Nat.le_of_ble_eq_true rfl) rfl ?_
  refine j_sub [2, 3, 1, 0] (lv' := [(0, .ref (a 14)), (1, .int v1), (2, .int 0), (3, .int 0)]) rfl ?_
  exact lpJ (G_LN_joinedFrom_LPu_4 st v1) (F_LN_joinedFrom_LPu_4 st v1) (fun c => plJ E 4 (plwC (plg E) a st) 0 0 [(0, .ref (a 14)), (1, .int v1), (2, .int c.1), (3, .int c.2)] 4 []) (fun c => plJ E 4 (plwC (plg E) a st) 0 0 [(0, .ref (a 14)), (1, .int v1), (2, .int c.1), (3, .int c.2)] 24 []) (fun c hp h1 h2 => j_LN_joinedFrom_LPu_4L X a (F_LN_joinedFrom_LPu_4 st v1 c) st v1 (fun c0 c1 => h1 (c0, c1)) (fun c0 c1 => h2 (c0, c1)) c.1 c.2 hp rfl) 64 (0, 0) hs (j_LN_joinedFrom_LPu_4X X a T st hQ v1 (lpR (F_LN_joinedFrom_LPu_4 st v1) 64 (0, 0)) hk)
set_option maxRecDepth 20000 in
theorem c_LN_joinedFrom_LPu (g : plG) (a : Nat → Nat) (st : plS) (v1 : Int32) (hs : P_LN_joinedFrom_LPu st v1) : plMp g y_LN_joinedFrom b_LN_joinedFrom 4 (some .int) 0 0 [.ref (a 14), .int v1] (plwC g a) st (K_LN_joinedFrom_LPu st v1) := by
  refine plMp.of (own := "ProtectedLine$Line") (lv := [(0, .ref (a 14)), (1, .int v1)]) rfl rfl (Nat.le_of_ble_eq_true rfl) rfl (fun E hE X hQ => ?_)
  subst hE
  exact j_LN_joinedFrom_LPu X a _ st hQ v1 hs rfl
def K_LP_launch_EMPTY_73L (st : plS) (v3 : Int32) (v4 : Int32) : Bool × (plS × Int32) := (if 12 ≤ v4 then (false, (st, v4)) else (true, (plUp st 14 (plIx (v3 + v4)) ((plEMPTY (plIx (v4 - 4))) ^^^ (plROW (plIx (v4 - 2)))), v4 + 1)))
def P_LP_launch_EMPTY_73L (st : plS) (v3 : Int32) (v4 : Int32) : Prop := (¬ 12 ≤ v4 → (vp_in (v4 - 4) 8 ∧ (vp_in (v4 - 2) 10 ∧ vp_in (v3 + v4) 96)))
set_option maxRecDepth 20000 in
theorem j_LP_launch_EMPTY_73L {E : plE} (X : plX E b_LN_launch "ProtectedLine$Line" 5 none 1 23) (a : Nat → Nat) (T : Bool × (plS × Int32)) (v3 : Int32) (hb : ∀ (c0 : plS) (c1 : Int32), T = (true, (c0, c1)) → plJ E 5 (plwC (plg E) a c0) 0 0 [(0, .ref (a 13)), (2, .ref (plaEMPTY (plg E))), (3, .int v3), (4, .int c1)] 73 []) (hx : ∀ (c0 : plS) (c1 : Int32), T = (false, (c0, c1)) → plJ E 5 (plwC (plg E) a c0) 0 0 [(0, .ref (a 13)), (2, .ref (plaEMPTY (plg E))), (3, .int v3), (4, .int c1)] 110 []) (st : plS) (v4 : Int32) (hs : P_LP_launch_EMPTY_73L st v3 v4) (hk : T = K_LP_launch_EMPTY_73L st v3 v4) : plJ E 5 (plwC (plg E) a st) 0 0 [(0, .ref (a 13)), (2, .ref (plaEMPTY (plg E))), (3, .int v3), (4, .int v4)] 73 [] := by
  unfold P_LP_launch_EMPTY_73L at hs
  unfold K_LP_launch_EMPTY_73L at hk
  refine j_iload (pc := 73) X d_LN_launch_73 3 rfl ?_
  refine j_bipush (pc := 75) X d_LN_launch_75 bp_12 ?_
  refine j_icmp_ge (pc := 77) (tgt := 110) X d_LN_launch_77 rfl (fun hc => ?_) (fun hc => ?_)
  · have hk := hk.trans (if_pos hc)
    exact hx st v4 hk
  · have hk := hk.trans (if_neg hc)
    have hs := hs hc
    refine j_aload_n (pc := 80) X d_LN_launch_80 rfl 0 rfl ?_
    refine get_LP_underWay (pc := 81) X fl_LN_11 d_LN_launch_81 ?_
    refine j_iload_n (pc := 84) X d_LN_launch_84 rfl 2 rfl ?_
    refine j_iload (pc := 85) X d_LN_launch_85 3 rfl ?_
    refine j_iadd (pc := 87) X d_LN_launch_87 ?_
    refine j_aload_n (pc := 88) X d_LN_launch_88 rfl 1 rfl ?_
    refine j_iload (pc := 89) X d_LN_launch_89 3 rfl ?_
    refine j_iconst (pc := 91) X d_LN_launch_91 ic_4 ?_
    refine j_isub (pc := 92) X d_LN_launch_92 ?_
    refine j_aldEMPTY (pc := 93) X hs.1 d_LN_launch_93 ?_
    have hs := hs.2
    refine j_getROW (pc := 94) X fl_LN_35 d_LN_launch_94 ?_
    refine j_iload (pc := 97) X d_LN_launch_97 3 rfl ?_
    refine j_iconst (pc := 99) X d_LN_launch_99 ic_2 ?_
    refine j_isub (pc := 100) X d_LN_launch_100 ?_
    refine j_aldROW (pc := 101) X hs.1 d_LN_launch_101 ?_
    have hs := hs.2
    refine j_ixor (pc := 102) X d_LN_launch_102 ?_
    refine ast_LPu (pc := 103) X hs d_LN_launch_103 ?_
    refine j_iinc (pc := 104) X d_LN_launch_104 3 rfl ic_1 (lv' := [(4, .int (v4 + 1)), (0, .ref (a 13)), (2, .ref (plaEMPTY (plg E))), (3, .int v3)]) (Nat.le_of_ble_eq_true rfl) rfl ?_
    refine j_goto (pc := 107) (tgt := 73) X d_LN_launch_107 rfl ?_
    refine j_sub [1, 2, 3, 0] (lv' := [(0, .ref (a 13)), (2, .ref (plaEMPTY (plg E))), (3, .int v3), (4, .int (v4 + 1))]) rfl ?_
    exact hb (plUp st 14 (plIx (v3 + v4)) ((plEMPTY (plIx (v4 - 4))) ^^^ (plROW (plIx (v4 - 2))))) (v4 + 1) hk
def F_LP_launch_EMPTY_73 (v3 : Int32) (c : plS × Int32) : Bool × (plS × Int32) := K_LP_launch_EMPTY_73L c.1 v3 c.2
def G_LP_launch_EMPTY_73 (v3 : Int32) (c : plS × Int32) : Prop := P_LP_launch_EMPTY_73L c.1 v3 c.2
def K_LP_launch_EMPTY_73X (v3 : Int32) (c : plS × Int32) : plS := plUp c.1 13 3 (K_LN_joinedFrom_LPu c.1 v3)
def P_LP_launch_EMPTY_73X (v3 : Int32) (c : plS × Int32) : Prop := P_LN_joinedFrom_LPu c.1 v3
set_option maxRecDepth 20000 in
theorem j_LP_launch_EMPTY_73X {E : plE} (X : plX E b_LN_launch "ProtectedLine$Line" 5 none 1 23) (a : Nat → Nat) (T : plS) (hQ : plRv E (plwC (plg E) a) T) (v3 : Int32) (c : plS × Int32) (hs : P_LP_launch_EMPTY_73X v3 c) (hk : T = K_LP_launch_EMPTY_73X v3 c) : plJ E 5 (plwC (plg E) a c.1) 0 0 [(0, .ref (a 13)), (2, .ref (plaEMPTY (plg E))), (3, .int v3), (4, .int c.2)] 110 [] := by
  unfold P_LP_launch_EMPTY_73X at hs
  unfold K_LP_launch_EMPTY_73X at hk
  refine j_aload_n (pc := 110) X d_LN_launch_110 rfl 0 rfl ?_
  refine j_aload_n (pc := 111) X d_LN_launch_111 rfl 0 rfl ?_
  refine get_LP_underWay (pc := 112) X fl_LN_11 d_LN_launch_112 ?_
  refine j_iload_n (pc := 115) X d_LN_launch_115 rfl 2 rfl ?_
  refine j_callSp (pc := 116) (As := [.ref (a 14), .int v3]) (rest := [.ref (a 13)]) X (c_LN_joinedFrom_LPu (plg E) a c.1 v3 hs) ml_LN_38 ⟨Nat.le_of_ble_eq_true rfl, Nat.le_of_ble_eq_true rfl⟩ rfl rfl (Nat.le_of_ble_eq_true rfl) d_LN_launch_116 ?_
  refine put_LP_joinedSent (pc := 119) X fl_LN_32 d_LN_launch_119 ?_
  exact j_retv (pc := 122) X hQ d_LN_launch_122 hk
def K_LP_launch_EMPTY_55 (st : plS) (v1 : Int32) (v3 : Int32) : plS := K_LP_launch_EMPTY_73X v3 (lpR (F_LP_launch_EMPTY_73 v3) 64 (plUp st 14 (plIx (v3 + 3)) (v1 ^^^ (plROW (plIx 1))), 4))
def P_LP_launch_EMPTY_55 (st : plS) (v1 : Int32) (v3 : Int32) : Prop := (vp_in (v3 + 3) 96 ∧ (lpP (G_LP_launch_EMPTY_73 v3) (F_LP_launch_EMPTY_73 v3) 64 (plUp st 14 (plIx (v3 + 3)) (v1 ^^^ (plROW (plIx 1))), 4) ∧ P_LP_launch_EMPTY_73X v3 (lpR (F_LP_launch_EMPTY_73 v3) 64 (plUp st 14 (plIx (v3 + 3)) (v1 ^^^ (plROW (plIx 1))), 4))))
set_option maxRecDepth 20000 in
theorem j_LP_launch_EMPTY_55 {E : plE} (X : plX E b_LN_launch "ProtectedLine$Line" 5 none 1 23) (a : Nat → Nat) (T : plS) (hQ : plRv E (plwC (plg E) a) T) (st : plS) (v1 : Int32) (v3 : Int32) (hs : P_LP_launch_EMPTY_55 st v1 v3) (hk : T = K_LP_launch_EMPTY_55 st v1 v3) : plJ E 5 (plwC (plg E) a st) 0 0 [(0, .ref (a 13)), (1, .int v1), (2, .ref (plaEMPTY (plg E))), (3, .int v3)] 55 [] := by
  unfold P_LP_launch_EMPTY_55 at hs
  unfold K_LP_launch_EMPTY_55 at hk
  refine j_aload_n (pc := 55) X d_LN_launch_55 rfl 0 rfl ?_
  refine get_LP_underWay (pc := 56) X fl_LN_11 d_LN_launch_56 ?_
  refine j_iload_n (pc := 59) X d_LN_launch_59 rfl 3 rfl ?_
  refine j_iconst (pc := 60) X d_LN_launch_60 ic_3 ?_
  refine j_iadd (pc := 61) X d_LN_launch_61 ?_
  refine j_iload_n (pc := 62) X d_LN_launch_62 rfl 1 rfl ?_
  refine j_getROW (pc := 63) X fl_LN_35 d_LN_launch_63 ?_
  refine j_iconst (pc := 66) X d_LN_launch_66 ic_1 ?_
  refine j_aldROW (pc := 67) X vi_1_10 d_LN_launch_67 ?_
  refine j_ixor (pc := 68) X d_LN_launch_68 ?_
  refine ast_LPu (pc := 69) X hs.1 d_LN_launch_69 ?_
  have hs := hs.2
  refine j_iconst (pc := 70) X d_LN_launch_70 ic_4 ?_
  refine j_istore (pc := 71) X d_LN_launch_71 (lv' := [(4, .int 4), (0, .ref (a 13)), (1, .int v1), (2, .ref (plaEMPTY (plg E))), (3, .int v3)]) (Nat.le_of_ble_eq_true rfl) rfl ?_
  refine j_sub [1, 3, 4, 0] (lv' := [(0, .ref (a 13)), (2, .ref (plaEMPTY (plg E))), (3, .int v3), (4, .int 4)]) rfl ?_
  exact lpJ (G_LP_launch_EMPTY_73 v3) (F_LP_launch_EMPTY_73 v3) (fun c => plJ E 5 (plwC (plg E) a c.1) 0 0 [(0, .ref (a 13)), (2, .ref (plaEMPTY (plg E))), (3, .int v3), (4, .int c.2)] 73 []) (fun c => plJ E 5 (plwC (plg E) a c.1) 0 0 [(0, .ref (a 13)), (2, .ref (plaEMPTY (plg E))), (3, .int v3), (4, .int c.2)] 110 []) (fun c hp h1 h2 => j_LP_launch_EMPTY_73L X a (F_LP_launch_EMPTY_73 v3 c) v3 (fun c0 c1 => h1 (c0, c1)) (fun c0 c1 => h2 (c0, c1)) c.1 c.2 hp rfl) 64 (plUp st 14 (plIx (v3 + 3)) (v1 ^^^ (plROW (plIx 1))), 4) hs.1 (j_LP_launch_EMPTY_73X X a T hQ v3 (lpR (F_LP_launch_EMPTY_73 v3) 64 (plUp st 14 (plIx (v3 + 3)) (v1 ^^^ (plROW (plIx 1))), 4)) hs.2 hk)
def K_LP_launch_EMPTY_37 (st : plS) (v1 : Int32) (v3 : Int32) : plS := K_LP_launch_EMPTY_55 (plUp st 14 (plIx (v3 + 2)) ((st 13 3) ^^^ (plROW (plIx 0)))) v1 v3
def P_LP_launch_EMPTY_37 (st : plS) (v1 : Int32) (v3 : Int32) : Prop := (vp_in (v3 + 2) 96 ∧ P_LP_launch_EMPTY_55 (plUp st 14 (plIx (v3 + 2)) ((st 13 3) ^^^ (plROW (plIx 0)))) v1 v3)
set_option maxRecDepth 20000 in
theorem j_LP_launch_EMPTY_37 {E : plE} (X : plX E b_LN_launch "ProtectedLine$Line" 5 none 1 23) (a : Nat → Nat) (T : plS) (hQ : plRv E (plwC (plg E) a) T) (st : plS) (v1 : Int32) (v3 : Int32) (hs : P_LP_launch_EMPTY_37 st v1 v3) (hk : T = K_LP_launch_EMPTY_37 st v1 v3) : plJ E 5 (plwC (plg E) a st) 0 0 [(0, .ref (a 13)), (1, .int v1), (2, .ref (plaEMPTY (plg E))), (3, .int v3)] 37 [] := by
  unfold P_LP_launch_EMPTY_37 at hs
  unfold K_LP_launch_EMPTY_37 at hk
  refine j_aload_n (pc := 37) X d_LN_launch_37 rfl 0 rfl ?_
  refine get_LP_underWay (pc := 38) X fl_LN_11 d_LN_launch_38 ?_
  refine j_iload_n (pc := 41) X d_LN_launch_41 rfl 3 rfl ?_
  refine j_iconst (pc := 42) X d_LN_launch_42 ic_2 ?_
  refine j_iadd (pc := 43) X d_LN_launch_43 ?_
  refine j_aload_n (pc := 44) X d_LN_launch_44 rfl 0 rfl ?_
  refine get_LP_joinedSent (pc := 45) X fl_LN_32 d_LN_launch_45 ?_
  refine j_getROW (pc := 48) X fl_LN_35 d_LN_launch_48 ?_
  refine j_iconst (pc := 51) X d_LN_launch_51 ic_0 ?_
  refine j_aldROW (pc := 52) X vi_0_10 d_LN_launch_52 ?_
  refine j_ixor (pc := 53) X d_LN_launch_53 ?_
  refine ast_LPu (pc := 54) X hs.1 d_LN_launch_54 ?_
  have hs := hs.2
  exact j_LP_launch_EMPTY_55 X a T hQ (plUp st 14 (plIx (v3 + 2)) ((st 13 3) ^^^ (plROW (plIx 0)))) v1 v3 hs hk
def K_LP_launch_EMPTY_27 (st : plS) (v1 : Int32) (v3 : Int32) : plS := K_LP_launch_EMPTY_37 (plUp st 14 (plIx (v3 + 1)) 40) v1 v3
def P_LP_launch_EMPTY_27 (st : plS) (v1 : Int32) (v3 : Int32) : Prop := (vp_in (v3 + 1) 96 ∧ P_LP_launch_EMPTY_37 (plUp st 14 (plIx (v3 + 1)) 40) v1 v3)
set_option maxRecDepth 20000 in
theorem j_LP_launch_EMPTY_27 {E : plE} (X : plX E b_LN_launch "ProtectedLine$Line" 5 none 1 23) (a : Nat → Nat) (T : plS) (hQ : plRv E (plwC (plg E) a) T) (st : plS) (v1 : Int32) (v3 : Int32) (hs : P_LP_launch_EMPTY_27 st v1 v3) (hk : T = K_LP_launch_EMPTY_27 st v1 v3) : plJ E 5 (plwC (plg E) a st) 0 0 [(0, .ref (a 13)), (1, .int v1), (2, .ref (plaEMPTY (plg E))), (3, .int v3)] 27 [] := by
  unfold P_LP_launch_EMPTY_27 at hs
  unfold K_LP_launch_EMPTY_27 at hk
  refine j_aload_n (pc := 27) X d_LN_launch_27 rfl 0 rfl ?_
  refine get_LP_underWay (pc := 28) X fl_LN_11 d_LN_launch_28 ?_
  refine j_iload_n (pc := 31) X d_LN_launch_31 rfl 3 rfl ?_
  refine j_iconst (pc := 32) X d_LN_launch_32 ic_1 ?_
  refine j_iadd (pc := 33) X d_LN_launch_33 ?_
  refine j_bipush (pc := 34) X d_LN_launch_34 bp_40 ?_
  refine ast_LPu (pc := 36) X hs.1 d_LN_launch_36 ?_
  have hs := hs.2
  exact j_LP_launch_EMPTY_37 X a T hQ (plUp st 14 (plIx (v3 + 1)) 40) v1 v3 hs hk
def K_LP_launch_EMPTY_18 (st : plS) (v1 : Int32) (v3 : Int32) : plS := K_LP_launch_EMPTY_27 (plUp st 14 (plIx v3) 246) v1 v3
def P_LP_launch_EMPTY_18 (st : plS) (v1 : Int32) (v3 : Int32) : Prop := (vp_in v3 96 ∧ P_LP_launch_EMPTY_27 (plUp st 14 (plIx v3) 246) v1 v3)
set_option maxRecDepth 20000 in
theorem j_LP_launch_EMPTY_18 {E : plE} (X : plX E b_LN_launch "ProtectedLine$Line" 5 none 1 23) (a : Nat → Nat) (T : plS) (hQ : plRv E (plwC (plg E) a) T) (st : plS) (v1 : Int32) (v3 : Int32) (hs : P_LP_launch_EMPTY_18 st v1 v3) (hk : T = K_LP_launch_EMPTY_18 st v1 v3) : plJ E 5 (plwC (plg E) a st) 0 0 [(0, .ref (a 13)), (1, .int v1), (2, .ref (plaEMPTY (plg E))), (3, .int v3)] 18 [] := by
  unfold P_LP_launch_EMPTY_18 at hs
  unfold K_LP_launch_EMPTY_18 at hk
  refine j_aload_n (pc := 18) X d_LN_launch_18 rfl 0 rfl ?_
  refine get_LP_underWay (pc := 19) X fl_LN_11 d_LN_launch_19 ?_
  refine j_iload_n (pc := 22) X d_LN_launch_22 rfl 3 rfl ?_
  refine j_sipush (pc := 23) X d_LN_launch_23 sp_246 ?_
  refine ast_LPu (pc := 26) X hs.1 d_LN_launch_26 ?_
  have hs := hs.2
  exact j_LP_launch_EMPTY_27 X a T hQ (plUp st 14 (plIx v3) 246) v1 v3 hs hk
def K_LP_launch_EMPTY (st : plS) (v1 : Int32) : plS := K_LP_launch_EMPTY_18 (plUp st 13 2 ((st 13 2) + 1)) v1 (K_LN_slotOf (st 13 2))
def P_LP_launch_EMPTY (st : plS) (v1 : Int32) : Prop := P_LP_launch_EMPTY_18 (plUp st 13 2 ((st 13 2) + 1)) v1 (K_LN_slotOf (st 13 2))
set_option maxRecDepth 20000 in
theorem j_LP_launch_EMPTY {E : plE} (X : plX E b_LN_launch "ProtectedLine$Line" 5 none 1 23) (a : Nat → Nat) (T : plS) (hQ : plRv E (plwC (plg E) a) T) (st : plS) (v1 : Int32) (hs : P_LP_launch_EMPTY st v1) (hk : T = K_LP_launch_EMPTY st v1) : plJ E 5 (plwC (plg E) a st) 0 0 [(0, .ref (a 13)), (1, .int v1), (2, .ref (plaEMPTY (plg E)))] 0 [] := by
  unfold P_LP_launch_EMPTY at hs
  unfold K_LP_launch_EMPTY at hk
  refine j_aload_n (pc := 0) X d_LN_launch_0 rfl 0 rfl ?_
  refine get_LP_launched (pc := 1) X fl_LN_25 d_LN_launch_1 ?_
  refine j_callSp (pc := 4) (As := [.int (st 13 2)]) (rest := []) X (c_LN_slotOf (plg E) a st (st 13 2)) ml_LN_28 ⟨Nat.le_of_ble_eq_true rfl, Nat.le_of_ble_eq_true rfl⟩ rfl rfl (Nat.le_of_ble_eq_true rfl) d_LN_launch_4 ?_
  refine j_istore_n (pc := 7) X d_LN_launch_7 rfl (lv' := [(3, .int (K_LN_slotOf (st 13 2))), (0, .ref (a 13)), (1, .int v1), (2, .ref (plaEMPTY (plg E)))]) (Nat.le_of_ble_eq_true rfl) rfl ?_
  refine j_aload_n (pc := 8) X d_LN_launch_8 rfl 1 rfl ?_
  refine j_dup (pc := 9) X d_LN_launch_9 rfl ?_
  refine get_LP_launched (pc := 10) X fl_LN_25 d_LN_launch_10 ?_
  refine j_iconst (pc := 13) X d_LN_launch_13 ic_1 ?_
  refine j_iadd (pc := 14) X d_LN_launch_14 ?_
  refine put_LP_launched (pc := 15) X fl_LN_25 d_LN_launch_15 ?_
  refine j_sub [1, 2, 3, 0] (lv' := [(0, .ref (a 13)), (1, .int v1), (2, .ref (plaEMPTY (plg E))), (3, .int (K_LN_slotOf (st 13 2)))]) rfl ?_
  exact j_LP_launch_EMPTY_18 X a T hQ (plUp st 13 2 ((st 13 2) + 1)) v1 (K_LN_slotOf (st 13 2)) hs hk
set_option maxRecDepth 20000 in
theorem c_LP_launch_EMPTY (g : plG) (a : Nat → Nat) (st : plS) (v1 : Int32) (hs : P_LP_launch_EMPTY st v1) : plMv g y_LN_launch b_LN_launch 5 none 1 23 [.ref (a 13), .int v1, .ref (plaEMPTY g)] (plwC g a) st (K_LP_launch_EMPTY st v1) := by
  refine plMv.of (own := "ProtectedLine$Line") (lv := [(0, .ref (a 13)), (1, .int v1), (2, .ref (plaEMPTY g))]) rfl rfl (Nat.le_of_ble_eq_true rfl) rfl (fun E hE X hQ => ?_)
  subst hE
  exact j_LP_launch_EMPTY X a _ hQ st v1 hs rfl
