theorem d_PR_take_0 : decode b_PR_take 0 = .ok (.aload_n 0, 1) := by decide +kernel
theorem d_PR_take_1 : decode b_PR_take 1 = .ok (.iconst 0, 1) := by decide +kernel
theorem d_PR_take_2 : decode b_PR_take 2 = .ok (.putfield 19, 3) := by decide +kernel
theorem d_PR_take_5 : decode b_PR_take 5 = .ok (.aload_n 0, 1) := by decide +kernel
theorem d_PR_take_6 : decode b_PR_take 6 = .ok (.aload_n 1, 1) := by decide +kernel
theorem d_PR_take_7 : decode b_PR_take 7 = .ok (.iconst 4, 1) := by decide +kernel
theorem d_PR_take_8 : decode b_PR_take 8 = .ok (.invokevirtual 31, 3) := by decide +kernel
theorem d_PR_take_11 : decode b_PR_take 11 = .ok (.invokevirtual 37, 3) := by decide +kernel
theorem d_PR_take_14 : decode b_PR_take 14 = .ok (.istore_n 2, 1) := by decide +kernel
theorem d_PR_take_15 : decode b_PR_take 15 = .ok (.aload_n 0, 1) := by decide +kernel
theorem d_PR_take_16 : decode b_PR_take 16 = .ok (.getfield 11, 3) := by decide +kernel
theorem d_PR_take_19 : decode b_PR_take 19 = .ok (.iconst (-1), 1) := by decide +kernel
theorem d_PR_take_20 : decode b_PR_take 20 = .ok (.if_icmp .ne (8), 3) := by decide +kernel
theorem d_PR_take_23 : decode b_PR_take 23 = .ok (.aload_n 0, 1) := by decide +kernel
theorem d_PR_take_24 : decode b_PR_take 24 = .ok (.invokevirtual 28, 3) := by decide +kernel
theorem d_PR_take_27 : decode b_PR_take 27 = .ok (.return_, 1) := by decide +kernel
theorem d_PR_take_28 : decode b_PR_take 28 = .ok (.bipush (6), 2) := by decide +kernel
theorem d_PR_take_30 : decode b_PR_take 30 = .ok (.iload_n 2, 1) := by decide +kernel
theorem d_PR_take_31 : decode b_PR_take 31 = .ok (.iadd, 1) := by decide +kernel
theorem d_PR_take_32 : decode b_PR_take 32 = .ok (.istore_n 3, 1) := by decide +kernel
theorem d_PR_take_33 : decode b_PR_take 33 = .ok (.iload_n 3, 1) := by decide +kernel
theorem d_PR_take_34 : decode b_PR_take 34 = .ok (.istore 4, 2) := by decide +kernel
theorem d_PR_take_36 : decode b_PR_take 36 = .ok (.iload 4, 2) := by decide +kernel
theorem d_PR_take_38 : decode b_PR_take 38 = .ok (.bipush (12), 2) := by decide +kernel
theorem d_PR_take_40 : decode b_PR_take 40 = .ok (.if_icmp .ge (81), 3) := by decide +kernel
theorem d_PR_take_43 : decode b_PR_take 43 = .ok (.aload_n 1, 1) := by decide +kernel
theorem d_PR_take_44 : decode b_PR_take 44 = .ok (.iload 4, 2) := by decide +kernel
theorem d_PR_take_46 : decode b_PR_take 46 = .ok (.invokevirtual 31, 3) := by decide +kernel
theorem d_PR_take_49 : decode b_PR_take 49 = .ok (.istore 5, 2) := by decide +kernel
theorem d_PR_take_51 : decode b_PR_take 51 = .ok (.iload 4, 2) := by decide +kernel
theorem d_PR_take_53 : decode b_PR_take 53 = .ok (.iload_n 3, 1) := by decide +kernel
theorem d_PR_take_54 : decode b_PR_take 54 = .ok (.isub, 1) := by decide +kernel
theorem d_PR_take_55 : decode b_PR_take 55 = .ok (.bipush (6), 2) := by decide +kernel
theorem d_PR_take_57 : decode b_PR_take 57 = .ok (.irem, 1) := by decide +kernel
theorem d_PR_take_58 : decode b_PR_take 58 = .ok (.aload_n 0, 1) := by decide +kernel
theorem d_PR_take_59 : decode b_PR_take 59 = .ok (.getfield 11, 3) := by decide +kernel
theorem d_PR_take_62 : decode b_PR_take 62 = .ok (.if_icmp .ne (12), 3) := by decide +kernel
theorem d_PR_take_65 : decode b_PR_take 65 = .ok (.aload_n 0, 1) := by decide +kernel
theorem d_PR_take_66 : decode b_PR_take 66 = .ok (.iload 5, 2) := by decide +kernel
theorem d_PR_take_68 : decode b_PR_take 68 = .ok (.invokevirtual 40, 3) := by decide +kernel
theorem d_PR_take_71 : decode b_PR_take 71 = .ok (.goto (44), 3) := by decide +kernel
theorem d_PR_take_74 : decode b_PR_take 74 = .ok (.aload_n 0, 1) := by decide +kernel
theorem d_PR_take_75 : decode b_PR_take 75 = .ok (.dup, 1) := by decide +kernel
theorem d_PR_take_76 : decode b_PR_take 76 = .ok (.getfield 44, 3) := by decide +kernel
theorem d_PR_take_79 : decode b_PR_take 79 = .ok (.iload 5, 2) := by decide +kernel
theorem d_PR_take_81 : decode b_PR_take 81 = .ok (.ixor, 1) := by decide +kernel
theorem d_PR_take_82 : decode b_PR_take 82 = .ok (.putfield 44, 3) := by decide +kernel
theorem d_PR_take_85 : decode b_PR_take 85 = .ok (.aload_n 0, 1) := by decide +kernel
theorem d_PR_take_86 : decode b_PR_take 86 = .ok (.aload_n 0, 1) := by decide +kernel
theorem d_PR_take_87 : decode b_PR_take 87 = .ok (.getfield 47, 3) := by decide +kernel
theorem d_PR_take_90 : decode b_PR_take 90 = .ok (.ifCond .ne (7), 3) := by decide +kernel
theorem d_PR_take_93 : decode b_PR_take 93 = .ok (.iconst 0, 1) := by decide +kernel
theorem d_PR_take_94 : decode b_PR_take 94 = .ok (.goto (9), 3) := by decide +kernel
theorem d_PR_take_97 : decode b_PR_take 97 = .ok (.aload_n 0, 1) := by decide +kernel
theorem d_PR_take_98 : decode b_PR_take 98 = .ok (.getfield 47, 3) := by decide +kernel
theorem d_PR_take_101 : decode b_PR_take 101 = .ok (.iconst 1, 1) := by decide +kernel
theorem d_PR_take_102 : decode b_PR_take 102 = .ok (.iadd, 1) := by decide +kernel
theorem d_PR_take_103 : decode b_PR_take 103 = .ok (.putfield 47, 3) := by decide +kernel
theorem d_PR_take_106 : decode b_PR_take 106 = .ok (.aload_n 0, 1) := by decide +kernel
theorem d_PR_take_107 : decode b_PR_take 107 = .ok (.getfield 15, 3) := by decide +kernel
theorem d_PR_take_110 : decode b_PR_take 110 = .ok (.iload 5, 2) := by decide +kernel
theorem d_PR_take_112 : decode b_PR_take 112 = .ok (.invokevirtual 50, 3) := by decide +kernel
theorem d_PR_take_115 : decode b_PR_take 115 = .ok (.iinc 4 (1), 3) := by decide +kernel
theorem d_PR_take_118 : decode b_PR_take 118 = .ok (.goto (-82), 3) := by decide +kernel
theorem d_PR_take_121 : decode b_PR_take 121 = .ok (.aload_n 0, 1) := by decide +kernel
theorem d_PR_take_122 : decode b_PR_take 122 = .ok (.aload_n 0, 1) := by decide +kernel
theorem d_PR_take_123 : decode b_PR_take 123 = .ok (.getfield 11, 3) := by decide +kernel
theorem d_PR_take_126 : decode b_PR_take 126 = .ok (.iload_n 2, 1) := by decide +kernel
theorem d_PR_take_127 : decode b_PR_take 127 = .ok (.iadd, 1) := by decide +kernel
theorem d_PR_take_128 : decode b_PR_take 128 = .ok (.bipush (6), 2) := by decide +kernel
theorem d_PR_take_130 : decode b_PR_take 130 = .ok (.iadd, 1) := by decide +kernel
theorem d_PR_take_131 : decode b_PR_take 131 = .ok (.bipush (6), 2) := by decide +kernel
theorem d_PR_take_133 : decode b_PR_take 133 = .ok (.irem, 1) := by decide +kernel
theorem d_PR_take_134 : decode b_PR_take 134 = .ok (.putfield 11, 3) := by decide +kernel
theorem d_PR_take_137 : decode b_PR_take 137 = .ok (.return_, 1) := by decide +kernel
def K_PR_take_LW_36L115 (st : plS) (v2 : Int32) (v3 : Int32) (v4 : Int32) : Bool × (plS × Int32) := (true, (st, v4 + 1))
set_option maxRecDepth 20000 in
theorem j_PR_take_LW_36L115 {E : plE} (X : plX E b_PR_take "ProtectedLine$PointerReader" 6 none 5 128) (a : Nat → Nat) (T : Bool × (plS × Int32)) (v2 : Int32) (v3 : Int32) (hb : ∀ (c0 : plS) (c1 : Int32), T = (true, (c0, c1)) → plJ E 6 (plwC (plg E) a c0) 0 0 [(0, .ref (a 25)), (1, .ref (a 9)), (2, .int v2), (3, .int v3), (4, .int c1)] 36 []) (hx : ∀ (c0 : plS) (c1 : Int32), T = (false, (c0, c1)) → plJ E 6 (plwC (plg E) a c0) 0 0 [(0, .ref (a 25)), (1, .ref (a 9)), (2, .int v2), (3, .int v3), (4, .int c1)] 121 []) (st : plS) (v4 : Int32) (hk : T = K_PR_take_LW_36L115 st v2 v3 v4) : plJ E 6 (plwC (plg E) a st) 0 0 [(0, .ref (a 25)), (1, .ref (a 9)), (2, .int v2), (3, .int v3), (4, .int v4)] 115 [] := by
  unfold K_PR_take_LW_36L115 at hk
  refine j_iinc (pc := 115) X d_PR_take_115 4 rfl ic_1 (lv' := [(4, .int (v4 + 1)), (0, .ref (a 25)), (1, .ref (a 9)), (2, .int v2), (3, .int v3)]) (Nat.le_of_ble_eq_true rfl) rfl ?_
  refine j_goto (pc := 118) (tgt := 36) X d_PR_take_118 rfl ?_
  refine j_sub [1, 2, 3, 4, 0] (lv' := [(0, .ref (a 25)), (1, .ref (a 9)), (2, .int v2), (3, .int v3), (4, .int (v4 + 1))]) rfl ?_
  exact hb st (v4 + 1) hk
def K_PR_take_LW_36L106 (st : plS) (v2 : Int32) (v3 : Int32) (v4 : Int32) (v5 : Int32) : Bool × (plS × Int32) := K_PR_take_LW_36L115 (K_SR_give st v5) v2 v3 v4
def P_PR_take_LW_36L106 (st : plS) (v2 : Int32) (v3 : Int32) (v4 : Int32) (v5 : Int32) : Prop := P_SR_give st v5
set_option maxRecDepth 20000 in
theorem j_PR_take_LW_36L106 {E : plE} (X : plX E b_PR_take "ProtectedLine$PointerReader" 6 none 5 128) (a : Nat → Nat) (T : Bool × (plS × Int32)) (v2 : Int32) (v3 : Int32) (hb : ∀ (c0 : plS) (c1 : Int32), T = (true, (c0, c1)) → plJ E 6 (plwC (plg E) a c0) 0 0 [(0, .ref (a 25)), (1, .ref (a 9)), (2, .int v2), (3, .int v3), (4, .int c1)] 36 []) (hx : ∀ (c0 : plS) (c1 : Int32), T = (false, (c0, c1)) → plJ E 6 (plwC (plg E) a c0) 0 0 [(0, .ref (a 25)), (1, .ref (a 9)), (2, .int v2), (3, .int v3), (4, .int c1)] 121 []) (st : plS) (v4 : Int32) (v5 : Int32) (hs : P_PR_take_LW_36L106 st v2 v3 v4 v5) (hk : T = K_PR_take_LW_36L106 st v2 v3 v4 v5) : plJ E 6 (plwC (plg E) a st) 0 0 [(0, .ref (a 25)), (1, .ref (a 9)), (2, .int v2), (3, .int v3), (4, .int v4), (5, .int v5)] 106 [] := by
  unfold P_PR_take_LW_36L106 at hs
  unfold K_PR_take_LW_36L106 at hk
  refine j_aload_n (pc := 106) X d_PR_take_106 rfl 0 rfl ?_
  refine get_PR_stream (pc := 107) X fl_PR_15 d_PR_take_107 ?_
  refine j_iload (pc := 110) X d_PR_take_110 5 rfl ?_
  refine j_callVv (pc := 112) (As := [.int v5]) (rest := []) X (c_SR_give (plg E) a st v5 hs) ml_PR_50 21 rfl rfl ⟨Nat.le_of_ble_eq_true rfl, Nat.le_of_ble_eq_true rfl⟩ rfl rfl (Nat.le_of_ble_eq_true rfl) d_PR_take_112 ?_
  refine j_sub [0, 1, 2, 3, 4] (lv' := [(0, .ref (a 25)), (1, .ref (a 9)), (2, .int v2), (3, .int v3), (4, .int v4)]) rfl ?_
  exact j_PR_take_LW_36L115 X a T v2 v3 hb hx (K_SR_give st v5) v4 hk
def K_PR_take_LW_36L103 (st : plS) (v2 : Int32) (v3 : Int32) (v4 : Int32) (v5 : Int32) (k0 : Int32) : Bool × (plS × Int32) := K_PR_take_LW_36L106 (plUp st 25 6 k0) v2 v3 v4 v5
def P_PR_take_LW_36L103 (st : plS) (v2 : Int32) (v3 : Int32) (v4 : Int32) (v5 : Int32) (k0 : Int32) : Prop := P_PR_take_LW_36L106 (plUp st 25 6 k0) v2 v3 v4 v5
set_option maxRecDepth 20000 in
theorem j_PR_take_LW_36L103 {E : plE} (X : plX E b_PR_take "ProtectedLine$PointerReader" 6 none 5 128) (a : Nat → Nat) (T : Bool × (plS × Int32)) (v2 : Int32) (v3 : Int32) (hb : ∀ (c0 : plS) (c1 : Int32), T = (true, (c0, c1)) → plJ E 6 (plwC (plg E) a c0) 0 0 [(0, .ref (a 25)), (1, .ref (a 9)), (2, .int v2), (3, .int v3), (4, .int c1)] 36 []) (hx : ∀ (c0 : plS) (c1 : Int32), T = (false, (c0, c1)) → plJ E 6 (plwC (plg E) a c0) 0 0 [(0, .ref (a 25)), (1, .ref (a 9)), (2, .int v2), (3, .int v3), (4, .int c1)] 121 []) (st : plS) (v4 : Int32) (v5 : Int32) (k0 : Int32) (hs : P_PR_take_LW_36L103 st v2 v3 v4 v5 k0) (hk : T = K_PR_take_LW_36L103 st v2 v3 v4 v5 k0) : plJ E 6 (plwC (plg E) a st) 0 0 [(0, .ref (a 25)), (1, .ref (a 9)), (2, .int v2), (3, .int v3), (4, .int v4), (5, .int v5)] 103 [.int k0, .ref (a 25)] := by
  unfold P_PR_take_LW_36L103 at hs
  unfold K_PR_take_LW_36L103 at hk
  refine put_PR_sinceFirst (pc := 103) X fl_PR_47 d_PR_take_103 ?_
  exact j_PR_take_LW_36L106 X a T v2 v3 hb hx (plUp st 25 6 k0) v4 v5 hs hk
def K_PR_take_LW_36L85 (st : plS) (v2 : Int32) (v3 : Int32) (v4 : Int32) (v5 : Int32) : Bool × (plS × Int32) := (if (st 25 6) = 0 then K_PR_take_LW_36L103 st v2 v3 v4 v5 0 else K_PR_take_LW_36L103 st v2 v3 v4 v5 ((st 25 6) + 1))
def P_PR_take_LW_36L85 (st : plS) (v2 : Int32) (v3 : Int32) (v4 : Int32) (v5 : Int32) : Prop := (((st 25 6) = 0 → P_PR_take_LW_36L103 st v2 v3 v4 v5 0) ∧ (¬ (st 25 6) = 0 → P_PR_take_LW_36L103 st v2 v3 v4 v5 ((st 25 6) + 1)))
set_option maxRecDepth 20000 in
theorem j_PR_take_LW_36L85 {E : plE} (X : plX E b_PR_take "ProtectedLine$PointerReader" 6 none 5 128) (a : Nat → Nat) (T : Bool × (plS × Int32)) (v2 : Int32) (v3 : Int32) (hb : ∀ (c0 : plS) (c1 : Int32), T = (true, (c0, c1)) → plJ E 6 (plwC (plg E) a c0) 0 0 [(0, .ref (a 25)), (1, .ref (a 9)), (2, .int v2), (3, .int v3), (4, .int c1)] 36 []) (hx : ∀ (c0 : plS) (c1 : Int32), T = (false, (c0, c1)) → plJ E 6 (plwC (plg E) a c0) 0 0 [(0, .ref (a 25)), (1, .ref (a 9)), (2, .int v2), (3, .int v3), (4, .int c1)] 121 []) (st : plS) (v4 : Int32) (v5 : Int32) (hs : P_PR_take_LW_36L85 st v2 v3 v4 v5) (hk : T = K_PR_take_LW_36L85 st v2 v3 v4 v5) : plJ E 6 (plwC (plg E) a st) 0 0 [(0, .ref (a 25)), (1, .ref (a 9)), (2, .int v2), (3, .int v3), (4, .int v4), (5, .int v5)] 85 [] := by
  unfold P_PR_take_LW_36L85 at hs
  unfold K_PR_take_LW_36L85 at hk
  refine j_aload_n (pc := 85) X d_PR_take_85 rfl 0 rfl ?_
  refine j_aload_n (pc := 86) X d_PR_take_86 rfl 0 rfl ?_
  refine get_PR_sinceFirst (pc := 87) X fl_PR_47 d_PR_take_87 ?_
  refine j_if_ne (pc := 90) (tgt := 97) X d_PR_take_90 rfl (fun hc => ?_) (fun hc => ?_)
  · have hk := hk.trans (if_neg hc)
    have hs := hs.2 hc
    refine j_aload_n (pc := 97) X d_PR_take_97 rfl 0 rfl ?_
    refine get_PR_sinceFirst (pc := 98) X fl_PR_47 d_PR_take_98 ?_
    refine j_iconst (pc := 101) X d_PR_take_101 ic_1 ?_
    refine j_iadd (pc := 102) X d_PR_take_102 ?_
    exact j_PR_take_LW_36L103 X a T v2 v3 hb hx st v4 v5 ((st 25 6) + 1) hs hk
  · have hk := hk.trans (if_pos hc)
    have hs := hs.1 hc
    refine j_iconst (pc := 93) X d_PR_take_93 ic_0 ?_
    refine j_goto (pc := 94) (tgt := 103) X d_PR_take_94 rfl ?_
    exact j_PR_take_LW_36L103 X a T v2 v3 hb hx st v4 v5 0 hs hk
def K_PR_take_LW_36L (st : plS) (v2 : Int32) (v3 : Int32) (v4 : Int32) : Bool × (plS × Int32) := (if 12 ≤ v4 then (false, (st, v4)) else (if ((v4 - v3) - (v4 - v3) / 6 * 6) = (st 25 1) then K_PR_take_LW_36L115 (K_PR_beginContainer st (K_LW_plainAt st v4)) v2 v3 v4 else K_PR_take_LW_36L85 (plUp st 25 7 ((st 25 7) ^^^ (K_LW_plainAt st v4))) v2 v3 v4 (K_LW_plainAt st v4)))
def P_PR_take_LW_36L (st : plS) (v2 : Int32) (v3 : Int32) (v4 : Int32) : Prop := (¬ 12 ≤ v4 → (P_LW_plainAt st v4 ∧ (¬ ((v4 - v3) - (v4 - v3) / 6 * 6) = (st 25 1) → P_PR_take_LW_36L85 (plUp st 25 7 ((st 25 7) ^^^ (K_LW_plainAt st v4))) v2 v3 v4 (K_LW_plainAt st v4))))
set_option maxRecDepth 20000 in
theorem j_PR_take_LW_36L {E : plE} (X : plX E b_PR_take "ProtectedLine$PointerReader" 6 none 5 128) (a : Nat → Nat) (T : Bool × (plS × Int32)) (v2 : Int32) (v3 : Int32) (hb : ∀ (c0 : plS) (c1 : Int32), T = (true, (c0, c1)) → plJ E 6 (plwC (plg E) a c0) 0 0 [(0, .ref (a 25)), (1, .ref (a 9)), (2, .int v2), (3, .int v3), (4, .int c1)] 36 []) (hx : ∀ (c0 : plS) (c1 : Int32), T = (false, (c0, c1)) → plJ E 6 (plwC (plg E) a c0) 0 0 [(0, .ref (a 25)), (1, .ref (a 9)), (2, .int v2), (3, .int v3), (4, .int c1)] 121 []) (st : plS) (v4 : Int32) (hs : P_PR_take_LW_36L st v2 v3 v4) (hk : T = K_PR_take_LW_36L st v2 v3 v4) : plJ E 6 (plwC (plg E) a st) 0 0 [(0, .ref (a 25)), (1, .ref (a 9)), (2, .int v2), (3, .int v3), (4, .int v4)] 36 [] := by
  unfold P_PR_take_LW_36L at hs
  unfold K_PR_take_LW_36L at hk
  refine j_iload (pc := 36) X d_PR_take_36 4 rfl ?_
  refine j_bipush (pc := 38) X d_PR_take_38 bp_12 ?_
  refine j_icmp_ge (pc := 40) (tgt := 121) X d_PR_take_40 rfl (fun hc => ?_) (fun hc => ?_)
  · have hk := hk.trans (if_pos hc)
    exact hx st v4 hk
  · have hk := hk.trans (if_neg hc)
    have hs := hs hc
    refine j_aload_n (pc := 43) X d_PR_take_43 rfl 1 rfl ?_
    refine j_iload (pc := 44) X d_PR_take_44 4 rfl ?_
    refine j_callVp (pc := 46) (As := [.int v4]) (rest := []) X (c_LW_plainAt (plg E) a st v4 hs.1) ml_PR_31 9 rfl rfl ⟨Nat.le_of_ble_eq_true rfl, Nat.le_of_ble_eq_true rfl⟩ rfl rfl (Nat.le_of_ble_eq_true rfl) d_PR_take_46 ?_
    have hs := hs.2
    refine j_istore (pc := 49) X d_PR_take_49 (lv' := [(5, .int (K_LW_plainAt st v4)), (0, .ref (a 25)), (1, .ref (a 9)), (2, .int v2), (3, .int v3), (4, .int v4)]) (Nat.le_of_ble_eq_true rfl) rfl ?_
    refine j_iload (pc := 51) X d_PR_take_51 5 rfl ?_
    refine j_iload_n (pc := 53) X d_PR_take_53 rfl 4 rfl ?_
    refine j_isub (pc := 54) X d_PR_take_54 ?_
    refine j_bipush (pc := 55) X d_PR_take_55 bp_6 ?_
    refine j_irem (pc := 57) X d_PR_take_57 nz_6 ?_
    refine j_aload_n (pc := 58) X d_PR_take_58 rfl 1 rfl ?_
    refine get_PR_v (pc := 59) X fl_PR_11 d_PR_take_59 ?_
    refine j_icmp_ne (pc := 62) (tgt := 74) X d_PR_take_62 rfl (fun hc => ?_) (fun hc => ?_)
    · have hk := hk.trans (if_neg hc)
      have hs := hs hc
      refine j_aload_n (pc := 74) X d_PR_take_74 rfl 1 rfl ?_
      refine j_dup (pc := 75) X d_PR_take_75 rfl ?_
      refine get_PR_joined (pc := 76) X fl_PR_44 d_PR_take_76 ?_
      refine j_iload (pc := 79) X d_PR_take_79 0 rfl ?_
      refine j_ixor (pc := 81) X d_PR_take_81 ?_
      refine put_PR_joined (pc := 82) X fl_PR_44 d_PR_take_82 ?_
      refine j_sub [1, 2, 3, 4, 5, 0] (lv' := [(0, .ref (a 25)), (1, .ref (a 9)), (2, .int v2), (3, .int v3), (4, .int v4), (5, .int (K_LW_plainAt st v4))]) rfl ?_
      exact j_PR_take_LW_36L85 X a T v2 v3 hb hx (plUp st 25 7 ((st 25 7) ^^^ (K_LW_plainAt st v4))) v4 (K_LW_plainAt st v4) hs hk
    · have hk := hk.trans (if_pos hc)
      refine j_aload_n (pc := 65) X d_PR_take_65 rfl 1 rfl ?_
      refine j_iload (pc := 66) X d_PR_take_66 0 rfl ?_
      refine j_callVv (pc := 68) (As := [.int (K_LW_plainAt st v4)]) (rest := []) X (c_PR_beginContainer (plg E) a st (K_LW_plainAt st v4)) ml_PR_40 25 rfl rfl ⟨Nat.le_of_ble_eq_true rfl, Nat.le_of_ble_eq_true rfl⟩ rfl rfl (Nat.le_of_ble_eq_true rfl) d_PR_take_68 ?_
      refine j_goto (pc := 71) (tgt := 115) X d_PR_take_71 rfl ?_
      refine j_sub [1, 2, 3, 4, 5] (lv' := [(0, .ref (a 25)), (1, .ref (a 9)), (2, .int v2), (3, .int v3), (4, .int v4)]) rfl ?_
      exact j_PR_take_LW_36L115 X a T v2 v3 hb hx (K_PR_beginContainer st (K_LW_plainAt st v4)) v4 hk
def F_PR_take_LW_36 (v2 : Int32) (v3 : Int32) (c : plS × Int32) : Bool × (plS × Int32) := K_PR_take_LW_36L c.1 v2 v3 c.2
def G_PR_take_LW_36 (v2 : Int32) (v3 : Int32) (c : plS × Int32) : Prop := P_PR_take_LW_36L c.1 v2 v3 c.2
def K_PR_take_LW_36X (v2 : Int32) (v3 : Int32) (c : plS × Int32) : plS := plUp c.1 25 1 ((((c.1 25 1) + v2) + 6) - (((c.1 25 1) + v2) + 6) / 6 * 6)
set_option maxRecDepth 20000 in
theorem j_PR_take_LW_36X {E : plE} (X : plX E b_PR_take "ProtectedLine$PointerReader" 6 none 5 128) (a : Nat → Nat) (T : plS) (hQ : plRv E (plwC (plg E) a) T) (v2 : Int32) (v3 : Int32) (c : plS × Int32) (hk : T = K_PR_take_LW_36X v2 v3 c) : plJ E 6 (plwC (plg E) a c.1) 0 0 [(0, .ref (a 25)), (1, .ref (a 9)), (2, .int v2), (3, .int v3), (4, .int c.2)] 121 [] := by
  unfold K_PR_take_LW_36X at hk
  refine j_aload_n (pc := 121) X d_PR_take_121 rfl 0 rfl ?_
  refine j_aload_n (pc := 122) X d_PR_take_122 rfl 0 rfl ?_
  refine get_PR_v (pc := 123) X fl_PR_11 d_PR_take_123 ?_
  refine j_iload_n (pc := 126) X d_PR_take_126 rfl 2 rfl ?_
  refine j_iadd (pc := 127) X d_PR_take_127 ?_
  refine j_bipush (pc := 128) X d_PR_take_128 bp_6 ?_
  refine j_iadd (pc := 130) X d_PR_take_130 ?_
  refine j_bipush (pc := 131) X d_PR_take_131 bp_6 ?_
  refine j_irem (pc := 133) X d_PR_take_133 nz_6 ?_
  refine put_PR_v (pc := 134) X fl_PR_11 d_PR_take_134 ?_
  exact j_retv (pc := 137) X hQ d_PR_take_137 hk
def K_PR_take_LW_14q  (q : Int32 × plS) : plS := (if (q.2 25 1) = ((-1)) then K_PR_breakOff q.2 else K_PR_take_LW_36X q.1 (6 + q.1) (lpR (F_PR_take_LW_36 q.1 (6 + q.1)) 64 (q.2, 6 + q.1)))
def P_PR_take_LW_14q  (q : Int32 × plS) : Prop := (¬ (q.2 25 1) = ((-1)) → lpP (G_PR_take_LW_36 q.1 (6 + q.1)) (F_PR_take_LW_36 q.1 (6 + q.1)) 64 (q.2, 6 + q.1))
set_option maxRecDepth 20000 in
theorem j_PR_take_LW_14q {E : plE} (X : plX E b_PR_take "ProtectedLine$PointerReader" 6 none 5 128) (a : Nat → Nat) (T : plS) (hQ : plRv E (plwC (plg E) a) T)  (q : Int32 × plS) (hs : P_PR_take_LW_14q  q) (hk : T = K_PR_take_LW_14q  q) : plJ E 6 (plwC (plg E) a q.2) 0 0 [(0, .ref (a 25)), (1, .ref (a 9))] 14 [.int q.1] := by
  unfold P_PR_take_LW_14q at hs
  unfold K_PR_take_LW_14q at hk
  refine j_istore_n (pc := 14) X d_PR_take_14 rfl (lv' := [(2, .int q.1), (0, .ref (a 25)), (1, .ref (a 9))]) (Nat.le_of_ble_eq_true rfl) rfl ?_
  refine j_aload_n (pc := 15) X d_PR_take_15 rfl 1 rfl ?_
  refine get_PR_v (pc := 16) X fl_PR_11 d_PR_take_16 ?_
  refine j_iconst (pc := 19) X d_PR_take_19 ic_m1 ?_
  refine j_icmp_ne (pc := 20) (tgt := 28) X d_PR_take_20 rfl (fun hc => ?_) (fun hc => ?_)
  · have hk := hk.trans (if_neg hc)
    have hs := hs hc
    refine j_bipush (pc := 28) X d_PR_take_28 bp_6 ?_
    refine j_iload_n (pc := 30) X d_PR_take_30 rfl 0 rfl ?_
    refine j_iadd (pc := 31) X d_PR_take_31 ?_
    refine j_istore_n (pc := 32) X d_PR_take_32 rfl (lv' := [(3, .int (6 + q.1)), (2, .int q.1), (0, .ref (a 25)), (1, .ref (a 9))]) (Nat.le_of_ble_eq_true rfl) rfl ?_
    refine j_iload_n (pc := 33) X d_PR_take_33 rfl 0 rfl ?_
    refine j_istore (pc := 34) X d_PR_take_34 (lv' := [(4, .int (6 + q.1)), (3, .int (6 + q.1)), (2, .int q.1), (0, .ref (a 25)), (1, .ref (a 9))]) (Nat.le_of_ble_eq_true rfl) rfl ?_
    refine j_sub [3, 4, 2, 1, 0] (lv' := [(0, .ref (a 25)), (1, .ref (a 9)), (2, .int q.1), (3, .int (6 + q.1)), (4, .int (6 + q.1))]) rfl ?_
    exact lpJ (G_PR_take_LW_36 q.1 (6 + q.1)) (F_PR_take_LW_36 q.1 (6 + q.1)) (fun c => plJ E 6 (plwC (plg E) a c.1) 0 0 [(0, .ref (a 25)), (1, .ref (a 9)), (2, .int q.1), (3, .int (6 + q.1)), (4, .int c.2)] 36 []) (fun c => plJ E 6 (plwC (plg E) a c.1) 0 0 [(0, .ref (a 25)), (1, .ref (a 9)), (2, .int q.1), (3, .int (6 + q.1)), (4, .int c.2)] 121 []) (fun c hp h1 h2 => j_PR_take_LW_36L X a (F_PR_take_LW_36 q.1 (6 + q.1) c) q.1 (6 + q.1) (fun c0 c1 => h1 (c0, c1)) (fun c0 c1 => h2 (c0, c1)) c.1 c.2 hp rfl) 64 (q.2, 6 + q.1) hs (j_PR_take_LW_36X X a T hQ q.1 (6 + q.1) (lpR (F_PR_take_LW_36 q.1 (6 + q.1)) 64 (q.2, 6 + q.1)) hk)
  · have hk := hk.trans (if_pos hc)
    refine j_aload_n (pc := 23) X d_PR_take_23 rfl 1 rfl ?_
    refine j_callVv (pc := 24) (As := []) (rest := []) X (c_PR_breakOff (plg E) a q.2) ml_PR_28 25 rfl rfl ⟨Nat.le_of_ble_eq_true rfl, Nat.le_of_ble_eq_true rfl⟩ rfl rfl (Nat.le_of_ble_eq_true rfl) d_PR_take_24 ?_
    exact j_retv (pc := 27) X hQ d_PR_take_27 hk
def K_PR_take_LW_5 (st : plS) : plS := K_PR_take_LW_14q (K_PR_follow st (K_LW_plainAt st 4))
def P_PR_take_LW_5 (st : plS) : Prop := (P_LW_plainAt st 4 ∧ P_PR_take_LW_14q (K_PR_follow st (K_LW_plainAt st 4)))
set_option maxRecDepth 20000 in
theorem j_PR_take_LW_5 {E : plE} (X : plX E b_PR_take "ProtectedLine$PointerReader" 6 none 5 128) (a : Nat → Nat) (T : plS) (hQ : plRv E (plwC (plg E) a) T) (st : plS)  (hs : P_PR_take_LW_5 st) (hk : T = K_PR_take_LW_5 st) : plJ E 6 (plwC (plg E) a st) 0 0 [(0, .ref (a 25)), (1, .ref (a 9))] 5 [] := by
  unfold P_PR_take_LW_5 at hs
  unfold K_PR_take_LW_5 at hk
  refine j_aload_n (pc := 5) X d_PR_take_5 rfl 0 rfl ?_
  refine j_aload_n (pc := 6) X d_PR_take_6 rfl 1 rfl ?_
  refine j_iconst (pc := 7) X d_PR_take_7 ic_4 ?_
  refine j_callVp (pc := 8) (As := [.int 4]) (rest := [.ref (a 25)]) X (c_LW_plainAt (plg E) a st 4 hs.1) ml_PR_31 9 rfl rfl ⟨Nat.le_of_ble_eq_true rfl, Nat.le_of_ble_eq_true rfl⟩ rfl rfl (Nat.le_of_ble_eq_true rfl) d_PR_take_8 ?_
  have hs := hs.2
  refine j_callVi (pc := 11) (As := [.int (K_LW_plainAt st 4)]) (rest := []) X (c_PR_follow (plg E) a st (K_LW_plainAt st 4)) ml_PR_37 25 rfl rfl ⟨Nat.le_of_ble_eq_true rfl, Nat.le_of_ble_eq_true rfl⟩ rfl rfl (Nat.le_of_ble_eq_true rfl) d_PR_take_11 ?_
  exact j_PR_take_LW_14q X a T hQ (K_PR_follow st (K_LW_plainAt st 4)) hs hk
def K_PR_take_LW (st : plS) : plS := K_PR_take_LW_5 (plUp st 25 2 0)
def P_PR_take_LW (st : plS) : Prop := P_PR_take_LW_5 (plUp st 25 2 0)
set_option maxRecDepth 20000 in
theorem j_PR_take_LW {E : plE} (X : plX E b_PR_take "ProtectedLine$PointerReader" 6 none 5 128) (a : Nat → Nat) (T : plS) (hQ : plRv E (plwC (plg E) a) T) (st : plS)  (hs : P_PR_take_LW st) (hk : T = K_PR_take_LW st) : plJ E 6 (plwC (plg E) a st) 0 0 [(0, .ref (a 25)), (1, .ref (a 9))] 0 [] := by
  unfold P_PR_take_LW at hs
  unfold K_PR_take_LW at hk
  refine j_aload_n (pc := 0) X d_PR_take_0 rfl 0 rfl ?_
  refine j_iconst (pc := 1) X d_PR_take_1 ic_0 ?_
  refine put_PR_gapRow (pc := 2) X fl_PR_19 d_PR_take_2 ?_
  exact j_PR_take_LW_5 X a T hQ (plUp st 25 2 0) hs hk
set_option maxRecDepth 20000 in
theorem c_PR_take_LW (g : plG) (a : Nat → Nat) (st : plS)  (hs : P_PR_take_LW st ) : plMv g y_PR_take b_PR_take 6 none 5 128 [.ref (a 25), .ref (a 9)] (plwC g a) st (K_PR_take_LW st ) := by
  refine plMv.of (own := "ProtectedLine$PointerReader") (lv := [(0, .ref (a 25)), (1, .ref (a 9))]) rfl rfl (Nat.le_of_ble_eq_true rfl) rfl (fun E hE X hQ => ?_)
  subst hE
  exact j_PR_take_LW X a _ hQ st  hs rfl
theorem d_PL_lineAt_0 : decode b_PL_lineAt 0 = .ok (.iload_n 1, 1) := by decide +kernel
theorem d_PL_lineAt_1 : decode b_PL_lineAt 1 = .ok (.ifCond .ne (10), 3) := by decide +kernel
theorem d_PL_lineAt_4 : decode b_PL_lineAt 4 = .ok (.aload_n 0, 1) := by decide +kernel
theorem d_PL_lineAt_5 : decode b_PL_lineAt 5 = .ok (.getfield 39, 3) := by decide +kernel
theorem d_PL_lineAt_8 : decode b_PL_lineAt 8 = .ok (.goto (7), 3) := by decide +kernel
theorem d_PL_lineAt_11 : decode b_PL_lineAt 11 = .ok (.aload_n 0, 1) := by decide +kernel
theorem d_PL_lineAt_12 : decode b_PL_lineAt 12 = .ok (.getfield 43, 3) := by decide +kernel
theorem d_PL_lineAt_15 : decode b_PL_lineAt 15 = .ok (.areturn, 1) := by decide +kernel
def K_PL_lineAt_toLW_15  : Unit := ()
def P_PL_lineAt_toLW_15  : Prop := False
set_option maxRecDepth 20000 in
theorem j_PL_lineAt_toLW_15 {E : plE} (X : plX E b_PL_lineAt "ProtectedLine" 2 (some (.object "ProtectedLine$Line")) 0 0) (a : Nat → Nat) (T : Unit) (st : plS) (hQ : plRr E (plwC (plg E) a) st (a 9))  (hs : P_PL_lineAt_toLW_15 ) (hk : T = K_PL_lineAt_toLW_15 ) : plJ E 2 (plwC (plg E) a st) 0 0 [] 15 [.ref (a 13)] := by
  unfold P_PL_lineAt_toLW_15 at hs
  unfold K_PL_lineAt_toLW_15 at hk
  exact False.elim hs
def K_PL_lineAt_toLW_15b  : Unit := ()
set_option maxRecDepth 20000 in
theorem j_PL_lineAt_toLW_15b {E : plE} (X : plX E b_PL_lineAt "ProtectedLine" 2 (some (.object "ProtectedLine$Line")) 0 0) (a : Nat → Nat) (T : Unit) (st : plS) (hQ : plRr E (plwC (plg E) a) st (a 9))  (hk : T = K_PL_lineAt_toLW_15b ) : plJ E 2 (plwC (plg E) a st) 0 0 [] 15 [.ref (a 9)] := by
  unfold K_PL_lineAt_toLW_15b at hk
  exact j_reta (pc := 15) X hQ d_PL_lineAt_15
def K_PL_lineAt_toLW (v1 : Int32) : Unit := (if v1 = 0 then K_PL_lineAt_toLW_15b else K_PL_lineAt_toLW_15)
def P_PL_lineAt_toLW (v1 : Int32) : Prop := (¬ v1 = 0 → P_PL_lineAt_toLW_15)
set_option maxRecDepth 20000 in
theorem j_PL_lineAt_toLW {E : plE} (X : plX E b_PL_lineAt "ProtectedLine" 2 (some (.object "ProtectedLine$Line")) 0 0) (a : Nat → Nat) (T : Unit) (st : plS) (hQ : plRr E (plwC (plg E) a) st (a 9)) (v1 : Int32) (hs : P_PL_lineAt_toLW v1) (hk : T = K_PL_lineAt_toLW v1) : plJ E 2 (plwC (plg E) a st) 0 0 [(0, .ref (a 0)), (1, .int v1)] 0 [] := by
  unfold P_PL_lineAt_toLW at hs
  unfold K_PL_lineAt_toLW at hk
  refine j_iload_n (pc := 0) X d_PL_lineAt_0 rfl 1 rfl ?_
  refine j_if_ne (pc := 1) (tgt := 11) X d_PL_lineAt_1 rfl (fun hc => ?_) (fun hc => ?_)
  · have hk := hk.trans (if_neg hc)
    have hs := hs hc
    refine j_aload_n (pc := 11) X d_PL_lineAt_11 rfl 0 rfl ?_
    refine get_PL_protection (pc := 12) X fl_PL_43 d_PL_lineAt_12 ?_
    refine j_sub [] (lv' := []) rfl ?_
    exact j_PL_lineAt_toLW_15 X a T st hQ hs hk
  · have hk := hk.trans (if_pos hc)
    refine j_aload_n (pc := 4) X d_PL_lineAt_4 rfl 0 rfl ?_
    refine get_PL_working (pc := 5) X fl_PL_39 d_PL_lineAt_5 ?_
    refine j_goto (pc := 8) (tgt := 15) X d_PL_lineAt_8 rfl ?_
    refine j_sub [] (lv' := []) rfl ?_
    exact j_PL_lineAt_toLW_15b X a T st hQ hk
set_option maxRecDepth 20000 in
theorem c_PL_lineAt_toLW (g : plG) (a : Nat → Nat) (st : plS) (v1 : Int32) (hs : P_PL_lineAt_toLW v1) : plMr g y_PL_lineAt b_PL_lineAt 2 (some (.object "ProtectedLine$Line")) 0 0 [.ref (a 0), .int v1] (plwC g a) st (a 9) := by
  refine plMr.of (own := "ProtectedLine") (lv := [(0, .ref (a 0)), (1, .int v1)]) rfl rfl (Nat.le_of_ble_eq_true rfl) rfl (fun E hE X hQ => ?_)
  subst hE
  exact j_PL_lineAt_toLW X a () st hQ v1 hs rfl
def K_PR_take_LP_36L115 (st : plS) (v2 : Int32) (v3 : Int32) (v4 : Int32) : Bool × (plS × Int32) := (true, (st, v4 + 1))
set_option maxRecDepth 20000 in
theorem j_PR_take_LP_36L115 {E : plE} (X : plX E b_PR_take "ProtectedLine$PointerReader" 6 none 5 128) (a : Nat → Nat) (T : Bool × (plS × Int32)) (v2 : Int32) (v3 : Int32) (hb : ∀ (c0 : plS) (c1 : Int32), T = (true, (c0, c1)) → plJ E 6 (plwC (plg E) a c0) 0 0 [(0, .ref (a 25)), (1, .ref (a 13)), (2, .int v2), (3, .int v3), (4, .int c1)] 36 []) (hx : ∀ (c0 : plS) (c1 : Int32), T = (false, (c0, c1)) → plJ E 6 (plwC (plg E) a c0) 0 0 [(0, .ref (a 25)), (1, .ref (a 13)), (2, .int v2), (3, .int v3), (4, .int c1)] 121 []) (st : plS) (v4 : Int32) (hk : T = K_PR_take_LP_36L115 st v2 v3 v4) : plJ E 6 (plwC (plg E) a st) 0 0 [(0, .ref (a 25)), (1, .ref (a 13)), (2, .int v2), (3, .int v3), (4, .int v4)] 115 [] := by
  unfold K_PR_take_LP_36L115 at hk
  refine j_iinc (pc := 115) X d_PR_take_115 4 rfl ic_1 (lv' := [(4, .int (v4 + 1)), (0, .ref (a 25)), (1, .ref (a 13)), (2, .int v2), (3, .int v3)]) (Nat.le_of_ble_eq_true rfl) rfl ?_
  refine j_goto (pc := 118) (tgt := 36) X d_PR_take_118 rfl ?_
  refine j_sub [1, 2, 3, 4, 0] (lv' := [(0, .ref (a 25)), (1, .ref (a 13)), (2, .int v2), (3, .int v3), (4, .int (v4 + 1))]) rfl ?_
  exact hb st (v4 + 1) hk
def K_PR_take_LP_36L106 (st : plS) (v2 : Int32) (v3 : Int32) (v4 : Int32) (v5 : Int32) : Bool × (plS × Int32) := K_PR_take_LP_36L115 (K_SR_give st v5) v2 v3 v4
def P_PR_take_LP_36L106 (st : plS) (v2 : Int32) (v3 : Int32) (v4 : Int32) (v5 : Int32) : Prop := P_SR_give st v5
set_option maxRecDepth 20000 in
theorem j_PR_take_LP_36L106 {E : plE} (X : plX E b_PR_take "ProtectedLine$PointerReader" 6 none 5 128) (a : Nat → Nat) (T : Bool × (plS × Int32)) (v2 : Int32) (v3 : Int32) (hb : ∀ (c0 : plS) (c1 : Int32), T = (true, (c0, c1)) → plJ E 6 (plwC (plg E) a c0) 0 0 [(0, .ref (a 25)), (1, .ref (a 13)), (2, .int v2), (3, .int v3), (4, .int c1)] 36 []) (hx : ∀ (c0 : plS) (c1 : Int32), T = (false, (c0, c1)) → plJ E 6 (plwC (plg E) a c0) 0 0 [(0, .ref (a 25)), (1, .ref (a 13)), (2, .int v2), (3, .int v3), (4, .int c1)] 121 []) (st : plS) (v4 : Int32) (v5 : Int32) (hs : P_PR_take_LP_36L106 st v2 v3 v4 v5) (hk : T = K_PR_take_LP_36L106 st v2 v3 v4 v5) : plJ E 6 (plwC (plg E) a st) 0 0 [(0, .ref (a 25)), (1, .ref (a 13)), (2, .int v2), (3, .int v3), (4, .int v4), (5, .int v5)] 106 [] := by
  unfold P_PR_take_LP_36L106 at hs
  unfold K_PR_take_LP_36L106 at hk
  refine j_aload_n (pc := 106) X d_PR_take_106 rfl 0 rfl ?_
  refine get_PR_stream (pc := 107) X fl_PR_15 d_PR_take_107 ?_
  refine j_iload (pc := 110) X d_PR_take_110 5 rfl ?_
  refine j_callVv (pc := 112) (As := [.int v5]) (rest := []) X (c_SR_give (plg E) a st v5 hs) ml_PR_50 21 rfl rfl ⟨Nat.le_of_ble_eq_true rfl, Nat.le_of_ble_eq_true rfl⟩ rfl rfl (Nat.le_of_ble_eq_true rfl) d_PR_take_112 ?_
  refine j_sub [0, 1, 2, 3, 4] (lv' := [(0, .ref (a 25)), (1, .ref (a 13)), (2, .int v2), (3, .int v3), (4, .int v4)]) rfl ?_
  exact j_PR_take_LP_36L115 X a T v2 v3 hb hx (K_SR_give st v5) v4 hk
def K_PR_take_LP_36L103 (st : plS) (v2 : Int32) (v3 : Int32) (v4 : Int32) (v5 : Int32) (k0 : Int32) : Bool × (plS × Int32) := K_PR_take_LP_36L106 (plUp st 25 6 k0) v2 v3 v4 v5
def P_PR_take_LP_36L103 (st : plS) (v2 : Int32) (v3 : Int32) (v4 : Int32) (v5 : Int32) (k0 : Int32) : Prop := P_PR_take_LP_36L106 (plUp st 25 6 k0) v2 v3 v4 v5
set_option maxRecDepth 20000 in
theorem j_PR_take_LP_36L103 {E : plE} (X : plX E b_PR_take "ProtectedLine$PointerReader" 6 none 5 128) (a : Nat → Nat) (T : Bool × (plS × Int32)) (v2 : Int32) (v3 : Int32) (hb : ∀ (c0 : plS) (c1 : Int32), T = (true, (c0, c1)) → plJ E 6 (plwC (plg E) a c0) 0 0 [(0, .ref (a 25)), (1, .ref (a 13)), (2, .int v2), (3, .int v3), (4, .int c1)] 36 []) (hx : ∀ (c0 : plS) (c1 : Int32), T = (false, (c0, c1)) → plJ E 6 (plwC (plg E) a c0) 0 0 [(0, .ref (a 25)), (1, .ref (a 13)), (2, .int v2), (3, .int v3), (4, .int c1)] 121 []) (st : plS) (v4 : Int32) (v5 : Int32) (k0 : Int32) (hs : P_PR_take_LP_36L103 st v2 v3 v4 v5 k0) (hk : T = K_PR_take_LP_36L103 st v2 v3 v4 v5 k0) : plJ E 6 (plwC (plg E) a st) 0 0 [(0, .ref (a 25)), (1, .ref (a 13)), (2, .int v2), (3, .int v3), (4, .int v4), (5, .int v5)] 103 [.int k0, .ref (a 25)] := by
  unfold P_PR_take_LP_36L103 at hs
  unfold K_PR_take_LP_36L103 at hk
  refine put_PR_sinceFirst (pc := 103) X fl_PR_47 d_PR_take_103 ?_
  exact j_PR_take_LP_36L106 X a T v2 v3 hb hx (plUp st 25 6 k0) v4 v5 hs hk
def K_PR_take_LP_36L85 (st : plS) (v2 : Int32) (v3 : Int32) (v4 : Int32) (v5 : Int32) : Bool × (plS × Int32) := (if (st 25 6) = 0 then K_PR_take_LP_36L103 st v2 v3 v4 v5 0 else K_PR_take_LP_36L103 st v2 v3 v4 v5 ((st 25 6) + 1))
def P_PR_take_LP_36L85 (st : plS) (v2 : Int32) (v3 : Int32) (v4 : Int32) (v5 : Int32) : Prop := (((st 25 6) = 0 → P_PR_take_LP_36L103 st v2 v3 v4 v5 0) ∧ (¬ (st 25 6) = 0 → P_PR_take_LP_36L103 st v2 v3 v4 v5 ((st 25 6) + 1)))
set_option maxRecDepth 20000 in
theorem j_PR_take_LP_36L85 {E : plE} (X : plX E b_PR_take "ProtectedLine$PointerReader" 6 none 5 128) (a : Nat → Nat) (T : Bool × (plS × Int32)) (v2 : Int32) (v3 : Int32) (hb : ∀ (c0 : plS) (c1 : Int32), T = (true, (c0, c1)) → plJ E 6 (plwC (plg E) a c0) 0 0 [(0, .ref (a 25)), (1, .ref (a 13)), (2, .int v2), (3, .int v3), (4, .int c1)] 36 []) (hx : ∀ (c0 : plS) (c1 : Int32), T = (false, (c0, c1)) → plJ E 6 (plwC (plg E) a c0) 0 0 [(0, .ref (a 25)), (1, .ref (a 13)), (2, .int v2), (3, .int v3), (4, .int c1)] 121 []) (st : plS) (v4 : Int32) (v5 : Int32) (hs : P_PR_take_LP_36L85 st v2 v3 v4 v5) (hk : T = K_PR_take_LP_36L85 st v2 v3 v4 v5) : plJ E 6 (plwC (plg E) a st) 0 0 [(0, .ref (a 25)), (1, .ref (a 13)), (2, .int v2), (3, .int v3), (4, .int v4), (5, .int v5)] 85 [] := by
  unfold P_PR_take_LP_36L85 at hs
  unfold K_PR_take_LP_36L85 at hk
  refine j_aload_n (pc := 85) X d_PR_take_85 rfl 0 rfl ?_
  refine j_aload_n (pc := 86) X d_PR_take_86 rfl 0 rfl ?_
  refine get_PR_sinceFirst (pc := 87) X fl_PR_47 d_PR_take_87 ?_
  refine j_if_ne (pc := 90) (tgt := 97) X d_PR_take_90 rfl (fun hc => ?_) (fun hc => ?_)
  · have hk := hk.trans (if_neg hc)
    have hs := hs.2 hc
    refine j_aload_n (pc := 97) X d_PR_take_97 rfl 0 rfl ?_
    refine get_PR_sinceFirst (pc := 98) X fl_PR_47 d_PR_take_98 ?_
    refine j_iconst (pc := 101) X d_PR_take_101 ic_1 ?_
    refine j_iadd (pc := 102) X d_PR_take_102 ?_
    exact j_PR_take_LP_36L103 X a T v2 v3 hb hx st v4 v5 ((st 25 6) + 1) hs hk
  · have hk := hk.trans (if_pos hc)
    have hs := hs.1 hc
    refine j_iconst (pc := 93) X d_PR_take_93 ic_0 ?_
    refine j_goto (pc := 94) (tgt := 103) X d_PR_take_94 rfl ?_
    exact j_PR_take_LP_36L103 X a T v2 v3 hb hx st v4 v5 0 hs hk
def K_PR_take_LP_36L (st : plS) (v2 : Int32) (v3 : Int32) (v4 : Int32) : Bool × (plS × Int32) := (if 12 ≤ v4 then (false, (st, v4)) else (if ((v4 - v3) - (v4 - v3) / 6 * 6) = (st 25 1) then K_PR_take_LP_36L115 (K_PR_beginContainer st (K_LP_plainAt st v4)) v2 v3 v4 else K_PR_take_LP_36L85 (plUp st 25 7 ((st 25 7) ^^^ (K_LP_plainAt st v4))) v2 v3 v4 (K_LP_plainAt st v4)))
def P_PR_take_LP_36L (st : plS) (v2 : Int32) (v3 : Int32) (v4 : Int32) : Prop := (¬ 12 ≤ v4 → (P_LP_plainAt st v4 ∧ (¬ ((v4 - v3) - (v4 - v3) / 6 * 6) = (st 25 1) → P_PR_take_LP_36L85 (plUp st 25 7 ((st 25 7) ^^^ (K_LP_plainAt st v4))) v2 v3 v4 (K_LP_plainAt st v4))))
set_option maxRecDepth 20000 in
theorem j_PR_take_LP_36L {E : plE} (X : plX E b_PR_take "ProtectedLine$PointerReader" 6 none 5 128) (a : Nat → Nat) (T : Bool × (plS × Int32)) (v2 : Int32) (v3 : Int32) (hb : ∀ (c0 : plS) (c1 : Int32), T = (true, (c0, c1)) → plJ E 6 (plwC (plg E) a c0) 0 0 [(0, .ref (a 25)), (1, .ref (a 13)), (2, .int v2), (3, .int v3), (4, .int c1)] 36 []) (hx : ∀ (c0 : plS) (c1 : Int32), T = (false, (c0, c1)) → plJ E 6 (plwC (plg E) a c0) 0 0 [(0, .ref (a 25)), (1, .ref (a 13)), (2, .int v2), (3, .int v3), (4, .int c1)] 121 []) (st : plS) (v4 : Int32) (hs : P_PR_take_LP_36L st v2 v3 v4) (hk : T = K_PR_take_LP_36L st v2 v3 v4) : plJ E 6 (plwC (plg E) a st) 0 0 [(0, .ref (a 25)), (1, .ref (a 13)), (2, .int v2), (3, .int v3), (4, .int v4)] 36 [] := by
  unfold P_PR_take_LP_36L at hs
  unfold K_PR_take_LP_36L at hk
  refine j_iload (pc := 36) X d_PR_take_36 4 rfl ?_
  refine j_bipush (pc := 38) X d_PR_take_38 bp_12 ?_
  refine j_icmp_ge (pc := 40) (tgt := 121) X d_PR_take_40 rfl (fun hc => ?_) (fun hc => ?_)
  · have hk := hk.trans (if_pos hc)
    exact hx st v4 hk
  · have hk := hk.trans (if_neg hc)
    have hs := hs hc
    refine j_aload_n (pc := 43) X d_PR_take_43 rfl 1 rfl ?_
    refine j_iload (pc := 44) X d_PR_take_44 4 rfl ?_
    refine j_callVp (pc := 46) (As := [.int v4]) (rest := []) X (c_LP_plainAt (plg E) a st v4 hs.1) ml_PR_31 13 rfl rfl ⟨Nat.le_of_ble_eq_true rfl, Nat.le_of_ble_eq_true rfl⟩ rfl rfl (Nat.le_of_ble_eq_true rfl) d_PR_take_46 ?_
    have hs := hs.2
    refine j_istore (pc := 49) X d_PR_take_49 (lv' := [(5, .int (K_LP_plainAt st v4)), (0, .ref (a 25)), (1, .ref (a 13)), (2, .int v2), (3, .int v3), (4, .int v4)]) (Nat.le_of_ble_eq_true rfl) rfl ?_
    refine j_iload (pc := 51) X d_PR_take_51 5 rfl ?_
    refine j_iload_n (pc := 53) X d_PR_take_53 rfl 4 rfl ?_
    refine j_isub (pc := 54) X d_PR_take_54 ?_
    refine j_bipush (pc := 55) X d_PR_take_55 bp_6 ?_
    refine j_irem (pc := 57) X d_PR_take_57 nz_6 ?_
    refine j_aload_n (pc := 58) X d_PR_take_58 rfl 1 rfl ?_
    refine get_PR_v (pc := 59) X fl_PR_11 d_PR_take_59 ?_
    refine j_icmp_ne (pc := 62) (tgt := 74) X d_PR_take_62 rfl (fun hc => ?_) (fun hc => ?_)
    · have hk := hk.trans (if_neg hc)
      have hs := hs hc
      refine j_aload_n (pc := 74) X d_PR_take_74 rfl 1 rfl ?_
      refine j_dup (pc := 75) X d_PR_take_75 rfl ?_
      refine get_PR_joined (pc := 76) X fl_PR_44 d_PR_take_76 ?_
      refine j_iload (pc := 79) X d_PR_take_79 0 rfl ?_
      refine j_ixor (pc := 81) X d_PR_take_81 ?_
      refine put_PR_joined (pc := 82) X fl_PR_44 d_PR_take_82 ?_
      refine j_sub [1, 2, 3, 4, 5, 0] (lv' := [(0, .ref (a 25)), (1, .ref (a 13)), (2, .int v2), (3, .int v3), (4, .int v4), (5, .int (K_LP_plainAt st v4))]) rfl ?_
      exact j_PR_take_LP_36L85 X a T v2 v3 hb hx (plUp st 25 7 ((st 25 7) ^^^ (K_LP_plainAt st v4))) v4 (K_LP_plainAt st v4) hs hk
    · have hk := hk.trans (if_pos hc)
      refine j_aload_n (pc := 65) X d_PR_take_65 rfl 1 rfl ?_
      refine j_iload (pc := 66) X d_PR_take_66 0 rfl ?_
      refine j_callVv (pc := 68) (As := [.int (K_LP_plainAt st v4)]) (rest := []) X (c_PR_beginContainer (plg E) a st (K_LP_plainAt st v4)) ml_PR_40 25 rfl rfl ⟨Nat.le_of_ble_eq_true rfl, Nat.le_of_ble_eq_true rfl⟩ rfl rfl (Nat.le_of_ble_eq_true rfl) d_PR_take_68 ?_
      refine j_goto (pc := 71) (tgt := 115) X d_PR_take_71 rfl ?_
      refine j_sub [1, 2, 3, 4, 5] (lv' := [(0, .ref (a 25)), (1, .ref (a 13)), (2, .int v2), (3, .int v3), (4, .int v4)]) rfl ?_
      exact j_PR_take_LP_36L115 X a T v2 v3 hb hx (K_PR_beginContainer st (K_LP_plainAt st v4)) v4 hk
def F_PR_take_LP_36 (v2 : Int32) (v3 : Int32) (c : plS × Int32) : Bool × (plS × Int32) := K_PR_take_LP_36L c.1 v2 v3 c.2
def G_PR_take_LP_36 (v2 : Int32) (v3 : Int32) (c : plS × Int32) : Prop := P_PR_take_LP_36L c.1 v2 v3 c.2
def K_PR_take_LP_36X (v2 : Int32) (v3 : Int32) (c : plS × Int32) : plS := plUp c.1 25 1 ((((c.1 25 1) + v2) + 6) - (((c.1 25 1) + v2) + 6) / 6 * 6)
set_option maxRecDepth 20000 in
theorem j_PR_take_LP_36X {E : plE} (X : plX E b_PR_take "ProtectedLine$PointerReader" 6 none 5 128) (a : Nat → Nat) (T : plS) (hQ : plRv E (plwC (plg E) a) T) (v2 : Int32) (v3 : Int32) (c : plS × Int32) (hk : T = K_PR_take_LP_36X v2 v3 c) : plJ E 6 (plwC (plg E) a c.1) 0 0 [(0, .ref (a 25)), (1, .ref (a 13)), (2, .int v2), (3, .int v3), (4, .int c.2)] 121 [] := by
  unfold K_PR_take_LP_36X at hk
  refine j_aload_n (pc := 121) X d_PR_take_121 rfl 0 rfl ?_
  refine j_aload_n (pc := 122) X d_PR_take_122 rfl 0 rfl ?_
  refine get_PR_v (pc := 123) X fl_PR_11 d_PR_take_123 ?_
  refine j_iload_n (pc := 126) X d_PR_take_126 rfl 2 rfl ?_
  refine j_iadd (pc := 127) X d_PR_take_127 ?_
  refine j_bipush (pc := 128) X d_PR_take_128 bp_6 ?_
  refine j_iadd (pc := 130) X d_PR_take_130 ?_
  refine j_bipush (pc := 131) X d_PR_take_131 bp_6 ?_
  refine j_irem (pc := 133) X d_PR_take_133 nz_6 ?_
  refine put_PR_v (pc := 134) X fl_PR_11 d_PR_take_134 ?_
  exact j_retv (pc := 137) X hQ d_PR_take_137 hk
def K_PR_take_LP_14q  (q : Int32 × plS) : plS := (if (q.2 25 1) = ((-1)) then K_PR_breakOff q.2 else K_PR_take_LP_36X q.1 (6 + q.1) (lpR (F_PR_take_LP_36 q.1 (6 + q.1)) 64 (q.2, 6 + q.1)))
def P_PR_take_LP_14q  (q : Int32 × plS) : Prop := (¬ (q.2 25 1) = ((-1)) → lpP (G_PR_take_LP_36 q.1 (6 + q.1)) (F_PR_take_LP_36 q.1 (6 + q.1)) 64 (q.2, 6 + q.1))
set_option maxRecDepth 20000 in
theorem j_PR_take_LP_14q {E : plE} (X : plX E b_PR_take "ProtectedLine$PointerReader" 6 none 5 128) (a : Nat → Nat) (T : plS) (hQ : plRv E (plwC (plg E) a) T)  (q : Int32 × plS) (hs : P_PR_take_LP_14q  q) (hk : T = K_PR_take_LP_14q  q) : plJ E 6 (plwC (plg E) a q.2) 0 0 [(0, .ref (a 25)), (1, .ref (a 13))] 14 [.int q.1] := by
  unfold P_PR_take_LP_14q at hs
  unfold K_PR_take_LP_14q at hk
  refine j_istore_n (pc := 14) X d_PR_take_14 rfl (lv' := [(2, .int q.1), (0, .ref (a 25)), (1, .ref (a 13))]) (Nat.le_of_ble_eq_true rfl) rfl ?_
  refine j_aload_n (pc := 15) X d_PR_take_15 rfl 1 rfl ?_
  refine get_PR_v (pc := 16) X fl_PR_11 d_PR_take_16 ?_
  refine j_iconst (pc := 19) X d_PR_take_19 ic_m1 ?_
  refine j_icmp_ne (pc := 20) (tgt := 28) X d_PR_take_20 rfl (fun hc => ?_) (fun hc => ?_)
  · have hk := hk.trans (if_neg hc)
    have hs := hs hc
    refine j_bipush (pc := 28) X d_PR_take_28 bp_6 ?_
    refine j_iload_n (pc := 30) X d_PR_take_30 rfl 0 rfl ?_
    refine j_iadd (pc := 31) X d_PR_take_31 ?_
    refine j_istore_n (pc := 32) X d_PR_take_32 rfl (lv' := [(3, .int (6 + q.1)), (2, .int q.1), (0, .ref (a 25)), (1, .ref (a 13))]) (Nat.le_of_ble_eq_true rfl) rfl ?_
    refine j_iload_n (pc := 33) X d_PR_take_33 rfl 0 rfl ?_
    refine j_istore (pc := 34) X d_PR_take_34 (lv' := [(4, .int (6 + q.1)), (3, .int (6 + q.1)), (2, .int q.1), (0, .ref (a 25)), (1, .ref (a 13))]) (Nat.le_of_ble_eq_true rfl) rfl ?_
    refine j_sub [3, 4, 2, 1, 0] (lv' := [(0, .ref (a 25)), (1, .ref (a 13)), (2, .int q.1), (3, .int (6 + q.1)), (4, .int (6 + q.1))]) rfl ?_
    exact lpJ (G_PR_take_LP_36 q.1 (6 + q.1)) (F_PR_take_LP_36 q.1 (6 + q.1)) (fun c => plJ E 6 (plwC (plg E) a c.1) 0 0 [(0, .ref (a 25)), (1, .ref (a 13)), (2, .int q.1), (3, .int (6 + q.1)), (4, .int c.2)] 36 []) (fun c => plJ E 6 (plwC (plg E) a c.1) 0 0 [(0, .ref (a 25)), (1, .ref (a 13)), (2, .int q.1), (3, .int (6 + q.1)), (4, .int c.2)] 121 []) (fun c hp h1 h2 => j_PR_take_LP_36L X a (F_PR_take_LP_36 q.1 (6 + q.1) c) q.1 (6 + q.1) (fun c0 c1 => h1 (c0, c1)) (fun c0 c1 => h2 (c0, c1)) c.1 c.2 hp rfl) 64 (q.2, 6 + q.1) hs (j_PR_take_LP_36X X a T hQ q.1 (6 + q.1) (lpR (F_PR_take_LP_36 q.1 (6 + q.1)) 64 (q.2, 6 + q.1)) hk)
  · have hk := hk.trans (if_pos hc)
    refine j_aload_n (pc := 23) X d_PR_take_23 rfl 1 rfl ?_
    refine j_callVv (pc := 24) (As := []) (rest := []) X (c_PR_breakOff (plg E) a q.2) ml_PR_28 25 rfl rfl ⟨Nat.le_of_ble_eq_true rfl, Nat.le_of_ble_eq_true rfl⟩ rfl rfl (Nat.le_of_ble_eq_true rfl) d_PR_take_24 ?_
    exact j_retv (pc := 27) X hQ d_PR_take_27 hk
def K_PR_take_LP_5 (st : plS) : plS := K_PR_take_LP_14q (K_PR_follow st (K_LP_plainAt st 4))
def P_PR_take_LP_5 (st : plS) : Prop := (P_LP_plainAt st 4 ∧ P_PR_take_LP_14q (K_PR_follow st (K_LP_plainAt st 4)))
set_option maxRecDepth 20000 in
theorem j_PR_take_LP_5 {E : plE} (X : plX E b_PR_take "ProtectedLine$PointerReader" 6 none 5 128) (a : Nat → Nat) (T : plS) (hQ : plRv E (plwC (plg E) a) T) (st : plS)  (hs : P_PR_take_LP_5 st) (hk : T = K_PR_take_LP_5 st) : plJ E 6 (plwC (plg E) a st) 0 0 [(0, .ref (a 25)), (1, .ref (a 13))] 5 [] := by
  unfold P_PR_take_LP_5 at hs
  unfold K_PR_take_LP_5 at hk
  refine j_aload_n (pc := 5) X d_PR_take_5 rfl 0 rfl ?_
  refine j_aload_n (pc := 6) X d_PR_take_6 rfl 1 rfl ?_
  refine j_iconst (pc := 7) X d_PR_take_7 ic_4 ?_
  refine j_callVp (pc := 8) (As := [.int 4]) (rest := [.ref (a 25)]) X (c_LP_plainAt (plg E) a st 4 hs.1) ml_PR_31 13 rfl rfl ⟨Nat.le_of_ble_eq_true rfl, Nat.le_of_ble_eq_true rfl⟩ rfl rfl (Nat.le_of_ble_eq_true rfl) d_PR_take_8 ?_
  have hs := hs.2
  refine j_callVi (pc := 11) (As := [.int (K_LP_plainAt st 4)]) (rest := []) X (c_PR_follow (plg E) a st (K_LP_plainAt st 4)) ml_PR_37 25 rfl rfl ⟨Nat.le_of_ble_eq_true rfl, Nat.le_of_ble_eq_true rfl⟩ rfl rfl (Nat.le_of_ble_eq_true rfl) d_PR_take_11 ?_
  exact j_PR_take_LP_14q X a T hQ (K_PR_follow st (K_LP_plainAt st 4)) hs hk
def K_PR_take_LP (st : plS) : plS := K_PR_take_LP_5 (plUp st 25 2 0)
def P_PR_take_LP (st : plS) : Prop := P_PR_take_LP_5 (plUp st 25 2 0)
set_option maxRecDepth 20000 in
theorem j_PR_take_LP {E : plE} (X : plX E b_PR_take "ProtectedLine$PointerReader" 6 none 5 128) (a : Nat → Nat) (T : plS) (hQ : plRv E (plwC (plg E) a) T) (st : plS)  (hs : P_PR_take_LP st) (hk : T = K_PR_take_LP st) : plJ E 6 (plwC (plg E) a st) 0 0 [(0, .ref (a 25)), (1, .ref (a 13))] 0 [] := by
  unfold P_PR_take_LP at hs
  unfold K_PR_take_LP at hk
  refine j_aload_n (pc := 0) X d_PR_take_0 rfl 0 rfl ?_
  refine j_iconst (pc := 1) X d_PR_take_1 ic_0 ?_
  refine put_PR_gapRow (pc := 2) X fl_PR_19 d_PR_take_2 ?_
  exact j_PR_take_LP_5 X a T hQ (plUp st 25 2 0) hs hk
set_option maxRecDepth 20000 in
theorem c_PR_take_LP (g : plG) (a : Nat → Nat) (st : plS)  (hs : P_PR_take_LP st ) : plMv g y_PR_take b_PR_take 6 none 5 128 [.ref (a 25), .ref (a 13)] (plwC g a) st (K_PR_take_LP st ) := by
  refine plMv.of (own := "ProtectedLine$PointerReader") (lv := [(0, .ref (a 25)), (1, .ref (a 13))]) rfl rfl (Nat.le_of_ble_eq_true rfl) rfl (fun E hE X hQ => ?_)
  subst hE
  exact j_PR_take_LP X a _ hQ st  hs rfl
def K_PL_lineAt_toLP_15  : Unit := ()
set_option maxRecDepth 20000 in
theorem j_PL_lineAt_toLP_15 {E : plE} (X : plX E b_PL_lineAt "ProtectedLine" 2 (some (.object "ProtectedLine$Line")) 0 0) (a : Nat → Nat) (T : Unit) (st : plS) (hQ : plRr E (plwC (plg E) a) st (a 13))  (hk : T = K_PL_lineAt_toLP_15 ) : plJ E 2 (plwC (plg E) a st) 0 0 [] 15 [.ref (a 13)] := by
  unfold K_PL_lineAt_toLP_15 at hk
  exact j_reta (pc := 15) X hQ d_PL_lineAt_15
def K_PL_lineAt_toLP_15b  : Unit := ()
def P_PL_lineAt_toLP_15b  : Prop := False
set_option maxRecDepth 20000 in
theorem j_PL_lineAt_toLP_15b {E : plE} (X : plX E b_PL_lineAt "ProtectedLine" 2 (some (.object "ProtectedLine$Line")) 0 0) (a : Nat → Nat) (T : Unit) (st : plS) (hQ : plRr E (plwC (plg E) a) st (a 13))  (hs : P_PL_lineAt_toLP_15b ) (hk : T = K_PL_lineAt_toLP_15b ) : plJ E 2 (plwC (plg E) a st) 0 0 [] 15 [.ref (a 9)] := by
  unfold P_PL_lineAt_toLP_15b at hs
  unfold K_PL_lineAt_toLP_15b at hk
  exact False.elim hs
def K_PL_lineAt_toLP (v1 : Int32) : Unit := (if v1 = 0 then K_PL_lineAt_toLP_15b else K_PL_lineAt_toLP_15)
def P_PL_lineAt_toLP (v1 : Int32) : Prop := (v1 = 0 → P_PL_lineAt_toLP_15b)
set_option maxRecDepth 20000 in
theorem j_PL_lineAt_toLP {E : plE} (X : plX E b_PL_lineAt "ProtectedLine" 2 (some (.object "ProtectedLine$Line")) 0 0) (a : Nat → Nat) (T : Unit) (st : plS) (hQ : plRr E (plwC (plg E) a) st (a 13)) (v1 : Int32) (hs : P_PL_lineAt_toLP v1) (hk : T = K_PL_lineAt_toLP v1) : plJ E 2 (plwC (plg E) a st) 0 0 [(0, .ref (a 0)), (1, .int v1)] 0 [] := by
  unfold P_PL_lineAt_toLP at hs
  unfold K_PL_lineAt_toLP at hk
  refine j_iload_n (pc := 0) X d_PL_lineAt_0 rfl 1 rfl ?_
  refine j_if_ne (pc := 1) (tgt := 11) X d_PL_lineAt_1 rfl (fun hc => ?_) (fun hc => ?_)
  · have hk := hk.trans (if_neg hc)
    refine j_aload_n (pc := 11) X d_PL_lineAt_11 rfl 0 rfl ?_
    refine get_PL_protection (pc := 12) X fl_PL_43 d_PL_lineAt_12 ?_
    refine j_sub [] (lv' := []) rfl ?_
    exact j_PL_lineAt_toLP_15 X a T st hQ hk
  · have hk := hk.trans (if_pos hc)
    have hs := hs hc
    refine j_aload_n (pc := 4) X d_PL_lineAt_4 rfl 0 rfl ?_
    refine get_PL_working (pc := 5) X fl_PL_39 d_PL_lineAt_5 ?_
    refine j_goto (pc := 8) (tgt := 15) X d_PL_lineAt_8 rfl ?_
    refine j_sub [] (lv' := []) rfl ?_
    exact j_PL_lineAt_toLP_15b X a T st hQ hs hk
set_option maxRecDepth 20000 in
theorem c_PL_lineAt_toLP (g : plG) (a : Nat → Nat) (st : plS) (v1 : Int32) (hs : P_PL_lineAt_toLP v1) : plMr g y_PL_lineAt b_PL_lineAt 2 (some (.object "ProtectedLine$Line")) 0 0 [.ref (a 0), .int v1] (plwC g a) st (a 13) := by
  refine plMr.of (own := "ProtectedLine") (lv := [(0, .ref (a 0)), (1, .int v1)]) rfl rfl (Nat.le_of_ble_eq_true rfl) rfl (fun E hE X hQ => ?_)
  subst hE
  exact j_PL_lineAt_toLP X a () st hQ v1 hs rfl
