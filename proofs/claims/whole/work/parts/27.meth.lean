theorem d_RM_ones_0 : decode b_RM_ones 0 = .ok (.iconst 0, 1) := by decide +kernel
theorem d_RM_ones_1 : decode b_RM_ones 1 = .ok (.istore_n 1, 1) := by decide +kernel
theorem d_RM_ones_2 : decode b_RM_ones 2 = .ok (.iconst 0, 1) := by decide +kernel
theorem d_RM_ones_3 : decode b_RM_ones 3 = .ok (.istore_n 2, 1) := by decide +kernel
theorem d_RM_ones_4 : decode b_RM_ones 4 = .ok (.iload_n 2, 1) := by decide +kernel
theorem d_RM_ones_5 : decode b_RM_ones 5 = .ok (.bipush (8), 2) := by decide +kernel
theorem d_RM_ones_7 : decode b_RM_ones 7 = .ok (.if_icmp .ge (17), 3) := by decide +kernel
theorem d_RM_ones_10 : decode b_RM_ones 10 = .ok (.iload_n 1, 1) := by decide +kernel
theorem d_RM_ones_11 : decode b_RM_ones 11 = .ok (.iload_n 0, 1) := by decide +kernel
theorem d_RM_ones_12 : decode b_RM_ones 12 = .ok (.iload_n 2, 1) := by decide +kernel
theorem d_RM_ones_13 : decode b_RM_ones 13 = .ok (.ishr, 1) := by decide +kernel
theorem d_RM_ones_14 : decode b_RM_ones 14 = .ok (.iconst 1, 1) := by decide +kernel
theorem d_RM_ones_15 : decode b_RM_ones 15 = .ok (.iand, 1) := by decide +kernel
theorem d_RM_ones_16 : decode b_RM_ones 16 = .ok (.iadd, 1) := by decide +kernel
theorem d_RM_ones_17 : decode b_RM_ones 17 = .ok (.istore_n 1, 1) := by decide +kernel
theorem d_RM_ones_18 : decode b_RM_ones 18 = .ok (.iinc 2 (1), 3) := by decide +kernel
theorem d_RM_ones_21 : decode b_RM_ones 21 = .ok (.goto (-17), 3) := by decide +kernel
theorem d_RM_ones_24 : decode b_RM_ones 24 = .ok (.iload_n 1, 1) := by decide +kernel
theorem d_RM_ones_25 : decode b_RM_ones 25 = .ok (.ireturn, 1) := by decide +kernel
def K_RM_ones_4L (v0 : Int32) (v1 : Int32) (v2 : Int32) : Bool × (Int32 × Int32) := (if 8 ≤ v2 then (false, (v1, v2)) else (true, (v1 + ((v0 >>> ((v2 : Int32) &&& 31)) &&& 1), v2 + 1)))
set_option maxRecDepth 20000 in
theorem j_RM_ones_4L {E : plE} (X : plX E b_RM_ones "ProtectedLineModel" 3 (some .int) 0 0) (a : Nat → Nat) (T : Bool × (Int32 × Int32)) (st : plS) (v0 : Int32) (hb : ∀ (c0 : Int32) (c1 : Int32), T = (true, (c0, c1)) → plJ E 3 (plwR (plg E) a st) 0 0 [(0, .int v0), (1, .int c0), (2, .int c1)] 4 []) (hx : ∀ (c0 : Int32) (c1 : Int32), T = (false, (c0, c1)) → plJ E 3 (plwR (plg E) a st) 0 0 [(0, .int v0), (1, .int c0), (2, .int c1)] 24 []) (v1 : Int32) (v2 : Int32) (hk : T = K_RM_ones_4L v0 v1 v2) : plJ E 3 (plwR (plg E) a st) 0 0 [(0, .int v0), (1, .int v1), (2, .int v2)] 4 [] := by
  unfold K_RM_ones_4L at hk
  refine j_iload_n (pc := 4) X d_RM_ones_4 rfl 2 rfl ?_
  refine j_bipush (pc := 5) X d_RM_ones_5 bp_8 ?_
  refine j_icmp_ge (pc := 7) (tgt := 24) X d_RM_ones_7 rfl (fun hc => ?_) (fun hc => ?_)
  · have hk := hk.trans (if_pos hc)
    exact hx v1 v2 hk
  · have hk := hk.trans (if_neg hc)
    refine j_iload_n (pc := 10) X d_RM_ones_10 rfl 1 rfl ?_
    refine j_iload_n (pc := 11) X d_RM_ones_11 rfl 0 rfl ?_
    refine j_iload_n (pc := 12) X d_RM_ones_12 rfl 2 rfl ?_
    refine j_ishr (pc := 13) X d_RM_ones_13 ?_
    refine j_iconst (pc := 14) X d_RM_ones_14 ic_1 ?_
    refine j_iand (pc := 15) X d_RM_ones_15 ?_
    refine j_iadd (pc := 16) X d_RM_ones_16 ?_
    refine j_istore_n (pc := 17) X d_RM_ones_17 rfl (lv' := [(1, .int (v1 + ((v0 >>> ((v2 : Int32) &&& 31)) &&& 1))), (0, .int v0), (2, .int v2)]) (Nat.le_of_ble_eq_true rfl) rfl ?_
    refine j_iinc (pc := 18) X d_RM_ones_18 2 rfl ic_1 (lv' := [(2, .int (v2 + 1)), (1, .int (v1 + ((v0 >>> ((v2 : Int32) &&& 31)) &&& 1))), (0, .int v0)]) (Nat.le_of_ble_eq_true rfl) rfl ?_
    refine j_goto (pc := 21) (tgt := 4) X d_RM_ones_21 rfl ?_
    refine j_sub [2, 1, 0] (lv' := [(0, .int v0), (1, .int (v1 + ((v0 >>> ((v2 : Int32) &&& 31)) &&& 1))), (2, .int (v2 + 1))]) rfl ?_
    exact hb (v1 + ((v0 >>> ((v2 : Int32) &&& 31)) &&& 1)) (v2 + 1) hk
def F_RM_ones_4 (v0 : Int32) (c : Int32 × Int32) : Bool × (Int32 × Int32) := K_RM_ones_4L v0 c.1 c.2
def K_RM_ones_4X (v0 : Int32) (c : Int32 × Int32) : Int32 := c.1
set_option maxRecDepth 20000 in
theorem j_RM_ones_4X {E : plE} (X : plX E b_RM_ones "ProtectedLineModel" 3 (some .int) 0 0) (a : Nat → Nat) (T : Int32) (st : plS) (hQ : plRp E (plwR (plg E) a) st T) (v0 : Int32) (c : Int32 × Int32) (hk : T = K_RM_ones_4X v0 c) : plJ E 3 (plwR (plg E) a st) 0 0 [(0, .int v0), (1, .int c.1), (2, .int c.2)] 24 [] := by
  unfold K_RM_ones_4X at hk
  refine j_iload_n (pc := 24) X d_RM_ones_24 rfl 1 rfl ?_
  exact j_retip (pc := 25) X hQ d_RM_ones_25 hk
def K_RM_ones (v0 : Int32) : Int32 := K_RM_ones_4X v0 (lpR (F_RM_ones_4 v0) 64 (0, 0))
def P_RM_ones (v0 : Int32) : Prop := lpP (fun _ => True) (F_RM_ones_4 v0) 64 (0, 0)
set_option maxRecDepth 20000 in
theorem j_RM_ones {E : plE} (X : plX E b_RM_ones "ProtectedLineModel" 3 (some .int) 0 0) (a : Nat → Nat) (T : Int32) (st : plS) (hQ : plRp E (plwR (plg E) a) st T) (v0 : Int32) (hs : P_RM_ones v0) (hk : T = K_RM_ones v0) : plJ E 3 (plwR (plg E) a st) 0 0 [(0, .int v0)] 0 [] := by
  unfold P_RM_ones at hs
  unfold K_RM_ones at hk
  refine j_iconst (pc := 0) X d_RM_ones_0 ic_0 ?_
  refine j_istore_n (pc := 1) X d_RM_ones_1 rfl (lv' := [(1, .int 0), (0, .int v0)]) (Nat.le_of_ble_eq_true rfl) rfl ?_
  refine j_iconst (pc := 2) X d_RM_ones_2 ic_0 ?_
  refine j_istore_n (pc := 3) X d_RM_ones_3 rfl (lv' := [(2, .int 0), (1, .int 0), (0, .int v0)]) (Nat.le_of_ble_eq_true rfl) rfl ?_
  refine j_sub [2, 1, 0] (lv' := [(0, .int v0), (1, .int 0), (2, .int 0)]) rfl ?_
  exact lpJ (fun _ => True) (F_RM_ones_4 v0) (fun c => plJ E 3 (plwR (plg E) a st) 0 0 [(0, .int v0), (1, .int c.1), (2, .int c.2)] 4 []) (fun c => plJ E 3 (plwR (plg E) a st) 0 0 [(0, .int v0), (1, .int c.1), (2, .int c.2)] 24 []) (fun c hp h1 h2 => j_RM_ones_4L X a (F_RM_ones_4 v0 c) st v0 (fun c0 c1 => h1 (c0, c1)) (fun c0 c1 => h2 (c0, c1)) c.1 c.2 rfl) 64 (0, 0) hs (j_RM_ones_4X X a T st hQ v0 (lpR (F_RM_ones_4 v0) 64 (0, 0)) hk)
set_option maxRecDepth 20000 in
theorem c_RM_ones (g : plG) (a : Nat → Nat) (st : plS) (v0 : Int32) (hs : P_RM_ones v0) : plMp g y_RM_ones b_RM_ones 3 (some .int) 0 0 [.int v0] (plwR g a) st (K_RM_ones v0) := by
  refine plMp.of (own := "ProtectedLineModel") (lv := [(0, .int v0)]) rfl rfl (Nat.le_of_ble_eq_true rfl) rfl (fun E hE X hQ => ?_)
  subst hE
  exact j_RM_ones X a _ st hQ v0 hs rfl
theorem d_RM_arrive_0 : decode b_RM_arrive 0 = .ok (.iconst 0, 1) := by decide +kernel
theorem d_RM_arrive_1 : decode b_RM_arrive 1 = .ok (.istore_n 1, 1) := by decide +kernel
theorem d_RM_arrive_2 : decode b_RM_arrive 2 = .ok (.iload_n 1, 1) := by decide +kernel
theorem d_RM_arrive_3 : decode b_RM_arrive 3 = .ok (.iconst 2, 1) := by decide +kernel
theorem d_RM_arrive_4 : decode b_RM_arrive 4 = .ok (.if_icmp .ge (254), 3) := by decide +kernel
theorem d_RM_arrive_7 : decode b_RM_arrive 7 = .ok (.aload_n 0, 1) := by decide +kernel
theorem d_RM_arrive_8 : decode b_RM_arrive 8 = .ok (.getfield 51, 3) := by decide +kernel
theorem d_RM_arrive_11 : decode b_RM_arrive 11 = .ok (.iload_n 1, 1) := by decide +kernel
theorem d_RM_arrive_12 : decode b_RM_arrive 12 = .ok (.aload_n 0, 1) := by decide +kernel
theorem d_RM_arrive_13 : decode b_RM_arrive 13 = .ok (.getfield 48, 3) := by decide +kernel
theorem d_RM_arrive_16 : decode b_RM_arrive 16 = .ok (.iload_n 1, 1) := by decide +kernel
theorem d_RM_arrive_17 : decode b_RM_arrive 17 = .ok (.baload, 1) := by decide +kernel
theorem d_RM_arrive_18 : decode b_RM_arrive 18 = .ok (.bastore, 1) := by decide +kernel
theorem d_RM_arrive_19 : decode b_RM_arrive 19 = .ok (.aload_n 0, 1) := by decide +kernel
theorem d_RM_arrive_20 : decode b_RM_arrive 20 = .ok (.getfield 54, 3) := by decide +kernel
theorem d_RM_arrive_23 : decode b_RM_arrive 23 = .ok (.iload_n 1, 1) := by decide +kernel
theorem d_RM_arrive_24 : decode b_RM_arrive 24 = .ok (.iconst 0, 1) := by decide +kernel
theorem d_RM_arrive_25 : decode b_RM_arrive 25 = .ok (.iastore, 1) := by decide +kernel
theorem d_RM_arrive_26 : decode b_RM_arrive 26 = .ok (.iconst 0, 1) := by decide +kernel
theorem d_RM_arrive_27 : decode b_RM_arrive 27 = .ok (.istore_n 2, 1) := by decide +kernel
theorem d_RM_arrive_28 : decode b_RM_arrive 28 = .ok (.iload_n 2, 1) := by decide +kernel
theorem d_RM_arrive_29 : decode b_RM_arrive 29 = .ok (.bipush (12), 2) := by decide +kernel
theorem d_RM_arrive_31 : decode b_RM_arrive 31 = .ok (.if_icmp .ge (33), 3) := by decide +kernel
theorem d_RM_arrive_34 : decode b_RM_arrive 34 = .ok (.aload_n 0, 1) := by decide +kernel
theorem d_RM_arrive_35 : decode b_RM_arrive 35 = .ok (.getfield 54, 3) := by decide +kernel
theorem d_RM_arrive_38 : decode b_RM_arrive 38 = .ok (.iload_n 1, 1) := by decide +kernel
theorem d_RM_arrive_39 : decode b_RM_arrive 39 = .ok (.aload_n 0, 1) := by decide +kernel
theorem d_RM_arrive_40 : decode b_RM_arrive 40 = .ok (.getfield 54, 3) := by decide +kernel
theorem d_RM_arrive_43 : decode b_RM_arrive 43 = .ok (.iload_n 1, 1) := by decide +kernel
theorem d_RM_arrive_44 : decode b_RM_arrive 44 = .ok (.iaload, 1) := by decide +kernel
theorem d_RM_arrive_45 : decode b_RM_arrive 45 = .ok (.aload_n 0, 1) := by decide +kernel
theorem d_RM_arrive_46 : decode b_RM_arrive 46 = .ok (.getfield 45, 3) := by decide +kernel
theorem d_RM_arrive_49 : decode b_RM_arrive 49 = .ok (.bipush (12), 2) := by decide +kernel
theorem d_RM_arrive_51 : decode b_RM_arrive 51 = .ok (.iload_n 1, 1) := by decide +kernel
theorem d_RM_arrive_52 : decode b_RM_arrive 52 = .ok (.imul, 1) := by decide +kernel
theorem d_RM_arrive_53 : decode b_RM_arrive 53 = .ok (.iload_n 2, 1) := by decide +kernel
theorem d_RM_arrive_54 : decode b_RM_arrive 54 = .ok (.iadd, 1) := by decide +kernel
theorem d_RM_arrive_55 : decode b_RM_arrive 55 = .ok (.iaload, 1) := by decide +kernel
theorem d_RM_arrive_56 : decode b_RM_arrive 56 = .ok (.ixor, 1) := by decide +kernel
theorem d_RM_arrive_57 : decode b_RM_arrive 57 = .ok (.iastore, 1) := by decide +kernel
theorem d_RM_arrive_58 : decode b_RM_arrive 58 = .ok (.iinc 2 (1), 3) := by decide +kernel
theorem d_RM_arrive_61 : decode b_RM_arrive 61 = .ok (.goto (-33), 3) := by decide +kernel
theorem d_RM_arrive_64 : decode b_RM_arrive 64 = .ok (.aload_n 0, 1) := by decide +kernel
theorem d_RM_arrive_65 : decode b_RM_arrive 65 = .ok (.getfield 111, 3) := by decide +kernel
theorem d_RM_arrive_68 : decode b_RM_arrive 68 = .ok (.aload_n 0, 1) := by decide +kernel
theorem d_RM_arrive_69 : decode b_RM_arrive 69 = .ok (.getfield 7, 3) := by decide +kernel
theorem d_RM_arrive_72 : decode b_RM_arrive 72 = .ok (.iload_n 1, 1) := by decide +kernel
theorem d_RM_arrive_73 : decode b_RM_arrive 73 = .ok (.iaload, 1) := by decide +kernel
theorem d_RM_arrive_74 : decode b_RM_arrive 74 = .ok (.isub, 1) := by decide +kernel
theorem d_RM_arrive_75 : decode b_RM_arrive 75 = .ok (.istore_n 2, 1) := by decide +kernel
theorem d_RM_arrive_76 : decode b_RM_arrive 76 = .ok (.aload_n 0, 1) := by decide +kernel
theorem d_RM_arrive_77 : decode b_RM_arrive 77 = .ok (.getfield 48, 3) := by decide +kernel
theorem d_RM_arrive_80 : decode b_RM_arrive 80 = .ok (.iload_n 1, 1) := by decide +kernel
theorem d_RM_arrive_81 : decode b_RM_arrive 81 = .ok (.aload_n 0, 1) := by decide +kernel
theorem d_RM_arrive_82 : decode b_RM_arrive 82 = .ok (.getfield 38, 3) := by decide +kernel
theorem d_RM_arrive_85 : decode b_RM_arrive 85 = .ok (.iload_n 1, 1) := by decide +kernel
theorem d_RM_arrive_86 : decode b_RM_arrive 86 = .ok (.baload, 1) := by decide +kernel
theorem d_RM_arrive_87 : decode b_RM_arrive 87 = .ok (.ifCond .ne (12), 3) := by decide +kernel
theorem d_RM_arrive_90 : decode b_RM_arrive 90 = .ok (.iload_n 2, 1) := by decide +kernel
theorem d_RM_arrive_91 : decode b_RM_arrive 91 = .ok (.iconst 1, 1) := by decide +kernel
theorem d_RM_arrive_92 : decode b_RM_arrive 92 = .ok (.if_icmp .lt (7), 3) := by decide +kernel
theorem d_RM_arrive_95 : decode b_RM_arrive 95 = .ok (.iconst 1, 1) := by decide +kernel
theorem d_RM_arrive_96 : decode b_RM_arrive 96 = .ok (.goto (4), 3) := by decide +kernel
theorem d_RM_arrive_99 : decode b_RM_arrive 99 = .ok (.iconst 0, 1) := by decide +kernel
theorem d_RM_arrive_100 : decode b_RM_arrive 100 = .ok (.bastore, 1) := by decide +kernel
theorem d_RM_arrive_101 : decode b_RM_arrive 101 = .ok (.iconst 0, 1) := by decide +kernel
theorem d_RM_arrive_102 : decode b_RM_arrive 102 = .ok (.istore_n 3, 1) := by decide +kernel
theorem d_RM_arrive_103 : decode b_RM_arrive 103 = .ok (.iload_n 3, 1) := by decide +kernel
theorem d_RM_arrive_104 : decode b_RM_arrive 104 = .ok (.bipush (12), 2) := by decide +kernel
theorem d_RM_arrive_106 : decode b_RM_arrive 106 = .ok (.if_icmp .ge (72), 3) := by decide +kernel
theorem d_RM_arrive_109 : decode b_RM_arrive 109 = .ok (.bipush (12), 2) := by decide +kernel
theorem d_RM_arrive_111 : decode b_RM_arrive 111 = .ok (.iload_n 1, 1) := by decide +kernel
theorem d_RM_arrive_112 : decode b_RM_arrive 112 = .ok (.imul, 1) := by decide +kernel
theorem d_RM_arrive_113 : decode b_RM_arrive 113 = .ok (.iload_n 3, 1) := by decide +kernel
theorem d_RM_arrive_114 : decode b_RM_arrive 114 = .ok (.iadd, 1) := by decide +kernel
theorem d_RM_arrive_115 : decode b_RM_arrive 115 = .ok (.istore 4, 2) := by decide +kernel
theorem d_RM_arrive_117 : decode b_RM_arrive 117 = .ok (.aload_n 0, 1) := by decide +kernel
theorem d_RM_arrive_118 : decode b_RM_arrive 118 = .ok (.getfield 45, 3) := by decide +kernel
theorem d_RM_arrive_121 : decode b_RM_arrive 121 = .ok (.iload 4, 2) := by decide +kernel
theorem d_RM_arrive_123 : decode b_RM_arrive 123 = .ok (.aload_n 0, 1) := by decide +kernel
theorem d_RM_arrive_124 : decode b_RM_arrive 124 = .ok (.getfield 48, 3) := by decide +kernel
theorem d_RM_arrive_127 : decode b_RM_arrive 127 = .ok (.iload_n 1, 1) := by decide +kernel
theorem d_RM_arrive_128 : decode b_RM_arrive 128 = .ok (.baload, 1) := by decide +kernel
theorem d_RM_arrive_129 : decode b_RM_arrive 129 = .ok (.ifCond .eq (33), 3) := by decide +kernel
theorem d_RM_arrive_132 : decode b_RM_arrive 132 = .ok (.aload_n 0, 1) := by decide +kernel
theorem d_RM_arrive_133 : decode b_RM_arrive 133 = .ok (.getfield 26, 3) := by decide +kernel
theorem d_RM_arrive_136 : decode b_RM_arrive 136 = .ok (.bipush (12), 2) := by decide +kernel
theorem d_RM_arrive_138 : decode b_RM_arrive 138 = .ok (.bipush (8), 2) := by decide +kernel
theorem d_RM_arrive_140 : decode b_RM_arrive 140 = .ok (.iload_n 1, 1) := by decide +kernel
theorem d_RM_arrive_141 : decode b_RM_arrive 141 = .ok (.imul, 1) := by decide +kernel
theorem d_RM_arrive_142 : decode b_RM_arrive 142 = .ok (.iload_n 2, 1) := by decide +kernel
theorem d_RM_arrive_143 : decode b_RM_arrive 143 = .ok (.bipush (7), 2) := by decide +kernel
theorem d_RM_arrive_145 : decode b_RM_arrive 145 = .ok (.iand, 1) := by decide +kernel
theorem d_RM_arrive_146 : decode b_RM_arrive 146 = .ok (.iadd, 1) := by decide +kernel
theorem d_RM_arrive_147 : decode b_RM_arrive 147 = .ok (.imul, 1) := by decide +kernel
theorem d_RM_arrive_148 : decode b_RM_arrive 148 = .ok (.iload_n 3, 1) := by decide +kernel
theorem d_RM_arrive_149 : decode b_RM_arrive 149 = .ok (.iadd, 1) := by decide +kernel
theorem d_RM_arrive_150 : decode b_RM_arrive 150 = .ok (.iaload, 1) := by decide +kernel
theorem d_RM_arrive_151 : decode b_RM_arrive 151 = .ok (.aload_n 0, 1) := by decide +kernel
theorem d_RM_arrive_152 : decode b_RM_arrive 152 = .ok (.getfield 42, 3) := by decide +kernel
theorem d_RM_arrive_155 : decode b_RM_arrive 155 = .ok (.iload 4, 2) := by decide +kernel
theorem d_RM_arrive_157 : decode b_RM_arrive 157 = .ok (.iaload, 1) := by decide +kernel
theorem d_RM_arrive_158 : decode b_RM_arrive 158 = .ok (.ixor, 1) := by decide +kernel
theorem d_RM_arrive_159 : decode b_RM_arrive 159 = .ok (.goto (4), 3) := by decide +kernel
theorem d_RM_arrive_162 : decode b_RM_arrive 162 = .ok (.iconst 0, 1) := by decide +kernel
theorem d_RM_arrive_163 : decode b_RM_arrive 163 = .ok (.iastore, 1) := by decide +kernel
theorem d_RM_arrive_164 : decode b_RM_arrive 164 = .ok (.aload_n 0, 1) := by decide +kernel
theorem d_RM_arrive_165 : decode b_RM_arrive 165 = .ok (.getfield 42, 3) := by decide +kernel
theorem d_RM_arrive_168 : decode b_RM_arrive 168 = .ok (.iload 4, 2) := by decide +kernel
theorem d_RM_arrive_170 : decode b_RM_arrive 170 = .ok (.iconst 0, 1) := by decide +kernel
theorem d_RM_arrive_171 : decode b_RM_arrive 171 = .ok (.iastore, 1) := by decide +kernel
theorem d_RM_arrive_172 : decode b_RM_arrive 172 = .ok (.iinc 3 (1), 3) := by decide +kernel
theorem d_RM_arrive_175 : decode b_RM_arrive 175 = .ok (.goto (-72), 3) := by decide +kernel
theorem d_RM_arrive_178 : decode b_RM_arrive 178 = .ok (.aload_n 0, 1) := by decide +kernel
theorem d_RM_arrive_179 : decode b_RM_arrive 179 = .ok (.iload_n 1, 1) := by decide +kernel
theorem d_RM_arrive_180 : decode b_RM_arrive 180 = .ok (.invokevirtual 187, 3) := by decide +kernel
theorem d_RM_arrive_183 : decode b_RM_arrive 183 = .ok (.aload_n 0, 1) := by decide +kernel
theorem d_RM_arrive_184 : decode b_RM_arrive 184 = .ok (.getfield 57, 3) := by decide +kernel
theorem d_RM_arrive_187 : decode b_RM_arrive 187 = .ok (.iload_n 1, 1) := by decide +kernel
theorem d_RM_arrive_188 : decode b_RM_arrive 188 = .ok (.iaload, 1) := by decide +kernel
theorem d_RM_arrive_189 : decode b_RM_arrive 189 = .ok (.iconst 2, 1) := by decide +kernel
theorem d_RM_arrive_190 : decode b_RM_arrive 190 = .ok (.if_icmp .ne (62), 3) := by decide +kernel
theorem d_RM_arrive_193 : decode b_RM_arrive 193 = .ok (.aload_n 0, 1) := by decide +kernel
theorem d_RM_arrive_194 : decode b_RM_arrive 194 = .ok (.getfield 48, 3) := by decide +kernel
theorem d_RM_arrive_197 : decode b_RM_arrive 197 = .ok (.iload_n 1, 1) := by decide +kernel
theorem d_RM_arrive_198 : decode b_RM_arrive 198 = .ok (.baload, 1) := by decide +kernel
theorem d_RM_arrive_199 : decode b_RM_arrive 199 = .ok (.ifCond .eq (53), 3) := by decide +kernel
theorem d_RM_arrive_202 : decode b_RM_arrive 202 = .ok (.aload_n 0, 1) := by decide +kernel
theorem d_RM_arrive_203 : decode b_RM_arrive 203 = .ok (.getfield 51, 3) := by decide +kernel
theorem d_RM_arrive_206 : decode b_RM_arrive 206 = .ok (.iload_n 1, 1) := by decide +kernel
theorem d_RM_arrive_207 : decode b_RM_arrive 207 = .ok (.baload, 1) := by decide +kernel
theorem d_RM_arrive_208 : decode b_RM_arrive 208 = .ok (.ifCond .eq (44), 3) := by decide +kernel
theorem d_RM_arrive_211 : decode b_RM_arrive 211 = .ok (.aload_n 0, 1) := by decide +kernel
theorem d_RM_arrive_212 : decode b_RM_arrive 212 = .ok (.getfield 63, 3) := by decide +kernel
theorem d_RM_arrive_215 : decode b_RM_arrive 215 = .ok (.iload_n 1, 1) := by decide +kernel
theorem d_RM_arrive_216 : decode b_RM_arrive 216 = .ok (.aload_n 0, 1) := by decide +kernel
theorem d_RM_arrive_217 : decode b_RM_arrive 217 = .ok (.getfield 63, 3) := by decide +kernel
theorem d_RM_arrive_220 : decode b_RM_arrive 220 = .ok (.iload_n 1, 1) := by decide +kernel
theorem d_RM_arrive_221 : decode b_RM_arrive 221 = .ok (.iaload, 1) := by decide +kernel
theorem d_RM_arrive_222 : decode b_RM_arrive 222 = .ok (.aload_n 0, 1) := by decide +kernel
theorem d_RM_arrive_223 : decode b_RM_arrive 223 = .ok (.getfield 45, 3) := by decide +kernel
theorem d_RM_arrive_226 : decode b_RM_arrive 226 = .ok (.bipush (12), 2) := by decide +kernel
theorem d_RM_arrive_228 : decode b_RM_arrive 228 = .ok (.iload_n 1, 1) := by decide +kernel
theorem d_RM_arrive_229 : decode b_RM_arrive 229 = .ok (.imul, 1) := by decide +kernel
theorem d_RM_arrive_230 : decode b_RM_arrive 230 = .ok (.iconst 2, 1) := by decide +kernel
theorem d_RM_arrive_231 : decode b_RM_arrive 231 = .ok (.iadd, 1) := by decide +kernel
theorem d_RM_arrive_232 : decode b_RM_arrive 232 = .ok (.iaload, 1) := by decide +kernel
theorem d_RM_arrive_233 : decode b_RM_arrive 233 = .ok (.aload_n 0, 1) := by decide +kernel
theorem d_RM_arrive_234 : decode b_RM_arrive 234 = .ok (.getfield 32, 3) := by decide +kernel
theorem d_RM_arrive_237 : decode b_RM_arrive 237 = .ok (.iconst 2, 1) := by decide +kernel
theorem d_RM_arrive_238 : decode b_RM_arrive 238 = .ok (.iaload, 1) := by decide +kernel
theorem d_RM_arrive_239 : decode b_RM_arrive 239 = .ok (.ixor, 1) := by decide +kernel
theorem d_RM_arrive_240 : decode b_RM_arrive 240 = .ok (.aload_n 0, 1) := by decide +kernel
theorem d_RM_arrive_241 : decode b_RM_arrive 241 = .ok (.getfield 54, 3) := by decide +kernel
theorem d_RM_arrive_244 : decode b_RM_arrive 244 = .ok (.iload_n 1, 1) := by decide +kernel
theorem d_RM_arrive_245 : decode b_RM_arrive 245 = .ok (.iaload, 1) := by decide +kernel
theorem d_RM_arrive_246 : decode b_RM_arrive 246 = .ok (.ixor, 1) := by decide +kernel
theorem d_RM_arrive_247 : decode b_RM_arrive 247 = .ok (.invokestatic 190, 3) := by decide +kernel
theorem d_RM_arrive_250 : decode b_RM_arrive 250 = .ok (.iadd, 1) := by decide +kernel
theorem d_RM_arrive_251 : decode b_RM_arrive 251 = .ok (.iastore, 1) := by decide +kernel
theorem d_RM_arrive_252 : decode b_RM_arrive 252 = .ok (.iinc 1 (1), 3) := by decide +kernel
theorem d_RM_arrive_255 : decode b_RM_arrive 255 = .ok (.goto (-253), 3) := by decide +kernel
theorem d_RM_arrive_258 : decode b_RM_arrive 258 = .ok (.aload_n 0, 1) := by decide +kernel
theorem d_RM_arrive_259 : decode b_RM_arrive 259 = .ok (.aload_n 0, 1) := by decide +kernel
theorem d_RM_arrive_260 : decode b_RM_arrive 260 = .ok (.getfield 57, 3) := by decide +kernel
theorem d_RM_arrive_263 : decode b_RM_arrive 263 = .ok (.iconst 0, 1) := by decide +kernel
theorem d_RM_arrive_264 : decode b_RM_arrive 264 = .ok (.iaload, 1) := by decide +kernel
theorem d_RM_arrive_265 : decode b_RM_arrive 265 = .ok (.iconst 2, 1) := by decide +kernel
theorem d_RM_arrive_266 : decode b_RM_arrive 266 = .ok (.if_icmp .ne (7), 3) := by decide +kernel
theorem d_RM_arrive_269 : decode b_RM_arrive 269 = .ok (.iconst 0, 1) := by decide +kernel
theorem d_RM_arrive_270 : decode b_RM_arrive 270 = .ok (.goto (9), 3) := by decide +kernel
theorem d_RM_arrive_273 : decode b_RM_arrive 273 = .ok (.aload_n 0, 1) := by decide +kernel
theorem d_RM_arrive_274 : decode b_RM_arrive 274 = .ok (.getfield 193, 3) := by decide +kernel
theorem d_RM_arrive_277 : decode b_RM_arrive 277 = .ok (.iconst 1, 1) := by decide +kernel
theorem d_RM_arrive_278 : decode b_RM_arrive 278 = .ok (.iadd, 1) := by decide +kernel
theorem d_RM_arrive_279 : decode b_RM_arrive 279 = .ok (.putfield 193, 3) := by decide +kernel
theorem d_RM_arrive_282 : decode b_RM_arrive 282 = .ok (.return_, 1) := by decide +kernel
def K_RM_arrive_2L28L (st : plS) (v1 : Int32) (v2 : Int32) : Bool × (plS × Int32) := (if 12 ≤ v2 then (false, (st, v2)) else (true, (plUp st 13 (plIx v1) ((st 13 (plIx v1)) ^^^ (st 10 (plIx ((12 * v1) + v2)))), v2 + 1)))
def P_RM_arrive_2L28L (st : plS) (v1 : Int32) (v2 : Int32) : Prop := (¬ 12 ≤ v2 → (vp_in v1 2 ∧ (vp_in ((12 * v1) + v2) 24 ∧ vp_in v1 2)))
set_option maxRecDepth 20000 in
theorem j_RM_arrive_2L28L {E : plE} (X : plX E b_RM_arrive "ProtectedLineModel" 5 none 1 22) (a : Nat → Nat) (T : Bool × (plS × Int32)) (v1 : Int32) (hb : ∀ (c0 : plS) (c1 : Int32), T = (true, (c0, c1)) → plJ E 5 (plwR (plg E) a c0) 0 0 [(0, .ref (a 0)), (1, .int v1), (2, .int c1)] 28 []) (hx : ∀ (c0 : plS) (c1 : Int32), T = (false, (c0, c1)) → plJ E 5 (plwR (plg E) a c0) 0 0 [(0, .ref (a 0)), (1, .int v1), (2, .int c1)] 64 []) (st : plS) (v2 : Int32) (hs : P_RM_arrive_2L28L st v1 v2) (hk : T = K_RM_arrive_2L28L st v1 v2) : plJ E 5 (plwR (plg E) a st) 0 0 [(0, .ref (a 0)), (1, .int v1), (2, .int v2)] 28 [] := by
  unfold P_RM_arrive_2L28L at hs
  unfold K_RM_arrive_2L28L at hk
  refine j_iload_n (pc := 28) X d_RM_arrive_28 rfl 2 rfl ?_
  refine j_bipush (pc := 29) X d_RM_arrive_29 bp_12 ?_
  refine j_icmp_ge (pc := 31) (tgt := 64) X d_RM_arrive_31 rfl (fun hc => ?_) (fun hc => ?_)
  · have hk := hk.trans (if_pos hc)
    exact hx st v2 hk
  · have hk := hk.trans (if_neg hc)
    have hs := hs hc
    refine j_aload_n (pc := 34) X d_RM_arrive_34 rfl 0 rfl ?_
    refine get_RM_was (pc := 35) X fl_RM_54 d_RM_arrive_35 ?_
    refine j_iload_n (pc := 38) X d_RM_arrive_38 rfl 1 rfl ?_
    refine j_aload_n (pc := 39) X d_RM_arrive_39 rfl 0 rfl ?_
    refine get_RM_was (pc := 40) X fl_RM_54 d_RM_arrive_40 ?_
    refine j_iload_n (pc := 43) X d_RM_arrive_43 rfl 1 rfl ?_
    refine ald_RMwas (pc := 44) X hs.1 d_RM_arrive_44 ?_
    have hs := hs.2
    refine j_aload_n (pc := 45) X d_RM_arrive_45 rfl 0 rfl ?_
    refine get_RM_now (pc := 46) X fl_RM_45 d_RM_arrive_46 ?_
    refine j_bipush (pc := 49) X d_RM_arrive_49 bp_12 ?_
    refine j_iload_n (pc := 51) X d_RM_arrive_51 rfl 1 rfl ?_
    refine j_imul (pc := 52) X d_RM_arrive_52 ?_
    refine j_iload_n (pc := 53) X d_RM_arrive_53 rfl 2 rfl ?_
    refine j_iadd (pc := 54) X d_RM_arrive_54 ?_
    refine ald_RMnow (pc := 55) X hs.1 d_RM_arrive_55 ?_
    have hs := hs.2
    refine j_ixor (pc := 56) X d_RM_arrive_56 ?_
    refine ast_RMwas (pc := 57) X hs d_RM_arrive_57 ?_
    refine j_iinc (pc := 58) X d_RM_arrive_58 2 rfl ic_1 (lv' := [(2, .int (v2 + 1)), (0, .ref (a 0)), (1, .int v1)]) (Nat.le_of_ble_eq_true rfl) rfl ?_
    refine j_goto (pc := 61) (tgt := 28) X d_RM_arrive_61 rfl ?_
    refine j_sub [1, 2, 0] (lv' := [(0, .ref (a 0)), (1, .int v1), (2, .int (v2 + 1))]) rfl ?_
    exact hb (plUp st 13 (plIx v1) ((st 13 (plIx v1)) ^^^ (st 10 (plIx ((12 * v1) + v2))))) (v2 + 1) hk
def F_RM_arrive_2L28 (v1 : Int32) (c : plS × Int32) : Bool × (plS × Int32) := K_RM_arrive_2L28L c.1 v1 c.2
def G_RM_arrive_2L28 (v1 : Int32) (c : plS × Int32) : Prop := P_RM_arrive_2L28L c.1 v1 c.2
def K_RM_arrive_2L103L164 (st : plS) (v1 : Int32) (v2 : Int32) (v3 : Int32) (v4 : Int32) : Bool × (plS × Int32) := (true, (plUp st 9 (plIx v4) 0, v3 + 1))
def P_RM_arrive_2L103L164 (st : plS) (v1 : Int32) (v2 : Int32) (v3 : Int32) (v4 : Int32) : Prop := vp_in v4 24
set_option maxRecDepth 20000 in
theorem j_RM_arrive_2L103L164 {E : plE} (X : plX E b_RM_arrive "ProtectedLineModel" 5 none 1 22) (a : Nat → Nat) (T : Bool × (plS × Int32)) (v1 : Int32) (v2 : Int32) (hb : ∀ (c0 : plS) (c1 : Int32), T = (true, (c0, c1)) → plJ E 5 (plwR (plg E) a c0) 0 0 [(0, .ref (a 0)), (1, .int v1), (2, .int v2), (3, .int c1)] 103 []) (hx : ∀ (c0 : plS) (c1 : Int32), T = (false, (c0, c1)) → plJ E 5 (plwR (plg E) a c0) 0 0 [(0, .ref (a 0)), (1, .int v1), (2, .int v2), (3, .int c1)] 178 []) (st : plS) (v3 : Int32) (v4 : Int32) (hs : P_RM_arrive_2L103L164 st v1 v2 v3 v4) (hk : T = K_RM_arrive_2L103L164 st v1 v2 v3 v4) : plJ E 5 (plwR (plg E) a st) 0 0 [(0, .ref (a 0)), (1, .int v1), (2, .int v2), (3, .int v3), (4, .int v4)] 164 [] := by
  unfold P_RM_arrive_2L103L164 at hs
  unfold K_RM_arrive_2L103L164 at hk
  refine j_aload_n (pc := 164) X d_RM_arrive_164 rfl 0 rfl ?_
  refine get_RM_spoil (pc := 165) X fl_RM_42 d_RM_arrive_165 ?_
  refine j_iload (pc := 168) X d_RM_arrive_168 4 rfl ?_
  refine j_iconst (pc := 170) X d_RM_arrive_170 ic_0 ?_
  refine ast_RMspoil (pc := 171) X hs d_RM_arrive_171 ?_
  refine j_iinc (pc := 172) X d_RM_arrive_172 3 rfl ic_1 (lv' := [(3, .int (v3 + 1)), (0, .ref (a 0)), (1, .int v1), (2, .int v2), (4, .int v4)]) (Nat.le_of_ble_eq_true rfl) rfl ?_
  refine j_goto (pc := 175) (tgt := 103) X d_RM_arrive_175 rfl ?_
  refine j_sub [1, 2, 3, 0] (lv' := [(0, .ref (a 0)), (1, .int v1), (2, .int v2), (3, .int (v3 + 1))]) rfl ?_
  exact hb (plUp st 9 (plIx v4) 0) (v3 + 1) hk
def K_RM_arrive_2L103L163 (st : plS) (v1 : Int32) (v2 : Int32) (v3 : Int32) (v4 : Int32) (k0 : Int32) (k1 : Int32) : Bool × (plS × Int32) := K_RM_arrive_2L103L164 (plUp st 10 (plIx k1) k0) v1 v2 v3 v4
def P_RM_arrive_2L103L163 (st : plS) (v1 : Int32) (v2 : Int32) (v3 : Int32) (v4 : Int32) (k0 : Int32) (k1 : Int32) : Prop := (vp_in k1 24 ∧ P_RM_arrive_2L103L164 (plUp st 10 (plIx k1) k0) v1 v2 v3 v4)
set_option maxRecDepth 20000 in
theorem j_RM_arrive_2L103L163 {E : plE} (X : plX E b_RM_arrive "ProtectedLineModel" 5 none 1 22) (a : Nat → Nat) (T : Bool × (plS × Int32)) (v1 : Int32) (v2 : Int32) (hb : ∀ (c0 : plS) (c1 : Int32), T = (true, (c0, c1)) → plJ E 5 (plwR (plg E) a c0) 0 0 [(0, .ref (a 0)), (1, .int v1), (2, .int v2), (3, .int c1)] 103 []) (hx : ∀ (c0 : plS) (c1 : Int32), T = (false, (c0, c1)) → plJ E 5 (plwR (plg E) a c0) 0 0 [(0, .ref (a 0)), (1, .int v1), (2, .int v2), (3, .int c1)] 178 []) (st : plS) (v3 : Int32) (v4 : Int32) (k0 : Int32) (k1 : Int32) (hs : P_RM_arrive_2L103L163 st v1 v2 v3 v4 k0 k1) (hk : T = K_RM_arrive_2L103L163 st v1 v2 v3 v4 k0 k1) : plJ E 5 (plwR (plg E) a st) 0 0 [(0, .ref (a 0)), (1, .int v1), (2, .int v2), (3, .int v3), (4, .int v4)] 163 [.int k0, .int k1, .ref (a 10)] := by
  unfold P_RM_arrive_2L103L163 at hs
  unfold K_RM_arrive_2L103L163 at hk
  refine ast_RMnow (pc := 163) X hs.1 d_RM_arrive_163 ?_
  have hs := hs.2
  exact j_RM_arrive_2L103L164 X a T v1 v2 hb hx (plUp st 10 (plIx k1) k0) v3 v4 hs hk
def K_RM_arrive_2L103L (st : plS) (v1 : Int32) (v2 : Int32) (v3 : Int32) : Bool × (plS × Int32) := (if 12 ≤ v3 then (false, (st, v3)) else (if (st 11 (plIx v1)) = 0 then K_RM_arrive_2L103L163 st v1 v2 v3 ((12 * v1) + v3) 0 ((12 * v1) + v3) else K_RM_arrive_2L103L163 st v1 v2 v3 ((12 * v1) + v3) ((st 4 (plIx ((12 * ((8 * v1) + (v2 &&& 7))) + v3))) ^^^ (st 9 (plIx ((12 * v1) + v3)))) ((12 * v1) + v3)))
def P_RM_arrive_2L103L (st : plS) (v1 : Int32) (v2 : Int32) (v3 : Int32) : Prop := (¬ 12 ≤ v3 → (vp_in v1 2 ∧ (((st 11 (plIx v1)) = 0 → P_RM_arrive_2L103L163 st v1 v2 v3 ((12 * v1) + v3) 0 ((12 * v1) + v3)) ∧ (¬ (st 11 (plIx v1)) = 0 → (vp_in ((12 * ((8 * v1) + (v2 &&& 7))) + v3) 192 ∧ (vp_in ((12 * v1) + v3) 24 ∧ P_RM_arrive_2L103L163 st v1 v2 v3 ((12 * v1) + v3) ((st 4 (plIx ((12 * ((8 * v1) + (v2 &&& 7))) + v3))) ^^^ (st 9 (plIx ((12 * v1) + v3)))) ((12 * v1) + v3)))))))
set_option maxRecDepth 20000 in
theorem j_RM_arrive_2L103L {E : plE} (X : plX E b_RM_arrive "ProtectedLineModel" 5 none 1 22) (a : Nat → Nat) (T : Bool × (plS × Int32)) (v1 : Int32) (v2 : Int32) (hb : ∀ (c0 : plS) (c1 : Int32), T = (true, (c0, c1)) → plJ E 5 (plwR (plg E) a c0) 0 0 [(0, .ref (a 0)), (1, .int v1), (2, .int v2), (3, .int c1)] 103 []) (hx : ∀ (c0 : plS) (c1 : Int32), T = (false, (c0, c1)) → plJ E 5 (plwR (plg E) a c0) 0 0 [(0, .ref (a 0)), (1, .int v1), (2, .int v2), (3, .int c1)] 178 []) (st : plS) (v3 : Int32) (hs : P_RM_arrive_2L103L st v1 v2 v3) (hk : T = K_RM_arrive_2L103L st v1 v2 v3) : plJ E 5 (plwR (plg E) a st) 0 0 [(0, .ref (a 0)), (1, .int v1), (2, .int v2), (3, .int v3)] 103 [] := by
  unfold P_RM_arrive_2L103L at hs
  unfold K_RM_arrive_2L103L at hk
  refine j_iload_n (pc := 103) X d_RM_arrive_103 rfl 3 rfl ?_
  refine j_bipush (pc := 104) X d_RM_arrive_104 bp_12 ?_
  refine j_icmp_ge (pc := 106) (tgt := 178) X d_RM_arrive_106 rfl (fun hc => ?_) (fun hc => ?_)
  · have hk := hk.trans (if_pos hc)
    exact hx st v3 hk
  · have hk := hk.trans (if_neg hc)
    have hs := hs hc
    refine j_bipush (pc := 109) X d_RM_arrive_109 bp_12 ?_
    refine j_iload_n (pc := 111) X d_RM_arrive_111 rfl 1 rfl ?_
    refine j_imul (pc := 112) X d_RM_arrive_112 ?_
    refine j_iload_n (pc := 113) X d_RM_arrive_113 rfl 3 rfl ?_
    refine j_iadd (pc := 114) X d_RM_arrive_114 ?_
    refine j_istore (pc := 115) X d_RM_arrive_115 (lv' := [(4, .int ((12 * v1) + v3)), (0, .ref (a 0)), (1, .int v1), (2, .int v2), (3, .int v3)]) (Nat.le_of_ble_eq_true rfl) rfl ?_
    refine j_aload_n (pc := 117) X d_RM_arrive_117 rfl 1 rfl ?_
    refine get_RM_now (pc := 118) X fl_RM_45 d_RM_arrive_118 ?_
    refine j_iload (pc := 121) X d_RM_arrive_121 0 rfl ?_
    refine j_aload_n (pc := 123) X d_RM_arrive_123 rfl 1 rfl ?_
    refine get_RM_came (pc := 124) X fl_RM_48 d_RM_arrive_124 ?_
    refine j_iload_n (pc := 127) X d_RM_arrive_127 rfl 2 rfl ?_
    refine ald_RMcame (pc := 128) X hs.1 d_RM_arrive_128 ?_
    have hs := hs.2
    refine j_if_eq (pc := 129) (tgt := 162) X d_RM_arrive_129 rfl (fun hc => ?_) (fun hc => ?_)
    · have hk := hk.trans (if_pos hc)
      have hs := hs.1 hc
      refine j_iconst (pc := 162) X d_RM_arrive_162 ic_0 ?_
      refine j_sub [1, 2, 3, 4, 0] (lv' := [(0, .ref (a 0)), (1, .int v1), (2, .int v2), (3, .int v3), (4, .int ((12 * v1) + v3))]) rfl ?_
      exact j_RM_arrive_2L103L163 X a T v1 v2 hb hx st v3 ((12 * v1) + v3) 0 ((12 * v1) + v3) hs hk
    · have hk := hk.trans (if_neg hc)
      have hs := hs.2 hc
      refine j_aload_n (pc := 132) X d_RM_arrive_132 rfl 1 rfl ?_
      refine get_RM_sent (pc := 133) X fl_RM_26 d_RM_arrive_133 ?_
      refine j_bipush (pc := 136) X d_RM_arrive_136 bp_12 ?_
      refine j_bipush (pc := 138) X d_RM_arrive_138 bp_8 ?_
      refine j_iload_n (pc := 140) X d_RM_arrive_140 rfl 2 rfl ?_
      refine j_imul (pc := 141) X d_RM_arrive_141 ?_
      refine j_iload_n (pc := 142) X d_RM_arrive_142 rfl 3 rfl ?_
      refine j_bipush (pc := 143) X d_RM_arrive_143 bp_7 ?_
      refine j_iand (pc := 145) X d_RM_arrive_145 ?_
      refine j_iadd (pc := 146) X d_RM_arrive_146 ?_
      refine j_imul (pc := 147) X d_RM_arrive_147 ?_
      refine j_iload_n (pc := 148) X d_RM_arrive_148 rfl 4 rfl ?_
      refine j_iadd (pc := 149) X d_RM_arrive_149 ?_
      refine ald_RMsent (pc := 150) X hs.1 d_RM_arrive_150 ?_
      have hs := hs.2
      refine j_aload_n (pc := 151) X d_RM_arrive_151 rfl 1 rfl ?_
      refine get_RM_spoil (pc := 152) X fl_RM_42 d_RM_arrive_152 ?_
      refine j_iload (pc := 155) X d_RM_arrive_155 0 rfl ?_
      refine ald_RMspoil (pc := 157) X hs.1 d_RM_arrive_157 ?_
      have hs := hs.2
      refine j_ixor (pc := 158) X d_RM_arrive_158 ?_
      refine j_goto (pc := 159) (tgt := 163) X d_RM_arrive_159 rfl ?_
      refine j_sub [1, 2, 3, 4, 0] (lv' := [(0, .ref (a 0)), (1, .int v1), (2, .int v2), (3, .int v3), (4, .int ((12 * v1) + v3))]) rfl ?_
      exact j_RM_arrive_2L103L163 X a T v1 v2 hb hx st v3 ((12 * v1) + v3) ((st 4 (plIx ((12 * ((8 * v1) + (v2 &&& 7))) + v3))) ^^^ (st 9 (plIx ((12 * v1) + v3)))) ((12 * v1) + v3) hs hk
def F_RM_arrive_2L103 (v1 : Int32) (v2 : Int32) (c : plS × Int32) : Bool × (plS × Int32) := K_RM_arrive_2L103L c.1 v1 v2 c.2
def G_RM_arrive_2L103 (v1 : Int32) (v2 : Int32) (c : plS × Int32) : Prop := P_RM_arrive_2L103L c.1 v1 v2 c.2
def K_RM_arrive_2L252 (st : plS) (v1 : Int32) : Bool × (plS × Int32) := (true, (st, v1 + 1))
set_option maxRecDepth 20000 in
theorem j_RM_arrive_2L252 {E : plE} (X : plX E b_RM_arrive "ProtectedLineModel" 5 none 1 22) (a : Nat → Nat) (T : Bool × (plS × Int32))  (hb : ∀ (c0 : plS) (c1 : Int32), T = (true, (c0, c1)) → plJ E 5 (plwR (plg E) a c0) 0 0 [(0, .ref (a 0)), (1, .int c1)] 2 []) (hx : ∀ (c0 : plS) (c1 : Int32), T = (false, (c0, c1)) → plJ E 5 (plwR (plg E) a c0) 0 0 [(0, .ref (a 0)), (1, .int c1)] 258 []) (st : plS) (v1 : Int32) (hk : T = K_RM_arrive_2L252 st v1) : plJ E 5 (plwR (plg E) a st) 0 0 [(0, .ref (a 0)), (1, .int v1)] 252 [] := by
  unfold K_RM_arrive_2L252 at hk
  refine j_iinc (pc := 252) X d_RM_arrive_252 1 rfl ic_1 (lv' := [(1, .int (v1 + 1)), (0, .ref (a 0))]) (Nat.le_of_ble_eq_true rfl) rfl ?_
  refine j_goto (pc := 255) (tgt := 2) X d_RM_arrive_255 rfl ?_
  refine j_sub [1, 0] (lv' := [(0, .ref (a 0)), (1, .int (v1 + 1))]) rfl ?_
  exact hb st (v1 + 1) hk
def K_RM_arrive_2L183 (st : plS) (v1 : Int32) : Bool × (plS × Int32) := (if (st 14 (plIx v1)) = 2 then (if (st 11 (plIx v1)) = 0 then K_RM_arrive_2L252 st v1 else (if (st 12 (plIx v1)) = 0 then K_RM_arrive_2L252 st v1 else K_RM_arrive_2L252 (plUp st 16 (plIx v1) ((st 16 (plIx v1)) + (K_RM_ones (((st 10 (plIx ((12 * v1) + 2))) ^^^ (st 6 (plIx 2))) ^^^ (st 13 (plIx v1)))))) v1)) else K_RM_arrive_2L252 st v1)
def P_RM_arrive_2L183 (st : plS) (v1 : Int32) : Prop := (vp_in v1 2 ∧ ((st 14 (plIx v1)) = 2 → (vp_in v1 2 ∧ (¬ (st 11 (plIx v1)) = 0 → (vp_in v1 2 ∧ (¬ (st 12 (plIx v1)) = 0 → (vp_in v1 2 ∧ (vp_in ((12 * v1) + 2) 24 ∧ (vp_in v1 2 ∧ (P_RM_ones (((st 10 (plIx ((12 * v1) + 2))) ^^^ (st 6 (plIx 2))) ^^^ (st 13 (plIx v1))) ∧ vp_in v1 2))))))))))
set_option maxRecDepth 20000 in
theorem j_RM_arrive_2L183 {E : plE} (X : plX E b_RM_arrive "ProtectedLineModel" 5 none 1 22) (a : Nat → Nat) (T : Bool × (plS × Int32))  (hb : ∀ (c0 : plS) (c1 : Int32), T = (true, (c0, c1)) → plJ E 5 (plwR (plg E) a c0) 0 0 [(0, .ref (a 0)), (1, .int c1)] 2 []) (hx : ∀ (c0 : plS) (c1 : Int32), T = (false, (c0, c1)) → plJ E 5 (plwR (plg E) a c0) 0 0 [(0, .ref (a 0)), (1, .int c1)] 258 []) (st : plS) (v1 : Int32) (hs : P_RM_arrive_2L183 st v1) (hk : T = K_RM_arrive_2L183 st v1) : plJ E 5 (plwR (plg E) a st) 0 0 [(0, .ref (a 0)), (1, .int v1)] 183 [] := by
  unfold P_RM_arrive_2L183 at hs
  unfold K_RM_arrive_2L183 at hk
  refine j_aload_n (pc := 183) X d_RM_arrive_183 rfl 0 rfl ?_
  refine get_RM_state (pc := 184) X fl_RM_57 d_RM_arrive_184 ?_
  refine j_iload_n (pc := 187) X d_RM_arrive_187 rfl 1 rfl ?_
  refine ald_RMstate (pc := 188) X hs.1 d_RM_arrive_188 ?_
  have hs := hs.2
  refine j_iconst (pc := 189) X d_RM_arrive_189 ic_2 ?_
  refine j_icmp_ne (pc := 190) (tgt := 252) X d_RM_arrive_190 rfl (fun hc => ?_) (fun hc => ?_)
  · have hk := hk.trans (if_neg hc)
    exact j_RM_arrive_2L252 X a T  hb hx st v1 hk
  · have hk := hk.trans (if_pos hc)
    have hs := hs hc
    refine j_aload_n (pc := 193) X d_RM_arrive_193 rfl 0 rfl ?_
    refine get_RM_came (pc := 194) X fl_RM_48 d_RM_arrive_194 ?_
    refine j_iload_n (pc := 197) X d_RM_arrive_197 rfl 1 rfl ?_
    refine ald_RMcame (pc := 198) X hs.1 d_RM_arrive_198 ?_
    have hs := hs.2
    refine j_if_eq (pc := 199) (tgt := 252) X d_RM_arrive_199 rfl (fun hc => ?_) (fun hc => ?_)
    · have hk := hk.trans (if_pos hc)
      exact j_RM_arrive_2L252 X a T  hb hx st v1 hk
    · have hk := hk.trans (if_neg hc)
      have hs := hs hc
      refine j_aload_n (pc := 202) X d_RM_arrive_202 rfl 0 rfl ?_
      refine get_RM_before (pc := 203) X fl_RM_51 d_RM_arrive_203 ?_
      refine j_iload_n (pc := 206) X d_RM_arrive_206 rfl 1 rfl ?_
      refine ald_RMbefore (pc := 207) X hs.1 d_RM_arrive_207 ?_
      have hs := hs.2
      refine j_if_eq (pc := 208) (tgt := 252) X d_RM_arrive_208 rfl (fun hc => ?_) (fun hc => ?_)
      · have hk := hk.trans (if_pos hc)
        exact j_RM_arrive_2L252 X a T  hb hx st v1 hk
      · have hk := hk.trans (if_neg hc)
        have hs := hs hc
        refine j_aload_n (pc := 211) X d_RM_arrive_211 rfl 0 rfl ?_
        refine get_RM_errors (pc := 212) X fl_RM_63 d_RM_arrive_212 ?_
        refine j_iload_n (pc := 215) X d_RM_arrive_215 rfl 1 rfl ?_
        refine j_aload_n (pc := 216) X d_RM_arrive_216 rfl 0 rfl ?_
        refine get_RM_errors (pc := 217) X fl_RM_63 d_RM_arrive_217 ?_
        refine j_iload_n (pc := 220) X d_RM_arrive_220 rfl 1 rfl ?_
        refine ald_RMerrors (pc := 221) X hs.1 d_RM_arrive_221 ?_
        have hs := hs.2
        refine j_aload_n (pc := 222) X d_RM_arrive_222 rfl 0 rfl ?_
        refine get_RM_now (pc := 223) X fl_RM_45 d_RM_arrive_223 ?_
        refine j_bipush (pc := 226) X d_RM_arrive_226 bp_12 ?_
        refine j_iload_n (pc := 228) X d_RM_arrive_228 rfl 1 rfl ?_
        refine j_imul (pc := 229) X d_RM_arrive_229 ?_
        refine j_iconst (pc := 230) X d_RM_arrive_230 ic_2 ?_
        refine j_iadd (pc := 231) X d_RM_arrive_231 ?_
        refine ald_RMnow (pc := 232) X hs.1 d_RM_arrive_232 ?_
        have hs := hs.2
        refine j_aload_n (pc := 233) X d_RM_arrive_233 rfl 0 rfl ?_
        refine get_RM_row (pc := 234) X fl_RM_32 d_RM_arrive_234 ?_
        refine j_iconst (pc := 237) X d_RM_arrive_237 ic_2 ?_
        refine ald_RMrow (pc := 238) X vi_2_12 d_RM_arrive_238 ?_
        refine j_ixor (pc := 239) X d_RM_arrive_239 ?_
        refine j_aload_n (pc := 240) X d_RM_arrive_240 rfl 0 rfl ?_
        refine get_RM_was (pc := 241) X fl_RM_54 d_RM_arrive_241 ?_
        refine j_iload_n (pc := 244) X d_RM_arrive_244 rfl 1 rfl ?_
        refine ald_RMwas (pc := 245) X hs.1 d_RM_arrive_245 ?_
        have hs := hs.2
        refine j_ixor (pc := 246) X d_RM_arrive_246 ?_
        refine j_callSp (pc := 247) (As := [.int (((st 10 (plIx ((12 * v1) + 2))) ^^^ (st 6 (plIx 2))) ^^^ (st 13 (plIx v1)))]) (rest := [.int (st 16 (plIx v1)), .int v1, .ref (a 16)]) X (c_RM_ones (plg E) a st (((st 10 (plIx ((12 * v1) + 2))) ^^^ (st 6 (plIx 2))) ^^^ (st 13 (plIx v1))) hs.1) ml_RM_190 ⟨Nat.le_of_ble_eq_true rfl, Nat.le_of_ble_eq_true rfl⟩ rfl rfl (Nat.le_of_ble_eq_true rfl) d_RM_arrive_247 ?_
        have hs := hs.2
        refine j_iadd (pc := 250) X d_RM_arrive_250 ?_
        refine ast_RMerrors (pc := 251) X hs d_RM_arrive_251 ?_
        exact j_RM_arrive_2L252 X a T  hb hx (plUp st 16 (plIx v1) ((st 16 (plIx v1)) + (K_RM_ones (((st 10 (plIx ((12 * v1) + 2))) ^^^ (st 6 (plIx 2))) ^^^ (st 13 (plIx v1)))))) v1 hk
def K_RM_arrive_2L103X (v1 : Int32) (v2 : Int32) (c : plS × Int32) : Bool × (plS × Int32) := K_RM_arrive_2L183 (K_RM_align c.1 v1) v1
def P_RM_arrive_2L103X (v1 : Int32) (v2 : Int32) (c : plS × Int32) : Prop := (P_RM_align c.1 v1 ∧ P_RM_arrive_2L183 (K_RM_align c.1 v1) v1)
set_option maxRecDepth 20000 in
theorem j_RM_arrive_2L103X {E : plE} (X : plX E b_RM_arrive "ProtectedLineModel" 5 none 1 22) (a : Nat → Nat) (T : Bool × (plS × Int32))  (hb : ∀ (c0 : plS) (c1 : Int32), T = (true, (c0, c1)) → plJ E 5 (plwR (plg E) a c0) 0 0 [(0, .ref (a 0)), (1, .int c1)] 2 []) (hx : ∀ (c0 : plS) (c1 : Int32), T = (false, (c0, c1)) → plJ E 5 (plwR (plg E) a c0) 0 0 [(0, .ref (a 0)), (1, .int c1)] 258 []) (v1 : Int32) (v2 : Int32) (c : plS × Int32) (hs : P_RM_arrive_2L103X v1 v2 c) (hk : T = K_RM_arrive_2L103X v1 v2 c) : plJ E 5 (plwR (plg E) a c.1) 0 0 [(0, .ref (a 0)), (1, .int v1), (2, .int v2), (3, .int c.2)] 178 [] := by
  unfold P_RM_arrive_2L103X at hs
  unfold K_RM_arrive_2L103X at hk
  refine j_aload_n (pc := 178) X d_RM_arrive_178 rfl 0 rfl ?_
  refine j_iload_n (pc := 179) X d_RM_arrive_179 rfl 1 rfl ?_
  refine j_callVv (pc := 180) (As := [.int v1]) (rest := []) X (c_RM_align (plg E) a c.1 v1 hs.1) ml_RM_187 0 rfl rfl ⟨Nat.le_of_ble_eq_true rfl, Nat.le_of_ble_eq_true rfl⟩ rfl rfl (Nat.le_of_ble_eq_true rfl) d_RM_arrive_180 ?_
  have hs := hs.2
  refine j_sub [0, 1] (lv' := [(0, .ref (a 0)), (1, .int v1)]) rfl ?_
  exact j_RM_arrive_2L183 X a T  hb hx (K_RM_align c.1 v1) v1 hs hk
def K_RM_arrive_2L100 (st : plS) (v1 : Int32) (v2 : Int32) (k0 : Int32) (k1 : Int32) : Bool × (plS × Int32) := K_RM_arrive_2L103X v1 v2 (lpR (F_RM_arrive_2L103 v1 v2) 64 (plUp st 11 (plIx k1) k0, 0))
def P_RM_arrive_2L100 (st : plS) (v1 : Int32) (v2 : Int32) (k0 : Int32) (k1 : Int32) : Prop := ((plB k0 ∧ vp_in k1 2) ∧ (lpP (G_RM_arrive_2L103 v1 v2) (F_RM_arrive_2L103 v1 v2) 64 (plUp st 11 (plIx k1) k0, 0) ∧ P_RM_arrive_2L103X v1 v2 (lpR (F_RM_arrive_2L103 v1 v2) 64 (plUp st 11 (plIx k1) k0, 0))))
set_option maxRecDepth 20000 in
theorem j_RM_arrive_2L100 {E : plE} (X : plX E b_RM_arrive "ProtectedLineModel" 5 none 1 22) (a : Nat → Nat) (T : Bool × (plS × Int32))  (hb : ∀ (c0 : plS) (c1 : Int32), T = (true, (c0, c1)) → plJ E 5 (plwR (plg E) a c0) 0 0 [(0, .ref (a 0)), (1, .int c1)] 2 []) (hx : ∀ (c0 : plS) (c1 : Int32), T = (false, (c0, c1)) → plJ E 5 (plwR (plg E) a c0) 0 0 [(0, .ref (a 0)), (1, .int c1)] 258 []) (st : plS) (v1 : Int32) (v2 : Int32) (k0 : Int32) (k1 : Int32) (hs : P_RM_arrive_2L100 st v1 v2 k0 k1) (hk : T = K_RM_arrive_2L100 st v1 v2 k0 k1) : plJ E 5 (plwR (plg E) a st) 0 0 [(0, .ref (a 0)), (1, .int v1), (2, .int v2)] 100 [.int k0, .int k1, .ref (a 11)] := by
  unfold P_RM_arrive_2L100 at hs
  unfold K_RM_arrive_2L100 at hk
  refine ast_RMcame (pc := 100) X hs.1 d_RM_arrive_100 ?_
  have hs := hs.2
  refine j_iconst (pc := 101) X d_RM_arrive_101 ic_0 ?_
  refine j_istore_n (pc := 102) X d_RM_arrive_102 rfl (lv' := [(3, .int 0), (0, .ref (a 0)), (1, .int v1), (2, .int v2)]) (Nat.le_of_ble_eq_true rfl) rfl ?_
  refine j_sub [1, 2, 3, 0] (lv' := [(0, .ref (a 0)), (1, .int v1), (2, .int v2), (3, .int 0)]) rfl ?_
  exact lpJ (G_RM_arrive_2L103 v1 v2) (F_RM_arrive_2L103 v1 v2) (fun c => plJ E 5 (plwR (plg E) a c.1) 0 0 [(0, .ref (a 0)), (1, .int v1), (2, .int v2), (3, .int c.2)] 103 []) (fun c => plJ E 5 (plwR (plg E) a c.1) 0 0 [(0, .ref (a 0)), (1, .int v1), (2, .int v2), (3, .int c.2)] 178 []) (fun c hp h1 h2 => j_RM_arrive_2L103L X a (F_RM_arrive_2L103 v1 v2 c) v1 v2 (fun c0 c1 => h1 (c0, c1)) (fun c0 c1 => h2 (c0, c1)) c.1 c.2 hp rfl) 64 (plUp st 11 (plIx k1) k0, 0) hs.1 (j_RM_arrive_2L103X X a T  hb hx v1 v2 (lpR (F_RM_arrive_2L103 v1 v2) 64 (plUp st 11 (plIx k1) k0, 0)) hs.2 hk)
def K_RM_arrive_2L99 (st : plS) (v1 : Int32) (v2 : Int32) (k0 : Int32) : Bool × (plS × Int32) := K_RM_arrive_2L100 st v1 v2 0 k0
def P_RM_arrive_2L99 (st : plS) (v1 : Int32) (v2 : Int32) (k0 : Int32) : Prop := P_RM_arrive_2L100 st v1 v2 0 k0
set_option maxRecDepth 20000 in
theorem j_RM_arrive_2L99 {E : plE} (X : plX E b_RM_arrive "ProtectedLineModel" 5 none 1 22) (a : Nat → Nat) (T : Bool × (plS × Int32))  (hb : ∀ (c0 : plS) (c1 : Int32), T = (true, (c0, c1)) → plJ E 5 (plwR (plg E) a c0) 0 0 [(0, .ref (a 0)), (1, .int c1)] 2 []) (hx : ∀ (c0 : plS) (c1 : Int32), T = (false, (c0, c1)) → plJ E 5 (plwR (plg E) a c0) 0 0 [(0, .ref (a 0)), (1, .int c1)] 258 []) (st : plS) (v1 : Int32) (v2 : Int32) (k0 : Int32) (hs : P_RM_arrive_2L99 st v1 v2 k0) (hk : T = K_RM_arrive_2L99 st v1 v2 k0) : plJ E 5 (plwR (plg E) a st) 0 0 [(0, .ref (a 0)), (1, .int v1), (2, .int v2)] 99 [.int k0, .ref (a 11)] := by
  unfold P_RM_arrive_2L99 at hs
  unfold K_RM_arrive_2L99 at hk
  refine j_iconst (pc := 99) X d_RM_arrive_99 ic_0 ?_
  exact j_RM_arrive_2L100 X a T  hb hx st v1 v2 0 k0 hs hk
def K_RM_arrive_2L28X (v1 : Int32) (c : plS × Int32) : Bool × (plS × Int32) := (if (c.1 8 (plIx v1)) = 0 then (if ((c.1 0 3) - (c.1 1 (plIx v1))) < 1 then K_RM_arrive_2L99 c.1 v1 ((c.1 0 3) - (c.1 1 (plIx v1))) v1 else K_RM_arrive_2L100 c.1 v1 ((c.1 0 3) - (c.1 1 (plIx v1))) 1 v1) else K_RM_arrive_2L99 c.1 v1 ((c.1 0 3) - (c.1 1 (plIx v1))) v1)
def P_RM_arrive_2L28X (v1 : Int32) (c : plS × Int32) : Prop := (vp_in v1 2 ∧ (vp_in v1 2 ∧ (((c.1 8 (plIx v1)) = 0 → ((((c.1 0 3) - (c.1 1 (plIx v1))) < 1 → P_RM_arrive_2L99 c.1 v1 ((c.1 0 3) - (c.1 1 (plIx v1))) v1) ∧ (¬ ((c.1 0 3) - (c.1 1 (plIx v1))) < 1 → P_RM_arrive_2L100 c.1 v1 ((c.1 0 3) - (c.1 1 (plIx v1))) 1 v1))) ∧ (¬ (c.1 8 (plIx v1)) = 0 → P_RM_arrive_2L99 c.1 v1 ((c.1 0 3) - (c.1 1 (plIx v1))) v1))))
set_option maxRecDepth 20000 in
theorem j_RM_arrive_2L28X {E : plE} (X : plX E b_RM_arrive "ProtectedLineModel" 5 none 1 22) (a : Nat → Nat) (T : Bool × (plS × Int32))  (hb : ∀ (c0 : plS) (c1 : Int32), T = (true, (c0, c1)) → plJ E 5 (plwR (plg E) a c0) 0 0 [(0, .ref (a 0)), (1, .int c1)] 2 []) (hx : ∀ (c0 : plS) (c1 : Int32), T = (false, (c0, c1)) → plJ E 5 (plwR (plg E) a c0) 0 0 [(0, .ref (a 0)), (1, .int c1)] 258 []) (v1 : Int32) (c : plS × Int32) (hs : P_RM_arrive_2L28X v1 c) (hk : T = K_RM_arrive_2L28X v1 c) : plJ E 5 (plwR (plg E) a c.1) 0 0 [(0, .ref (a 0)), (1, .int v1), (2, .int c.2)] 64 [] := by
  unfold P_RM_arrive_2L28X at hs
  unfold K_RM_arrive_2L28X at hk
  refine j_aload_n (pc := 64) X d_RM_arrive_64 rfl 0 rfl ?_
  refine get_RM_time (pc := 65) X fl_RM_111 d_RM_arrive_65 ?_
  refine j_aload_n (pc := 68) X d_RM_arrive_68 rfl 0 rfl ?_
  refine get_RM_delay (pc := 69) X fl_RM_7 d_RM_arrive_69 ?_
  refine j_iload_n (pc := 72) X d_RM_arrive_72 rfl 1 rfl ?_
  refine ald_RMdelay (pc := 73) X hs.1 d_RM_arrive_73 ?_
  have hs := hs.2
  refine j_isub (pc := 74) X d_RM_arrive_74 ?_
  refine j_istore_n (pc := 75) X d_RM_arrive_75 rfl (lv' := [(2, .int ((c.1 0 3) - (c.1 1 (plIx v1)))), (0, .ref (a 0)), (1, .int v1)]) (Nat.le_of_ble_eq_true rfl) rfl ?_
  refine j_aload_n (pc := 76) X d_RM_arrive_76 rfl 1 rfl ?_
  refine get_RM_came (pc := 77) X fl_RM_48 d_RM_arrive_77 ?_
  refine j_iload_n (pc := 80) X d_RM_arrive_80 rfl 2 rfl ?_
  refine j_aload_n (pc := 81) X d_RM_arrive_81 rfl 1 rfl ?_
  refine get_RM_cut (pc := 82) X fl_RM_38 d_RM_arrive_82 ?_
  refine j_iload_n (pc := 85) X d_RM_arrive_85 rfl 2 rfl ?_
  refine ald_RMcut (pc := 86) X hs.1 d_RM_arrive_86 ?_
  have hs := hs.2
  refine j_if_ne (pc := 87) (tgt := 99) X d_RM_arrive_87 rfl (fun hc => ?_) (fun hc => ?_)
  · have hk := hk.trans (if_neg hc)
    have hs := hs.2 hc
    refine j_sub [1, 2, 0] (lv' := [(0, .ref (a 0)), (1, .int v1), (2, .int ((c.1 0 3) - (c.1 1 (plIx v1))))]) rfl ?_
    exact j_RM_arrive_2L99 X a T  hb hx c.1 v1 ((c.1 0 3) - (c.1 1 (plIx v1))) v1 hs hk
  · have hk := hk.trans (if_pos hc)
    have hs := hs.1 hc
    refine j_iload_n (pc := 90) X d_RM_arrive_90 rfl 0 rfl ?_
    refine j_iconst (pc := 91) X d_RM_arrive_91 ic_1 ?_
    refine j_icmp_lt (pc := 92) (tgt := 99) X d_RM_arrive_92 rfl (fun hc => ?_) (fun hc => ?_)
    · have hk := hk.trans (if_pos hc)
      have hs := hs.1 hc
      refine j_sub [1, 2, 0] (lv' := [(0, .ref (a 0)), (1, .int v1), (2, .int ((c.1 0 3) - (c.1 1 (plIx v1))))]) rfl ?_
      exact j_RM_arrive_2L99 X a T  hb hx c.1 v1 ((c.1 0 3) - (c.1 1 (plIx v1))) v1 hs hk
    · have hk := hk.trans (if_neg hc)
      have hs := hs.2 hc
      refine j_iconst (pc := 95) X d_RM_arrive_95 ic_1 ?_
      refine j_goto (pc := 96) (tgt := 100) X d_RM_arrive_96 rfl ?_
      refine j_sub [1, 2, 0] (lv' := [(0, .ref (a 0)), (1, .int v1), (2, .int ((c.1 0 3) - (c.1 1 (plIx v1))))]) rfl ?_
      exact j_RM_arrive_2L100 X a T  hb hx c.1 v1 ((c.1 0 3) - (c.1 1 (plIx v1))) 1 v1 hs hk
def K_RM_arrive_2L19 (st : plS) (v1 : Int32) : Bool × (plS × Int32) := K_RM_arrive_2L28X v1 (lpR (F_RM_arrive_2L28 v1) 64 (plUp st 13 (plIx v1) 0, 0))
def P_RM_arrive_2L19 (st : plS) (v1 : Int32) : Prop := (vp_in v1 2 ∧ (lpP (G_RM_arrive_2L28 v1) (F_RM_arrive_2L28 v1) 64 (plUp st 13 (plIx v1) 0, 0) ∧ P_RM_arrive_2L28X v1 (lpR (F_RM_arrive_2L28 v1) 64 (plUp st 13 (plIx v1) 0, 0))))
set_option maxRecDepth 20000 in
theorem j_RM_arrive_2L19 {E : plE} (X : plX E b_RM_arrive "ProtectedLineModel" 5 none 1 22) (a : Nat → Nat) (T : Bool × (plS × Int32))  (hb : ∀ (c0 : plS) (c1 : Int32), T = (true, (c0, c1)) → plJ E 5 (plwR (plg E) a c0) 0 0 [(0, .ref (a 0)), (1, .int c1)] 2 []) (hx : ∀ (c0 : plS) (c1 : Int32), T = (false, (c0, c1)) → plJ E 5 (plwR (plg E) a c0) 0 0 [(0, .ref (a 0)), (1, .int c1)] 258 []) (st : plS) (v1 : Int32) (hs : P_RM_arrive_2L19 st v1) (hk : T = K_RM_arrive_2L19 st v1) : plJ E 5 (plwR (plg E) a st) 0 0 [(0, .ref (a 0)), (1, .int v1)] 19 [] := by
  unfold P_RM_arrive_2L19 at hs
  unfold K_RM_arrive_2L19 at hk
  refine j_aload_n (pc := 19) X d_RM_arrive_19 rfl 0 rfl ?_
  refine get_RM_was (pc := 20) X fl_RM_54 d_RM_arrive_20 ?_
  refine j_iload_n (pc := 23) X d_RM_arrive_23 rfl 1 rfl ?_
  refine j_iconst (pc := 24) X d_RM_arrive_24 ic_0 ?_
  refine ast_RMwas (pc := 25) X hs.1 d_RM_arrive_25 ?_
  have hs := hs.2
  refine j_iconst (pc := 26) X d_RM_arrive_26 ic_0 ?_
  refine j_istore_n (pc := 27) X d_RM_arrive_27 rfl (lv' := [(2, .int 0), (0, .ref (a 0)), (1, .int v1)]) (Nat.le_of_ble_eq_true rfl) rfl ?_
  refine j_sub [1, 2, 0] (lv' := [(0, .ref (a 0)), (1, .int v1), (2, .int 0)]) rfl ?_
  exact lpJ (G_RM_arrive_2L28 v1) (F_RM_arrive_2L28 v1) (fun c => plJ E 5 (plwR (plg E) a c.1) 0 0 [(0, .ref (a 0)), (1, .int v1), (2, .int c.2)] 28 []) (fun c => plJ E 5 (plwR (plg E) a c.1) 0 0 [(0, .ref (a 0)), (1, .int v1), (2, .int c.2)] 64 []) (fun c hp h1 h2 => j_RM_arrive_2L28L X a (F_RM_arrive_2L28 v1 c) v1 (fun c0 c1 => h1 (c0, c1)) (fun c0 c1 => h2 (c0, c1)) c.1 c.2 hp rfl) 64 (plUp st 13 (plIx v1) 0, 0) hs.1 (j_RM_arrive_2L28X X a T  hb hx v1 (lpR (F_RM_arrive_2L28 v1) 64 (plUp st 13 (plIx v1) 0, 0)) hs.2 hk)
def K_RM_arrive_2L (st : plS) (v1 : Int32) : Bool × (plS × Int32) := (if 2 ≤ v1 then (false, (st, v1)) else K_RM_arrive_2L19 (plUp st 12 (plIx v1) (st 11 (plIx v1))) v1)
def P_RM_arrive_2L (st : plS) (v1 : Int32) : Prop := (¬ 2 ≤ v1 → (vp_in v1 2 ∧ ((plB (st 11 (plIx v1)) ∧ vp_in v1 2) ∧ P_RM_arrive_2L19 (plUp st 12 (plIx v1) (st 11 (plIx v1))) v1)))
set_option maxRecDepth 20000 in
theorem j_RM_arrive_2L {E : plE} (X : plX E b_RM_arrive "ProtectedLineModel" 5 none 1 22) (a : Nat → Nat) (T : Bool × (plS × Int32))  (hb : ∀ (c0 : plS) (c1 : Int32), T = (true, (c0, c1)) → plJ E 5 (plwR (plg E) a c0) 0 0 [(0, .ref (a 0)), (1, .int c1)] 2 []) (hx : ∀ (c0 : plS) (c1 : Int32), T = (false, (c0, c1)) → plJ E 5 (plwR (plg E) a c0) 0 0 [(0, .ref (a 0)), (1, .int c1)] 258 []) (st : plS) (v1 : Int32) (hs : P_RM_arrive_2L st v1) (hk : T = K_RM_arrive_2L st v1) : plJ E 5 (plwR (plg E) a st) 0 0 [(0, .ref (a 0)), (1, .int v1)] 2 [] := by
  unfold P_RM_arrive_2L at hs
  unfold K_RM_arrive_2L at hk
  refine j_iload_n (pc := 2) X d_RM_arrive_2 rfl 1 rfl ?_
  refine j_iconst (pc := 3) X d_RM_arrive_3 ic_2 ?_
  refine j_icmp_ge (pc := 4) (tgt := 258) X d_RM_arrive_4 rfl (fun hc => ?_) (fun hc => ?_)
  · have hk := hk.trans (if_pos hc)
    exact hx st v1 hk
  · have hk := hk.trans (if_neg hc)
    have hs := hs hc
    refine j_aload_n (pc := 7) X d_RM_arrive_7 rfl 0 rfl ?_
    refine get_RM_before (pc := 8) X fl_RM_51 d_RM_arrive_8 ?_
    refine j_iload_n (pc := 11) X d_RM_arrive_11 rfl 1 rfl ?_
    refine j_aload_n (pc := 12) X d_RM_arrive_12 rfl 0 rfl ?_
    refine get_RM_came (pc := 13) X fl_RM_48 d_RM_arrive_13 ?_
    refine j_iload_n (pc := 16) X d_RM_arrive_16 rfl 1 rfl ?_
    refine ald_RMcame (pc := 17) X hs.1 d_RM_arrive_17 ?_
    have hs := hs.2
    refine ast_RMbefore (pc := 18) X hs.1 d_RM_arrive_18 ?_
    have hs := hs.2
    exact j_RM_arrive_2L19 X a T  hb hx (plUp st 12 (plIx v1) (st 11 (plIx v1))) v1 hs hk
def F_RM_arrive_2 (c : plS × Int32) : Bool × (plS × Int32) := K_RM_arrive_2L c.1 c.2
def G_RM_arrive_2 (c : plS × Int32) : Prop := P_RM_arrive_2L c.1 c.2
def K_RM_arrive_279 (st : plS) (k0 : Int32) : plS := plUp st 0 33 k0
set_option maxRecDepth 20000 in
theorem j_RM_arrive_279 {E : plE} (X : plX E b_RM_arrive "ProtectedLineModel" 5 none 1 22) (a : Nat → Nat) (T : plS) (hQ : plRv E (plwR (plg E) a) T) (st : plS) (k0 : Int32) (hk : T = K_RM_arrive_279 st k0) : plJ E 5 (plwR (plg E) a st) 0 0 [] 279 [.int k0, .ref (a 0)] := by
  unfold K_RM_arrive_279 at hk
  refine put_RM_failedFor (pc := 279) X fl_RM_193 d_RM_arrive_279 ?_
  exact j_retv (pc := 282) X hQ d_RM_arrive_282 hk
def K_RM_arrive_2X  (c : plS × Int32) : plS := (if (c.1 14 (plIx 0)) = 2 then K_RM_arrive_279 c.1 0 else K_RM_arrive_279 c.1 ((c.1 0 33) + 1))
set_option maxRecDepth 20000 in
theorem j_RM_arrive_2X {E : plE} (X : plX E b_RM_arrive "ProtectedLineModel" 5 none 1 22) (a : Nat → Nat) (T : plS) (hQ : plRv E (plwR (plg E) a) T)  (c : plS × Int32) (hk : T = K_RM_arrive_2X c) : plJ E 5 (plwR (plg E) a c.1) 0 0 [(0, .ref (a 0)), (1, .int c.2)] 258 [] := by
  unfold K_RM_arrive_2X at hk
  refine j_aload_n (pc := 258) X d_RM_arrive_258 rfl 0 rfl ?_
  refine j_aload_n (pc := 259) X d_RM_arrive_259 rfl 0 rfl ?_
  refine get_RM_state (pc := 260) X fl_RM_57 d_RM_arrive_260 ?_
  refine j_iconst (pc := 263) X d_RM_arrive_263 ic_0 ?_
  refine ald_RMstate (pc := 264) X vi_0_2 d_RM_arrive_264 ?_
  refine j_iconst (pc := 265) X d_RM_arrive_265 ic_2 ?_
  refine j_icmp_ne (pc := 266) (tgt := 273) X d_RM_arrive_266 rfl (fun hc => ?_) (fun hc => ?_)
  · have hk := hk.trans (if_neg hc)
    refine j_aload_n (pc := 273) X d_RM_arrive_273 rfl 0 rfl ?_
    refine get_RM_failedFor (pc := 274) X fl_RM_193 d_RM_arrive_274 ?_
    refine j_iconst (pc := 277) X d_RM_arrive_277 ic_1 ?_
    refine j_iadd (pc := 278) X d_RM_arrive_278 ?_
    refine j_sub [] (lv' := []) rfl ?_
    exact j_RM_arrive_279 X a T hQ c.1 ((c.1 0 33) + 1) hk
  · have hk := hk.trans (if_pos hc)
    refine j_iconst (pc := 269) X d_RM_arrive_269 ic_0 ?_
    refine j_goto (pc := 270) (tgt := 279) X d_RM_arrive_270 rfl ?_
    refine j_sub [] (lv' := []) rfl ?_
    exact j_RM_arrive_279 X a T hQ c.1 0 hk
def K_RM_arrive (st : plS) : plS := K_RM_arrive_2X (lpR (F_RM_arrive_2) 64 (st, 0))
def P_RM_arrive (st : plS) : Prop := lpP (G_RM_arrive_2) (F_RM_arrive_2) 64 (st, 0)
set_option maxRecDepth 20000 in
theorem j_RM_arrive {E : plE} (X : plX E b_RM_arrive "ProtectedLineModel" 5 none 1 22) (a : Nat → Nat) (T : plS) (hQ : plRv E (plwR (plg E) a) T) (st : plS)  (hs : P_RM_arrive st) (hk : T = K_RM_arrive st) : plJ E 5 (plwR (plg E) a st) 0 0 [(0, .ref (a 0))] 0 [] := by
  unfold P_RM_arrive at hs
  unfold K_RM_arrive at hk
  refine j_iconst (pc := 0) X d_RM_arrive_0 ic_0 ?_
  refine j_istore_n (pc := 1) X d_RM_arrive_1 rfl (lv' := [(1, .int 0), (0, .ref (a 0))]) (Nat.le_of_ble_eq_true rfl) rfl ?_
  refine j_sub [1, 0] (lv' := [(0, .ref (a 0)), (1, .int 0)]) rfl ?_
  exact lpJ (G_RM_arrive_2) (F_RM_arrive_2) (fun c => plJ E 5 (plwR (plg E) a c.1) 0 0 [(0, .ref (a 0)), (1, .int c.2)] 2 []) (fun c => plJ E 5 (plwR (plg E) a c.1) 0 0 [(0, .ref (a 0)), (1, .int c.2)] 258 []) (fun c hp h1 h2 => j_RM_arrive_2L X a (F_RM_arrive_2 c) (fun c0 c1 => h1 (c0, c1)) (fun c0 c1 => h2 (c0, c1)) c.1 c.2 hp rfl) 64 (st, 0) hs (j_RM_arrive_2X X a T hQ (lpR (F_RM_arrive_2) 64 (st, 0)) hk)
set_option maxRecDepth 20000 in
theorem c_RM_arrive (g : plG) (a : Nat → Nat) (st : plS)  (hs : P_RM_arrive st ) : plMv g y_RM_arrive b_RM_arrive 5 none 1 22 [.ref (a 0)] (plwR g a) st (K_RM_arrive st ) := by
  refine plMv.of (own := "ProtectedLineModel") (lv := [(0, .ref (a 0))]) rfl rfl (Nat.le_of_ble_eq_true rfl) rfl (fun E hE X hQ => ?_)
  subst hE
  exact j_RM_arrive X a _ hQ st  hs rfl
