theorem d_RM_put_0 : decode b_RM_put 0 = .ok (.bipush (12), 2) := by decide +kernel
theorem d_RM_put_2 : decode b_RM_put 2 = .ok (.bipush (8), 2) := by decide +kernel
theorem d_RM_put_4 : decode b_RM_put 4 = .ok (.iload_n 1, 1) := by decide +kernel
theorem d_RM_put_5 : decode b_RM_put 5 = .ok (.imul, 1) := by decide +kernel
theorem d_RM_put_6 : decode b_RM_put 6 = .ok (.aload_n 0, 1) := by decide +kernel
theorem d_RM_put_7 : decode b_RM_put 7 = .ok (.getfield 111, 3) := by decide +kernel
theorem d_RM_put_10 : decode b_RM_put 10 = .ok (.bipush (7), 2) := by decide +kernel
theorem d_RM_put_12 : decode b_RM_put 12 = .ok (.iand, 1) := by decide +kernel
theorem d_RM_put_13 : decode b_RM_put 13 = .ok (.iadd, 1) := by decide +kernel
theorem d_RM_put_14 : decode b_RM_put 14 = .ok (.imul, 1) := by decide +kernel
theorem d_RM_put_15 : decode b_RM_put 15 = .ok (.istore_n 2, 1) := by decide +kernel
theorem d_RM_put_16 : decode b_RM_put 16 = .ok (.bipush (12), 2) := by decide +kernel
theorem d_RM_put_18 : decode b_RM_put 18 = .ok (.bipush (8), 2) := by decide +kernel
theorem d_RM_put_20 : decode b_RM_put 20 = .ok (.iload_n 1, 1) := by decide +kernel
theorem d_RM_put_21 : decode b_RM_put 21 = .ok (.imul, 1) := by decide +kernel
theorem d_RM_put_22 : decode b_RM_put 22 = .ok (.aload_n 0, 1) := by decide +kernel
theorem d_RM_put_23 : decode b_RM_put 23 = .ok (.getfield 111, 3) := by decide +kernel
theorem d_RM_put_26 : decode b_RM_put 26 = .ok (.iconst 1, 1) := by decide +kernel
theorem d_RM_put_27 : decode b_RM_put 27 = .ok (.isub, 1) := by decide +kernel
theorem d_RM_put_28 : decode b_RM_put 28 = .ok (.bipush (7), 2) := by decide +kernel
theorem d_RM_put_30 : decode b_RM_put 30 = .ok (.iand, 1) := by decide +kernel
theorem d_RM_put_31 : decode b_RM_put 31 = .ok (.iadd, 1) := by decide +kernel
theorem d_RM_put_32 : decode b_RM_put 32 = .ok (.imul, 1) := by decide +kernel
theorem d_RM_put_33 : decode b_RM_put 33 = .ok (.istore_n 3, 1) := by decide +kernel
theorem d_RM_put_34 : decode b_RM_put 34 = .ok (.iconst 0, 1) := by decide +kernel
theorem d_RM_put_35 : decode b_RM_put 35 = .ok (.istore 4, 2) := by decide +kernel
theorem d_RM_put_37 : decode b_RM_put 37 = .ok (.iconst 0, 1) := by decide +kernel
theorem d_RM_put_38 : decode b_RM_put 38 = .ok (.istore 5, 2) := by decide +kernel
theorem d_RM_put_40 : decode b_RM_put 40 = .ok (.iload 5, 2) := by decide +kernel
theorem d_RM_put_42 : decode b_RM_put 42 = .ok (.bipush (12), 2) := by decide +kernel
theorem d_RM_put_44 : decode b_RM_put 44 = .ok (.if_icmp .ge (31), 3) := by decide +kernel
theorem d_RM_put_47 : decode b_RM_put 47 = .ok (.aload_n 0, 1) := by decide +kernel
theorem d_RM_put_48 : decode b_RM_put 48 = .ok (.getfield 111, 3) := by decide +kernel
theorem d_RM_put_51 : decode b_RM_put 51 = .ok (.iconst 1, 1) := by decide +kernel
theorem d_RM_put_52 : decode b_RM_put 52 = .ok (.if_icmp .le (23), 3) := by decide +kernel
theorem d_RM_put_55 : decode b_RM_put 55 = .ok (.iload 4, 2) := by decide +kernel
theorem d_RM_put_57 : decode b_RM_put 57 = .ok (.aload_n 0, 1) := by decide +kernel
theorem d_RM_put_58 : decode b_RM_put 58 = .ok (.getfield 26, 3) := by decide +kernel
theorem d_RM_put_61 : decode b_RM_put 61 = .ok (.iload_n 3, 1) := by decide +kernel
theorem d_RM_put_62 : decode b_RM_put 62 = .ok (.iload 5, 2) := by decide +kernel
theorem d_RM_put_64 : decode b_RM_put 64 = .ok (.iadd, 1) := by decide +kernel
theorem d_RM_put_65 : decode b_RM_put 65 = .ok (.iaload, 1) := by decide +kernel
theorem d_RM_put_66 : decode b_RM_put 66 = .ok (.ixor, 1) := by decide +kernel
theorem d_RM_put_67 : decode b_RM_put 67 = .ok (.istore 4, 2) := by decide +kernel
theorem d_RM_put_69 : decode b_RM_put 69 = .ok (.iinc 5 (1), 3) := by decide +kernel
theorem d_RM_put_72 : decode b_RM_put 72 = .ok (.goto (-32), 3) := by decide +kernel
theorem d_RM_put_75 : decode b_RM_put 75 = .ok (.iconst 0, 1) := by decide +kernel
theorem d_RM_put_76 : decode b_RM_put 76 = .ok (.istore 5, 2) := by decide +kernel
theorem d_RM_put_78 : decode b_RM_put 78 = .ok (.iload 5, 2) := by decide +kernel
theorem d_RM_put_80 : decode b_RM_put 80 = .ok (.bipush (12), 2) := by decide +kernel
theorem d_RM_put_82 : decode b_RM_put 82 = .ok (.if_icmp .ge (113), 3) := by decide +kernel
theorem d_RM_put_85 : decode b_RM_put 85 = .ok (.iload_n 1, 1) := by decide +kernel
theorem d_RM_put_86 : decode b_RM_put 86 = .ok (.iconst 1, 1) := by decide +kernel
theorem d_RM_put_87 : decode b_RM_put 87 = .ok (.if_icmp .ne (22), 3) := by decide +kernel
theorem d_RM_put_90 : decode b_RM_put 90 = .ok (.iload 5, 2) := by decide +kernel
theorem d_RM_put_92 : decode b_RM_put 92 = .ok (.iconst 4, 1) := by decide +kernel
theorem d_RM_put_93 : decode b_RM_put 93 = .ok (.if_icmp .lt (16), 3) := by decide +kernel
theorem d_RM_put_96 : decode b_RM_put 96 = .ok (.aload_n 0, 1) := by decide +kernel
theorem d_RM_put_97 : decode b_RM_put 97 = .ok (.getfield 144, 3) := by decide +kernel
theorem d_RM_put_100 : decode b_RM_put 100 = .ok (.ifCond .ne (9), 3) := by decide +kernel
theorem d_RM_put_103 : decode b_RM_put 103 = .ok (.sipush (255), 3) := by decide +kernel
theorem d_RM_put_106 : decode b_RM_put 106 = .ok (.goto (10), 3) := by decide +kernel
theorem d_RM_put_109 : decode b_RM_put 109 = .ok (.aload_n 0, 1) := by decide +kernel
theorem d_RM_put_110 : decode b_RM_put 110 = .ok (.getfield 35, 3) := by decide +kernel
theorem d_RM_put_113 : decode b_RM_put 113 = .ok (.iload 5, 2) := by decide +kernel
theorem d_RM_put_115 : decode b_RM_put 115 = .ok (.iaload, 1) := by decide +kernel
theorem d_RM_put_116 : decode b_RM_put 116 = .ok (.istore 6, 2) := by decide +kernel
theorem d_RM_put_118 : decode b_RM_put 118 = .ok (.iload 5, 2) := by decide +kernel
theorem d_RM_put_120 : decode b_RM_put 120 = .ok (.iconst 2, 1) := by decide +kernel
theorem d_RM_put_121 : decode b_RM_put 121 = .ok (.if_icmp .ne (8), 3) := by decide +kernel
theorem d_RM_put_124 : decode b_RM_put 124 = .ok (.iload 4, 2) := by decide +kernel
theorem d_RM_put_126 : decode b_RM_put 126 = .ok (.goto (42), 3) := by decide +kernel
theorem d_RM_put_129 : decode b_RM_put 129 = .ok (.iload 5, 2) := by decide +kernel
theorem d_RM_put_131 : decode b_RM_put 131 = .ok (.iconst 3, 1) := by decide +kernel
theorem d_RM_put_132 : decode b_RM_put 132 = .ok (.if_icmp .ne (34), 3) := by decide +kernel
theorem d_RM_put_135 : decode b_RM_put 135 = .ok (.iload_n 1, 1) := by decide +kernel
theorem d_RM_put_136 : decode b_RM_put 136 = .ok (.ifCond .ne (7), 3) := by decide +kernel
theorem d_RM_put_139 : decode b_RM_put 139 = .ok (.iconst 0, 1) := by decide +kernel
theorem d_RM_put_140 : decode b_RM_put 140 = .ok (.goto (28), 3) := by decide +kernel
theorem d_RM_put_143 : decode b_RM_put 143 = .ok (.bipush (16), 2) := by decide +kernel
theorem d_RM_put_145 : decode b_RM_put 145 = .ok (.aload_n 0, 1) := by decide +kernel
theorem d_RM_put_146 : decode b_RM_put 146 = .ok (.getfield 141, 3) := by decide +kernel
theorem d_RM_put_149 : decode b_RM_put 149 = .ok (.imul, 1) := by decide +kernel
theorem d_RM_put_150 : decode b_RM_put 150 = .ok (.aload_n 0, 1) := by decide +kernel
theorem d_RM_put_151 : decode b_RM_put 151 = .ok (.getfield 144, 3) := by decide +kernel
theorem d_RM_put_154 : decode b_RM_put 154 = .ok (.ifCond .eq (7), 3) := by decide +kernel
theorem d_RM_put_157 : decode b_RM_put 157 = .ok (.iconst 1, 1) := by decide +kernel
theorem d_RM_put_158 : decode b_RM_put 158 = .ok (.goto (4), 3) := by decide +kernel
theorem d_RM_put_161 : decode b_RM_put 161 = .ok (.iconst 0, 1) := by decide +kernel
theorem d_RM_put_162 : decode b_RM_put 162 = .ok (.iadd, 1) := by decide +kernel
theorem d_RM_put_163 : decode b_RM_put 163 = .ok (.goto (5), 3) := by decide +kernel
theorem d_RM_put_166 : decode b_RM_put 166 = .ok (.iload 6, 2) := by decide +kernel
theorem d_RM_put_168 : decode b_RM_put 168 = .ok (.istore 6, 2) := by decide +kernel
theorem d_RM_put_170 : decode b_RM_put 170 = .ok (.aload_n 0, 1) := by decide +kernel
theorem d_RM_put_171 : decode b_RM_put 171 = .ok (.getfield 26, 3) := by decide +kernel
theorem d_RM_put_174 : decode b_RM_put 174 = .ok (.iload_n 2, 1) := by decide +kernel
theorem d_RM_put_175 : decode b_RM_put 175 = .ok (.iload 5, 2) := by decide +kernel
theorem d_RM_put_177 : decode b_RM_put 177 = .ok (.iadd, 1) := by decide +kernel
theorem d_RM_put_178 : decode b_RM_put 178 = .ok (.iload 6, 2) := by decide +kernel
theorem d_RM_put_180 : decode b_RM_put 180 = .ok (.aload_n 0, 1) := by decide +kernel
theorem d_RM_put_181 : decode b_RM_put 181 = .ok (.getfield 32, 3) := by decide +kernel
theorem d_RM_put_184 : decode b_RM_put 184 = .ok (.iload 5, 2) := by decide +kernel
theorem d_RM_put_186 : decode b_RM_put 186 = .ok (.iaload, 1) := by decide +kernel
theorem d_RM_put_187 : decode b_RM_put 187 = .ok (.ixor, 1) := by decide +kernel
theorem d_RM_put_188 : decode b_RM_put 188 = .ok (.iastore, 1) := by decide +kernel
theorem d_RM_put_189 : decode b_RM_put 189 = .ok (.iinc 5 (1), 3) := by decide +kernel
theorem d_RM_put_192 : decode b_RM_put 192 = .ok (.goto (-114), 3) := by decide +kernel
theorem d_RM_put_195 : decode b_RM_put 195 = .ok (.return_, 1) := by decide +kernel
def K_RM_put_40L (st : plS) (v1 : Int32) (v2 : Int32) (v3 : Int32) (v4 : Int32) (v5 : Int32) : Bool × (Int32 × Int32) := (if 12 ≤ v5 then (false, (v4, v5)) else (if (st 0 3) ≤ 1 then (false, (v4, v5)) else (true, (v4 ^^^ (st 4 (plIx (v3 + v5))), v5 + 1))))
def P_RM_put_40L (st : plS) (v1 : Int32) (v2 : Int32) (v3 : Int32) (v4 : Int32) (v5 : Int32) : Prop := (¬ 12 ≤ v5 → (¬ (st 0 3) ≤ 1 → vp_in (v3 + v5) 192))
set_option maxRecDepth 20000 in
theorem j_RM_put_40L {E : plE} (X : plX E b_RM_put "ProtectedLineModel" 7 none 0 0) (a : Nat → Nat) (T : Bool × (Int32 × Int32)) (st : plS) (v1 : Int32) (v2 : Int32) (v3 : Int32) (hb : ∀ (c0 : Int32) (c1 : Int32), T = (true, (c0, c1)) → plJ E 7 (plwR (plg E) a st) 0 0 [(0, .ref (a 0)), (1, .int v1), (2, .int v2), (3, .int v3), (4, .int c0), (5, .int c1)] 40 []) (hx : ∀ (c0 : Int32) (c1 : Int32), T = (false, (c0, c1)) → plJ E 7 (plwR (plg E) a st) 0 0 [(0, .ref (a 0)), (1, .int v1), (2, .int v2), (3, .int v3), (4, .int c0), (5, .int c1)] 75 []) (v4 : Int32) (v5 : Int32) (hs : P_RM_put_40L st v1 v2 v3 v4 v5) (hk : T = K_RM_put_40L st v1 v2 v3 v4 v5) : plJ E 7 (plwR (plg E) a st) 0 0 [(0, .ref (a 0)), (1, .int v1), (2, .int v2), (3, .int v3), (4, .int v4), (5, .int v5)] 40 [] := by
  unfold P_RM_put_40L at hs
  unfold K_RM_put_40L at hk
  refine j_iload (pc := 40) X d_RM_put_40 5 rfl ?_
  refine j_bipush (pc := 42) X d_RM_put_42 bp_12 ?_
  refine j_icmp_ge (pc := 44) (tgt := 75) X d_RM_put_44 rfl (fun hc => ?_) (fun hc => ?_)
  · have hk := hk.trans (if_pos hc)
    exact hx v4 v5 hk
  · have hk := hk.trans (if_neg hc)
    have hs := hs hc
    refine j_aload_n (pc := 47) X d_RM_put_47 rfl 0 rfl ?_
    refine get_RM_time (pc := 48) X fl_RM_111 d_RM_put_48 ?_
    refine j_iconst (pc := 51) X d_RM_put_51 ic_1 ?_
    refine j_icmp_le (pc := 52) (tgt := 75) X d_RM_put_52 rfl (fun hc => ?_) (fun hc => ?_)
    · have hk := hk.trans (if_pos hc)
      exact hx v4 v5 hk
    · have hk := hk.trans (if_neg hc)
      have hs := hs hc
      refine j_iload (pc := 55) X d_RM_put_55 4 rfl ?_
      refine j_aload_n (pc := 57) X d_RM_put_57 rfl 0 rfl ?_
      refine get_RM_sent (pc := 58) X fl_RM_26 d_RM_put_58 ?_
      refine j_iload_n (pc := 61) X d_RM_put_61 rfl 3 rfl ?_
      refine j_iload (pc := 62) X d_RM_put_62 5 rfl ?_
      refine j_iadd (pc := 64) X d_RM_put_64 ?_
      refine ald_RMsent (pc := 65) X hs d_RM_put_65 ?_
      refine j_ixor (pc := 66) X d_RM_put_66 ?_
      refine j_istore (pc := 67) X d_RM_put_67 (lv' := [(4, .int (v4 ^^^ (st 4 (plIx (v3 + v5))))), (0, .ref (a 0)), (1, .int v1), (2, .int v2), (3, .int v3), (5, .int v5)]) (Nat.le_of_ble_eq_true rfl) rfl ?_
      refine j_iinc (pc := 69) X d_RM_put_69 5 rfl ic_1 (lv' := [(5, .int (v5 + 1)), (4, .int (v4 ^^^ (st 4 (plIx (v3 + v5))))), (0, .ref (a 0)), (1, .int v1), (2, .int v2), (3, .int v3)]) (Nat.le_of_ble_eq_true rfl) rfl ?_
      refine j_goto (pc := 72) (tgt := 40) X d_RM_put_72 rfl ?_
      refine j_sub [2, 3, 4, 5, 1, 0] (lv' := [(0, .ref (a 0)), (1, .int v1), (2, .int v2), (3, .int v3), (4, .int (v4 ^^^ (st 4 (plIx (v3 + v5))))), (5, .int (v5 + 1))]) rfl ?_
      exact hb (v4 ^^^ (st 4 (plIx (v3 + v5)))) (v5 + 1) hk
def F_RM_put_40 (st : plS) (v1 : Int32) (v2 : Int32) (v3 : Int32) (c : Int32 × Int32) : Bool × (Int32 × Int32) := K_RM_put_40L st v1 v2 v3 c.1 c.2
def G_RM_put_40 (st : plS) (v1 : Int32) (v2 : Int32) (v3 : Int32) (c : Int32 × Int32) : Prop := P_RM_put_40L st v1 v2 v3 c.1 c.2
def K_RM_put_78L168 (st : plS) (v1 : Int32) (v2 : Int32) (v4 : Int32) (v5 : Int32) (k0 : Int32) : Bool × (plS × Int32) := (true, (plUp st 4 (plIx (v2 + v5)) (k0 ^^^ (st 6 (plIx v5))), v5 + 1))
def P_RM_put_78L168 (st : plS) (v1 : Int32) (v2 : Int32) (v4 : Int32) (v5 : Int32) (k0 : Int32) : Prop := (vp_in v5 12 ∧ vp_in (v2 + v5) 192)
set_option maxRecDepth 20000 in
theorem j_RM_put_78L168 {E : plE} (X : plX E b_RM_put "ProtectedLineModel" 7 none 0 0) (a : Nat → Nat) (T : Bool × (plS × Int32)) (v1 : Int32) (v2 : Int32) (v4 : Int32) (hb : ∀ (c0 : plS) (c1 : Int32), T = (true, (c0, c1)) → plJ E 7 (plwR (plg E) a c0) 0 0 [(0, .ref (a 0)), (1, .int v1), (2, .int v2), (4, .int v4), (5, .int c1)] 78 []) (hx : ∀ (c0 : plS) (c1 : Int32), T = (false, (c0, c1)) → plJ E 7 (plwR (plg E) a c0) 0 0 [(0, .ref (a 0)), (1, .int v1), (2, .int v2), (4, .int v4), (5, .int c1)] 195 []) (st : plS) (v5 : Int32) (k0 : Int32) (hs : P_RM_put_78L168 st v1 v2 v4 v5 k0) (hk : T = K_RM_put_78L168 st v1 v2 v4 v5 k0) : plJ E 7 (plwR (plg E) a st) 0 0 [(0, .ref (a 0)), (1, .int v1), (2, .int v2), (4, .int v4), (5, .int v5)] 168 [.int k0] := by
  unfold P_RM_put_78L168 at hs
  unfold K_RM_put_78L168 at hk
  refine j_istore (pc := 168) X d_RM_put_168 (lv' := [(6, .int k0), (0, .ref (a 0)), (1, .int v1), (2, .int v2), (4, .int v4), (5, .int v5)]) (Nat.le_of_ble_eq_true rfl) rfl ?_
  refine j_aload_n (pc := 170) X d_RM_put_170 rfl 1 rfl ?_
  refine get_RM_sent (pc := 171) X fl_RM_26 d_RM_put_171 ?_
  refine j_iload_n (pc := 174) X d_RM_put_174 rfl 3 rfl ?_
  refine j_iload (pc := 175) X d_RM_put_175 5 rfl ?_
  refine j_iadd (pc := 177) X d_RM_put_177 ?_
  refine j_iload (pc := 178) X d_RM_put_178 0 rfl ?_
  refine j_aload_n (pc := 180) X d_RM_put_180 rfl 1 rfl ?_
  refine get_RM_row (pc := 181) X fl_RM_32 d_RM_put_181 ?_
  refine j_iload (pc := 184) X d_RM_put_184 5 rfl ?_
  refine ald_RMrow (pc := 186) X hs.1 d_RM_put_186 ?_
  have hs := hs.2
  refine j_ixor (pc := 187) X d_RM_put_187 ?_
  refine ast_RMsent (pc := 188) X hs d_RM_put_188 ?_
  refine j_iinc (pc := 189) X d_RM_put_189 5 rfl ic_1 (lv' := [(5, .int (v5 + 1)), (6, .int k0), (0, .ref (a 0)), (1, .int v1), (2, .int v2), (4, .int v4)]) (Nat.le_of_ble_eq_true rfl) rfl ?_
  refine j_goto (pc := 192) (tgt := 78) X d_RM_put_192 rfl ?_
  refine j_sub [2, 3, 4, 5, 0] (lv' := [(0, .ref (a 0)), (1, .int v1), (2, .int v2), (4, .int v4), (5, .int (v5 + 1))]) rfl ?_
  exact hb (plUp st 4 (plIx (v2 + v5)) (k0 ^^^ (st 6 (plIx v5)))) (v5 + 1) hk
def K_RM_put_78L162 (st : plS) (v1 : Int32) (v2 : Int32) (v4 : Int32) (v5 : Int32) (k0 : Int32) (k1 : Int32) : Bool × (plS × Int32) := K_RM_put_78L168 st v1 v2 v4 v5 (k1 + k0)
def P_RM_put_78L162 (st : plS) (v1 : Int32) (v2 : Int32) (v4 : Int32) (v5 : Int32) (k0 : Int32) (k1 : Int32) : Prop := P_RM_put_78L168 st v1 v2 v4 v5 (k1 + k0)
set_option maxRecDepth 20000 in
theorem j_RM_put_78L162 {E : plE} (X : plX E b_RM_put "ProtectedLineModel" 7 none 0 0) (a : Nat → Nat) (T : Bool × (plS × Int32)) (v1 : Int32) (v2 : Int32) (v4 : Int32) (hb : ∀ (c0 : plS) (c1 : Int32), T = (true, (c0, c1)) → plJ E 7 (plwR (plg E) a c0) 0 0 [(0, .ref (a 0)), (1, .int v1), (2, .int v2), (4, .int v4), (5, .int c1)] 78 []) (hx : ∀ (c0 : plS) (c1 : Int32), T = (false, (c0, c1)) → plJ E 7 (plwR (plg E) a c0) 0 0 [(0, .ref (a 0)), (1, .int v1), (2, .int v2), (4, .int v4), (5, .int c1)] 195 []) (st : plS) (v5 : Int32) (k0 : Int32) (k1 : Int32) (hs : P_RM_put_78L162 st v1 v2 v4 v5 k0 k1) (hk : T = K_RM_put_78L162 st v1 v2 v4 v5 k0 k1) : plJ E 7 (plwR (plg E) a st) 0 0 [(0, .ref (a 0)), (1, .int v1), (2, .int v2), (4, .int v4), (5, .int v5)] 162 [.int k0, .int k1] := by
  unfold P_RM_put_78L162 at hs
  unfold K_RM_put_78L162 at hk
  refine j_iadd (pc := 162) X d_RM_put_162 ?_
  refine j_goto (pc := 163) (tgt := 168) X d_RM_put_163 rfl ?_
  exact j_RM_put_78L168 X a T v1 v2 v4 hb hx st v5 (k1 + k0) hs hk
def K_RM_put_78L116 (st : plS) (v1 : Int32) (v2 : Int32) (v4 : Int32) (v5 : Int32) (k0 : Int32) : Bool × (plS × Int32) := (if v5 = 2 then K_RM_put_78L168 st v1 v2 v4 v5 v4 else (if v5 = 3 then (if v1 = 0 then K_RM_put_78L168 st v1 v2 v4 v5 0 else (if (st 0 16) = 0 then K_RM_put_78L162 st v1 v2 v4 v5 0 (16 * (st 0 17)) else K_RM_put_78L162 st v1 v2 v4 v5 1 (16 * (st 0 17)))) else K_RM_put_78L168 st v1 v2 v4 v5 k0))
def P_RM_put_78L116 (st : plS) (v1 : Int32) (v2 : Int32) (v4 : Int32) (v5 : Int32) (k0 : Int32) : Prop := ((v5 = 2 → P_RM_put_78L168 st v1 v2 v4 v5 v4) ∧ (¬ v5 = 2 → ((v5 = 3 → ((v1 = 0 → P_RM_put_78L168 st v1 v2 v4 v5 0) ∧ (¬ v1 = 0 → (((st 0 16) = 0 → P_RM_put_78L162 st v1 v2 v4 v5 0 (16 * (st 0 17))) ∧ (¬ (st 0 16) = 0 → P_RM_put_78L162 st v1 v2 v4 v5 1 (16 * (st 0 17))))))) ∧ (¬ v5 = 3 → P_RM_put_78L168 st v1 v2 v4 v5 k0))))
set_option maxRecDepth 20000 in
theorem j_RM_put_78L116 {E : plE} (X : plX E b_RM_put "ProtectedLineModel" 7 none 0 0) (a : Nat → Nat) (T : Bool × (plS × Int32)) (v1 : Int32) (v2 : Int32) (v4 : Int32) (hb : ∀ (c0 : plS) (c1 : Int32), T = (true, (c0, c1)) → plJ E 7 (plwR (plg E) a c0) 0 0 [(0, .ref (a 0)), (1, .int v1), (2, .int v2), (4, .int v4), (5, .int c1)] 78 []) (hx : ∀ (c0 : plS) (c1 : Int32), T = (false, (c0, c1)) → plJ E 7 (plwR (plg E) a c0) 0 0 [(0, .ref (a 0)), (1, .int v1), (2, .int v2), (4, .int v4), (5, .int c1)] 195 []) (st : plS) (v5 : Int32) (k0 : Int32) (hs : P_RM_put_78L116 st v1 v2 v4 v5 k0) (hk : T = K_RM_put_78L116 st v1 v2 v4 v5 k0) : plJ E 7 (plwR (plg E) a st) 0 0 [(0, .ref (a 0)), (1, .int v1), (2, .int v2), (4, .int v4), (5, .int v5)] 116 [.int k0] := by
  unfold P_RM_put_78L116 at hs
  unfold K_RM_put_78L116 at hk
  refine j_istore (pc := 116) X d_RM_put_116 (lv' := [(6, .int k0), (0, .ref (a 0)), (1, .int v1), (2, .int v2), (4, .int v4), (5, .int v5)]) (Nat.le_of_ble_eq_true rfl) rfl ?_
  refine j_iload (pc := 118) X d_RM_put_118 5 rfl ?_
  refine j_iconst (pc := 120) X d_RM_put_120 ic_2 ?_
  refine j_icmp_ne (pc := 121) (tgt := 129) X d_RM_put_121 rfl (fun hc => ?_) (fun hc => ?_)
  · have hk := hk.trans (if_neg hc)
    have hs := hs.2 hc
    refine j_iload (pc := 129) X d_RM_put_129 5 rfl ?_
    refine j_iconst (pc := 131) X d_RM_put_131 ic_3 ?_
    refine j_icmp_ne (pc := 132) (tgt := 166) X d_RM_put_132 rfl (fun hc => ?_) (fun hc => ?_)
    · have hk := hk.trans (if_neg hc)
      have hs := hs.2 hc
      refine j_iload (pc := 166) X d_RM_put_166 0 rfl ?_
      refine j_sub [1, 2, 3, 4, 5] (lv' := [(0, .ref (a 0)), (1, .int v1), (2, .int v2), (4, .int v4), (5, .int v5)]) rfl ?_
      exact j_RM_put_78L168 X a T v1 v2 v4 hb hx st v5 k0 hs hk
    · have hk := hk.trans (if_pos hc)
      have hs := hs.1 hc
      refine j_iload_n (pc := 135) X d_RM_put_135 rfl 2 rfl ?_
      refine j_if_ne (pc := 136) (tgt := 143) X d_RM_put_136 rfl (fun hc => ?_) (fun hc => ?_)
      · have hk := hk.trans (if_neg hc)
        have hs := hs.2 hc
        refine j_bipush (pc := 143) X d_RM_put_143 bp_16 ?_
        refine j_aload_n (pc := 145) X d_RM_put_145 rfl 1 rfl ?_
        refine get_RM_acceptedA (pc := 146) X fl_RM_141 d_RM_put_146 ?_
        refine j_imul (pc := 149) X d_RM_put_149 ?_
        refine j_aload_n (pc := 150) X d_RM_put_150 rfl 1 rfl ?_
        refine get_RM_bridge (pc := 151) X fl_RM_144 d_RM_put_151 ?_
        refine j_if_eq (pc := 154) (tgt := 161) X d_RM_put_154 rfl (fun hc => ?_) (fun hc => ?_)
        · have hk := hk.trans (if_pos hc)
          have hs := hs.1 hc
          refine j_iconst (pc := 161) X d_RM_put_161 ic_0 ?_
          refine j_sub [1, 2, 3, 4, 5] (lv' := [(0, .ref (a 0)), (1, .int v1), (2, .int v2), (4, .int v4), (5, .int v5)]) rfl ?_
          exact j_RM_put_78L162 X a T v1 v2 v4 hb hx st v5 0 (16 * (st 0 17)) hs hk
        · have hk := hk.trans (if_neg hc)
          have hs := hs.2 hc
          refine j_iconst (pc := 157) X d_RM_put_157 ic_1 ?_
          refine j_goto (pc := 158) (tgt := 162) X d_RM_put_158 rfl ?_
          refine j_sub [1, 2, 3, 4, 5] (lv' := [(0, .ref (a 0)), (1, .int v1), (2, .int v2), (4, .int v4), (5, .int v5)]) rfl ?_
          exact j_RM_put_78L162 X a T v1 v2 v4 hb hx st v5 1 (16 * (st 0 17)) hs hk
      · have hk := hk.trans (if_pos hc)
        have hs := hs.1 hc
        refine j_iconst (pc := 139) X d_RM_put_139 ic_0 ?_
        refine j_goto (pc := 140) (tgt := 168) X d_RM_put_140 rfl ?_
        refine j_sub [1, 2, 3, 4, 5] (lv' := [(0, .ref (a 0)), (1, .int v1), (2, .int v2), (4, .int v4), (5, .int v5)]) rfl ?_
        exact j_RM_put_78L168 X a T v1 v2 v4 hb hx st v5 0 hs hk
  · have hk := hk.trans (if_pos hc)
    have hs := hs.1 hc
    refine j_iload (pc := 124) X d_RM_put_124 4 rfl ?_
    refine j_goto (pc := 126) (tgt := 168) X d_RM_put_126 rfl ?_
    refine j_sub [1, 2, 3, 4, 5] (lv' := [(0, .ref (a 0)), (1, .int v1), (2, .int v2), (4, .int v4), (5, .int v5)]) rfl ?_
    exact j_RM_put_78L168 X a T v1 v2 v4 hb hx st v5 v4 hs hk
def K_RM_put_78L109 (st : plS) (v1 : Int32) (v2 : Int32) (v4 : Int32) (v5 : Int32) : Bool × (plS × Int32) := K_RM_put_78L116 st v1 v2 v4 v5 (st 7 (plIx v5))
def P_RM_put_78L109 (st : plS) (v1 : Int32) (v2 : Int32) (v4 : Int32) (v5 : Int32) : Prop := (vp_in v5 12 ∧ P_RM_put_78L116 st v1 v2 v4 v5 (st 7 (plIx v5)))
set_option maxRecDepth 20000 in
theorem j_RM_put_78L109 {E : plE} (X : plX E b_RM_put "ProtectedLineModel" 7 none 0 0) (a : Nat → Nat) (T : Bool × (plS × Int32)) (v1 : Int32) (v2 : Int32) (v4 : Int32) (hb : ∀ (c0 : plS) (c1 : Int32), T = (true, (c0, c1)) → plJ E 7 (plwR (plg E) a c0) 0 0 [(0, .ref (a 0)), (1, .int v1), (2, .int v2), (4, .int v4), (5, .int c1)] 78 []) (hx : ∀ (c0 : plS) (c1 : Int32), T = (false, (c0, c1)) → plJ E 7 (plwR (plg E) a c0) 0 0 [(0, .ref (a 0)), (1, .int v1), (2, .int v2), (4, .int v4), (5, .int c1)] 195 []) (st : plS) (v5 : Int32) (hs : P_RM_put_78L109 st v1 v2 v4 v5) (hk : T = K_RM_put_78L109 st v1 v2 v4 v5) : plJ E 7 (plwR (plg E) a st) 0 0 [(0, .ref (a 0)), (1, .int v1), (2, .int v2), (4, .int v4), (5, .int v5)] 109 [] := by
  unfold P_RM_put_78L109 at hs
  unfold K_RM_put_78L109 at hk
  refine j_aload_n (pc := 109) X d_RM_put_109 rfl 0 rfl ?_
  refine get_RM_frame (pc := 110) X fl_RM_35 d_RM_put_110 ?_
  refine j_iload (pc := 113) X d_RM_put_113 4 rfl ?_
  refine ald_RMframe (pc := 115) X hs.1 d_RM_put_115 ?_
  have hs := hs.2
  exact j_RM_put_78L116 X a T v1 v2 v4 hb hx st v5 (st 7 (plIx v5)) hs hk
def K_RM_put_78L (st : plS) (v1 : Int32) (v2 : Int32) (v4 : Int32) (v5 : Int32) : Bool × (plS × Int32) := (if 12 ≤ v5 then (false, (st, v5)) else (if v1 = 1 then (if v5 < 4 then K_RM_put_78L109 st v1 v2 v4 v5 else (if (st 0 16) = 0 then K_RM_put_78L116 st v1 v2 v4 v5 255 else K_RM_put_78L109 st v1 v2 v4 v5)) else K_RM_put_78L109 st v1 v2 v4 v5))
def P_RM_put_78L (st : plS) (v1 : Int32) (v2 : Int32) (v4 : Int32) (v5 : Int32) : Prop := (¬ 12 ≤ v5 → ((v1 = 1 → ((v5 < 4 → P_RM_put_78L109 st v1 v2 v4 v5) ∧ (¬ v5 < 4 → (((st 0 16) = 0 → P_RM_put_78L116 st v1 v2 v4 v5 255) ∧ (¬ (st 0 16) = 0 → P_RM_put_78L109 st v1 v2 v4 v5))))) ∧ (¬ v1 = 1 → P_RM_put_78L109 st v1 v2 v4 v5)))
set_option maxRecDepth 20000 in
theorem j_RM_put_78L {E : plE} (X : plX E b_RM_put "ProtectedLineModel" 7 none 0 0) (a : Nat → Nat) (T : Bool × (plS × Int32)) (v1 : Int32) (v2 : Int32) (v4 : Int32) (hb : ∀ (c0 : plS) (c1 : Int32), T = (true, (c0, c1)) → plJ E 7 (plwR (plg E) a c0) 0 0 [(0, .ref (a 0)), (1, .int v1), (2, .int v2), (4, .int v4), (5, .int c1)] 78 []) (hx : ∀ (c0 : plS) (c1 : Int32), T = (false, (c0, c1)) → plJ E 7 (plwR (plg E) a c0) 0 0 [(0, .ref (a 0)), (1, .int v1), (2, .int v2), (4, .int v4), (5, .int c1)] 195 []) (st : plS) (v5 : Int32) (hs : P_RM_put_78L st v1 v2 v4 v5) (hk : T = K_RM_put_78L st v1 v2 v4 v5) : plJ E 7 (plwR (plg E) a st) 0 0 [(0, .ref (a 0)), (1, .int v1), (2, .int v2), (4, .int v4), (5, .int v5)] 78 [] := by
  unfold P_RM_put_78L at hs
  unfold K_RM_put_78L at hk
  refine j_iload (pc := 78) X d_RM_put_78 4 rfl ?_
  refine j_bipush (pc := 80) X d_RM_put_80 bp_12 ?_
  refine j_icmp_ge (pc := 82) (tgt := 195) X d_RM_put_82 rfl (fun hc => ?_) (fun hc => ?_)
  · have hk := hk.trans (if_pos hc)
    exact hx st v5 hk
  · have hk := hk.trans (if_neg hc)
    have hs := hs hc
    refine j_iload_n (pc := 85) X d_RM_put_85 rfl 1 rfl ?_
    refine j_iconst (pc := 86) X d_RM_put_86 ic_1 ?_
    refine j_icmp_ne (pc := 87) (tgt := 109) X d_RM_put_87 rfl (fun hc => ?_) (fun hc => ?_)
    · have hk := hk.trans (if_neg hc)
      have hs := hs.2 hc
      exact j_RM_put_78L109 X a T v1 v2 v4 hb hx st v5 hs hk
    · have hk := hk.trans (if_pos hc)
      have hs := hs.1 hc
      refine j_iload (pc := 90) X d_RM_put_90 4 rfl ?_
      refine j_iconst (pc := 92) X d_RM_put_92 ic_4 ?_
      refine j_icmp_lt (pc := 93) (tgt := 109) X d_RM_put_93 rfl (fun hc => ?_) (fun hc => ?_)
      · have hk := hk.trans (if_pos hc)
        have hs := hs.1 hc
        exact j_RM_put_78L109 X a T v1 v2 v4 hb hx st v5 hs hk
      · have hk := hk.trans (if_neg hc)
        have hs := hs.2 hc
        refine j_aload_n (pc := 96) X d_RM_put_96 rfl 0 rfl ?_
        refine get_RM_bridge (pc := 97) X fl_RM_144 d_RM_put_97 ?_
        refine j_if_ne (pc := 100) (tgt := 109) X d_RM_put_100 rfl (fun hc => ?_) (fun hc => ?_)
        · have hk := hk.trans (if_neg hc)
          have hs := hs.2 hc
          exact j_RM_put_78L109 X a T v1 v2 v4 hb hx st v5 hs hk
        · have hk := hk.trans (if_pos hc)
          have hs := hs.1 hc
          refine j_sipush (pc := 103) X d_RM_put_103 sp_255 ?_
          refine j_goto (pc := 106) (tgt := 116) X d_RM_put_106 rfl ?_
          exact j_RM_put_78L116 X a T v1 v2 v4 hb hx st v5 255 hs hk
def F_RM_put_78 (v1 : Int32) (v2 : Int32) (v4 : Int32) (c : plS × Int32) : Bool × (plS × Int32) := K_RM_put_78L c.1 v1 v2 v4 c.2
def G_RM_put_78 (v1 : Int32) (v2 : Int32) (v4 : Int32) (c : plS × Int32) : Prop := P_RM_put_78L c.1 v1 v2 v4 c.2
def K_RM_put_78X (v1 : Int32) (v2 : Int32) (v4 : Int32) (c : plS × Int32) : plS := c.1
set_option maxRecDepth 20000 in
theorem j_RM_put_78X {E : plE} (X : plX E b_RM_put "ProtectedLineModel" 7 none 0 0) (a : Nat → Nat) (T : plS) (hQ : plRv E (plwR (plg E) a) T) (v1 : Int32) (v2 : Int32) (v4 : Int32) (c : plS × Int32) (hk : T = K_RM_put_78X v1 v2 v4 c) : plJ E 7 (plwR (plg E) a c.1) 0 0 [(0, .ref (a 0)), (1, .int v1), (2, .int v2), (4, .int v4), (5, .int c.2)] 195 [] := by
  unfold K_RM_put_78X at hk
  exact j_retv (pc := 195) X hQ d_RM_put_195 hk
def K_RM_put_75 (st : plS) (v1 : Int32) (v2 : Int32) (v4 : Int32) : plS := K_RM_put_78X v1 v2 v4 (lpR (F_RM_put_78 v1 v2 v4) 64 (st, 0))
def P_RM_put_75 (st : plS) (v1 : Int32) (v2 : Int32) (v4 : Int32) : Prop := lpP (G_RM_put_78 v1 v2 v4) (F_RM_put_78 v1 v2 v4) 64 (st, 0)
set_option maxRecDepth 20000 in
theorem j_RM_put_75 {E : plE} (X : plX E b_RM_put "ProtectedLineModel" 7 none 0 0) (a : Nat → Nat) (T : plS) (hQ : plRv E (plwR (plg E) a) T) (st : plS) (v1 : Int32) (v2 : Int32) (v4 : Int32) (hs : P_RM_put_75 st v1 v2 v4) (hk : T = K_RM_put_75 st v1 v2 v4) : plJ E 7 (plwR (plg E) a st) 0 0 [(0, .ref (a 0)), (1, .int v1), (2, .int v2), (4, .int v4)] 75 [] := by
  unfold P_RM_put_75 at hs
  unfold K_RM_put_75 at hk
  refine j_iconst (pc := 75) X d_RM_put_75 ic_0 ?_
  refine j_istore (pc := 76) X d_RM_put_76 (lv' := [(5, .int 0), (0, .ref (a 0)), (1, .int v1), (2, .int v2), (4, .int v4)]) (Nat.le_of_ble_eq_true rfl) rfl ?_
  refine j_sub [1, 2, 3, 4, 0] (lv' := [(0, .ref (a 0)), (1, .int v1), (2, .int v2), (4, .int v4), (5, .int 0)]) rfl ?_
  exact lpJ (G_RM_put_78 v1 v2 v4) (F_RM_put_78 v1 v2 v4) (fun c => plJ E 7 (plwR (plg E) a c.1) 0 0 [(0, .ref (a 0)), (1, .int v1), (2, .int v2), (4, .int v4), (5, .int c.2)] 78 []) (fun c => plJ E 7 (plwR (plg E) a c.1) 0 0 [(0, .ref (a 0)), (1, .int v1), (2, .int v2), (4, .int v4), (5, .int c.2)] 195 []) (fun c hp h1 h2 => j_RM_put_78L X a (F_RM_put_78 v1 v2 v4 c) v1 v2 v4 (fun c0 c1 => h1 (c0, c1)) (fun c0 c1 => h2 (c0, c1)) c.1 c.2 hp rfl) 64 (st, 0) hs (j_RM_put_78X X a T hQ v1 v2 v4 (lpR (F_RM_put_78 v1 v2 v4) 64 (st, 0)) hk)
def K_RM_put_40X (st : plS) (v1 : Int32) (v2 : Int32) (v3 : Int32) (c : Int32 × Int32) : plS := K_RM_put_75 st v1 v2 c.1
def P_RM_put_40X (st : plS) (v1 : Int32) (v2 : Int32) (v3 : Int32) (c : Int32 × Int32) : Prop := P_RM_put_75 st v1 v2 c.1
set_option maxRecDepth 20000 in
theorem j_RM_put_40X {E : plE} (X : plX E b_RM_put "ProtectedLineModel" 7 none 0 0) (a : Nat → Nat) (T : plS) (hQ : plRv E (plwR (plg E) a) T) (st : plS) (v1 : Int32) (v2 : Int32) (v3 : Int32) (c : Int32 × Int32) (hs : P_RM_put_40X st v1 v2 v3 c) (hk : T = K_RM_put_40X st v1 v2 v3 c) : plJ E 7 (plwR (plg E) a st) 0 0 [(0, .ref (a 0)), (1, .int v1), (2, .int v2), (3, .int v3), (4, .int c.1), (5, .int c.2)] 75 [] := by
  unfold P_RM_put_40X at hs
  unfold K_RM_put_40X at hk
  refine j_sub [0, 1, 2, 4] (lv' := [(0, .ref (a 0)), (1, .int v1), (2, .int v2), (4, .int c.1)]) rfl ?_
  exact j_RM_put_75 X a T hQ st v1 v2 c.1 hs hk
def K_RM_put (st : plS) (v1 : Int32) : plS := K_RM_put_40X st v1 (12 * ((8 * v1) + ((st 0 3) &&& 7))) (12 * ((8 * v1) + (((st 0 3) - 1) &&& 7))) (lpR (F_RM_put_40 st v1 (12 * ((8 * v1) + ((st 0 3) &&& 7))) (12 * ((8 * v1) + (((st 0 3) - 1) &&& 7)))) 64 (0, 0))
def P_RM_put (st : plS) (v1 : Int32) : Prop := (lpP (G_RM_put_40 st v1 (12 * ((8 * v1) + ((st 0 3) &&& 7))) (12 * ((8 * v1) + (((st 0 3) - 1) &&& 7)))) (F_RM_put_40 st v1 (12 * ((8 * v1) + ((st 0 3) &&& 7))) (12 * ((8 * v1) + (((st 0 3) - 1) &&& 7)))) 64 (0, 0) ∧ P_RM_put_40X st v1 (12 * ((8 * v1) + ((st 0 3) &&& 7))) (12 * ((8 * v1) + (((st 0 3) - 1) &&& 7))) (lpR (F_RM_put_40 st v1 (12 * ((8 * v1) + ((st 0 3) &&& 7))) (12 * ((8 * v1) + (((st 0 3) - 1) &&& 7)))) 64 (0, 0)))
set_option maxRecDepth 20000 in
theorem j_RM_put {E : plE} (X : plX E b_RM_put "ProtectedLineModel" 7 none 0 0) (a : Nat → Nat) (T : plS) (hQ : plRv E (plwR (plg E) a) T) (st : plS) (v1 : Int32) (hs : P_RM_put st v1) (hk : T = K_RM_put st v1) : plJ E 7 (plwR (plg E) a st) 0 0 [(0, .ref (a 0)), (1, .int v1)] 0 [] := by
  unfold P_RM_put at hs
  unfold K_RM_put at hk
  refine j_bipush (pc := 0) X d_RM_put_0 bp_12 ?_
  refine j_bipush (pc := 2) X d_RM_put_2 bp_8 ?_
  refine j_iload_n (pc := 4) X d_RM_put_4 rfl 1 rfl ?_
  refine j_imul (pc := 5) X d_RM_put_5 ?_
  refine j_aload_n (pc := 6) X d_RM_put_6 rfl 0 rfl ?_
  refine get_RM_time (pc := 7) X fl_RM_111 d_RM_put_7 ?_
  refine j_bipush (pc := 10) X d_RM_put_10 bp_7 ?_
  refine j_iand (pc := 12) X d_RM_put_12 ?_
  refine j_iadd (pc := 13) X d_RM_put_13 ?_
  refine j_imul (pc := 14) X d_RM_put_14 ?_
  refine j_istore_n (pc := 15) X d_RM_put_15 rfl (lv' := [(2, .int (12 * ((8 * v1) + ((st 0 3) &&& 7)))), (0, .ref (a 0)), (1, .int v1)]) (Nat.le_of_ble_eq_true rfl) rfl ?_
  refine j_bipush (pc := 16) X d_RM_put_16 bp_12 ?_
  refine j_bipush (pc := 18) X d_RM_put_18 bp_8 ?_
  refine j_iload_n (pc := 20) X d_RM_put_20 rfl 2 rfl ?_
  refine j_imul (pc := 21) X d_RM_put_21 ?_
  refine j_aload_n (pc := 22) X d_RM_put_22 rfl 1 rfl ?_
  refine get_RM_time (pc := 23) X fl_RM_111 d_RM_put_23 ?_
  refine j_iconst (pc := 26) X d_RM_put_26 ic_1 ?_
  refine j_isub (pc := 27) X d_RM_put_27 ?_
  refine j_bipush (pc := 28) X d_RM_put_28 bp_7 ?_
  refine j_iand (pc := 30) X d_RM_put_30 ?_
  refine j_iadd (pc := 31) X d_RM_put_31 ?_
  refine j_imul (pc := 32) X d_RM_put_32 ?_
  refine j_istore_n (pc := 33) X d_RM_put_33 rfl (lv' := [(3, .int (12 * ((8 * v1) + (((st 0 3) - 1) &&& 7)))), (2, .int (12 * ((8 * v1) + ((st 0 3) &&& 7)))), (0, .ref (a 0)), (1, .int v1)]) (Nat.le_of_ble_eq_true rfl) rfl ?_
  refine j_iconst (pc := 34) X d_RM_put_34 ic_0 ?_
  refine j_istore (pc := 35) X d_RM_put_35 (lv' := [(4, .int 0), (3, .int (12 * ((8 * v1) + (((st 0 3) - 1) &&& 7)))), (2, .int (12 * ((8 * v1) + ((st 0 3) &&& 7)))), (0, .ref (a 0)), (1, .int v1)]) (Nat.le_of_ble_eq_true rfl) rfl ?_
  refine j_iconst (pc := 37) X d_RM_put_37 ic_0 ?_
  refine j_istore (pc := 38) X d_RM_put_38 (lv' := [(5, .int 0), (4, .int 0), (3, .int (12 * ((8 * v1) + (((st 0 3) - 1) &&& 7)))), (2, .int (12 * ((8 * v1) + ((st 0 3) &&& 7)))), (0, .ref (a 0)), (1, .int v1)]) (Nat.le_of_ble_eq_true rfl) rfl ?_
  refine j_sub [4, 5, 3, 2, 1, 0] (lv' := [(0, .ref (a 0)), (1, .int v1), (2, .int (12 * ((8 * v1) + ((st 0 3) &&& 7)))), (3, .int (12 * ((8 * v1) + (((st 0 3) - 1) &&& 7)))), (4, .int 0), (5, .int 0)]) rfl ?_
  exact lpJ (G_RM_put_40 st v1 (12 * ((8 * v1) + ((st 0 3) &&& 7))) (12 * ((8 * v1) + (((st 0 3) - 1) &&& 7)))) (F_RM_put_40 st v1 (12 * ((8 * v1) + ((st 0 3) &&& 7))) (12 * ((8 * v1) + (((st 0 3) - 1) &&& 7)))) (fun c => plJ E 7 (plwR (plg E) a st) 0 0 [(0, .ref (a 0)), (1, .int v1), (2, .int (12 * ((8 * v1) + ((st 0 3) &&& 7)))), (3, .int (12 * ((8 * v1) + (((st 0 3) - 1) &&& 7)))), (4, .int c.1), (5, .int c.2)] 40 []) (fun c => plJ E 7 (plwR (plg E) a st) 0 0 [(0, .ref (a 0)), (1, .int v1), (2, .int (12 * ((8 * v1) + ((st 0 3) &&& 7)))), (3, .int (12 * ((8 * v1) + (((st 0 3) - 1) &&& 7)))), (4, .int c.1), (5, .int c.2)] 75 []) (fun c hp h1 h2 => j_RM_put_40L X a (F_RM_put_40 st v1 (12 * ((8 * v1) + ((st 0 3) &&& 7))) (12 * ((8 * v1) + (((st 0 3) - 1) &&& 7))) c) st v1 (12 * ((8 * v1) + ((st 0 3) &&& 7))) (12 * ((8 * v1) + (((st 0 3) - 1) &&& 7))) (fun c0 c1 => h1 (c0, c1)) (fun c0 c1 => h2 (c0, c1)) c.1 c.2 hp rfl) 64 (0, 0) hs.1 (j_RM_put_40X X a T hQ st v1 (12 * ((8 * v1) + ((st 0 3) &&& 7))) (12 * ((8 * v1) + (((st 0 3) - 1) &&& 7))) (lpR (F_RM_put_40 st v1 (12 * ((8 * v1) + ((st 0 3) &&& 7))) (12 * ((8 * v1) + (((st 0 3) - 1) &&& 7)))) 64 (0, 0)) hs.2 hk)
set_option maxRecDepth 20000 in
theorem c_RM_put (g : plG) (a : Nat → Nat) (st : plS) (v1 : Int32) (hs : P_RM_put st v1) : plMv g y_RM_put b_RM_put 7 none 0 0 [.ref (a 0), .int v1] (plwR g a) st (K_RM_put st v1) := by
  refine plMv.of (own := "ProtectedLineModel") (lv := [(0, .ref (a 0)), (1, .int v1)]) rfl rfl (Nat.le_of_ble_eq_true rfl) rfl (fun E hE X hQ => ?_)
  subst hE
  exact j_RM_put X a _ hQ st v1 hs rfl
