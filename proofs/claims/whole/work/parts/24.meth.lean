theorem d_RM_load_0 : decode b_RM_load 0 = .ok (.aload_n 0, 1) := by decide +kernel
theorem d_RM_load_1 : decode b_RM_load 1 = .ok (.getfield 93, 3) := by decide +kernel
theorem d_RM_load_4 : decode b_RM_load 4 = .ok (.ifCond .le (12), 3) := by decide +kernel
theorem d_RM_load_7 : decode b_RM_load 7 = .ok (.aload_n 0, 1) := by decide +kernel
theorem d_RM_load_8 : decode b_RM_load 8 = .ok (.getfield 13, 3) := by decide +kernel
theorem d_RM_load_11 : decode b_RM_load 11 = .ok (.iconst 0, 1) := by decide +kernel
theorem d_RM_load_12 : decode b_RM_load 12 = .ok (.iaload, 1) := by decide +kernel
theorem d_RM_load_13 : decode b_RM_load 13 = .ok (.goto (4), 3) := by decide +kernel
theorem d_RM_load_16 : decode b_RM_load 16 = .ok (.iconst 0, 1) := by decide +kernel
theorem d_RM_load_17 : decode b_RM_load 17 = .ok (.istore_n 1, 1) := by decide +kernel
theorem d_RM_load_18 : decode b_RM_load 18 = .ok (.iload_n 1, 1) := by decide +kernel
theorem d_RM_load_19 : decode b_RM_load 19 = .ok (.ifCond .le (9), 3) := by decide +kernel
theorem d_RM_load_22 : decode b_RM_load 22 = .ok (.iload_n 1, 1) := by decide +kernel
theorem d_RM_load_23 : decode b_RM_load 23 = .ok (.iconst 1, 1) := by decide +kernel
theorem d_RM_load_24 : decode b_RM_load 24 = .ok (.iadd, 1) := by decide +kernel
theorem d_RM_load_25 : decode b_RM_load 25 = .ok (.goto (4), 3) := by decide +kernel
theorem d_RM_load_28 : decode b_RM_load 28 = .ok (.iconst 0, 1) := by decide +kernel
theorem d_RM_load_29 : decode b_RM_load 29 = .ok (.istore_n 2, 1) := by decide +kernel
theorem d_RM_load_30 : decode b_RM_load 30 = .ok (.aload_n 0, 1) := by decide +kernel
theorem d_RM_load_31 : decode b_RM_load 31 = .ok (.getfield 16, 3) := by decide +kernel
theorem d_RM_load_34 : decode b_RM_load 34 = .ok (.iconst 0, 1) := by decide +kernel
theorem d_RM_load_35 : decode b_RM_load 35 = .ok (.iload_n 2, 1) := by decide +kernel
theorem d_RM_load_36 : decode b_RM_load 36 = .ok (.sipush (182), 3) := by decide +kernel
theorem d_RM_load_39 : decode b_RM_load 39 = .ok (.ixor, 1) := by decide +kernel
theorem d_RM_load_40 : decode b_RM_load 40 = .ok (.iastore, 1) := by decide +kernel
theorem d_RM_load_41 : decode b_RM_load 41 = .ok (.aload_n 0, 1) := by decide +kernel
theorem d_RM_load_42 : decode b_RM_load 42 = .ok (.getfield 16, 3) := by decide +kernel
theorem d_RM_load_45 : decode b_RM_load 45 = .ok (.iconst 1, 1) := by decide +kernel
theorem d_RM_load_46 : decode b_RM_load 46 = .ok (.iload_n 2, 1) := by decide +kernel
theorem d_RM_load_47 : decode b_RM_load 47 = .ok (.invokestatic 148, 3) := by decide +kernel
theorem d_RM_load_50 : decode b_RM_load 50 = .ok (.sipush (171), 3) := by decide +kernel
theorem d_RM_load_53 : decode b_RM_load 53 = .ok (.ixor, 1) := by decide +kernel
theorem d_RM_load_54 : decode b_RM_load 54 = .ok (.iastore, 1) := by decide +kernel
theorem d_RM_load_55 : decode b_RM_load 55 = .ok (.sipush (255), 3) := by decide +kernel
theorem d_RM_load_58 : decode b_RM_load 58 = .ok (.istore_n 3, 1) := by decide +kernel
theorem d_RM_load_59 : decode b_RM_load 59 = .ok (.iconst 0, 1) := by decide +kernel
theorem d_RM_load_60 : decode b_RM_load 60 = .ok (.istore 4, 2) := by decide +kernel
theorem d_RM_load_62 : decode b_RM_load 62 = .ok (.iload 4, 2) := by decide +kernel
theorem d_RM_load_64 : decode b_RM_load 64 = .ok (.iload_n 2, 1) := by decide +kernel
theorem d_RM_load_65 : decode b_RM_load 65 = .ok (.if_icmp .ge (72), 3) := by decide +kernel
theorem d_RM_load_68 : decode b_RM_load 68 = .ok (.iload 4, 2) := by decide +kernel
theorem d_RM_load_70 : decode b_RM_load 70 = .ok (.iload_n 1, 1) := by decide +kernel
theorem d_RM_load_71 : decode b_RM_load 71 = .ok (.if_icmp .ge (15), 3) := by decide +kernel
theorem d_RM_load_74 : decode b_RM_load 74 = .ok (.aload_n 0, 1) := by decide +kernel
theorem d_RM_load_75 : decode b_RM_load 75 = .ok (.getfield 13, 3) := by decide +kernel
theorem d_RM_load_78 : decode b_RM_load 78 = .ok (.iconst 1, 1) := by decide +kernel
theorem d_RM_load_79 : decode b_RM_load 79 = .ok (.iload 4, 2) := by decide +kernel
theorem d_RM_load_81 : decode b_RM_load 81 = .ok (.iadd, 1) := by decide +kernel
theorem d_RM_load_82 : decode b_RM_load 82 = .ok (.iaload, 1) := by decide +kernel
theorem d_RM_load_83 : decode b_RM_load 83 = .ok (.goto (4), 3) := by decide +kernel
theorem d_RM_load_86 : decode b_RM_load 86 = .ok (.iload_n 3, 1) := by decide +kernel
theorem d_RM_load_87 : decode b_RM_load 87 = .ok (.istore 5, 2) := by decide +kernel
theorem d_RM_load_89 : decode b_RM_load 89 = .ok (.iload 4, 2) := by decide +kernel
theorem d_RM_load_91 : decode b_RM_load 91 = .ok (.iload_n 1, 1) := by decide +kernel
theorem d_RM_load_92 : decode b_RM_load 92 = .ok (.if_icmp .ge (13), 3) := by decide +kernel
theorem d_RM_load_95 : decode b_RM_load 95 = .ok (.iload_n 3, 1) := by decide +kernel
theorem d_RM_load_96 : decode b_RM_load 96 = .ok (.iload 5, 2) := by decide +kernel
theorem d_RM_load_98 : decode b_RM_load 98 = .ok (.ixor, 1) := by decide +kernel
theorem d_RM_load_99 : decode b_RM_load 99 = .ok (.invokestatic 148, 3) := by decide +kernel
theorem d_RM_load_102 : decode b_RM_load 102 = .ok (.goto (4), 3) := by decide +kernel
theorem d_RM_load_105 : decode b_RM_load 105 = .ok (.iload_n 3, 1) := by decide +kernel
theorem d_RM_load_106 : decode b_RM_load 106 = .ok (.istore_n 3, 1) := by decide +kernel
theorem d_RM_load_107 : decode b_RM_load 107 = .ok (.aload_n 0, 1) := by decide +kernel
theorem d_RM_load_108 : decode b_RM_load 108 = .ok (.aload_n 0, 1) := by decide +kernel
theorem d_RM_load_109 : decode b_RM_load 109 = .ok (.getfield 152, 3) := by decide +kernel
theorem d_RM_load_112 : decode b_RM_load 112 = .ok (.iload 5, 2) := by decide +kernel
theorem d_RM_load_114 : decode b_RM_load 114 = .ok (.ixor, 1) := by decide +kernel
theorem d_RM_load_115 : decode b_RM_load 115 = .ok (.putfield 152, 3) := by decide +kernel
theorem d_RM_load_118 : decode b_RM_load 118 = .ok (.aload_n 0, 1) := by decide +kernel
theorem d_RM_load_119 : decode b_RM_load 119 = .ok (.getfield 16, 3) := by decide +kernel
theorem d_RM_load_122 : decode b_RM_load 122 = .ok (.iconst 2, 1) := by decide +kernel
theorem d_RM_load_123 : decode b_RM_load 123 = .ok (.iload 4, 2) := by decide +kernel
theorem d_RM_load_125 : decode b_RM_load 125 = .ok (.iadd, 1) := by decide +kernel
theorem d_RM_load_126 : decode b_RM_load 126 = .ok (.aload_n 0, 1) := by decide +kernel
theorem d_RM_load_127 : decode b_RM_load 127 = .ok (.getfield 152, 3) := by decide +kernel
theorem d_RM_load_130 : decode b_RM_load 130 = .ok (.iastore, 1) := by decide +kernel
theorem d_RM_load_131 : decode b_RM_load 131 = .ok (.iinc 4 (1), 3) := by decide +kernel
theorem d_RM_load_134 : decode b_RM_load 134 = .ok (.goto (-72), 3) := by decide +kernel
theorem d_RM_load_137 : decode b_RM_load 137 = .ok (.aload_n 0, 1) := by decide +kernel
theorem d_RM_load_138 : decode b_RM_load 138 = .ok (.iconst 2, 1) := by decide +kernel
theorem d_RM_load_139 : decode b_RM_load 139 = .ok (.iload_n 2, 1) := by decide +kernel
theorem d_RM_load_140 : decode b_RM_load 140 = .ok (.iadd, 1) := by decide +kernel
theorem d_RM_load_141 : decode b_RM_load 141 = .ok (.putfield 155, 3) := by decide +kernel
theorem d_RM_load_144 : decode b_RM_load 144 = .ok (.aload_n 0, 1) := by decide +kernel
theorem d_RM_load_145 : decode b_RM_load 145 = .ok (.iconst 0, 1) := by decide +kernel
theorem d_RM_load_146 : decode b_RM_load 146 = .ok (.putfield 158, 3) := by decide +kernel
theorem d_RM_load_149 : decode b_RM_load 149 = .ok (.iload_n 1, 1) := by decide +kernel
theorem d_RM_load_150 : decode b_RM_load 150 = .ok (.ifCond .ne (4), 3) := by decide +kernel
theorem d_RM_load_153 : decode b_RM_load 153 = .ok (.return_, 1) := by decide +kernel
theorem d_RM_load_154 : decode b_RM_load 154 = .ok (.aload_n 0, 1) := by decide +kernel
theorem d_RM_load_155 : decode b_RM_load 155 = .ok (.dup, 1) := by decide +kernel
theorem d_RM_load_156 : decode b_RM_load 156 = .ok (.getfield 93, 3) := by decide +kernel
theorem d_RM_load_159 : decode b_RM_load 159 = .ok (.iconst 1, 1) := by decide +kernel
theorem d_RM_load_160 : decode b_RM_load 160 = .ok (.isub, 1) := by decide +kernel
theorem d_RM_load_161 : decode b_RM_load 161 = .ok (.putfield 93, 3) := by decide +kernel
theorem d_RM_load_164 : decode b_RM_load 164 = .ok (.iconst 0, 1) := by decide +kernel
theorem d_RM_load_165 : decode b_RM_load 165 = .ok (.istore 4, 2) := by decide +kernel
theorem d_RM_load_167 : decode b_RM_load 167 = .ok (.iload 4, 2) := by decide +kernel
theorem d_RM_load_169 : decode b_RM_load 169 = .ok (.bipush (7), 2) := by decide +kernel
theorem d_RM_load_171 : decode b_RM_load 171 = .ok (.aload_n 0, 1) := by decide +kernel
theorem d_RM_load_172 : decode b_RM_load 172 = .ok (.getfield 93, 3) := by decide +kernel
theorem d_RM_load_175 : decode b_RM_load 175 = .ok (.imul, 1) := by decide +kernel
theorem d_RM_load_176 : decode b_RM_load 176 = .ok (.if_icmp .ge (26), 3) := by decide +kernel
theorem d_RM_load_179 : decode b_RM_load 179 = .ok (.aload_n 0, 1) := by decide +kernel
theorem d_RM_load_180 : decode b_RM_load 180 = .ok (.getfield 13, 3) := by decide +kernel
theorem d_RM_load_183 : decode b_RM_load 183 = .ok (.iload 4, 2) := by decide +kernel
theorem d_RM_load_185 : decode b_RM_load 185 = .ok (.aload_n 0, 1) := by decide +kernel
theorem d_RM_load_186 : decode b_RM_load 186 = .ok (.getfield 13, 3) := by decide +kernel
theorem d_RM_load_189 : decode b_RM_load 189 = .ok (.iload 4, 2) := by decide +kernel
theorem d_RM_load_191 : decode b_RM_load 191 = .ok (.bipush (7), 2) := by decide +kernel
theorem d_RM_load_193 : decode b_RM_load 193 = .ok (.iadd, 1) := by decide +kernel
theorem d_RM_load_194 : decode b_RM_load 194 = .ok (.iaload, 1) := by decide +kernel
theorem d_RM_load_195 : decode b_RM_load 195 = .ok (.iastore, 1) := by decide +kernel
theorem d_RM_load_196 : decode b_RM_load 196 = .ok (.iinc 4 (1), 3) := by decide +kernel
theorem d_RM_load_199 : decode b_RM_load 199 = .ok (.goto (-32), 3) := by decide +kernel
theorem d_RM_load_202 : decode b_RM_load 202 = .ok (.return_, 1) := by decide +kernel
def K_RM_load_62L118 (st : plS) (v1 : Int32) (v2 : Int32) (v3 : Int32) (v4 : Int32) : Bool × (plS × Int32 × Int32) := (true, (plUp st 3 (plIx (2 + v4)) (st 0 9), v3, v4 + 1))
def P_RM_load_62L118 (st : plS) (v1 : Int32) (v2 : Int32) (v3 : Int32) (v4 : Int32) : Prop := vp_in (2 + v4) 9
set_option maxRecDepth 20000 in
theorem j_RM_load_62L118 {E : plE} (X : plX E b_RM_load "ProtectedLineModel" 6 none 1 22) (a : Nat → Nat) (T : Bool × (plS × Int32 × Int32)) (v1 : Int32) (v2 : Int32) (hb : ∀ (c0 : plS) (c1 : Int32) (c2 : Int32), T = (true, (c0, c1, c2)) → plJ E 6 (plwR (plg E) a c0) 0 0 [(0, .ref (a 0)), (1, .int v1), (2, .int v2), (3, .int c1), (4, .int c2)] 62 []) (hx : ∀ (c0 : plS) (c1 : Int32) (c2 : Int32), T = (false, (c0, c1, c2)) → plJ E 6 (plwR (plg E) a c0) 0 0 [(0, .ref (a 0)), (1, .int v1), (2, .int v2), (3, .int c1), (4, .int c2)] 137 []) (st : plS) (v3 : Int32) (v4 : Int32) (hs : P_RM_load_62L118 st v1 v2 v3 v4) (hk : T = K_RM_load_62L118 st v1 v2 v3 v4) : plJ E 6 (plwR (plg E) a st) 0 0 [(0, .ref (a 0)), (1, .int v1), (2, .int v2), (3, .int v3), (4, .int v4)] 118 [] := by
  unfold P_RM_load_62L118 at hs
  unfold K_RM_load_62L118 at hk
  refine j_aload_n (pc := 118) X d_RM_load_118 rfl 0 rfl ?_
  refine get_RM_going (pc := 119) X fl_RM_16 d_RM_load_119 ?_
  refine j_iconst (pc := 122) X d_RM_load_122 ic_2 ?_
  refine j_iload (pc := 123) X d_RM_load_123 4 rfl ?_
  refine j_iadd (pc := 125) X d_RM_load_125 ?_
  refine j_aload_n (pc := 126) X d_RM_load_126 rfl 0 rfl ?_
  refine get_RM_scrambled (pc := 127) X fl_RM_152 d_RM_load_127 ?_
  refine ast_RMgoing (pc := 130) X hs d_RM_load_130 ?_
  refine j_iinc (pc := 131) X d_RM_load_131 4 rfl ic_1 (lv' := [(4, .int (v4 + 1)), (0, .ref (a 0)), (1, .int v1), (2, .int v2), (3, .int v3)]) (Nat.le_of_ble_eq_true rfl) rfl ?_
  refine j_goto (pc := 134) (tgt := 62) X d_RM_load_134 rfl ?_
  refine j_sub [1, 2, 3, 4, 0] (lv' := [(0, .ref (a 0)), (1, .int v1), (2, .int v2), (3, .int v3), (4, .int (v4 + 1))]) rfl ?_
  exact hb (plUp st 3 (plIx (2 + v4)) (st 0 9)) v3 (v4 + 1) hk
def K_RM_load_62L106 (st : plS) (v1 : Int32) (v2 : Int32) (v4 : Int32) (v5 : Int32) (k0 : Int32) : Bool × (plS × Int32 × Int32) := K_RM_load_62L118 (plUp st 0 9 ((st 0 9) ^^^ v5)) v1 v2 k0 v4
def P_RM_load_62L106 (st : plS) (v1 : Int32) (v2 : Int32) (v4 : Int32) (v5 : Int32) (k0 : Int32) : Prop := P_RM_load_62L118 (plUp st 0 9 ((st 0 9) ^^^ v5)) v1 v2 k0 v4
set_option maxRecDepth 20000 in
theorem j_RM_load_62L106 {E : plE} (X : plX E b_RM_load "ProtectedLineModel" 6 none 1 22) (a : Nat → Nat) (T : Bool × (plS × Int32 × Int32)) (v1 : Int32) (v2 : Int32) (hb : ∀ (c0 : plS) (c1 : Int32) (c2 : Int32), T = (true, (c0, c1, c2)) → plJ E 6 (plwR (plg E) a c0) 0 0 [(0, .ref (a 0)), (1, .int v1), (2, .int v2), (3, .int c1), (4, .int c2)] 62 []) (hx : ∀ (c0 : plS) (c1 : Int32) (c2 : Int32), T = (false, (c0, c1, c2)) → plJ E 6 (plwR (plg E) a c0) 0 0 [(0, .ref (a 0)), (1, .int v1), (2, .int v2), (3, .int c1), (4, .int c2)] 137 []) (st : plS) (v4 : Int32) (v5 : Int32) (k0 : Int32) (hs : P_RM_load_62L106 st v1 v2 v4 v5 k0) (hk : T = K_RM_load_62L106 st v1 v2 v4 v5 k0) : plJ E 6 (plwR (plg E) a st) 0 0 [(0, .ref (a 0)), (1, .int v1), (2, .int v2), (4, .int v4), (5, .int v5)] 106 [.int k0] := by
  unfold P_RM_load_62L106 at hs
  unfold K_RM_load_62L106 at hk
  refine j_istore_n (pc := 106) X d_RM_load_106 rfl (lv' := [(3, .int k0), (0, .ref (a 0)), (1, .int v1), (2, .int v2), (4, .int v4), (5, .int v5)]) (Nat.le_of_ble_eq_true rfl) rfl ?_
  refine j_aload_n (pc := 107) X d_RM_load_107 rfl 1 rfl ?_
  refine j_aload_n (pc := 108) X d_RM_load_108 rfl 1 rfl ?_
  refine get_RM_scrambled (pc := 109) X fl_RM_152 d_RM_load_109 ?_
  refine j_iload (pc := 112) X d_RM_load_112 5 rfl ?_
  refine j_ixor (pc := 114) X d_RM_load_114 ?_
  refine put_RM_scrambled (pc := 115) X fl_RM_152 d_RM_load_115 ?_
  refine j_sub [1, 2, 3, 0, 4] (lv' := [(0, .ref (a 0)), (1, .int v1), (2, .int v2), (3, .int k0), (4, .int v4)]) rfl ?_
  exact j_RM_load_62L118 X a T v1 v2 hb hx (plUp st 0 9 ((st 0 9) ^^^ v5)) k0 v4 hs hk
def K_RM_load_62L87 (st : plS) (v1 : Int32) (v2 : Int32) (v3 : Int32) (v4 : Int32) (k0 : Int32) : Bool × (plS × Int32 × Int32) := (if v1 ≤ v4 then K_RM_load_62L106 st v1 v2 v4 k0 v3 else K_RM_load_62L106 st v1 v2 v4 k0 (K_RM_hash (v3 ^^^ k0)))
def P_RM_load_62L87 (st : plS) (v1 : Int32) (v2 : Int32) (v3 : Int32) (v4 : Int32) (k0 : Int32) : Prop := ((v1 ≤ v4 → P_RM_load_62L106 st v1 v2 v4 k0 v3) ∧ (¬ v1 ≤ v4 → (P_RM_hash (v3 ^^^ k0) ∧ P_RM_load_62L106 st v1 v2 v4 k0 (K_RM_hash (v3 ^^^ k0)))))
set_option maxRecDepth 20000 in
theorem j_RM_load_62L87 {E : plE} (X : plX E b_RM_load "ProtectedLineModel" 6 none 1 22) (a : Nat → Nat) (T : Bool × (plS × Int32 × Int32)) (v1 : Int32) (v2 : Int32) (hb : ∀ (c0 : plS) (c1 : Int32) (c2 : Int32), T = (true, (c0, c1, c2)) → plJ E 6 (plwR (plg E) a c0) 0 0 [(0, .ref (a 0)), (1, .int v1), (2, .int v2), (3, .int c1), (4, .int c2)] 62 []) (hx : ∀ (c0 : plS) (c1 : Int32) (c2 : Int32), T = (false, (c0, c1, c2)) → plJ E 6 (plwR (plg E) a c0) 0 0 [(0, .ref (a 0)), (1, .int v1), (2, .int v2), (3, .int c1), (4, .int c2)] 137 []) (st : plS) (v3 : Int32) (v4 : Int32) (k0 : Int32) (hs : P_RM_load_62L87 st v1 v2 v3 v4 k0) (hk : T = K_RM_load_62L87 st v1 v2 v3 v4 k0) : plJ E 6 (plwR (plg E) a st) 0 0 [(0, .ref (a 0)), (1, .int v1), (2, .int v2), (3, .int v3), (4, .int v4)] 87 [.int k0] := by
  unfold P_RM_load_62L87 at hs
  unfold K_RM_load_62L87 at hk
  refine j_istore (pc := 87) X d_RM_load_87 (lv' := [(5, .int k0), (0, .ref (a 0)), (1, .int v1), (2, .int v2), (3, .int v3), (4, .int v4)]) (Nat.le_of_ble_eq_true rfl) rfl ?_
  refine j_iload (pc := 89) X d_RM_load_89 5 rfl ?_
  refine j_iload_n (pc := 91) X d_RM_load_91 rfl 2 rfl ?_
  refine j_icmp_ge (pc := 92) (tgt := 105) X d_RM_load_92 rfl (fun hc => ?_) (fun hc => ?_)
  · have hk := hk.trans (if_pos hc)
    have hs := hs.1 hc
    refine j_iload_n (pc := 105) X d_RM_load_105 rfl 4 rfl ?_
    refine j_sub [1, 2, 3, 5, 0] (lv' := [(0, .ref (a 0)), (1, .int v1), (2, .int v2), (4, .int v4), (5, .int k0)]) rfl ?_
    exact j_RM_load_62L106 X a T v1 v2 hb hx st v4 k0 v3 hs hk
  · have hk := hk.trans (if_neg hc)
    have hs := hs.2 hc
    refine j_iload_n (pc := 95) X d_RM_load_95 rfl 4 rfl ?_
    refine j_iload (pc := 96) X d_RM_load_96 0 rfl ?_
    refine j_ixor (pc := 98) X d_RM_load_98 ?_
    refine j_callSp (pc := 99) (As := [.int (v3 ^^^ k0)]) (rest := []) X (c_RM_hash (plg E) a st (v3 ^^^ k0) hs.1) ml_RM_148 ⟨Nat.le_of_ble_eq_true rfl, Nat.le_of_ble_eq_true rfl⟩ rfl rfl (Nat.le_of_ble_eq_true rfl) d_RM_load_99 ?_
    have hs := hs.2
    refine j_goto (pc := 102) (tgt := 106) X d_RM_load_102 rfl ?_
    refine j_sub [1, 2, 3, 5, 0] (lv' := [(0, .ref (a 0)), (1, .int v1), (2, .int v2), (4, .int v4), (5, .int k0)]) rfl ?_
    exact j_RM_load_62L106 X a T v1 v2 hb hx st v4 k0 (K_RM_hash (v3 ^^^ k0)) hs hk
def K_RM_load_62L (st : plS) (v1 : Int32) (v2 : Int32) (v3 : Int32) (v4 : Int32) : Bool × (plS × Int32 × Int32) := (if v2 ≤ v4 then (false, (st, v3, v4)) else (if v1 ≤ v4 then K_RM_load_62L87 st v1 v2 v3 v4 v3 else K_RM_load_62L87 st v1 v2 v3 v4 (st 2 (plIx (1 + v4)))))
def P_RM_load_62L (st : plS) (v1 : Int32) (v2 : Int32) (v3 : Int32) (v4 : Int32) : Prop := (¬ v2 ≤ v4 → ((v1 ≤ v4 → P_RM_load_62L87 st v1 v2 v3 v4 v3) ∧ (¬ v1 ≤ v4 → (vp_in (1 + v4) 56 ∧ P_RM_load_62L87 st v1 v2 v3 v4 (st 2 (plIx (1 + v4)))))))
set_option maxRecDepth 20000 in
theorem j_RM_load_62L {E : plE} (X : plX E b_RM_load "ProtectedLineModel" 6 none 1 22) (a : Nat → Nat) (T : Bool × (plS × Int32 × Int32)) (v1 : Int32) (v2 : Int32) (hb : ∀ (c0 : plS) (c1 : Int32) (c2 : Int32), T = (true, (c0, c1, c2)) → plJ E 6 (plwR (plg E) a c0) 0 0 [(0, .ref (a 0)), (1, .int v1), (2, .int v2), (3, .int c1), (4, .int c2)] 62 []) (hx : ∀ (c0 : plS) (c1 : Int32) (c2 : Int32), T = (false, (c0, c1, c2)) → plJ E 6 (plwR (plg E) a c0) 0 0 [(0, .ref (a 0)), (1, .int v1), (2, .int v2), (3, .int c1), (4, .int c2)] 137 []) (st : plS) (v3 : Int32) (v4 : Int32) (hs : P_RM_load_62L st v1 v2 v3 v4) (hk : T = K_RM_load_62L st v1 v2 v3 v4) : plJ E 6 (plwR (plg E) a st) 0 0 [(0, .ref (a 0)), (1, .int v1), (2, .int v2), (3, .int v3), (4, .int v4)] 62 [] := by
  unfold P_RM_load_62L at hs
  unfold K_RM_load_62L at hk
  refine j_iload (pc := 62) X d_RM_load_62 4 rfl ?_
  refine j_iload_n (pc := 64) X d_RM_load_64 rfl 2 rfl ?_
  refine j_icmp_ge (pc := 65) (tgt := 137) X d_RM_load_65 rfl (fun hc => ?_) (fun hc => ?_)
  · have hk := hk.trans (if_pos hc)
    exact hx st v3 v4 hk
  · have hk := hk.trans (if_neg hc)
    have hs := hs hc
    refine j_iload (pc := 68) X d_RM_load_68 4 rfl ?_
    refine j_iload_n (pc := 70) X d_RM_load_70 rfl 1 rfl ?_
    refine j_icmp_ge (pc := 71) (tgt := 86) X d_RM_load_71 rfl (fun hc => ?_) (fun hc => ?_)
    · have hk := hk.trans (if_pos hc)
      have hs := hs.1 hc
      refine j_iload_n (pc := 86) X d_RM_load_86 rfl 3 rfl ?_
      exact j_RM_load_62L87 X a T v1 v2 hb hx st v3 v4 v3 hs hk
    · have hk := hk.trans (if_neg hc)
      have hs := hs.2 hc
      refine j_aload_n (pc := 74) X d_RM_load_74 rfl 0 rfl ?_
      refine get_RM_queue (pc := 75) X fl_RM_13 d_RM_load_75 ?_
      refine j_iconst (pc := 78) X d_RM_load_78 ic_1 ?_
      refine j_iload (pc := 79) X d_RM_load_79 4 rfl ?_
      refine j_iadd (pc := 81) X d_RM_load_81 ?_
      refine ald_RMqueue (pc := 82) X hs.1 d_RM_load_82 ?_
      have hs := hs.2
      refine j_goto (pc := 83) (tgt := 87) X d_RM_load_83 rfl ?_
      exact j_RM_load_62L87 X a T v1 v2 hb hx st v3 v4 (st 2 (plIx (1 + v4))) hs hk
def F_RM_load_62 (v1 : Int32) (v2 : Int32) (c : plS × Int32 × Int32) : Bool × (plS × Int32 × Int32) := K_RM_load_62L c.1 v1 v2 c.2.1 c.2.2
def G_RM_load_62 (v1 : Int32) (v2 : Int32) (c : plS × Int32 × Int32) : Prop := P_RM_load_62L c.1 v1 v2 c.2.1 c.2.2
def K_RM_load_167L (st : plS) (v4 : Int32) : Bool × (plS × Int32) := (if (7 * (st 0 4)) ≤ v4 then (false, (st, v4)) else (true, (plUp st 2 (plIx v4) (st 2 (plIx (v4 + 7))), v4 + 1)))
def P_RM_load_167L (st : plS) (v4 : Int32) : Prop := (¬ (7 * (st 0 4)) ≤ v4 → (vp_in (v4 + 7) 56 ∧ vp_in v4 56))
set_option maxRecDepth 20000 in
theorem j_RM_load_167L {E : plE} (X : plX E b_RM_load "ProtectedLineModel" 6 none 1 22) (a : Nat → Nat) (T : Bool × (plS × Int32))  (hb : ∀ (c0 : plS) (c1 : Int32), T = (true, (c0, c1)) → plJ E 6 (plwR (plg E) a c0) 0 0 [(0, .ref (a 0)), (4, .int c1)] 167 []) (hx : ∀ (c0 : plS) (c1 : Int32), T = (false, (c0, c1)) → plJ E 6 (plwR (plg E) a c0) 0 0 [(0, .ref (a 0)), (4, .int c1)] 202 []) (st : plS) (v4 : Int32) (hs : P_RM_load_167L st v4) (hk : T = K_RM_load_167L st v4) : plJ E 6 (plwR (plg E) a st) 0 0 [(0, .ref (a 0)), (4, .int v4)] 167 [] := by
  unfold P_RM_load_167L at hs
  unfold K_RM_load_167L at hk
  refine j_iload (pc := 167) X d_RM_load_167 1 rfl ?_
  refine j_bipush (pc := 169) X d_RM_load_169 bp_7 ?_
  refine j_aload_n (pc := 171) X d_RM_load_171 rfl 0 rfl ?_
  refine get_RM_waiting (pc := 172) X fl_RM_93 d_RM_load_172 ?_
  refine j_imul (pc := 175) X d_RM_load_175 ?_
  refine j_icmp_ge (pc := 176) (tgt := 202) X d_RM_load_176 rfl (fun hc => ?_) (fun hc => ?_)
  · have hk := hk.trans (if_pos hc)
    exact hx st v4 hk
  · have hk := hk.trans (if_neg hc)
    have hs := hs hc
    refine j_aload_n (pc := 179) X d_RM_load_179 rfl 0 rfl ?_
    refine get_RM_queue (pc := 180) X fl_RM_13 d_RM_load_180 ?_
    refine j_iload (pc := 183) X d_RM_load_183 1 rfl ?_
    refine j_aload_n (pc := 185) X d_RM_load_185 rfl 0 rfl ?_
    refine get_RM_queue (pc := 186) X fl_RM_13 d_RM_load_186 ?_
    refine j_iload (pc := 189) X d_RM_load_189 1 rfl ?_
    refine j_bipush (pc := 191) X d_RM_load_191 bp_7 ?_
    refine j_iadd (pc := 193) X d_RM_load_193 ?_
    refine ald_RMqueue (pc := 194) X hs.1 d_RM_load_194 ?_
    have hs := hs.2
    refine ast_RMqueue (pc := 195) X hs d_RM_load_195 ?_
    refine j_iinc (pc := 196) X d_RM_load_196 1 rfl ic_1 (lv' := [(4, .int (v4 + 1)), (0, .ref (a 0))]) (Nat.le_of_ble_eq_true rfl) rfl ?_
    refine j_goto (pc := 199) (tgt := 167) X d_RM_load_199 rfl ?_
    refine j_sub [1, 0] (lv' := [(0, .ref (a 0)), (4, .int (v4 + 1))]) rfl ?_
    exact hb (plUp st 2 (plIx v4) (st 2 (plIx (v4 + 7)))) (v4 + 1) hk
def F_RM_load_167 (c : plS × Int32) : Bool × (plS × Int32) := K_RM_load_167L c.1 c.2
def G_RM_load_167 (c : plS × Int32) : Prop := P_RM_load_167L c.1 c.2
def K_RM_load_167X  (c : plS × Int32) : plS := c.1
set_option maxRecDepth 20000 in
theorem j_RM_load_167X {E : plE} (X : plX E b_RM_load "ProtectedLineModel" 6 none 1 22) (a : Nat → Nat) (T : plS) (hQ : plRv E (plwR (plg E) a) T)  (c : plS × Int32) (hk : T = K_RM_load_167X c) : plJ E 6 (plwR (plg E) a c.1) 0 0 [(0, .ref (a 0)), (4, .int c.2)] 202 [] := by
  unfold K_RM_load_167X at hk
  exact j_retv (pc := 202) X hQ d_RM_load_202 hk
def K_RM_load_149 (st : plS) (v1 : Int32) : plS := (if v1 = 0 then st else K_RM_load_167X (lpR (F_RM_load_167) 64 (plUp st 0 4 ((st 0 4) - 1), 0)))
def P_RM_load_149 (st : plS) (v1 : Int32) : Prop := (¬ v1 = 0 → lpP (G_RM_load_167) (F_RM_load_167) 64 (plUp st 0 4 ((st 0 4) - 1), 0))
set_option maxRecDepth 20000 in
theorem j_RM_load_149 {E : plE} (X : plX E b_RM_load "ProtectedLineModel" 6 none 1 22) (a : Nat → Nat) (T : plS) (hQ : plRv E (plwR (plg E) a) T) (st : plS) (v1 : Int32) (hs : P_RM_load_149 st v1) (hk : T = K_RM_load_149 st v1) : plJ E 6 (plwR (plg E) a st) 0 0 [(0, .ref (a 0)), (1, .int v1)] 149 [] := by
  unfold P_RM_load_149 at hs
  unfold K_RM_load_149 at hk
  refine j_iload_n (pc := 149) X d_RM_load_149 rfl 1 rfl ?_
  refine j_if_ne (pc := 150) (tgt := 154) X d_RM_load_150 rfl (fun hc => ?_) (fun hc => ?_)
  · have hk := hk.trans (if_neg hc)
    have hs := hs hc
    refine j_aload_n (pc := 154) X d_RM_load_154 rfl 0 rfl ?_
    refine j_dup (pc := 155) X d_RM_load_155 rfl ?_
    refine get_RM_waiting (pc := 156) X fl_RM_93 d_RM_load_156 ?_
    refine j_iconst (pc := 159) X d_RM_load_159 ic_1 ?_
    refine j_isub (pc := 160) X d_RM_load_160 ?_
    refine put_RM_waiting (pc := 161) X fl_RM_93 d_RM_load_161 ?_
    refine j_iconst (pc := 164) X d_RM_load_164 ic_0 ?_
    refine j_istore (pc := 165) X d_RM_load_165 (lv' := [(4, .int 0), (0, .ref (a 0)), (1, .int v1)]) (Nat.le_of_ble_eq_true rfl) rfl ?_
    refine j_sub [1, 0] (lv' := [(0, .ref (a 0)), (4, .int 0)]) rfl ?_
    exact lpJ (G_RM_load_167) (F_RM_load_167) (fun c => plJ E 6 (plwR (plg E) a c.1) 0 0 [(0, .ref (a 0)), (4, .int c.2)] 167 []) (fun c => plJ E 6 (plwR (plg E) a c.1) 0 0 [(0, .ref (a 0)), (4, .int c.2)] 202 []) (fun c hp h1 h2 => j_RM_load_167L X a (F_RM_load_167 c) (fun c0 c1 => h1 (c0, c1)) (fun c0 c1 => h2 (c0, c1)) c.1 c.2 hp rfl) 64 (plUp st 0 4 ((st 0 4) - 1), 0) hs (j_RM_load_167X X a T hQ (lpR (F_RM_load_167) 64 (plUp st 0 4 ((st 0 4) - 1), 0)) hk)
  · have hk := hk.trans (if_pos hc)
    exact j_retv (pc := 153) X hQ d_RM_load_153 hk
def K_RM_load_144 (st : plS) (v1 : Int32) : plS := K_RM_load_149 (plUp st 0 8 0) v1
def P_RM_load_144 (st : plS) (v1 : Int32) : Prop := P_RM_load_149 (plUp st 0 8 0) v1
set_option maxRecDepth 20000 in
theorem j_RM_load_144 {E : plE} (X : plX E b_RM_load "ProtectedLineModel" 6 none 1 22) (a : Nat → Nat) (T : plS) (hQ : plRv E (plwR (plg E) a) T) (st : plS) (v1 : Int32) (hs : P_RM_load_144 st v1) (hk : T = K_RM_load_144 st v1) : plJ E 6 (plwR (plg E) a st) 0 0 [(0, .ref (a 0)), (1, .int v1)] 144 [] := by
  unfold P_RM_load_144 at hs
  unfold K_RM_load_144 at hk
  refine j_aload_n (pc := 144) X d_RM_load_144 rfl 0 rfl ?_
  refine j_iconst (pc := 145) X d_RM_load_145 ic_0 ?_
  refine put_RM_taken (pc := 146) X fl_RM_158 d_RM_load_146 ?_
  exact j_RM_load_149 X a T hQ (plUp st 0 8 0) v1 hs hk
def K_RM_load_62X (v1 : Int32) (v2 : Int32) (c : plS × Int32 × Int32) : plS := K_RM_load_144 (plUp c.1 0 7 (2 + v2)) v1
def P_RM_load_62X (v1 : Int32) (v2 : Int32) (c : plS × Int32 × Int32) : Prop := P_RM_load_144 (plUp c.1 0 7 (2 + v2)) v1
set_option maxRecDepth 20000 in
theorem j_RM_load_62X {E : plE} (X : plX E b_RM_load "ProtectedLineModel" 6 none 1 22) (a : Nat → Nat) (T : plS) (hQ : plRv E (plwR (plg E) a) T) (v1 : Int32) (v2 : Int32) (c : plS × Int32 × Int32) (hs : P_RM_load_62X v1 v2 c) (hk : T = K_RM_load_62X v1 v2 c) : plJ E 6 (plwR (plg E) a c.1) 0 0 [(0, .ref (a 0)), (1, .int v1), (2, .int v2), (3, .int c.2.1), (4, .int c.2.2)] 137 [] := by
  unfold P_RM_load_62X at hs
  unfold K_RM_load_62X at hk
  refine j_aload_n (pc := 137) X d_RM_load_137 rfl 0 rfl ?_
  refine j_iconst (pc := 138) X d_RM_load_138 ic_2 ?_
  refine j_iload_n (pc := 139) X d_RM_load_139 rfl 2 rfl ?_
  refine j_iadd (pc := 140) X d_RM_load_140 ?_
  refine put_RM_length (pc := 141) X fl_RM_155 d_RM_load_141 ?_
  refine j_sub [0, 1] (lv' := [(0, .ref (a 0)), (1, .int v1)]) rfl ?_
  exact j_RM_load_144 X a T hQ (plUp c.1 0 7 (2 + v2)) v1 hs hk
def K_RM_load_41 (st : plS) (v1 : Int32) (v2 : Int32) : plS := K_RM_load_62X v1 v2 (lpR (F_RM_load_62 v1 v2) 64 (plUp st 3 (plIx 1) ((K_RM_hash v2) ^^^ 171), 255, 0))
def P_RM_load_41 (st : plS) (v1 : Int32) (v2 : Int32) : Prop := (P_RM_hash v2 ∧ (lpP (G_RM_load_62 v1 v2) (F_RM_load_62 v1 v2) 64 (plUp st 3 (plIx 1) ((K_RM_hash v2) ^^^ 171), 255, 0) ∧ P_RM_load_62X v1 v2 (lpR (F_RM_load_62 v1 v2) 64 (plUp st 3 (plIx 1) ((K_RM_hash v2) ^^^ 171), 255, 0))))
set_option maxRecDepth 20000 in
theorem j_RM_load_41 {E : plE} (X : plX E b_RM_load "ProtectedLineModel" 6 none 1 22) (a : Nat → Nat) (T : plS) (hQ : plRv E (plwR (plg E) a) T) (st : plS) (v1 : Int32) (v2 : Int32) (hs : P_RM_load_41 st v1 v2) (hk : T = K_RM_load_41 st v1 v2) : plJ E 6 (plwR (plg E) a st) 0 0 [(0, .ref (a 0)), (1, .int v1), (2, .int v2)] 41 [] := by
  unfold P_RM_load_41 at hs
  unfold K_RM_load_41 at hk
  refine j_aload_n (pc := 41) X d_RM_load_41 rfl 0 rfl ?_
  refine get_RM_going (pc := 42) X fl_RM_16 d_RM_load_42 ?_
  refine j_iconst (pc := 45) X d_RM_load_45 ic_1 ?_
  refine j_iload_n (pc := 46) X d_RM_load_46 rfl 2 rfl ?_
  refine j_callSp (pc := 47) (As := [.int v2]) (rest := [.int 1, .ref (a 3)]) X (c_RM_hash (plg E) a st v2 hs.1) ml_RM_148 ⟨Nat.le_of_ble_eq_true rfl, Nat.le_of_ble_eq_true rfl⟩ rfl rfl (Nat.le_of_ble_eq_true rfl) d_RM_load_47 ?_
  have hs := hs.2
  refine j_sipush (pc := 50) X d_RM_load_50 sp_171 ?_
  refine j_ixor (pc := 53) X d_RM_load_53 ?_
  refine ast_RMgoing (pc := 54) X vi_1_9 d_RM_load_54 ?_
  refine j_sipush (pc := 55) X d_RM_load_55 sp_255 ?_
  refine j_istore_n (pc := 58) X d_RM_load_58 rfl (lv' := [(3, .int 255), (0, .ref (a 0)), (1, .int v1), (2, .int v2)]) (Nat.le_of_ble_eq_true rfl) rfl ?_
  refine j_iconst (pc := 59) X d_RM_load_59 ic_0 ?_
  refine j_istore (pc := 60) X d_RM_load_60 (lv' := [(4, .int 0), (3, .int 255), (0, .ref (a 0)), (1, .int v1), (2, .int v2)]) (Nat.le_of_ble_eq_true rfl) rfl ?_
  refine j_sub [2, 3, 4, 1, 0] (lv' := [(0, .ref (a 0)), (1, .int v1), (2, .int v2), (3, .int 255), (4, .int 0)]) rfl ?_
  exact lpJ (G_RM_load_62 v1 v2) (F_RM_load_62 v1 v2) (fun c => plJ E 6 (plwR (plg E) a c.1) 0 0 [(0, .ref (a 0)), (1, .int v1), (2, .int v2), (3, .int c.2.1), (4, .int c.2.2)] 62 []) (fun c => plJ E 6 (plwR (plg E) a c.1) 0 0 [(0, .ref (a 0)), (1, .int v1), (2, .int v2), (3, .int c.2.1), (4, .int c.2.2)] 137 []) (fun c hp h1 h2 => j_RM_load_62L X a (F_RM_load_62 v1 v2 c) v1 v2 (fun c0 c1 c2 => h1 (c0, c1, c2)) (fun c0 c1 c2 => h2 (c0, c1, c2)) c.1 c.2.1 c.2.2 hp rfl) 64 (plUp st 3 (plIx 1) ((K_RM_hash v2) ^^^ 171), 255, 0) hs.1 (j_RM_load_62X X a T hQ v1 v2 (lpR (F_RM_load_62 v1 v2) 64 (plUp st 3 (plIx 1) ((K_RM_hash v2) ^^^ 171), 255, 0)) hs.2 hk)
def K_RM_load_29 (st : plS) (v1 : Int32) (k0 : Int32) : plS := K_RM_load_41 (plUp st 3 (plIx 0) (k0 ^^^ 182)) v1 k0
def P_RM_load_29 (st : plS) (v1 : Int32) (k0 : Int32) : Prop := P_RM_load_41 (plUp st 3 (plIx 0) (k0 ^^^ 182)) v1 k0
set_option maxRecDepth 20000 in
theorem j_RM_load_29 {E : plE} (X : plX E b_RM_load "ProtectedLineModel" 6 none 1 22) (a : Nat → Nat) (T : plS) (hQ : plRv E (plwR (plg E) a) T) (st : plS) (v1 : Int32) (k0 : Int32) (hs : P_RM_load_29 st v1 k0) (hk : T = K_RM_load_29 st v1 k0) : plJ E 6 (plwR (plg E) a st) 0 0 [(0, .ref (a 0)), (1, .int v1)] 29 [.int k0] := by
  unfold P_RM_load_29 at hs
  unfold K_RM_load_29 at hk
  refine j_istore_n (pc := 29) X d_RM_load_29 rfl (lv' := [(2, .int k0), (0, .ref (a 0)), (1, .int v1)]) (Nat.le_of_ble_eq_true rfl) rfl ?_
  refine j_aload_n (pc := 30) X d_RM_load_30 rfl 1 rfl ?_
  refine get_RM_going (pc := 31) X fl_RM_16 d_RM_load_31 ?_
  refine j_iconst (pc := 34) X d_RM_load_34 ic_0 ?_
  refine j_iload_n (pc := 35) X d_RM_load_35 rfl 0 rfl ?_
  refine j_sipush (pc := 36) X d_RM_load_36 sp_182 ?_
  refine j_ixor (pc := 39) X d_RM_load_39 ?_
  refine ast_RMgoing (pc := 40) X vi_0_9 d_RM_load_40 ?_
  refine j_sub [1, 2, 0] (lv' := [(0, .ref (a 0)), (1, .int v1), (2, .int k0)]) rfl ?_
  exact j_RM_load_41 X a T hQ (plUp st 3 (plIx 0) (k0 ^^^ 182)) v1 k0 hs hk
def K_RM_load_17 (st : plS) (k0 : Int32) : plS := (if k0 ≤ 0 then K_RM_load_29 st k0 0 else K_RM_load_29 st k0 (k0 + 1))
def P_RM_load_17 (st : plS) (k0 : Int32) : Prop := ((k0 ≤ 0 → P_RM_load_29 st k0 0) ∧ (¬ k0 ≤ 0 → P_RM_load_29 st k0 (k0 + 1)))
set_option maxRecDepth 20000 in
theorem j_RM_load_17 {E : plE} (X : plX E b_RM_load "ProtectedLineModel" 6 none 1 22) (a : Nat → Nat) (T : plS) (hQ : plRv E (plwR (plg E) a) T) (st : plS) (k0 : Int32) (hs : P_RM_load_17 st k0) (hk : T = K_RM_load_17 st k0) : plJ E 6 (plwR (plg E) a st) 0 0 [(0, .ref (a 0))] 17 [.int k0] := by
  unfold P_RM_load_17 at hs
  unfold K_RM_load_17 at hk
  refine j_istore_n (pc := 17) X d_RM_load_17 rfl (lv' := [(1, .int k0), (0, .ref (a 0))]) (Nat.le_of_ble_eq_true rfl) rfl ?_
  refine j_iload_n (pc := 18) X d_RM_load_18 rfl 0 rfl ?_
  refine j_if_le (pc := 19) (tgt := 28) X d_RM_load_19 rfl (fun hc => ?_) (fun hc => ?_)
  · have hk := hk.trans (if_pos hc)
    have hs := hs.1 hc
    refine j_iconst (pc := 28) X d_RM_load_28 ic_0 ?_
    refine j_sub [1, 0] (lv' := [(0, .ref (a 0)), (1, .int k0)]) rfl ?_
    exact j_RM_load_29 X a T hQ st k0 0 hs hk
  · have hk := hk.trans (if_neg hc)
    have hs := hs.2 hc
    refine j_iload_n (pc := 22) X d_RM_load_22 rfl 0 rfl ?_
    refine j_iconst (pc := 23) X d_RM_load_23 ic_1 ?_
    refine j_iadd (pc := 24) X d_RM_load_24 ?_
    refine j_goto (pc := 25) (tgt := 29) X d_RM_load_25 rfl ?_
    refine j_sub [1, 0] (lv' := [(0, .ref (a 0)), (1, .int k0)]) rfl ?_
    exact j_RM_load_29 X a T hQ st k0 (k0 + 1) hs hk
def K_RM_load (st : plS) : plS := (if (st 0 4) ≤ 0 then K_RM_load_17 st 0 else K_RM_load_17 st (st 2 (plIx 0)))
def P_RM_load (st : plS) : Prop := (((st 0 4) ≤ 0 → P_RM_load_17 st 0) ∧ (¬ (st 0 4) ≤ 0 → P_RM_load_17 st (st 2 (plIx 0))))
set_option maxRecDepth 20000 in
theorem j_RM_load {E : plE} (X : plX E b_RM_load "ProtectedLineModel" 6 none 1 22) (a : Nat → Nat) (T : plS) (hQ : plRv E (plwR (plg E) a) T) (st : plS)  (hs : P_RM_load st) (hk : T = K_RM_load st) : plJ E 6 (plwR (plg E) a st) 0 0 [(0, .ref (a 0))] 0 [] := by
  unfold P_RM_load at hs
  unfold K_RM_load at hk
  refine j_aload_n (pc := 0) X d_RM_load_0 rfl 0 rfl ?_
  refine get_RM_waiting (pc := 1) X fl_RM_93 d_RM_load_1 ?_
  refine j_if_le (pc := 4) (tgt := 16) X d_RM_load_4 rfl (fun hc => ?_) (fun hc => ?_)
  · have hk := hk.trans (if_pos hc)
    have hs := hs.1 hc
    refine j_iconst (pc := 16) X d_RM_load_16 ic_0 ?_
    exact j_RM_load_17 X a T hQ st 0 hs hk
  · have hk := hk.trans (if_neg hc)
    have hs := hs.2 hc
    refine j_aload_n (pc := 7) X d_RM_load_7 rfl 0 rfl ?_
    refine get_RM_queue (pc := 8) X fl_RM_13 d_RM_load_8 ?_
    refine j_iconst (pc := 11) X d_RM_load_11 ic_0 ?_
    refine ald_RMqueue (pc := 12) X vi_0_56 d_RM_load_12 ?_
    refine j_goto (pc := 13) (tgt := 17) X d_RM_load_13 rfl ?_
    exact j_RM_load_17 X a T hQ st (st 2 (plIx 0)) hs hk
set_option maxRecDepth 20000 in
theorem c_RM_load (g : plG) (a : Nat → Nat) (st : plS)  (hs : P_RM_load st ) : plMv g y_RM_load b_RM_load 6 none 1 22 [.ref (a 0)] (plwR g a) st (K_RM_load st ) := by
  refine plMv.of (own := "ProtectedLineModel") (lv := [(0, .ref (a 0))]) rfl rfl (Nat.le_of_ble_eq_true rfl) rfl (fun E hE X hQ => ?_)
  subst hE
  exact j_RM_load X a _ hQ st  hs rfl
theorem d_RM_streamed_0 : decode b_RM_streamed 0 = .ok (.aload_n 0, 1) := by decide +kernel
theorem d_RM_streamed_1 : decode b_RM_streamed 1 = .ok (.getfield 158, 3) := by decide +kernel
theorem d_RM_streamed_4 : decode b_RM_streamed 4 = .ok (.aload_n 0, 1) := by decide +kernel
theorem d_RM_streamed_5 : decode b_RM_streamed 5 = .ok (.getfield 155, 3) := by decide +kernel
theorem d_RM_streamed_8 : decode b_RM_streamed 8 = .ok (.if_icmp .ne (7), 3) := by decide +kernel
theorem d_RM_streamed_11 : decode b_RM_streamed 11 = .ok (.aload_n 0, 1) := by decide +kernel
theorem d_RM_streamed_12 : decode b_RM_streamed 12 = .ok (.invokevirtual 161, 3) := by decide +kernel
theorem d_RM_streamed_15 : decode b_RM_streamed 15 = .ok (.aload_n 0, 1) := by decide +kernel
theorem d_RM_streamed_16 : decode b_RM_streamed 16 = .ok (.dup, 1) := by decide +kernel
theorem d_RM_streamed_17 : decode b_RM_streamed 17 = .ok (.getfield 158, 3) := by decide +kernel
theorem d_RM_streamed_20 : decode b_RM_streamed 20 = .ok (.iconst 1, 1) := by decide +kernel
theorem d_RM_streamed_21 : decode b_RM_streamed 21 = .ok (.iadd, 1) := by decide +kernel
theorem d_RM_streamed_22 : decode b_RM_streamed 22 = .ok (.putfield 158, 3) := by decide +kernel
theorem d_RM_streamed_25 : decode b_RM_streamed 25 = .ok (.aload_n 0, 1) := by decide +kernel
theorem d_RM_streamed_26 : decode b_RM_streamed 26 = .ok (.getfield 16, 3) := by decide +kernel
theorem d_RM_streamed_29 : decode b_RM_streamed 29 = .ok (.aload_n 0, 1) := by decide +kernel
theorem d_RM_streamed_30 : decode b_RM_streamed 30 = .ok (.getfield 158, 3) := by decide +kernel
theorem d_RM_streamed_33 : decode b_RM_streamed 33 = .ok (.iconst 1, 1) := by decide +kernel
theorem d_RM_streamed_34 : decode b_RM_streamed 34 = .ok (.isub, 1) := by decide +kernel
theorem d_RM_streamed_35 : decode b_RM_streamed 35 = .ok (.iaload, 1) := by decide +kernel
theorem d_RM_streamed_36 : decode b_RM_streamed 36 = .ok (.ireturn, 1) := by decide +kernel
def K_RM_streamed_25 (st : plS) : Int32 × plS := (st 3 (plIx ((st 0 8) - 1)), st)
def P_RM_streamed_25 (st : plS) : Prop := vp_in ((st 0 8) - 1) 9
set_option maxRecDepth 20000 in
theorem j_RM_streamed_25 {E : plE} (X : plX E b_RM_streamed "ProtectedLineModel" 1 (some .int) 2 47) (a : Nat → Nat) (T : Int32 × plS) (hQ : plRi E (plwR (plg E) a) T) (st : plS)  (hs : P_RM_streamed_25 st) (hk : T = K_RM_streamed_25 st) : plJ E 1 (plwR (plg E) a st) 0 0 [(0, .ref (a 0))] 25 [] := by
  unfold P_RM_streamed_25 at hs
  unfold K_RM_streamed_25 at hk
  refine j_aload_n (pc := 25) X d_RM_streamed_25 rfl 0 rfl ?_
  refine get_RM_going (pc := 26) X fl_RM_16 d_RM_streamed_26 ?_
  refine j_aload_n (pc := 29) X d_RM_streamed_29 rfl 0 rfl ?_
  refine get_RM_taken (pc := 30) X fl_RM_158 d_RM_streamed_30 ?_
  refine j_iconst (pc := 33) X d_RM_streamed_33 ic_1 ?_
  refine j_isub (pc := 34) X d_RM_streamed_34 ?_
  refine ald_RMgoing (pc := 35) X hs d_RM_streamed_35 ?_
  exact j_reti (pc := 36) X hQ d_RM_streamed_36 hk
def K_RM_streamed_15 (st : plS) : Int32 × plS := K_RM_streamed_25 (plUp st 0 8 ((st 0 8) + 1))
def P_RM_streamed_15 (st : plS) : Prop := P_RM_streamed_25 (plUp st 0 8 ((st 0 8) + 1))
set_option maxRecDepth 20000 in
theorem j_RM_streamed_15 {E : plE} (X : plX E b_RM_streamed "ProtectedLineModel" 1 (some .int) 2 47) (a : Nat → Nat) (T : Int32 × plS) (hQ : plRi E (plwR (plg E) a) T) (st : plS)  (hs : P_RM_streamed_15 st) (hk : T = K_RM_streamed_15 st) : plJ E 1 (plwR (plg E) a st) 0 0 [(0, .ref (a 0))] 15 [] := by
  unfold P_RM_streamed_15 at hs
  unfold K_RM_streamed_15 at hk
  refine j_aload_n (pc := 15) X d_RM_streamed_15 rfl 0 rfl ?_
  refine j_dup (pc := 16) X d_RM_streamed_16 rfl ?_
  refine get_RM_taken (pc := 17) X fl_RM_158 d_RM_streamed_17 ?_
  refine j_iconst (pc := 20) X d_RM_streamed_20 ic_1 ?_
  refine j_iadd (pc := 21) X d_RM_streamed_21 ?_
  refine put_RM_taken (pc := 22) X fl_RM_158 d_RM_streamed_22 ?_
  exact j_RM_streamed_25 X a T hQ (plUp st 0 8 ((st 0 8) + 1)) hs hk
def K_RM_streamed (st : plS) : Int32 × plS := (if (st 0 8) = (st 0 7) then K_RM_streamed_15 (K_RM_load st) else K_RM_streamed_15 st)
def P_RM_streamed (st : plS) : Prop := (((st 0 8) = (st 0 7) → (P_RM_load st ∧ P_RM_streamed_15 (K_RM_load st))) ∧ (¬ (st 0 8) = (st 0 7) → P_RM_streamed_15 st))
set_option maxRecDepth 20000 in
theorem j_RM_streamed {E : plE} (X : plX E b_RM_streamed "ProtectedLineModel" 1 (some .int) 2 47) (a : Nat → Nat) (T : Int32 × plS) (hQ : plRi E (plwR (plg E) a) T) (st : plS)  (hs : P_RM_streamed st) (hk : T = K_RM_streamed st) : plJ E 1 (plwR (plg E) a st) 0 0 [(0, .ref (a 0))] 0 [] := by
  unfold P_RM_streamed at hs
  unfold K_RM_streamed at hk
  refine j_aload_n (pc := 0) X d_RM_streamed_0 rfl 0 rfl ?_
  refine get_RM_taken (pc := 1) X fl_RM_158 d_RM_streamed_1 ?_
  refine j_aload_n (pc := 4) X d_RM_streamed_4 rfl 0 rfl ?_
  refine get_RM_length (pc := 5) X fl_RM_155 d_RM_streamed_5 ?_
  refine j_icmp_ne (pc := 8) (tgt := 15) X d_RM_streamed_8 rfl (fun hc => ?_) (fun hc => ?_)
  · have hk := hk.trans (if_neg hc)
    have hs := hs.2 hc
    exact j_RM_streamed_15 X a T hQ st hs hk
  · have hk := hk.trans (if_pos hc)
    have hs := hs.1 hc
    refine j_aload_n (pc := 11) X d_RM_streamed_11 rfl 0 rfl ?_
    refine j_callVv (pc := 12) (As := []) (rest := []) X (c_RM_load (plg E) a st hs.1) ml_RM_161 0 rfl rfl ⟨Nat.le_of_ble_eq_true rfl, Nat.le_of_ble_eq_true rfl⟩ rfl rfl (Nat.le_of_ble_eq_true rfl) d_RM_streamed_12 ?_
    have hs := hs.2
    exact j_RM_streamed_15 X a T hQ (K_RM_load st) hs hk
set_option maxRecDepth 20000 in
theorem c_RM_streamed (g : plG) (a : Nat → Nat) (st : plS)  (hs : P_RM_streamed st ) : plMi g y_RM_streamed b_RM_streamed 1 (some .int) 2 47 [.ref (a 0)] (plwR g a) st (K_RM_streamed st ) := by
  refine plMi.of (own := "ProtectedLineModel") (lv := [(0, .ref (a 0))]) rfl rfl (Nat.le_of_ble_eq_true rfl) rfl (fun E hE X hQ => ?_)
  subst hE
  exact j_RM_streamed X a _ hQ st  hs rfl
theorem d_RM_contained_0 : decode b_RM_contained 0 = .ok (.aload_n 0, 1) := by decide +kernel
theorem d_RM_contained_1 : decode b_RM_contained 1 = .ok (.getfield 164, 3) := by decide +kernel
theorem d_RM_contained_4 : decode b_RM_contained 4 = .ok (.ifCond .ne (10), 3) := by decide +kernel
theorem d_RM_contained_7 : decode b_RM_contained 7 = .ok (.aload_n 0, 1) := by decide +kernel
theorem d_RM_contained_8 : decode b_RM_contained 8 = .ok (.getfield 167, 3) := by decide +kernel
theorem d_RM_contained_11 : decode b_RM_contained 11 = .ok (.goto (7), 3) := by decide +kernel
theorem d_RM_contained_14 : decode b_RM_contained 14 = .ok (.aload_n 0, 1) := by decide +kernel
theorem d_RM_contained_15 : decode b_RM_contained 15 = .ok (.invokevirtual 170, 3) := by decide +kernel
theorem d_RM_contained_18 : decode b_RM_contained 18 = .ok (.istore_n 1, 1) := by decide +kernel
theorem d_RM_contained_19 : decode b_RM_contained 19 = .ok (.aload_n 0, 1) := by decide +kernel
theorem d_RM_contained_20 : decode b_RM_contained 20 = .ok (.aload_n 0, 1) := by decide +kernel
theorem d_RM_contained_21 : decode b_RM_contained 21 = .ok (.getfield 174, 3) := by decide +kernel
theorem d_RM_contained_24 : decode b_RM_contained 24 = .ok (.iload_n 1, 1) := by decide +kernel
theorem d_RM_contained_25 : decode b_RM_contained 25 = .ok (.ixor, 1) := by decide +kernel
theorem d_RM_contained_26 : decode b_RM_contained 26 = .ok (.putfield 174, 3) := by decide +kernel
theorem d_RM_contained_29 : decode b_RM_contained 29 = .ok (.aload_n 0, 1) := by decide +kernel
theorem d_RM_contained_30 : decode b_RM_contained 30 = .ok (.dup, 1) := by decide +kernel
theorem d_RM_contained_31 : decode b_RM_contained 31 = .ok (.getfield 164, 3) := by decide +kernel
theorem d_RM_contained_34 : decode b_RM_contained 34 = .ok (.iconst 1, 1) := by decide +kernel
theorem d_RM_contained_35 : decode b_RM_contained 35 = .ok (.iadd, 1) := by decide +kernel
theorem d_RM_contained_36 : decode b_RM_contained 36 = .ok (.putfield 164, 3) := by decide +kernel
theorem d_RM_contained_39 : decode b_RM_contained 39 = .ok (.aload_n 0, 1) := by decide +kernel
theorem d_RM_contained_40 : decode b_RM_contained 40 = .ok (.getfield 164, 3) := by decide +kernel
theorem d_RM_contained_43 : decode b_RM_contained 43 = .ok (.bipush (6), 2) := by decide +kernel
theorem d_RM_contained_45 : decode b_RM_contained 45 = .ok (.if_icmp .ne (21), 3) := by decide +kernel
theorem d_RM_contained_48 : decode b_RM_contained 48 = .ok (.aload_n 0, 1) := by decide +kernel
theorem d_RM_contained_49 : decode b_RM_contained 49 = .ok (.aload_n 0, 1) := by decide +kernel
theorem d_RM_contained_50 : decode b_RM_contained 50 = .ok (.getfield 174, 3) := by decide +kernel
theorem d_RM_contained_53 : decode b_RM_contained 53 = .ok (.putfield 167, 3) := by decide +kernel
theorem d_RM_contained_56 : decode b_RM_contained 56 = .ok (.aload_n 0, 1) := by decide +kernel
theorem d_RM_contained_57 : decode b_RM_contained 57 = .ok (.iconst 0, 1) := by decide +kernel
theorem d_RM_contained_58 : decode b_RM_contained 58 = .ok (.putfield 174, 3) := by decide +kernel
theorem d_RM_contained_61 : decode b_RM_contained 61 = .ok (.aload_n 0, 1) := by decide +kernel
theorem d_RM_contained_62 : decode b_RM_contained 62 = .ok (.iconst 0, 1) := by decide +kernel
theorem d_RM_contained_63 : decode b_RM_contained 63 = .ok (.putfield 164, 3) := by decide +kernel
theorem d_RM_contained_66 : decode b_RM_contained 66 = .ok (.iload_n 1, 1) := by decide +kernel
theorem d_RM_contained_67 : decode b_RM_contained 67 = .ok (.ireturn, 1) := by decide +kernel
def K_RM_contained_66 (st : plS) (v1 : Int32) : Int32 × plS := (v1, st)
set_option maxRecDepth 20000 in
theorem j_RM_contained_66 {E : plE} (X : plX E b_RM_contained "ProtectedLineModel" 2 (some .int) 3 67) (a : Nat → Nat) (T : Int32 × plS) (hQ : plRi E (plwR (plg E) a) T) (st : plS) (v1 : Int32) (hk : T = K_RM_contained_66 st v1) : plJ E 2 (plwR (plg E) a st) 0 0 [(1, .int v1)] 66 [] := by
  unfold K_RM_contained_66 at hk
  refine j_iload_n (pc := 66) X d_RM_contained_66 rfl 0 rfl ?_
  exact j_reti (pc := 67) X hQ d_RM_contained_67 hk
def K_RM_contained_61 (st : plS) (v1 : Int32) : Int32 × plS := K_RM_contained_66 (plUp st 0 10 0) v1
set_option maxRecDepth 20000 in
theorem j_RM_contained_61 {E : plE} (X : plX E b_RM_contained "ProtectedLineModel" 2 (some .int) 3 67) (a : Nat → Nat) (T : Int32 × plS) (hQ : plRi E (plwR (plg E) a) T) (st : plS) (v1 : Int32) (hk : T = K_RM_contained_61 st v1) : plJ E 2 (plwR (plg E) a st) 0 0 [(0, .ref (a 0)), (1, .int v1)] 61 [] := by
  unfold K_RM_contained_61 at hk
  refine j_aload_n (pc := 61) X d_RM_contained_61 rfl 0 rfl ?_
  refine j_iconst (pc := 62) X d_RM_contained_62 ic_0 ?_
  refine put_RM_place (pc := 63) X fl_RM_164 d_RM_contained_63 ?_
  refine j_sub [1] (lv' := [(1, .int v1)]) rfl ?_
  exact j_RM_contained_66 X a T hQ (plUp st 0 10 0) v1 hk
def K_RM_contained_56 (st : plS) (v1 : Int32) : Int32 × plS := K_RM_contained_61 (plUp st 0 12 0) v1
set_option maxRecDepth 20000 in
theorem j_RM_contained_56 {E : plE} (X : plX E b_RM_contained "ProtectedLineModel" 2 (some .int) 3 67) (a : Nat → Nat) (T : Int32 × plS) (hQ : plRi E (plwR (plg E) a) T) (st : plS) (v1 : Int32) (hk : T = K_RM_contained_56 st v1) : plJ E 2 (plwR (plg E) a st) 0 0 [(0, .ref (a 0)), (1, .int v1)] 56 [] := by
  unfold K_RM_contained_56 at hk
  refine j_aload_n (pc := 56) X d_RM_contained_56 rfl 0 rfl ?_
  refine j_iconst (pc := 57) X d_RM_contained_57 ic_0 ?_
  refine put_RM_joined (pc := 58) X fl_RM_174 d_RM_contained_58 ?_
  exact j_RM_contained_61 X a T hQ (plUp st 0 12 0) v1 hk
def K_RM_contained_39 (st : plS) (v1 : Int32) : Int32 × plS := (if (st 0 10) = 6 then K_RM_contained_56 (plUp st 0 11 (st 0 12)) v1 else K_RM_contained_66 st v1)
set_option maxRecDepth 20000 in
theorem j_RM_contained_39 {E : plE} (X : plX E b_RM_contained "ProtectedLineModel" 2 (some .int) 3 67) (a : Nat → Nat) (T : Int32 × plS) (hQ : plRi E (plwR (plg E) a) T) (st : plS) (v1 : Int32) (hk : T = K_RM_contained_39 st v1) : plJ E 2 (plwR (plg E) a st) 0 0 [(0, .ref (a 0)), (1, .int v1)] 39 [] := by
  unfold K_RM_contained_39 at hk
  refine j_aload_n (pc := 39) X d_RM_contained_39 rfl 0 rfl ?_
  refine get_RM_place (pc := 40) X fl_RM_164 d_RM_contained_40 ?_
  refine j_bipush (pc := 43) X d_RM_contained_43 bp_6 ?_
  refine j_icmp_ne (pc := 45) (tgt := 66) X d_RM_contained_45 rfl (fun hc => ?_) (fun hc => ?_)
  · have hk := hk.trans (if_neg hc)
    refine j_sub [1] (lv' := [(1, .int v1)]) rfl ?_
    exact j_RM_contained_66 X a T hQ st v1 hk
  · have hk := hk.trans (if_pos hc)
    refine j_aload_n (pc := 48) X d_RM_contained_48 rfl 0 rfl ?_
    refine j_aload_n (pc := 49) X d_RM_contained_49 rfl 0 rfl ?_
    refine get_RM_joined (pc := 50) X fl_RM_174 d_RM_contained_50 ?_
    refine put_RM_parity (pc := 53) X fl_RM_167 d_RM_contained_53 ?_
    exact j_RM_contained_56 X a T hQ (plUp st 0 11 (st 0 12)) v1 hk
def K_RM_contained_29 (st : plS) (v1 : Int32) : Int32 × plS := K_RM_contained_39 (plUp st 0 10 ((st 0 10) + 1)) v1
set_option maxRecDepth 20000 in
theorem j_RM_contained_29 {E : plE} (X : plX E b_RM_contained "ProtectedLineModel" 2 (some .int) 3 67) (a : Nat → Nat) (T : Int32 × plS) (hQ : plRi E (plwR (plg E) a) T) (st : plS) (v1 : Int32) (hk : T = K_RM_contained_29 st v1) : plJ E 2 (plwR (plg E) a st) 0 0 [(0, .ref (a 0)), (1, .int v1)] 29 [] := by
  unfold K_RM_contained_29 at hk
  refine j_aload_n (pc := 29) X d_RM_contained_29 rfl 0 rfl ?_
  refine j_dup (pc := 30) X d_RM_contained_30 rfl ?_
  refine get_RM_place (pc := 31) X fl_RM_164 d_RM_contained_31 ?_
  refine j_iconst (pc := 34) X d_RM_contained_34 ic_1 ?_
  refine j_iadd (pc := 35) X d_RM_contained_35 ?_
  refine put_RM_place (pc := 36) X fl_RM_164 d_RM_contained_36 ?_
  exact j_RM_contained_39 X a T hQ (plUp st 0 10 ((st 0 10) + 1)) v1 hk
def K_RM_contained_18 (st : plS) (k0 : Int32) : Int32 × plS := K_RM_contained_29 (plUp st 0 12 ((st 0 12) ^^^ k0)) k0
set_option maxRecDepth 20000 in
theorem j_RM_contained_18 {E : plE} (X : plX E b_RM_contained "ProtectedLineModel" 2 (some .int) 3 67) (a : Nat → Nat) (T : Int32 × plS) (hQ : plRi E (plwR (plg E) a) T) (st : plS) (k0 : Int32) (hk : T = K_RM_contained_18 st k0) : plJ E 2 (plwR (plg E) a st) 0 0 [(0, .ref (a 0))] 18 [.int k0] := by
  unfold K_RM_contained_18 at hk
  refine j_istore_n (pc := 18) X d_RM_contained_18 rfl (lv' := [(1, .int k0), (0, .ref (a 0))]) (Nat.le_of_ble_eq_true rfl) rfl ?_
  refine j_aload_n (pc := 19) X d_RM_contained_19 rfl 1 rfl ?_
  refine j_aload_n (pc := 20) X d_RM_contained_20 rfl 1 rfl ?_
  refine get_RM_joined (pc := 21) X fl_RM_174 d_RM_contained_21 ?_
  refine j_iload_n (pc := 24) X d_RM_contained_24 rfl 0 rfl ?_
  refine j_ixor (pc := 25) X d_RM_contained_25 ?_
  refine put_RM_joined (pc := 26) X fl_RM_174 d_RM_contained_26 ?_
  refine j_sub [1, 0] (lv' := [(0, .ref (a 0)), (1, .int k0)]) rfl ?_
  exact j_RM_contained_29 X a T hQ (plUp st 0 12 ((st 0 12) ^^^ k0)) k0 hk
def K_RM_contained_18q  (q : Int32 × plS) : Int32 × plS := K_RM_contained_18 q.2 q.1
set_option maxRecDepth 20000 in
theorem j_RM_contained_18q {E : plE} (X : plX E b_RM_contained "ProtectedLineModel" 2 (some .int) 3 67) (a : Nat → Nat) (T : Int32 × plS) (hQ : plRi E (plwR (plg E) a) T)  (q : Int32 × plS) (hk : T = K_RM_contained_18q  q) : plJ E 2 (plwR (plg E) a q.2) 0 0 [(0, .ref (a 0))] 18 [.int q.1] := by
  unfold K_RM_contained_18q at hk
  exact j_RM_contained_18 X a T hQ q.2 q.1 hk
def K_RM_contained (st : plS) : Int32 × plS := (if (st 0 10) = 0 then K_RM_contained_18 st (st 0 11) else K_RM_contained_18q (K_RM_streamed st))
def P_RM_contained (st : plS) : Prop := (¬ (st 0 10) = 0 → P_RM_streamed st)
set_option maxRecDepth 20000 in
theorem j_RM_contained {E : plE} (X : plX E b_RM_contained "ProtectedLineModel" 2 (some .int) 3 67) (a : Nat → Nat) (T : Int32 × plS) (hQ : plRi E (plwR (plg E) a) T) (st : plS)  (hs : P_RM_contained st) (hk : T = K_RM_contained st) : plJ E 2 (plwR (plg E) a st) 0 0 [(0, .ref (a 0))] 0 [] := by
  unfold P_RM_contained at hs
  unfold K_RM_contained at hk
  refine j_aload_n (pc := 0) X d_RM_contained_0 rfl 0 rfl ?_
  refine get_RM_place (pc := 1) X fl_RM_164 d_RM_contained_1 ?_
  refine j_if_ne (pc := 4) (tgt := 14) X d_RM_contained_4 rfl (fun hc => ?_) (fun hc => ?_)
  · have hk := hk.trans (if_neg hc)
    have hs := hs hc
    refine j_aload_n (pc := 14) X d_RM_contained_14 rfl 0 rfl ?_
    refine j_callVi (pc := 15) (As := []) (rest := []) X (c_RM_streamed (plg E) a st hs) ml_RM_170 0 rfl rfl ⟨Nat.le_of_ble_eq_true rfl, Nat.le_of_ble_eq_true rfl⟩ rfl rfl (Nat.le_of_ble_eq_true rfl) d_RM_contained_15 ?_
    exact j_RM_contained_18q X a T hQ (K_RM_streamed st) hk
  · have hk := hk.trans (if_pos hc)
    refine j_aload_n (pc := 7) X d_RM_contained_7 rfl 0 rfl ?_
    refine get_RM_parity (pc := 8) X fl_RM_167 d_RM_contained_8 ?_
    refine j_goto (pc := 11) (tgt := 18) X d_RM_contained_11 rfl ?_
    exact j_RM_contained_18 X a T hQ st (st 0 11) hk
set_option maxRecDepth 20000 in
theorem c_RM_contained (g : plG) (a : Nat → Nat) (st : plS)  (hs : P_RM_contained st ) : plMi g y_RM_contained b_RM_contained 2 (some .int) 3 67 [.ref (a 0)] (plwR g a) st (K_RM_contained st ) := by
  refine plMi.of (own := "ProtectedLineModel") (lv := [(0, .ref (a 0))]) rfl rfl (Nat.le_of_ble_eq_true rfl) rfl (fun E hE X hQ => ?_)
  subst hE
  exact j_RM_contained X a _ hQ st  hs rfl
