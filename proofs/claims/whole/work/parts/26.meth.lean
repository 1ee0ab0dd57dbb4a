theorem d_RM_build_0 : decode b_RM_build 0 = .ok (.aload_n 0, 1) := by decide +kernel
theorem d_RM_build_1 : decode b_RM_build 1 = .ok (.getfield 105, 3) := by decide +kernel
theorem d_RM_build_4 : decode b_RM_build 4 = .ok (.ifCond .eq (15), 3) := by decide +kernel
theorem d_RM_build_7 : decode b_RM_build 7 = .ok (.aload_n 0, 1) := by decide +kernel
theorem d_RM_build_8 : decode b_RM_build 8 = .ok (.getfield 19, 3) := by decide +kernel
theorem d_RM_build_11 : decode b_RM_build 11 = .ok (.iconst 3, 1) := by decide +kernel
theorem d_RM_build_12 : decode b_RM_build 12 = .ok (.if_icmp .lt (7), 3) := by decide +kernel
theorem d_RM_build_15 : decode b_RM_build 15 = .ok (.iconst 1, 1) := by decide +kernel
theorem d_RM_build_16 : decode b_RM_build 16 = .ok (.goto (4), 3) := by decide +kernel
theorem d_RM_build_19 : decode b_RM_build 19 = .ok (.iconst 0, 1) := by decide +kernel
theorem d_RM_build_20 : decode b_RM_build 20 = .ok (.istore_n 1, 1) := by decide +kernel
theorem d_RM_build_21 : decode b_RM_build 21 = .ok (.iload_n 1, 1) := by decide +kernel
theorem d_RM_build_22 : decode b_RM_build 22 = .ok (.ifCond .eq (18), 3) := by decide +kernel
theorem d_RM_build_25 : decode b_RM_build 25 = .ok (.aload_n 0, 1) := by decide +kernel
theorem d_RM_build_26 : decode b_RM_build 26 = .ok (.getfield 105, 3) := by decide +kernel
theorem d_RM_build_29 : decode b_RM_build 29 = .ok (.ifCond .le (7), 3) := by decide +kernel
theorem d_RM_build_32 : decode b_RM_build 32 = .ok (.iconst 1, 1) := by decide +kernel
theorem d_RM_build_33 : decode b_RM_build 33 = .ok (.goto (8), 3) := by decide +kernel
theorem d_RM_build_36 : decode b_RM_build 36 = .ok (.iconst (-1), 1) := by decide +kernel
theorem d_RM_build_37 : decode b_RM_build 37 = .ok (.goto (4), 3) := by decide +kernel
theorem d_RM_build_40 : decode b_RM_build 40 = .ok (.iconst 0, 1) := by decide +kernel
theorem d_RM_build_41 : decode b_RM_build 41 = .ok (.istore_n 2, 1) := by decide +kernel
theorem d_RM_build_42 : decode b_RM_build 42 = .ok (.iload_n 2, 1) := by decide +kernel
theorem d_RM_build_43 : decode b_RM_build 43 = .ok (.ifCond .le (8), 3) := by decide +kernel
theorem d_RM_build_46 : decode b_RM_build 46 = .ok (.bipush (21), 2) := by decide +kernel
theorem d_RM_build_48 : decode b_RM_build 48 = .ok (.goto (13), 3) := by decide +kernel
theorem d_RM_build_51 : decode b_RM_build 51 = .ok (.iload_n 2, 1) := by decide +kernel
theorem d_RM_build_52 : decode b_RM_build 52 = .ok (.ifCond .ge (8), 3) := by decide +kernel
theorem d_RM_build_55 : decode b_RM_build 55 = .ok (.bipush (42), 2) := by decide +kernel
theorem d_RM_build_57 : decode b_RM_build 57 = .ok (.goto (4), 3) := by decide +kernel
theorem d_RM_build_60 : decode b_RM_build 60 = .ok (.iconst 0, 1) := by decide +kernel
theorem d_RM_build_61 : decode b_RM_build 61 = .ok (.istore_n 3, 1) := by decide +kernel
theorem d_RM_build_62 : decode b_RM_build 62 = .ok (.aload_n 0, 1) := by decide +kernel
theorem d_RM_build_63 : decode b_RM_build 63 = .ok (.getfield 35, 3) := by decide +kernel
theorem d_RM_build_66 : decode b_RM_build 66 = .ok (.iconst 0, 1) := by decide +kernel
theorem d_RM_build_67 : decode b_RM_build 67 = .ok (.sipush (246), 3) := by decide +kernel
theorem d_RM_build_70 : decode b_RM_build 70 = .ok (.iastore, 1) := by decide +kernel
theorem d_RM_build_71 : decode b_RM_build 71 = .ok (.aload_n 0, 1) := by decide +kernel
theorem d_RM_build_72 : decode b_RM_build 72 = .ok (.getfield 35, 3) := by decide +kernel
theorem d_RM_build_75 : decode b_RM_build 75 = .ok (.iconst 1, 1) := by decide +kernel
theorem d_RM_build_76 : decode b_RM_build 76 = .ok (.bipush (40), 2) := by decide +kernel
theorem d_RM_build_78 : decode b_RM_build 78 = .ok (.iastore, 1) := by decide +kernel
theorem d_RM_build_79 : decode b_RM_build 79 = .ok (.aload_n 0, 1) := by decide +kernel
theorem d_RM_build_80 : decode b_RM_build 80 = .ok (.getfield 35, 3) := by decide +kernel
theorem d_RM_build_83 : decode b_RM_build 83 = .ok (.iconst 4, 1) := by decide +kernel
theorem d_RM_build_84 : decode b_RM_build 84 = .ok (.bipush (64), 2) := by decide +kernel
theorem d_RM_build_86 : decode b_RM_build 86 = .ok (.bipush (9), 2) := by decide +kernel
theorem d_RM_build_88 : decode b_RM_build 88 = .ok (.aload_n 0, 1) := by decide +kernel
theorem d_RM_build_89 : decode b_RM_build 89 = .ok (.getfield 177, 3) := by decide +kernel
theorem d_RM_build_92 : decode b_RM_build 92 = .ok (.imul, 1) := by decide +kernel
theorem d_RM_build_93 : decode b_RM_build 93 = .ok (.iload_n 3, 1) := by decide +kernel
theorem d_RM_build_94 : decode b_RM_build 94 = .ok (.ixor, 1) := by decide +kernel
theorem d_RM_build_95 : decode b_RM_build 95 = .ok (.iadd, 1) := by decide +kernel
theorem d_RM_build_96 : decode b_RM_build 96 = .ok (.iastore, 1) := by decide +kernel
theorem d_RM_build_97 : decode b_RM_build 97 = .ok (.iconst 5, 1) := by decide +kernel
theorem d_RM_build_98 : decode b_RM_build 98 = .ok (.istore 4, 2) := by decide +kernel
theorem d_RM_build_100 : decode b_RM_build 100 = .ok (.iload 4, 2) := by decide +kernel
theorem d_RM_build_102 : decode b_RM_build 102 = .ok (.bipush (12), 2) := by decide +kernel
theorem d_RM_build_104 : decode b_RM_build 104 = .ok (.if_icmp .ge (33), 3) := by decide +kernel
theorem d_RM_build_107 : decode b_RM_build 107 = .ok (.aload_n 0, 1) := by decide +kernel
theorem d_RM_build_108 : decode b_RM_build 108 = .ok (.getfield 35, 3) := by decide +kernel
theorem d_RM_build_111 : decode b_RM_build 111 = .ok (.iload 4, 2) := by decide +kernel
theorem d_RM_build_113 : decode b_RM_build 113 = .ok (.iload 4, 2) := by decide +kernel
theorem d_RM_build_115 : decode b_RM_build 115 = .ok (.bipush (6), 2) := by decide +kernel
theorem d_RM_build_117 : decode b_RM_build 117 = .ok (.iload_n 2, 1) := by decide +kernel
theorem d_RM_build_118 : decode b_RM_build 118 = .ok (.iadd, 1) := by decide +kernel
theorem d_RM_build_119 : decode b_RM_build 119 = .ok (.if_icmp .lt (10), 3) := by decide +kernel
theorem d_RM_build_122 : decode b_RM_build 122 = .ok (.aload_n 0, 1) := by decide +kernel
theorem d_RM_build_123 : decode b_RM_build 123 = .ok (.invokevirtual 180, 3) := by decide +kernel
theorem d_RM_build_126 : decode b_RM_build 126 = .ok (.goto (4), 3) := by decide +kernel
theorem d_RM_build_129 : decode b_RM_build 129 = .ok (.iconst 0, 1) := by decide +kernel
theorem d_RM_build_130 : decode b_RM_build 130 = .ok (.iastore, 1) := by decide +kernel
theorem d_RM_build_131 : decode b_RM_build 131 = .ok (.iinc 4 (1), 3) := by decide +kernel
theorem d_RM_build_134 : decode b_RM_build 134 = .ok (.goto (-34), 3) := by decide +kernel
theorem d_RM_build_137 : decode b_RM_build 137 = .ok (.aload_n 0, 1) := by decide +kernel
theorem d_RM_build_138 : decode b_RM_build 138 = .ok (.aload_n 0, 1) := by decide +kernel
theorem d_RM_build_139 : decode b_RM_build 139 = .ok (.getfield 177, 3) := by decide +kernel
theorem d_RM_build_142 : decode b_RM_build 142 = .ok (.iload_n 2, 1) := by decide +kernel
theorem d_RM_build_143 : decode b_RM_build 143 = .ok (.iadd, 1) := by decide +kernel
theorem d_RM_build_144 : decode b_RM_build 144 = .ok (.bipush (6), 2) := by decide +kernel
theorem d_RM_build_146 : decode b_RM_build 146 = .ok (.iadd, 1) := by decide +kernel
theorem d_RM_build_147 : decode b_RM_build 147 = .ok (.bipush (6), 2) := by decide +kernel
theorem d_RM_build_149 : decode b_RM_build 149 = .ok (.irem, 1) := by decide +kernel
theorem d_RM_build_150 : decode b_RM_build 150 = .ok (.putfield 177, 3) := by decide +kernel
theorem d_RM_build_153 : decode b_RM_build 153 = .ok (.aload_n 0, 1) := by decide +kernel
theorem d_RM_build_154 : decode b_RM_build 154 = .ok (.aload_n 0, 1) := by decide +kernel
theorem d_RM_build_155 : decode b_RM_build 155 = .ok (.getfield 105, 3) := by decide +kernel
theorem d_RM_build_158 : decode b_RM_build 158 = .ok (.iload_n 2, 1) := by decide +kernel
theorem d_RM_build_159 : decode b_RM_build 159 = .ok (.isub, 1) := by decide +kernel
theorem d_RM_build_160 : decode b_RM_build 160 = .ok (.putfield 105, 3) := by decide +kernel
theorem d_RM_build_163 : decode b_RM_build 163 = .ok (.aload_n 0, 1) := by decide +kernel
theorem d_RM_build_164 : decode b_RM_build 164 = .ok (.iload_n 1, 1) := by decide +kernel
theorem d_RM_build_165 : decode b_RM_build 165 = .ok (.ifCond .eq (7), 3) := by decide +kernel
theorem d_RM_build_168 : decode b_RM_build 168 = .ok (.iconst 0, 1) := by decide +kernel
theorem d_RM_build_169 : decode b_RM_build 169 = .ok (.goto (21), 3) := by decide +kernel
theorem d_RM_build_172 : decode b_RM_build 172 = .ok (.aload_n 0, 1) := by decide +kernel
theorem d_RM_build_173 : decode b_RM_build 173 = .ok (.getfield 19, 3) := by decide +kernel
theorem d_RM_build_176 : decode b_RM_build 176 = .ok (.iconst 3, 1) := by decide +kernel
theorem d_RM_build_177 : decode b_RM_build 177 = .ok (.if_icmp .ge (12), 3) := by decide +kernel
theorem d_RM_build_180 : decode b_RM_build 180 = .ok (.aload_n 0, 1) := by decide +kernel
theorem d_RM_build_181 : decode b_RM_build 181 = .ok (.getfield 19, 3) := by decide +kernel
theorem d_RM_build_184 : decode b_RM_build 184 = .ok (.iconst 1, 1) := by decide +kernel
theorem d_RM_build_185 : decode b_RM_build 185 = .ok (.iadd, 1) := by decide +kernel
theorem d_RM_build_186 : decode b_RM_build 186 = .ok (.goto (4), 3) := by decide +kernel
theorem d_RM_build_189 : decode b_RM_build 189 = .ok (.iconst 3, 1) := by decide +kernel
theorem d_RM_build_190 : decode b_RM_build 190 = .ok (.putfield 19, 3) := by decide +kernel
theorem d_RM_build_193 : decode b_RM_build 193 = .ok (.iconst 0, 1) := by decide +kernel
theorem d_RM_build_194 : decode b_RM_build 194 = .ok (.istore 4, 2) := by decide +kernel
theorem d_RM_build_196 : decode b_RM_build 196 = .ok (.iload 4, 2) := by decide +kernel
theorem d_RM_build_198 : decode b_RM_build 198 = .ok (.iconst 2, 1) := by decide +kernel
theorem d_RM_build_199 : decode b_RM_build 199 = .ok (.if_icmp .ge (15), 3) := by decide +kernel
theorem d_RM_build_202 : decode b_RM_build 202 = .ok (.aload_n 0, 1) := by decide +kernel
theorem d_RM_build_203 : decode b_RM_build 203 = .ok (.iload 4, 2) := by decide +kernel
theorem d_RM_build_205 : decode b_RM_build 205 = .ok (.invokevirtual 183, 3) := by decide +kernel
theorem d_RM_build_208 : decode b_RM_build 208 = .ok (.iinc 4 (1), 3) := by decide +kernel
theorem d_RM_build_211 : decode b_RM_build 211 = .ok (.goto (-15), 3) := by decide +kernel
theorem d_RM_build_214 : decode b_RM_build 214 = .ok (.return_, 1) := by decide +kernel
def K_RM_build_100L130 (st : plS) (v1 : Int32) (v2 : Int32) (v4 : Int32) (k0 : Int32) (k1 : Int32) : Bool × (plS × Int32) := (true, (plUp st 7 (plIx k1) k0, v4 + 1))
def P_RM_build_100L130 (st : plS) (v1 : Int32) (v2 : Int32) (v4 : Int32) (k0 : Int32) (k1 : Int32) : Prop := vp_in k1 12
set_option maxRecDepth 20000 in
theorem j_RM_build_100L130 {E : plE} (X : plX E b_RM_build "ProtectedLineModel" 5 none 4 88) (a : Nat → Nat) (T : Bool × (plS × Int32)) (v1 : Int32) (v2 : Int32) (hb : ∀ (c0 : plS) (c1 : Int32), T = (true, (c0, c1)) → plJ E 5 (plwR (plg E) a c0) 0 0 [(0, .ref (a 0)), (1, .int v1), (2, .int v2), (4, .int c1)] 100 []) (hx : ∀ (c0 : plS) (c1 : Int32), T = (false, (c0, c1)) → plJ E 5 (plwR (plg E) a c0) 0 0 [(0, .ref (a 0)), (1, .int v1), (2, .int v2), (4, .int c1)] 137 []) (st : plS) (v4 : Int32) (k0 : Int32) (k1 : Int32) (hs : P_RM_build_100L130 st v1 v2 v4 k0 k1) (hk : T = K_RM_build_100L130 st v1 v2 v4 k0 k1) : plJ E 5 (plwR (plg E) a st) 0 0 [(0, .ref (a 0)), (1, .int v1), (2, .int v2), (4, .int v4)] 130 [.int k0, .int k1, .ref (a 7)] := by
  unfold P_RM_build_100L130 at hs
  unfold K_RM_build_100L130 at hk
  refine ast_RMframe (pc := 130) X hs d_RM_build_130 ?_
  refine j_iinc (pc := 131) X d_RM_build_131 3 rfl ic_1 (lv' := [(4, .int (v4 + 1)), (0, .ref (a 0)), (1, .int v1), (2, .int v2)]) (Nat.le_of_ble_eq_true rfl) rfl ?_
  refine j_goto (pc := 134) (tgt := 100) X d_RM_build_134 rfl ?_
  refine j_sub [1, 2, 3, 0] (lv' := [(0, .ref (a 0)), (1, .int v1), (2, .int v2), (4, .int (v4 + 1))]) rfl ?_
  exact hb (plUp st 7 (plIx k1) k0) (v4 + 1) hk
def K_RM_build_100L126q (v1 : Int32) (v2 : Int32) (v4 : Int32) (k0 : Int32) (q : Int32 × plS) : Bool × (plS × Int32) := K_RM_build_100L130 q.2 v1 v2 v4 q.1 k0
def P_RM_build_100L126q (v1 : Int32) (v2 : Int32) (v4 : Int32) (k0 : Int32) (q : Int32 × plS) : Prop := P_RM_build_100L130 q.2 v1 v2 v4 q.1 k0
set_option maxRecDepth 20000 in
theorem j_RM_build_100L126q {E : plE} (X : plX E b_RM_build "ProtectedLineModel" 5 none 4 88) (a : Nat → Nat) (T : Bool × (plS × Int32)) (v1 : Int32) (v2 : Int32) (hb : ∀ (c0 : plS) (c1 : Int32), T = (true, (c0, c1)) → plJ E 5 (plwR (plg E) a c0) 0 0 [(0, .ref (a 0)), (1, .int v1), (2, .int v2), (4, .int c1)] 100 []) (hx : ∀ (c0 : plS) (c1 : Int32), T = (false, (c0, c1)) → plJ E 5 (plwR (plg E) a c0) 0 0 [(0, .ref (a 0)), (1, .int v1), (2, .int v2), (4, .int c1)] 137 []) (v4 : Int32) (k0 : Int32) (q : Int32 × plS) (hs : P_RM_build_100L126q v1 v2 v4 k0 q) (hk : T = K_RM_build_100L126q v1 v2 v4 k0 q) : plJ E 5 (plwR (plg E) a q.2) 0 0 [(0, .ref (a 0)), (1, .int v1), (2, .int v2), (4, .int v4)] 126 [.int q.1, .int k0, .ref (a 7)] := by
  unfold P_RM_build_100L126q at hs
  unfold K_RM_build_100L126q at hk
  refine j_goto (pc := 126) (tgt := 130) X d_RM_build_126 rfl ?_
  exact j_RM_build_100L130 X a T v1 v2 hb hx q.2 v4 q.1 k0 hs hk
def K_RM_build_100L (st : plS) (v1 : Int32) (v2 : Int32) (v4 : Int32) : Bool × (plS × Int32) := (if 12 ≤ v4 then (false, (st, v4)) else (if v4 < (6 + v2) then K_RM_build_100L130 st v1 v2 v4 0 v4 else K_RM_build_100L126q v1 v2 v4 v4 (K_RM_contained st)))
def P_RM_build_100L (st : plS) (v1 : Int32) (v2 : Int32) (v4 : Int32) : Prop := (¬ 12 ≤ v4 → ((v4 < (6 + v2) → P_RM_build_100L130 st v1 v2 v4 0 v4) ∧ (¬ v4 < (6 + v2) → (P_RM_contained st ∧ P_RM_build_100L126q v1 v2 v4 v4 (K_RM_contained st)))))
set_option maxRecDepth 20000 in
theorem j_RM_build_100L {E : plE} (X : plX E b_RM_build "ProtectedLineModel" 5 none 4 88) (a : Nat → Nat) (T : Bool × (plS × Int32)) (v1 : Int32) (v2 : Int32) (hb : ∀ (c0 : plS) (c1 : Int32), T = (true, (c0, c1)) → plJ E 5 (plwR (plg E) a c0) 0 0 [(0, .ref (a 0)), (1, .int v1), (2, .int v2), (4, .int c1)] 100 []) (hx : ∀ (c0 : plS) (c1 : Int32), T = (false, (c0, c1)) → plJ E 5 (plwR (plg E) a c0) 0 0 [(0, .ref (a 0)), (1, .int v1), (2, .int v2), (4, .int c1)] 137 []) (st : plS) (v4 : Int32) (hs : P_RM_build_100L st v1 v2 v4) (hk : T = K_RM_build_100L st v1 v2 v4) : plJ E 5 (plwR (plg E) a st) 0 0 [(0, .ref (a 0)), (1, .int v1), (2, .int v2), (4, .int v4)] 100 [] := by
  unfold P_RM_build_100L at hs
  unfold K_RM_build_100L at hk
  refine j_iload (pc := 100) X d_RM_build_100 3 rfl ?_
  refine j_bipush (pc := 102) X d_RM_build_102 bp_12 ?_
  refine j_icmp_ge (pc := 104) (tgt := 137) X d_RM_build_104 rfl (fun hc => ?_) (fun hc => ?_)
  · have hk := hk.trans (if_pos hc)
    exact hx st v4 hk
  · have hk := hk.trans (if_neg hc)
    have hs := hs hc
    refine j_aload_n (pc := 107) X d_RM_build_107 rfl 0 rfl ?_
    refine get_RM_frame (pc := 108) X fl_RM_35 d_RM_build_108 ?_
    refine j_iload (pc := 111) X d_RM_build_111 3 rfl ?_
    refine j_iload (pc := 113) X d_RM_build_113 3 rfl ?_
    refine j_bipush (pc := 115) X d_RM_build_115 bp_6 ?_
    refine j_iload_n (pc := 117) X d_RM_build_117 rfl 2 rfl ?_
    refine j_iadd (pc := 118) X d_RM_build_118 ?_
    refine j_icmp_lt (pc := 119) (tgt := 129) X d_RM_build_119 rfl (fun hc => ?_) (fun hc => ?_)
    · have hk := hk.trans (if_pos hc)
      have hs := hs.1 hc
      refine j_iconst (pc := 129) X d_RM_build_129 ic_0 ?_
      exact j_RM_build_100L130 X a T v1 v2 hb hx st v4 0 v4 hs hk
    · have hk := hk.trans (if_neg hc)
      have hs := hs.2 hc
      refine j_aload_n (pc := 122) X d_RM_build_122 rfl 0 rfl ?_
      refine j_callVi (pc := 123) (As := []) (rest := [.int v4, .ref (a 7)]) X (c_RM_contained (plg E) a st hs.1) ml_RM_180 0 rfl rfl ⟨Nat.le_of_ble_eq_true rfl, Nat.le_of_ble_eq_true rfl⟩ rfl rfl (Nat.le_of_ble_eq_true rfl) d_RM_build_123 ?_
      exact j_RM_build_100L126q X a T v1 v2 hb hx v4 v4 (K_RM_contained st) hs.2 hk
def F_RM_build_100 (v1 : Int32) (v2 : Int32) (c : plS × Int32) : Bool × (plS × Int32) := K_RM_build_100L c.1 v1 v2 c.2
def G_RM_build_100 (v1 : Int32) (v2 : Int32) (c : plS × Int32) : Prop := P_RM_build_100L c.1 v1 v2 c.2
def K_RM_build_196L (st : plS) (v4 : Int32) : Bool × (plS × Int32) := (if 2 ≤ v4 then (false, (st, v4)) else (true, (K_RM_put st v4, v4 + 1)))
def P_RM_build_196L (st : plS) (v4 : Int32) : Prop := (¬ 2 ≤ v4 → P_RM_put st v4)
set_option maxRecDepth 20000 in
theorem j_RM_build_196L {E : plE} (X : plX E b_RM_build "ProtectedLineModel" 5 none 4 88) (a : Nat → Nat) (T : Bool × (plS × Int32))  (hb : ∀ (c0 : plS) (c1 : Int32), T = (true, (c0, c1)) → plJ E 5 (plwR (plg E) a c0) 0 0 [(0, .ref (a 0)), (4, .int c1)] 196 []) (hx : ∀ (c0 : plS) (c1 : Int32), T = (false, (c0, c1)) → plJ E 5 (plwR (plg E) a c0) 0 0 [(0, .ref (a 0)), (4, .int c1)] 214 []) (st : plS) (v4 : Int32) (hs : P_RM_build_196L st v4) (hk : T = K_RM_build_196L st v4) : plJ E 5 (plwR (plg E) a st) 0 0 [(0, .ref (a 0)), (4, .int v4)] 196 [] := by
  unfold P_RM_build_196L at hs
  unfold K_RM_build_196L at hk
  refine j_iload (pc := 196) X d_RM_build_196 1 rfl ?_
  refine j_iconst (pc := 198) X d_RM_build_198 ic_2 ?_
  refine j_icmp_ge (pc := 199) (tgt := 214) X d_RM_build_199 rfl (fun hc => ?_) (fun hc => ?_)
  · have hk := hk.trans (if_pos hc)
    exact hx st v4 hk
  · have hk := hk.trans (if_neg hc)
    have hs := hs hc
    refine j_aload_n (pc := 202) X d_RM_build_202 rfl 0 rfl ?_
    refine j_iload (pc := 203) X d_RM_build_203 1 rfl ?_
    refine j_callVv (pc := 205) (As := [.int v4]) (rest := []) X (c_RM_put (plg E) a st v4 hs) ml_RM_183 0 rfl rfl ⟨Nat.le_of_ble_eq_true rfl, Nat.le_of_ble_eq_true rfl⟩ rfl rfl (Nat.le_of_ble_eq_true rfl) d_RM_build_205 ?_
    refine j_iinc (pc := 208) X d_RM_build_208 1 rfl ic_1 (lv' := [(4, .int (v4 + 1)), (0, .ref (a 0))]) (Nat.le_of_ble_eq_true rfl) rfl ?_
    refine j_goto (pc := 211) (tgt := 196) X d_RM_build_211 rfl ?_
    refine j_sub [1, 0] (lv' := [(0, .ref (a 0)), (4, .int (v4 + 1))]) rfl ?_
    exact hb (K_RM_put st v4) (v4 + 1) hk
def F_RM_build_196 (c : plS × Int32) : Bool × (plS × Int32) := K_RM_build_196L c.1 c.2
def G_RM_build_196 (c : plS × Int32) : Prop := P_RM_build_196L c.1 c.2
def K_RM_build_196X  (c : plS × Int32) : plS := c.1
set_option maxRecDepth 20000 in
theorem j_RM_build_196X {E : plE} (X : plX E b_RM_build "ProtectedLineModel" 5 none 4 88) (a : Nat → Nat) (T : plS) (hQ : plRv E (plwR (plg E) a) T)  (c : plS × Int32) (hk : T = K_RM_build_196X c) : plJ E 5 (plwR (plg E) a c.1) 0 0 [(0, .ref (a 0)), (4, .int c.2)] 214 [] := by
  unfold K_RM_build_196X at hk
  exact j_retv (pc := 214) X hQ d_RM_build_214 hk
def K_RM_build_190 (st : plS) (k0 : Int32) : plS := K_RM_build_196X (lpR (F_RM_build_196) 64 (plUp st 0 15 k0, 0))
def P_RM_build_190 (st : plS) (k0 : Int32) : Prop := lpP (G_RM_build_196) (F_RM_build_196) 64 (plUp st 0 15 k0, 0)
set_option maxRecDepth 20000 in
theorem j_RM_build_190 {E : plE} (X : plX E b_RM_build "ProtectedLineModel" 5 none 4 88) (a : Nat → Nat) (T : plS) (hQ : plRv E (plwR (plg E) a) T) (st : plS) (k0 : Int32) (hs : P_RM_build_190 st k0) (hk : T = K_RM_build_190 st k0) : plJ E 5 (plwR (plg E) a st) 0 0 [(0, .ref (a 0))] 190 [.int k0, .ref (a 0)] := by
  unfold P_RM_build_190 at hs
  unfold K_RM_build_190 at hk
  refine put_RM_quiet (pc := 190) X fl_RM_19 d_RM_build_190 ?_
  refine j_iconst (pc := 193) X d_RM_build_193 ic_0 ?_
  refine j_istore (pc := 194) X d_RM_build_194 (lv' := [(4, .int 0), (0, .ref (a 0))]) (Nat.le_of_ble_eq_true rfl) rfl ?_
  refine j_sub [1, 0] (lv' := [(0, .ref (a 0)), (4, .int 0)]) rfl ?_
  exact lpJ (G_RM_build_196) (F_RM_build_196) (fun c => plJ E 5 (plwR (plg E) a c.1) 0 0 [(0, .ref (a 0)), (4, .int c.2)] 196 []) (fun c => plJ E 5 (plwR (plg E) a c.1) 0 0 [(0, .ref (a 0)), (4, .int c.2)] 214 []) (fun c hp h1 h2 => j_RM_build_196L X a (F_RM_build_196 c) (fun c0 c1 => h1 (c0, c1)) (fun c0 c1 => h2 (c0, c1)) c.1 c.2 hp rfl) 64 (plUp st 0 15 k0, 0) hs (j_RM_build_196X X a T hQ (lpR (F_RM_build_196) 64 (plUp st 0 15 k0, 0)) hk)
def K_RM_build_163 (st : plS) (v1 : Int32) : plS := (if v1 = 0 then (if 3 ≤ (st 0 15) then K_RM_build_190 st 3 else K_RM_build_190 st ((st 0 15) + 1)) else K_RM_build_190 st 0)
def P_RM_build_163 (st : plS) (v1 : Int32) : Prop := ((v1 = 0 → ((3 ≤ (st 0 15) → P_RM_build_190 st 3) ∧ (¬ 3 ≤ (st 0 15) → P_RM_build_190 st ((st 0 15) + 1)))) ∧ (¬ v1 = 0 → P_RM_build_190 st 0))
set_option maxRecDepth 20000 in
theorem j_RM_build_163 {E : plE} (X : plX E b_RM_build "ProtectedLineModel" 5 none 4 88) (a : Nat → Nat) (T : plS) (hQ : plRv E (plwR (plg E) a) T) (st : plS) (v1 : Int32) (hs : P_RM_build_163 st v1) (hk : T = K_RM_build_163 st v1) : plJ E 5 (plwR (plg E) a st) 0 0 [(0, .ref (a 0)), (1, .int v1)] 163 [] := by
  unfold P_RM_build_163 at hs
  unfold K_RM_build_163 at hk
  refine j_aload_n (pc := 163) X d_RM_build_163 rfl 0 rfl ?_
  refine j_iload_n (pc := 164) X d_RM_build_164 rfl 1 rfl ?_
  refine j_if_eq (pc := 165) (tgt := 172) X d_RM_build_165 rfl (fun hc => ?_) (fun hc => ?_)
  · have hk := hk.trans (if_pos hc)
    have hs := hs.1 hc
    refine j_aload_n (pc := 172) X d_RM_build_172 rfl 0 rfl ?_
    refine get_RM_quiet (pc := 173) X fl_RM_19 d_RM_build_173 ?_
    refine j_iconst (pc := 176) X d_RM_build_176 ic_3 ?_
    refine j_icmp_ge (pc := 177) (tgt := 189) X d_RM_build_177 rfl (fun hc => ?_) (fun hc => ?_)
    · have hk := hk.trans (if_pos hc)
      have hs := hs.1 hc
      refine j_iconst (pc := 189) X d_RM_build_189 ic_3 ?_
      refine j_sub [0] (lv' := [(0, .ref (a 0))]) rfl ?_
      exact j_RM_build_190 X a T hQ st 3 hs hk
    · have hk := hk.trans (if_neg hc)
      have hs := hs.2 hc
      refine j_aload_n (pc := 180) X d_RM_build_180 rfl 0 rfl ?_
      refine get_RM_quiet (pc := 181) X fl_RM_19 d_RM_build_181 ?_
      refine j_iconst (pc := 184) X d_RM_build_184 ic_1 ?_
      refine j_iadd (pc := 185) X d_RM_build_185 ?_
      refine j_goto (pc := 186) (tgt := 190) X d_RM_build_186 rfl ?_
      refine j_sub [0] (lv' := [(0, .ref (a 0))]) rfl ?_
      exact j_RM_build_190 X a T hQ st ((st 0 15) + 1) hs hk
  · have hk := hk.trans (if_neg hc)
    have hs := hs.2 hc
    refine j_iconst (pc := 168) X d_RM_build_168 ic_0 ?_
    refine j_goto (pc := 169) (tgt := 190) X d_RM_build_169 rfl ?_
    refine j_sub [0] (lv' := [(0, .ref (a 0))]) rfl ?_
    exact j_RM_build_190 X a T hQ st 0 hs hk
def K_RM_build_153 (st : plS) (v1 : Int32) (v2 : Int32) : plS := K_RM_build_163 (plUp st 0 14 ((st 0 14) - v2)) v1
def P_RM_build_153 (st : plS) (v1 : Int32) (v2 : Int32) : Prop := P_RM_build_163 (plUp st 0 14 ((st 0 14) - v2)) v1
set_option maxRecDepth 20000 in
theorem j_RM_build_153 {E : plE} (X : plX E b_RM_build "ProtectedLineModel" 5 none 4 88) (a : Nat → Nat) (T : plS) (hQ : plRv E (plwR (plg E) a) T) (st : plS) (v1 : Int32) (v2 : Int32) (hs : P_RM_build_153 st v1 v2) (hk : T = K_RM_build_153 st v1 v2) : plJ E 5 (plwR (plg E) a st) 0 0 [(0, .ref (a 0)), (1, .int v1), (2, .int v2)] 153 [] := by
  unfold P_RM_build_153 at hs
  unfold K_RM_build_153 at hk
  refine j_aload_n (pc := 153) X d_RM_build_153 rfl 0 rfl ?_
  refine j_aload_n (pc := 154) X d_RM_build_154 rfl 0 rfl ?_
  refine get_RM_debt (pc := 155) X fl_RM_105 d_RM_build_155 ?_
  refine j_iload_n (pc := 158) X d_RM_build_158 rfl 2 rfl ?_
  refine j_isub (pc := 159) X d_RM_build_159 ?_
  refine put_RM_debt (pc := 160) X fl_RM_105 d_RM_build_160 ?_
  refine j_sub [0, 1] (lv' := [(0, .ref (a 0)), (1, .int v1)]) rfl ?_
  exact j_RM_build_163 X a T hQ (plUp st 0 14 ((st 0 14) - v2)) v1 hs hk
def K_RM_build_100X (v1 : Int32) (v2 : Int32) (c : plS × Int32) : plS := K_RM_build_153 (plUp c.1 0 13 ((((c.1 0 13) + v2) + 6) - (((c.1 0 13) + v2) + 6) / 6 * 6)) v1 v2
def P_RM_build_100X (v1 : Int32) (v2 : Int32) (c : plS × Int32) : Prop := P_RM_build_153 (plUp c.1 0 13 ((((c.1 0 13) + v2) + 6) - (((c.1 0 13) + v2) + 6) / 6 * 6)) v1 v2
set_option maxRecDepth 20000 in
theorem j_RM_build_100X {E : plE} (X : plX E b_RM_build "ProtectedLineModel" 5 none 4 88) (a : Nat → Nat) (T : plS) (hQ : plRv E (plwR (plg E) a) T) (v1 : Int32) (v2 : Int32) (c : plS × Int32) (hs : P_RM_build_100X v1 v2 c) (hk : T = K_RM_build_100X v1 v2 c) : plJ E 5 (plwR (plg E) a c.1) 0 0 [(0, .ref (a 0)), (1, .int v1), (2, .int v2), (4, .int c.2)] 137 [] := by
  unfold P_RM_build_100X at hs
  unfold K_RM_build_100X at hk
  refine j_aload_n (pc := 137) X d_RM_build_137 rfl 0 rfl ?_
  refine j_aload_n (pc := 138) X d_RM_build_138 rfl 0 rfl ?_
  refine get_RM_lead (pc := 139) X fl_RM_177 d_RM_build_139 ?_
  refine j_iload_n (pc := 142) X d_RM_build_142 rfl 2 rfl ?_
  refine j_iadd (pc := 143) X d_RM_build_143 ?_
  refine j_bipush (pc := 144) X d_RM_build_144 bp_6 ?_
  refine j_iadd (pc := 146) X d_RM_build_146 ?_
  refine j_bipush (pc := 147) X d_RM_build_147 bp_6 ?_
  refine j_irem (pc := 149) X d_RM_build_149 nz_6 ?_
  refine put_RM_lead (pc := 150) X fl_RM_177 d_RM_build_150 ?_
  refine j_sub [0, 1, 2] (lv' := [(0, .ref (a 0)), (1, .int v1), (2, .int v2)]) rfl ?_
  exact j_RM_build_153 X a T hQ (plUp c.1 0 13 ((((c.1 0 13) + v2) + 6) - (((c.1 0 13) + v2) + 6) / 6 * 6)) v1 v2 hs hk
def K_RM_build_79 (st : plS) (v1 : Int32) (v2 : Int32) (v3 : Int32) : plS := K_RM_build_100X v1 v2 (lpR (F_RM_build_100 v1 v2) 64 (plUp st 7 (plIx 4) (64 + ((9 * (st 0 13)) ^^^ v3)), 5))
def P_RM_build_79 (st : plS) (v1 : Int32) (v2 : Int32) (v3 : Int32) : Prop := (lpP (G_RM_build_100 v1 v2) (F_RM_build_100 v1 v2) 64 (plUp st 7 (plIx 4) (64 + ((9 * (st 0 13)) ^^^ v3)), 5) ∧ P_RM_build_100X v1 v2 (lpR (F_RM_build_100 v1 v2) 64 (plUp st 7 (plIx 4) (64 + ((9 * (st 0 13)) ^^^ v3)), 5)))
set_option maxRecDepth 20000 in
theorem j_RM_build_79 {E : plE} (X : plX E b_RM_build "ProtectedLineModel" 5 none 4 88) (a : Nat → Nat) (T : plS) (hQ : plRv E (plwR (plg E) a) T) (st : plS) (v1 : Int32) (v2 : Int32) (v3 : Int32) (hs : P_RM_build_79 st v1 v2 v3) (hk : T = K_RM_build_79 st v1 v2 v3) : plJ E 5 (plwR (plg E) a st) 0 0 [(0, .ref (a 0)), (1, .int v1), (2, .int v2), (3, .int v3)] 79 [] := by
  unfold P_RM_build_79 at hs
  unfold K_RM_build_79 at hk
  refine j_aload_n (pc := 79) X d_RM_build_79 rfl 0 rfl ?_
  refine get_RM_frame (pc := 80) X fl_RM_35 d_RM_build_80 ?_
  refine j_iconst (pc := 83) X d_RM_build_83 ic_4 ?_
  refine j_bipush (pc := 84) X d_RM_build_84 bp_64 ?_
  refine j_bipush (pc := 86) X d_RM_build_86 bp_9 ?_
  refine j_aload_n (pc := 88) X d_RM_build_88 rfl 0 rfl ?_
  refine get_RM_lead (pc := 89) X fl_RM_177 d_RM_build_89 ?_
  refine j_imul (pc := 92) X d_RM_build_92 ?_
  refine j_iload_n (pc := 93) X d_RM_build_93 rfl 3 rfl ?_
  refine j_ixor (pc := 94) X d_RM_build_94 ?_
  refine j_iadd (pc := 95) X d_RM_build_95 ?_
  refine ast_RMframe (pc := 96) X vi_4_12 d_RM_build_96 ?_
  refine j_iconst (pc := 97) X d_RM_build_97 ic_5 ?_
  refine j_istore (pc := 98) X d_RM_build_98 (lv' := [(4, .int 5), (0, .ref (a 0)), (1, .int v1), (2, .int v2), (3, .int v3)]) (Nat.le_of_ble_eq_true rfl) rfl ?_
  refine j_sub [1, 2, 3, 0] (lv' := [(0, .ref (a 0)), (1, .int v1), (2, .int v2), (4, .int 5)]) rfl ?_
  exact lpJ (G_RM_build_100 v1 v2) (F_RM_build_100 v1 v2) (fun c => plJ E 5 (plwR (plg E) a c.1) 0 0 [(0, .ref (a 0)), (1, .int v1), (2, .int v2), (4, .int c.2)] 100 []) (fun c => plJ E 5 (plwR (plg E) a c.1) 0 0 [(0, .ref (a 0)), (1, .int v1), (2, .int v2), (4, .int c.2)] 137 []) (fun c hp h1 h2 => j_RM_build_100L X a (F_RM_build_100 v1 v2 c) v1 v2 (fun c0 c1 => h1 (c0, c1)) (fun c0 c1 => h2 (c0, c1)) c.1 c.2 hp rfl) 64 (plUp st 7 (plIx 4) (64 + ((9 * (st 0 13)) ^^^ v3)), 5) hs.1 (j_RM_build_100X X a T hQ v1 v2 (lpR (F_RM_build_100 v1 v2) 64 (plUp st 7 (plIx 4) (64 + ((9 * (st 0 13)) ^^^ v3)), 5)) hs.2 hk)
def K_RM_build_71 (st : plS) (v1 : Int32) (v2 : Int32) (v3 : Int32) : plS := K_RM_build_79 (plUp st 7 (plIx 1) 40) v1 v2 v3
def P_RM_build_71 (st : plS) (v1 : Int32) (v2 : Int32) (v3 : Int32) : Prop := P_RM_build_79 (plUp st 7 (plIx 1) 40) v1 v2 v3
set_option maxRecDepth 20000 in
theorem j_RM_build_71 {E : plE} (X : plX E b_RM_build "ProtectedLineModel" 5 none 4 88) (a : Nat → Nat) (T : plS) (hQ : plRv E (plwR (plg E) a) T) (st : plS) (v1 : Int32) (v2 : Int32) (v3 : Int32) (hs : P_RM_build_71 st v1 v2 v3) (hk : T = K_RM_build_71 st v1 v2 v3) : plJ E 5 (plwR (plg E) a st) 0 0 [(0, .ref (a 0)), (1, .int v1), (2, .int v2), (3, .int v3)] 71 [] := by
  unfold P_RM_build_71 at hs
  unfold K_RM_build_71 at hk
  refine j_aload_n (pc := 71) X d_RM_build_71 rfl 0 rfl ?_
  refine get_RM_frame (pc := 72) X fl_RM_35 d_RM_build_72 ?_
  refine j_iconst (pc := 75) X d_RM_build_75 ic_1 ?_
  refine j_bipush (pc := 76) X d_RM_build_76 bp_40 ?_
  refine ast_RMframe (pc := 78) X vi_1_12 d_RM_build_78 ?_
  exact j_RM_build_79 X a T hQ (plUp st 7 (plIx 1) 40) v1 v2 v3 hs hk
def K_RM_build_61 (st : plS) (v1 : Int32) (v2 : Int32) (k0 : Int32) : plS := K_RM_build_71 (plUp st 7 (plIx 0) 246) v1 v2 k0
def P_RM_build_61 (st : plS) (v1 : Int32) (v2 : Int32) (k0 : Int32) : Prop := P_RM_build_71 (plUp st 7 (plIx 0) 246) v1 v2 k0
set_option maxRecDepth 20000 in
theorem j_RM_build_61 {E : plE} (X : plX E b_RM_build "ProtectedLineModel" 5 none 4 88) (a : Nat → Nat) (T : plS) (hQ : plRv E (plwR (plg E) a) T) (st : plS) (v1 : Int32) (v2 : Int32) (k0 : Int32) (hs : P_RM_build_61 st v1 v2 k0) (hk : T = K_RM_build_61 st v1 v2 k0) : plJ E 5 (plwR (plg E) a st) 0 0 [(0, .ref (a 0)), (1, .int v1), (2, .int v2)] 61 [.int k0] := by
  unfold P_RM_build_61 at hs
  unfold K_RM_build_61 at hk
  refine j_istore_n (pc := 61) X d_RM_build_61 rfl (lv' := [(3, .int k0), (0, .ref (a 0)), (1, .int v1), (2, .int v2)]) (Nat.le_of_ble_eq_true rfl) rfl ?_
  refine j_aload_n (pc := 62) X d_RM_build_62 rfl 1 rfl ?_
  refine get_RM_frame (pc := 63) X fl_RM_35 d_RM_build_63 ?_
  refine j_iconst (pc := 66) X d_RM_build_66 ic_0 ?_
  refine j_sipush (pc := 67) X d_RM_build_67 sp_246 ?_
  refine ast_RMframe (pc := 70) X vi_0_12 d_RM_build_70 ?_
  refine j_sub [1, 2, 3, 0] (lv' := [(0, .ref (a 0)), (1, .int v1), (2, .int v2), (3, .int k0)]) rfl ?_
  exact j_RM_build_71 X a T hQ (plUp st 7 (plIx 0) 246) v1 v2 k0 hs hk
def K_RM_build_41 (st : plS) (v1 : Int32) (k0 : Int32) : plS := (if k0 ≤ 0 then (if 0 ≤ k0 then K_RM_build_61 st v1 k0 0 else K_RM_build_61 st v1 k0 42) else K_RM_build_61 st v1 k0 21)
def P_RM_build_41 (st : plS) (v1 : Int32) (k0 : Int32) : Prop := ((k0 ≤ 0 → ((0 ≤ k0 → P_RM_build_61 st v1 k0 0) ∧ (¬ 0 ≤ k0 → P_RM_build_61 st v1 k0 42))) ∧ (¬ k0 ≤ 0 → P_RM_build_61 st v1 k0 21))
set_option maxRecDepth 20000 in
theorem j_RM_build_41 {E : plE} (X : plX E b_RM_build "ProtectedLineModel" 5 none 4 88) (a : Nat → Nat) (T : plS) (hQ : plRv E (plwR (plg E) a) T) (st : plS) (v1 : Int32) (k0 : Int32) (hs : P_RM_build_41 st v1 k0) (hk : T = K_RM_build_41 st v1 k0) : plJ E 5 (plwR (plg E) a st) 0 0 [(0, .ref (a 0)), (1, .int v1)] 41 [.int k0] := by
  unfold P_RM_build_41 at hs
  unfold K_RM_build_41 at hk
  refine j_istore_n (pc := 41) X d_RM_build_41 rfl (lv' := [(2, .int k0), (0, .ref (a 0)), (1, .int v1)]) (Nat.le_of_ble_eq_true rfl) rfl ?_
  refine j_iload_n (pc := 42) X d_RM_build_42 rfl 0 rfl ?_
  refine j_if_le (pc := 43) (tgt := 51) X d_RM_build_43 rfl (fun hc => ?_) (fun hc => ?_)
  · have hk := hk.trans (if_pos hc)
    have hs := hs.1 hc
    refine j_iload_n (pc := 51) X d_RM_build_51 rfl 0 rfl ?_
    refine j_if_ge (pc := 52) (tgt := 60) X d_RM_build_52 rfl (fun hc => ?_) (fun hc => ?_)
    · have hk := hk.trans (if_pos hc)
      have hs := hs.1 hc
      refine j_iconst (pc := 60) X d_RM_build_60 ic_0 ?_
      refine j_sub [1, 2, 0] (lv' := [(0, .ref (a 0)), (1, .int v1), (2, .int k0)]) rfl ?_
      exact j_RM_build_61 X a T hQ st v1 k0 0 hs hk
    · have hk := hk.trans (if_neg hc)
      have hs := hs.2 hc
      refine j_bipush (pc := 55) X d_RM_build_55 bp_42 ?_
      refine j_goto (pc := 57) (tgt := 61) X d_RM_build_57 rfl ?_
      refine j_sub [1, 2, 0] (lv' := [(0, .ref (a 0)), (1, .int v1), (2, .int k0)]) rfl ?_
      exact j_RM_build_61 X a T hQ st v1 k0 42 hs hk
  · have hk := hk.trans (if_neg hc)
    have hs := hs.2 hc
    refine j_bipush (pc := 46) X d_RM_build_46 bp_21 ?_
    refine j_goto (pc := 48) (tgt := 61) X d_RM_build_48 rfl ?_
    refine j_sub [1, 2, 0] (lv' := [(0, .ref (a 0)), (1, .int v1), (2, .int k0)]) rfl ?_
    exact j_RM_build_61 X a T hQ st v1 k0 21 hs hk
def K_RM_build_20 (st : plS) (k0 : Int32) : plS := (if k0 = 0 then K_RM_build_41 st k0 0 else (if (st 0 14) ≤ 0 then K_RM_build_41 st k0 ((-1)) else K_RM_build_41 st k0 1))
def P_RM_build_20 (st : plS) (k0 : Int32) : Prop := ((k0 = 0 → P_RM_build_41 st k0 0) ∧ (¬ k0 = 0 → (((st 0 14) ≤ 0 → P_RM_build_41 st k0 ((-1))) ∧ (¬ (st 0 14) ≤ 0 → P_RM_build_41 st k0 1))))
set_option maxRecDepth 20000 in
theorem j_RM_build_20 {E : plE} (X : plX E b_RM_build "ProtectedLineModel" 5 none 4 88) (a : Nat → Nat) (T : plS) (hQ : plRv E (plwR (plg E) a) T) (st : plS) (k0 : Int32) (hs : P_RM_build_20 st k0) (hk : T = K_RM_build_20 st k0) : plJ E 5 (plwR (plg E) a st) 0 0 [(0, .ref (a 0))] 20 [.int k0] := by
  unfold P_RM_build_20 at hs
  unfold K_RM_build_20 at hk
  refine j_istore_n (pc := 20) X d_RM_build_20 rfl (lv' := [(1, .int k0), (0, .ref (a 0))]) (Nat.le_of_ble_eq_true rfl) rfl ?_
  refine j_iload_n (pc := 21) X d_RM_build_21 rfl 0 rfl ?_
  refine j_if_eq (pc := 22) (tgt := 40) X d_RM_build_22 rfl (fun hc => ?_) (fun hc => ?_)
  · have hk := hk.trans (if_pos hc)
    have hs := hs.1 hc
    refine j_iconst (pc := 40) X d_RM_build_40 ic_0 ?_
    refine j_sub [1, 0] (lv' := [(0, .ref (a 0)), (1, .int k0)]) rfl ?_
    exact j_RM_build_41 X a T hQ st k0 0 hs hk
  · have hk := hk.trans (if_neg hc)
    have hs := hs.2 hc
    refine j_aload_n (pc := 25) X d_RM_build_25 rfl 1 rfl ?_
    refine get_RM_debt (pc := 26) X fl_RM_105 d_RM_build_26 ?_
    refine j_if_le (pc := 29) (tgt := 36) X d_RM_build_29 rfl (fun hc => ?_) (fun hc => ?_)
    · have hk := hk.trans (if_pos hc)
      have hs := hs.1 hc
      refine j_iconst (pc := 36) X d_RM_build_36 ic_m1 ?_
      refine j_goto (pc := 37) (tgt := 41) X d_RM_build_37 rfl ?_
      refine j_sub [1, 0] (lv' := [(0, .ref (a 0)), (1, .int k0)]) rfl ?_
      exact j_RM_build_41 X a T hQ st k0 ((-1)) hs hk
    · have hk := hk.trans (if_neg hc)
      have hs := hs.2 hc
      refine j_iconst (pc := 32) X d_RM_build_32 ic_1 ?_
      refine j_goto (pc := 33) (tgt := 41) X d_RM_build_33 rfl ?_
      refine j_sub [1, 0] (lv' := [(0, .ref (a 0)), (1, .int k0)]) rfl ?_
      exact j_RM_build_41 X a T hQ st k0 1 hs hk
def K_RM_build_19 (st : plS) : plS := K_RM_build_20 st 0
def P_RM_build_19 (st : plS) : Prop := P_RM_build_20 st 0
set_option maxRecDepth 20000 in
theorem j_RM_build_19 {E : plE} (X : plX E b_RM_build "ProtectedLineModel" 5 none 4 88) (a : Nat → Nat) (T : plS) (hQ : plRv E (plwR (plg E) a) T) (st : plS)  (hs : P_RM_build_19 st) (hk : T = K_RM_build_19 st) : plJ E 5 (plwR (plg E) a st) 0 0 [(0, .ref (a 0))] 19 [] := by
  unfold P_RM_build_19 at hs
  unfold K_RM_build_19 at hk
  refine j_iconst (pc := 19) X d_RM_build_19 ic_0 ?_
  exact j_RM_build_20 X a T hQ st 0 hs hk
def K_RM_build (st : plS) : plS := (if (st 0 14) = 0 then K_RM_build_19 st else (if (st 0 15) < 3 then K_RM_build_19 st else K_RM_build_20 st 1))
def P_RM_build (st : plS) : Prop := (((st 0 14) = 0 → P_RM_build_19 st) ∧ (¬ (st 0 14) = 0 → (((st 0 15) < 3 → P_RM_build_19 st) ∧ (¬ (st 0 15) < 3 → P_RM_build_20 st 1))))
set_option maxRecDepth 20000 in
theorem j_RM_build {E : plE} (X : plX E b_RM_build "ProtectedLineModel" 5 none 4 88) (a : Nat → Nat) (T : plS) (hQ : plRv E (plwR (plg E) a) T) (st : plS)  (hs : P_RM_build st) (hk : T = K_RM_build st) : plJ E 5 (plwR (plg E) a st) 0 0 [(0, .ref (a 0))] 0 [] := by
  unfold P_RM_build at hs
  unfold K_RM_build at hk
  refine j_aload_n (pc := 0) X d_RM_build_0 rfl 0 rfl ?_
  refine get_RM_debt (pc := 1) X fl_RM_105 d_RM_build_1 ?_
  refine j_if_eq (pc := 4) (tgt := 19) X d_RM_build_4 rfl (fun hc => ?_) (fun hc => ?_)
  · have hk := hk.trans (if_pos hc)
    have hs := hs.1 hc
    exact j_RM_build_19 X a T hQ st hs hk
  · have hk := hk.trans (if_neg hc)
    have hs := hs.2 hc
    refine j_aload_n (pc := 7) X d_RM_build_7 rfl 0 rfl ?_
    refine get_RM_quiet (pc := 8) X fl_RM_19 d_RM_build_8 ?_
    refine j_iconst (pc := 11) X d_RM_build_11 ic_3 ?_
    refine j_icmp_lt (pc := 12) (tgt := 19) X d_RM_build_12 rfl (fun hc => ?_) (fun hc => ?_)
    · have hk := hk.trans (if_pos hc)
      have hs := hs.1 hc
      exact j_RM_build_19 X a T hQ st hs hk
    · have hk := hk.trans (if_neg hc)
      have hs := hs.2 hc
      refine j_iconst (pc := 15) X d_RM_build_15 ic_1 ?_
      refine j_goto (pc := 16) (tgt := 20) X d_RM_build_16 rfl ?_
      exact j_RM_build_20 X a T hQ st 1 hs hk
set_option maxRecDepth 20000 in
theorem c_RM_build (g : plG) (a : Nat → Nat) (st : plS)  (hs : P_RM_build st ) : plMv g y_RM_build b_RM_build 5 none 4 88 [.ref (a 0)] (plwR g a) st (K_RM_build st ) := by
  refine plMv.of (own := "ProtectedLineModel") (lv := [(0, .ref (a 0))]) rfl rfl (Nat.le_of_ble_eq_true rfl) rfl (fun E hE X hQ => ?_)
  subst hE
  exact j_RM_build X a _ hQ st  hs rfl
theorem d_RM_align_0 : decode b_RM_align 0 = .ok (.aload_n 0, 1) := by decide +kernel
theorem d_RM_align_1 : decode b_RM_align 1 = .ok (.getfield 48, 3) := by decide +kernel
theorem d_RM_align_4 : decode b_RM_align 4 = .ok (.iload_n 1, 1) := by decide +kernel
theorem d_RM_align_5 : decode b_RM_align 5 = .ok (.baload, 1) := by decide +kernel
theorem d_RM_align_6 : decode b_RM_align 6 = .ok (.ifCond .eq (38), 3) := by decide +kernel
theorem d_RM_align_9 : decode b_RM_align 9 = .ok (.aload_n 0, 1) := by decide +kernel
theorem d_RM_align_10 : decode b_RM_align 10 = .ok (.getfield 45, 3) := by decide +kernel
theorem d_RM_align_13 : decode b_RM_align 13 = .ok (.bipush (12), 2) := by decide +kernel
theorem d_RM_align_15 : decode b_RM_align 15 = .ok (.iload_n 1, 1) := by decide +kernel
theorem d_RM_align_16 : decode b_RM_align 16 = .ok (.imul, 1) := by decide +kernel
theorem d_RM_align_17 : decode b_RM_align 17 = .ok (.iaload, 1) := by decide +kernel
theorem d_RM_align_18 : decode b_RM_align 18 = .ok (.sipush (246), 3) := by decide +kernel
theorem d_RM_align_21 : decode b_RM_align 21 = .ok (.if_icmp .ne (23), 3) := by decide +kernel
theorem d_RM_align_24 : decode b_RM_align 24 = .ok (.aload_n 0, 1) := by decide +kernel
theorem d_RM_align_25 : decode b_RM_align 25 = .ok (.getfield 45, 3) := by decide +kernel
theorem d_RM_align_28 : decode b_RM_align 28 = .ok (.bipush (12), 2) := by decide +kernel
theorem d_RM_align_30 : decode b_RM_align 30 = .ok (.iload_n 1, 1) := by decide +kernel
theorem d_RM_align_31 : decode b_RM_align 31 = .ok (.imul, 1) := by decide +kernel
theorem d_RM_align_32 : decode b_RM_align 32 = .ok (.iconst 1, 1) := by decide +kernel
theorem d_RM_align_33 : decode b_RM_align 33 = .ok (.iadd, 1) := by decide +kernel
theorem d_RM_align_34 : decode b_RM_align 34 = .ok (.iaload, 1) := by decide +kernel
theorem d_RM_align_35 : decode b_RM_align 35 = .ok (.bipush (40), 2) := by decide +kernel
theorem d_RM_align_37 : decode b_RM_align 37 = .ok (.if_icmp .ne (7), 3) := by decide +kernel
theorem d_RM_align_40 : decode b_RM_align 40 = .ok (.iconst 1, 1) := by decide +kernel
theorem d_RM_align_41 : decode b_RM_align 41 = .ok (.goto (4), 3) := by decide +kernel
theorem d_RM_align_44 : decode b_RM_align 44 = .ok (.iconst 0, 1) := by decide +kernel
theorem d_RM_align_45 : decode b_RM_align 45 = .ok (.istore_n 2, 1) := by decide +kernel
theorem d_RM_align_46 : decode b_RM_align 46 = .ok (.aload_n 0, 1) := by decide +kernel
theorem d_RM_align_47 : decode b_RM_align 47 = .ok (.getfield 57, 3) := by decide +kernel
theorem d_RM_align_50 : decode b_RM_align 50 = .ok (.iload_n 1, 1) := by decide +kernel
theorem d_RM_align_51 : decode b_RM_align 51 = .ok (.iaload, 1) := by decide +kernel
theorem d_RM_align_52 : decode b_RM_align 52 = .ok (.iconst 2, 1) := by decide +kernel
theorem d_RM_align_53 : decode b_RM_align 53 = .ok (.if_icmp .ne (49), 3) := by decide +kernel
theorem d_RM_align_56 : decode b_RM_align 56 = .ok (.aload_n 0, 1) := by decide +kernel
theorem d_RM_align_57 : decode b_RM_align 57 = .ok (.getfield 60, 3) := by decide +kernel
theorem d_RM_align_60 : decode b_RM_align 60 = .ok (.iload_n 1, 1) := by decide +kernel
theorem d_RM_align_61 : decode b_RM_align 61 = .ok (.iload_n 2, 1) := by decide +kernel
theorem d_RM_align_62 : decode b_RM_align 62 = .ok (.ifCond .eq (7), 3) := by decide +kernel
theorem d_RM_align_65 : decode b_RM_align 65 = .ok (.iconst 0, 1) := by decide +kernel
theorem d_RM_align_66 : decode b_RM_align 66 = .ok (.goto (11), 3) := by decide +kernel
theorem d_RM_align_69 : decode b_RM_align 69 = .ok (.aload_n 0, 1) := by decide +kernel
theorem d_RM_align_70 : decode b_RM_align 70 = .ok (.getfield 60, 3) := by decide +kernel
theorem d_RM_align_73 : decode b_RM_align 73 = .ok (.iload_n 1, 1) := by decide +kernel
theorem d_RM_align_74 : decode b_RM_align 74 = .ok (.iaload, 1) := by decide +kernel
theorem d_RM_align_75 : decode b_RM_align 75 = .ok (.iconst 1, 1) := by decide +kernel
theorem d_RM_align_76 : decode b_RM_align 76 = .ok (.iadd, 1) := by decide +kernel
theorem d_RM_align_77 : decode b_RM_align 77 = .ok (.iastore, 1) := by decide +kernel
theorem d_RM_align_78 : decode b_RM_align 78 = .ok (.aload_n 0, 1) := by decide +kernel
theorem d_RM_align_79 : decode b_RM_align 79 = .ok (.getfield 57, 3) := by decide +kernel
theorem d_RM_align_82 : decode b_RM_align 82 = .ok (.iload_n 1, 1) := by decide +kernel
theorem d_RM_align_83 : decode b_RM_align 83 = .ok (.aload_n 0, 1) := by decide +kernel
theorem d_RM_align_84 : decode b_RM_align 84 = .ok (.getfield 60, 3) := by decide +kernel
theorem d_RM_align_87 : decode b_RM_align 87 = .ok (.iload_n 1, 1) := by decide +kernel
theorem d_RM_align_88 : decode b_RM_align 88 = .ok (.iaload, 1) := by decide +kernel
theorem d_RM_align_89 : decode b_RM_align 89 = .ok (.iconst 3, 1) := by decide +kernel
theorem d_RM_align_90 : decode b_RM_align 90 = .ok (.if_icmp .ne (7), 3) := by decide +kernel
theorem d_RM_align_93 : decode b_RM_align 93 = .ok (.iconst 0, 1) := by decide +kernel
theorem d_RM_align_94 : decode b_RM_align 94 = .ok (.goto (4), 3) := by decide +kernel
theorem d_RM_align_97 : decode b_RM_align 97 = .ok (.iconst 2, 1) := by decide +kernel
theorem d_RM_align_98 : decode b_RM_align 98 = .ok (.iastore, 1) := by decide +kernel
theorem d_RM_align_99 : decode b_RM_align 99 = .ok (.goto (32), 3) := by decide +kernel
theorem d_RM_align_102 : decode b_RM_align 102 = .ok (.aload_n 0, 1) := by decide +kernel
theorem d_RM_align_103 : decode b_RM_align 103 = .ok (.getfield 57, 3) := by decide +kernel
theorem d_RM_align_106 : decode b_RM_align 106 = .ok (.iload_n 1, 1) := by decide +kernel
theorem d_RM_align_107 : decode b_RM_align 107 = .ok (.iload_n 2, 1) := by decide +kernel
theorem d_RM_align_108 : decode b_RM_align 108 = .ok (.ifCond .eq (14), 3) := by decide +kernel
theorem d_RM_align_111 : decode b_RM_align 111 = .ok (.aload_n 0, 1) := by decide +kernel
theorem d_RM_align_112 : decode b_RM_align 112 = .ok (.getfield 57, 3) := by decide +kernel
theorem d_RM_align_115 : decode b_RM_align 115 = .ok (.iload_n 1, 1) := by decide +kernel
theorem d_RM_align_116 : decode b_RM_align 116 = .ok (.iaload, 1) := by decide +kernel
theorem d_RM_align_117 : decode b_RM_align 117 = .ok (.iconst 1, 1) := by decide +kernel
theorem d_RM_align_118 : decode b_RM_align 118 = .ok (.iadd, 1) := by decide +kernel
theorem d_RM_align_119 : decode b_RM_align 119 = .ok (.goto (4), 3) := by decide +kernel
theorem d_RM_align_122 : decode b_RM_align 122 = .ok (.iconst 0, 1) := by decide +kernel
theorem d_RM_align_123 : decode b_RM_align 123 = .ok (.iastore, 1) := by decide +kernel
theorem d_RM_align_124 : decode b_RM_align 124 = .ok (.aload_n 0, 1) := by decide +kernel
theorem d_RM_align_125 : decode b_RM_align 125 = .ok (.getfield 60, 3) := by decide +kernel
theorem d_RM_align_128 : decode b_RM_align 128 = .ok (.iload_n 1, 1) := by decide +kernel
theorem d_RM_align_129 : decode b_RM_align 129 = .ok (.iconst 0, 1) := by decide +kernel
theorem d_RM_align_130 : decode b_RM_align 130 = .ok (.iastore, 1) := by decide +kernel
theorem d_RM_align_131 : decode b_RM_align 131 = .ok (.return_, 1) := by decide +kernel
def K_RM_align_131 (st : plS) : plS := st
set_option maxRecDepth 20000 in
theorem j_RM_align_131 {E : plE} (X : plX E b_RM_align "ProtectedLineModel" 3 none 0 0) (a : Nat → Nat) (T : plS) (hQ : plRv E (plwR (plg E) a) T) (st : plS)  (hk : T = K_RM_align_131 st) : plJ E 3 (plwR (plg E) a st) 0 0 [] 131 [] := by
  unfold K_RM_align_131 at hk
  exact j_retv (pc := 131) X hQ d_RM_align_131 hk
def K_RM_align_124 (st : plS) (v1 : Int32) : plS := K_RM_align_131 (plUp st 15 (plIx v1) 0)
def P_RM_align_124 (st : plS) (v1 : Int32) : Prop := vp_in v1 2
set_option maxRecDepth 20000 in
theorem j_RM_align_124 {E : plE} (X : plX E b_RM_align "ProtectedLineModel" 3 none 0 0) (a : Nat → Nat) (T : plS) (hQ : plRv E (plwR (plg E) a) T) (st : plS) (v1 : Int32) (hs : P_RM_align_124 st v1) (hk : T = K_RM_align_124 st v1) : plJ E 3 (plwR (plg E) a st) 0 0 [(0, .ref (a 0)), (1, .int v1)] 124 [] := by
  unfold P_RM_align_124 at hs
  unfold K_RM_align_124 at hk
  refine j_aload_n (pc := 124) X d_RM_align_124 rfl 0 rfl ?_
  refine get_RM_bad (pc := 125) X fl_RM_60 d_RM_align_125 ?_
  refine j_iload_n (pc := 128) X d_RM_align_128 rfl 1 rfl ?_
  refine j_iconst (pc := 129) X d_RM_align_129 ic_0 ?_
  refine ast_RMbad (pc := 130) X hs d_RM_align_130 ?_
  refine j_sub [] (lv' := []) rfl ?_
  exact j_RM_align_131 X a T hQ (plUp st 15 (plIx v1) 0) hk
def K_RM_align_123 (st : plS) (v1 : Int32) (k0 : Int32) (k1 : Int32) : plS := K_RM_align_124 (plUp st 14 (plIx k1) k0) v1
def P_RM_align_123 (st : plS) (v1 : Int32) (k0 : Int32) (k1 : Int32) : Prop := (vp_in k1 2 ∧ P_RM_align_124 (plUp st 14 (plIx k1) k0) v1)
set_option maxRecDepth 20000 in
theorem j_RM_align_123 {E : plE} (X : plX E b_RM_align "ProtectedLineModel" 3 none 0 0) (a : Nat → Nat) (T : plS) (hQ : plRv E (plwR (plg E) a) T) (st : plS) (v1 : Int32) (k0 : Int32) (k1 : Int32) (hs : P_RM_align_123 st v1 k0 k1) (hk : T = K_RM_align_123 st v1 k0 k1) : plJ E 3 (plwR (plg E) a st) 0 0 [(0, .ref (a 0)), (1, .int v1)] 123 [.int k0, .int k1, .ref (a 14)] := by
  unfold P_RM_align_123 at hs
  unfold K_RM_align_123 at hk
  refine ast_RMstate (pc := 123) X hs.1 d_RM_align_123 ?_
  have hs := hs.2
  exact j_RM_align_124 X a T hQ (plUp st 14 (plIx k1) k0) v1 hs hk
def K_RM_align_98 (st : plS) (k0 : Int32) (k1 : Int32) : plS := K_RM_align_131 (plUp st 14 (plIx k1) k0)
def P_RM_align_98 (st : plS) (k0 : Int32) (k1 : Int32) : Prop := vp_in k1 2
set_option maxRecDepth 20000 in
theorem j_RM_align_98 {E : plE} (X : plX E b_RM_align "ProtectedLineModel" 3 none 0 0) (a : Nat → Nat) (T : plS) (hQ : plRv E (plwR (plg E) a) T) (st : plS) (k0 : Int32) (k1 : Int32) (hs : P_RM_align_98 st k0 k1) (hk : T = K_RM_align_98 st k0 k1) : plJ E 3 (plwR (plg E) a st) 0 0 [] 98 [.int k0, .int k1, .ref (a 14)] := by
  unfold P_RM_align_98 at hs
  unfold K_RM_align_98 at hk
  refine ast_RMstate (pc := 98) X hs d_RM_align_98 ?_
  refine j_goto (pc := 99) (tgt := 131) X d_RM_align_99 rfl ?_
  exact j_RM_align_131 X a T hQ (plUp st 14 (plIx k1) k0) hk
def K_RM_align_78 (st : plS) (v1 : Int32) : plS := (if (st 15 (plIx v1)) = 3 then K_RM_align_98 st 0 v1 else K_RM_align_98 st 2 v1)
def P_RM_align_78 (st : plS) (v1 : Int32) : Prop := (vp_in v1 2 ∧ (((st 15 (plIx v1)) = 3 → P_RM_align_98 st 0 v1) ∧ (¬ (st 15 (plIx v1)) = 3 → P_RM_align_98 st 2 v1)))
set_option maxRecDepth 20000 in
theorem j_RM_align_78 {E : plE} (X : plX E b_RM_align "ProtectedLineModel" 3 none 0 0) (a : Nat → Nat) (T : plS) (hQ : plRv E (plwR (plg E) a) T) (st : plS) (v1 : Int32) (hs : P_RM_align_78 st v1) (hk : T = K_RM_align_78 st v1) : plJ E 3 (plwR (plg E) a st) 0 0 [(0, .ref (a 0)), (1, .int v1)] 78 [] := by
  unfold P_RM_align_78 at hs
  unfold K_RM_align_78 at hk
  refine j_aload_n (pc := 78) X d_RM_align_78 rfl 0 rfl ?_
  refine get_RM_state (pc := 79) X fl_RM_57 d_RM_align_79 ?_
  refine j_iload_n (pc := 82) X d_RM_align_82 rfl 1 rfl ?_
  refine j_aload_n (pc := 83) X d_RM_align_83 rfl 0 rfl ?_
  refine get_RM_bad (pc := 84) X fl_RM_60 d_RM_align_84 ?_
  refine j_iload_n (pc := 87) X d_RM_align_87 rfl 1 rfl ?_
  refine ald_RMbad (pc := 88) X hs.1 d_RM_align_88 ?_
  have hs := hs.2
  refine j_iconst (pc := 89) X d_RM_align_89 ic_3 ?_
  refine j_icmp_ne (pc := 90) (tgt := 97) X d_RM_align_90 rfl (fun hc => ?_) (fun hc => ?_)
  · have hk := hk.trans (if_neg hc)
    have hs := hs.2 hc
    refine j_iconst (pc := 97) X d_RM_align_97 ic_2 ?_
    refine j_sub [] (lv' := []) rfl ?_
    exact j_RM_align_98 X a T hQ st 2 v1 hs hk
  · have hk := hk.trans (if_pos hc)
    have hs := hs.1 hc
    refine j_iconst (pc := 93) X d_RM_align_93 ic_0 ?_
    refine j_goto (pc := 94) (tgt := 98) X d_RM_align_94 rfl ?_
    refine j_sub [] (lv' := []) rfl ?_
    exact j_RM_align_98 X a T hQ st 0 v1 hs hk
def K_RM_align_77 (st : plS) (v1 : Int32) (k0 : Int32) (k1 : Int32) : plS := K_RM_align_78 (plUp st 15 (plIx k1) k0) v1
def P_RM_align_77 (st : plS) (v1 : Int32) (k0 : Int32) (k1 : Int32) : Prop := (vp_in k1 2 ∧ P_RM_align_78 (plUp st 15 (plIx k1) k0) v1)
set_option maxRecDepth 20000 in
theorem j_RM_align_77 {E : plE} (X : plX E b_RM_align "ProtectedLineModel" 3 none 0 0) (a : Nat → Nat) (T : plS) (hQ : plRv E (plwR (plg E) a) T) (st : plS) (v1 : Int32) (k0 : Int32) (k1 : Int32) (hs : P_RM_align_77 st v1 k0 k1) (hk : T = K_RM_align_77 st v1 k0 k1) : plJ E 3 (plwR (plg E) a st) 0 0 [(0, .ref (a 0)), (1, .int v1)] 77 [.int k0, .int k1, .ref (a 15)] := by
  unfold P_RM_align_77 at hs
  unfold K_RM_align_77 at hk
  refine ast_RMbad (pc := 77) X hs.1 d_RM_align_77 ?_
  have hs := hs.2
  exact j_RM_align_78 X a T hQ (plUp st 15 (plIx k1) k0) v1 hs hk
def K_RM_align_45 (st : plS) (v1 : Int32) (k0 : Int32) : plS := (if (st 14 (plIx v1)) = 2 then (if k0 = 0 then K_RM_align_77 st v1 ((st 15 (plIx v1)) + 1) v1 else K_RM_align_77 st v1 0 v1) else (if k0 = 0 then K_RM_align_123 st v1 0 v1 else K_RM_align_123 st v1 ((st 14 (plIx v1)) + 1) v1))
def P_RM_align_45 (st : plS) (v1 : Int32) (k0 : Int32) : Prop := (vp_in v1 2 ∧ (((st 14 (plIx v1)) = 2 → ((k0 = 0 → (vp_in v1 2 ∧ P_RM_align_77 st v1 ((st 15 (plIx v1)) + 1) v1)) ∧ (¬ k0 = 0 → P_RM_align_77 st v1 0 v1))) ∧ (¬ (st 14 (plIx v1)) = 2 → ((k0 = 0 → P_RM_align_123 st v1 0 v1) ∧ (¬ k0 = 0 → (vp_in v1 2 ∧ P_RM_align_123 st v1 ((st 14 (plIx v1)) + 1) v1))))))
set_option maxRecDepth 20000 in
theorem j_RM_align_45 {E : plE} (X : plX E b_RM_align "ProtectedLineModel" 3 none 0 0) (a : Nat → Nat) (T : plS) (hQ : plRv E (plwR (plg E) a) T) (st : plS) (v1 : Int32) (k0 : Int32) (hs : P_RM_align_45 st v1 k0) (hk : T = K_RM_align_45 st v1 k0) : plJ E 3 (plwR (plg E) a st) 0 0 [(0, .ref (a 0)), (1, .int v1)] 45 [.int k0] := by
  unfold P_RM_align_45 at hs
  unfold K_RM_align_45 at hk
  refine j_istore_n (pc := 45) X d_RM_align_45 rfl (lv' := [(2, .int k0), (0, .ref (a 0)), (1, .int v1)]) (Nat.le_of_ble_eq_true rfl) rfl ?_
  refine j_aload_n (pc := 46) X d_RM_align_46 rfl 1 rfl ?_
  refine get_RM_state (pc := 47) X fl_RM_57 d_RM_align_47 ?_
  refine j_iload_n (pc := 50) X d_RM_align_50 rfl 2 rfl ?_
  refine ald_RMstate (pc := 51) X hs.1 d_RM_align_51 ?_
  have hs := hs.2
  refine j_iconst (pc := 52) X d_RM_align_52 ic_2 ?_
  refine j_icmp_ne (pc := 53) (tgt := 102) X d_RM_align_53 rfl (fun hc => ?_) (fun hc => ?_)
  · have hk := hk.trans (if_neg hc)
    have hs := hs.2 hc
    refine j_aload_n (pc := 102) X d_RM_align_102 rfl 1 rfl ?_
    refine get_RM_state (pc := 103) X fl_RM_57 d_RM_align_103 ?_
    refine j_iload_n (pc := 106) X d_RM_align_106 rfl 2 rfl ?_
    refine j_iload_n (pc := 107) X d_RM_align_107 rfl 0 rfl ?_
    refine j_if_eq (pc := 108) (tgt := 122) X d_RM_align_108 rfl (fun hc => ?_) (fun hc => ?_)
    · have hk := hk.trans (if_pos hc)
      have hs := hs.1 hc
      refine j_iconst (pc := 122) X d_RM_align_122 ic_0 ?_
      refine j_sub [1, 2] (lv' := [(0, .ref (a 0)), (1, .int v1)]) rfl ?_
      exact j_RM_align_123 X a T hQ st v1 0 v1 hs hk
    · have hk := hk.trans (if_neg hc)
      have hs := hs.2 hc
      refine j_aload_n (pc := 111) X d_RM_align_111 rfl 1 rfl ?_
      refine get_RM_state (pc := 112) X fl_RM_57 d_RM_align_112 ?_
      refine j_iload_n (pc := 115) X d_RM_align_115 rfl 2 rfl ?_
      refine ald_RMstate (pc := 116) X hs.1 d_RM_align_116 ?_
      have hs := hs.2
      refine j_iconst (pc := 117) X d_RM_align_117 ic_1 ?_
      refine j_iadd (pc := 118) X d_RM_align_118 ?_
      refine j_goto (pc := 119) (tgt := 123) X d_RM_align_119 rfl ?_
      refine j_sub [1, 2] (lv' := [(0, .ref (a 0)), (1, .int v1)]) rfl ?_
      exact j_RM_align_123 X a T hQ st v1 ((st 14 (plIx v1)) + 1) v1 hs hk
  · have hk := hk.trans (if_pos hc)
    have hs := hs.1 hc
    refine j_aload_n (pc := 56) X d_RM_align_56 rfl 1 rfl ?_
    refine get_RM_bad (pc := 57) X fl_RM_60 d_RM_align_57 ?_
    refine j_iload_n (pc := 60) X d_RM_align_60 rfl 2 rfl ?_
    refine j_iload_n (pc := 61) X d_RM_align_61 rfl 0 rfl ?_
    refine j_if_eq (pc := 62) (tgt := 69) X d_RM_align_62 rfl (fun hc => ?_) (fun hc => ?_)
    · have hk := hk.trans (if_pos hc)
      have hs := hs.1 hc
      refine j_aload_n (pc := 69) X d_RM_align_69 rfl 1 rfl ?_
      refine get_RM_bad (pc := 70) X fl_RM_60 d_RM_align_70 ?_
      refine j_iload_n (pc := 73) X d_RM_align_73 rfl 2 rfl ?_
      refine ald_RMbad (pc := 74) X hs.1 d_RM_align_74 ?_
      have hs := hs.2
      refine j_iconst (pc := 75) X d_RM_align_75 ic_1 ?_
      refine j_iadd (pc := 76) X d_RM_align_76 ?_
      refine j_sub [1, 2] (lv' := [(0, .ref (a 0)), (1, .int v1)]) rfl ?_
      exact j_RM_align_77 X a T hQ st v1 ((st 15 (plIx v1)) + 1) v1 hs hk
    · have hk := hk.trans (if_neg hc)
      have hs := hs.2 hc
      refine j_iconst (pc := 65) X d_RM_align_65 ic_0 ?_
      refine j_goto (pc := 66) (tgt := 77) X d_RM_align_66 rfl ?_
      refine j_sub [1, 2] (lv' := [(0, .ref (a 0)), (1, .int v1)]) rfl ?_
      exact j_RM_align_77 X a T hQ st v1 0 v1 hs hk
def K_RM_align_44 (st : plS) (v1 : Int32) : plS := K_RM_align_45 st v1 0
def P_RM_align_44 (st : plS) (v1 : Int32) : Prop := P_RM_align_45 st v1 0
set_option maxRecDepth 20000 in
theorem j_RM_align_44 {E : plE} (X : plX E b_RM_align "ProtectedLineModel" 3 none 0 0) (a : Nat → Nat) (T : plS) (hQ : plRv E (plwR (plg E) a) T) (st : plS) (v1 : Int32) (hs : P_RM_align_44 st v1) (hk : T = K_RM_align_44 st v1) : plJ E 3 (plwR (plg E) a st) 0 0 [(0, .ref (a 0)), (1, .int v1)] 44 [] := by
  unfold P_RM_align_44 at hs
  unfold K_RM_align_44 at hk
  refine j_iconst (pc := 44) X d_RM_align_44 ic_0 ?_
  exact j_RM_align_45 X a T hQ st v1 0 hs hk
def K_RM_align (st : plS) (v1 : Int32) : plS := (if (st 11 (plIx v1)) = 0 then K_RM_align_44 st v1 else (if (st 10 (plIx (12 * v1))) = 246 then (if (st 10 (plIx ((12 * v1) + 1))) = 40 then K_RM_align_45 st v1 1 else K_RM_align_44 st v1) else K_RM_align_44 st v1))
def P_RM_align (st : plS) (v1 : Int32) : Prop := (vp_in v1 2 ∧ (((st 11 (plIx v1)) = 0 → P_RM_align_44 st v1) ∧ (¬ (st 11 (plIx v1)) = 0 → (vp_in (12 * v1) 24 ∧ (((st 10 (plIx (12 * v1))) = 246 → (vp_in ((12 * v1) + 1) 24 ∧ (((st 10 (plIx ((12 * v1) + 1))) = 40 → P_RM_align_45 st v1 1) ∧ (¬ (st 10 (plIx ((12 * v1) + 1))) = 40 → P_RM_align_44 st v1)))) ∧ (¬ (st 10 (plIx (12 * v1))) = 246 → P_RM_align_44 st v1))))))
set_option maxRecDepth 20000 in
theorem j_RM_align {E : plE} (X : plX E b_RM_align "ProtectedLineModel" 3 none 0 0) (a : Nat → Nat) (T : plS) (hQ : plRv E (plwR (plg E) a) T) (st : plS) (v1 : Int32) (hs : P_RM_align st v1) (hk : T = K_RM_align st v1) : plJ E 3 (plwR (plg E) a st) 0 0 [(0, .ref (a 0)), (1, .int v1)] 0 [] := by
  unfold P_RM_align at hs
  unfold K_RM_align at hk
  refine j_aload_n (pc := 0) X d_RM_align_0 rfl 0 rfl ?_
  refine get_RM_came (pc := 1) X fl_RM_48 d_RM_align_1 ?_
  refine j_iload_n (pc := 4) X d_RM_align_4 rfl 1 rfl ?_
  refine ald_RMcame (pc := 5) X hs.1 d_RM_align_5 ?_
  have hs := hs.2
  refine j_if_eq (pc := 6) (tgt := 44) X d_RM_align_6 rfl (fun hc => ?_) (fun hc => ?_)
  · have hk := hk.trans (if_pos hc)
    have hs := hs.1 hc
    exact j_RM_align_44 X a T hQ st v1 hs hk
  · have hk := hk.trans (if_neg hc)
    have hs := hs.2 hc
    refine j_aload_n (pc := 9) X d_RM_align_9 rfl 0 rfl ?_
    refine get_RM_now (pc := 10) X fl_RM_45 d_RM_align_10 ?_
    refine j_bipush (pc := 13) X d_RM_align_13 bp_12 ?_
    refine j_iload_n (pc := 15) X d_RM_align_15 rfl 1 rfl ?_
    refine j_imul (pc := 16) X d_RM_align_16 ?_
    refine ald_RMnow (pc := 17) X hs.1 d_RM_align_17 ?_
    have hs := hs.2
    refine j_sipush (pc := 18) X d_RM_align_18 sp_246 ?_
    refine j_icmp_ne (pc := 21) (tgt := 44) X d_RM_align_21 rfl (fun hc => ?_) (fun hc => ?_)
    · have hk := hk.trans (if_neg hc)
      have hs := hs.2 hc
      exact j_RM_align_44 X a T hQ st v1 hs hk
    · have hk := hk.trans (if_pos hc)
      have hs := hs.1 hc
      refine j_aload_n (pc := 24) X d_RM_align_24 rfl 0 rfl ?_
      refine get_RM_now (pc := 25) X fl_RM_45 d_RM_align_25 ?_
      refine j_bipush (pc := 28) X d_RM_align_28 bp_12 ?_
      refine j_iload_n (pc := 30) X d_RM_align_30 rfl 1 rfl ?_
      refine j_imul (pc := 31) X d_RM_align_31 ?_
      refine j_iconst (pc := 32) X d_RM_align_32 ic_1 ?_
      refine j_iadd (pc := 33) X d_RM_align_33 ?_
      refine ald_RMnow (pc := 34) X hs.1 d_RM_align_34 ?_
      have hs := hs.2
      refine j_bipush (pc := 35) X d_RM_align_35 bp_40 ?_
      refine j_icmp_ne (pc := 37) (tgt := 44) X d_RM_align_37 rfl (fun hc => ?_) (fun hc => ?_)
      · have hk := hk.trans (if_neg hc)
        have hs := hs.2 hc
        exact j_RM_align_44 X a T hQ st v1 hs hk
      · have hk := hk.trans (if_pos hc)
        have hs := hs.1 hc
        refine j_iconst (pc := 40) X d_RM_align_40 ic_1 ?_
        refine j_goto (pc := 41) (tgt := 45) X d_RM_align_41 rfl ?_
        exact j_RM_align_45 X a T hQ st v1 1 hs hk
set_option maxRecDepth 20000 in
theorem c_RM_align (g : plG) (a : Nat → Nat) (st : plS) (v1 : Int32) (hs : P_RM_align st v1) : plMv g y_RM_align b_RM_align 3 none 0 0 [.ref (a 0), .int v1] (plwR g a) st (K_RM_align st v1) := by
  refine plMv.of (own := "ProtectedLineModel") (lv := [(0, .ref (a 0)), (1, .int v1)]) rfl rfl (Nat.le_of_ble_eq_true rfl) rfl (fun E hE X hQ => ?_)
  subst hE
  exact j_RM_align X a _ hQ st v1 hs rfl
