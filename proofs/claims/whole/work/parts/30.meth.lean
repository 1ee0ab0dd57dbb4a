theorem d_RM_finish_0 : decode b_RM_finish 0 = .ok (.sipush (255), 3) := by decide +kernel
theorem d_RM_finish_3 : decode b_RM_finish 3 = .ok (.istore_n 1, 1) := by decide +kernel
theorem d_RM_finish_4 : decode b_RM_finish 4 = .ok (.iconst 0, 1) := by decide +kernel
theorem d_RM_finish_5 : decode b_RM_finish 5 = .ok (.istore_n 2, 1) := by decide +kernel
theorem d_RM_finish_6 : decode b_RM_finish 6 = .ok (.iload_n 2, 1) := by decide +kernel
theorem d_RM_finish_7 : decode b_RM_finish 7 = .ok (.iconst 1, 1) := by decide +kernel
theorem d_RM_finish_8 : decode b_RM_finish 8 = .ok (.iadd, 1) := by decide +kernel
theorem d_RM_finish_9 : decode b_RM_finish 9 = .ok (.aload_n 0, 1) := by decide +kernel
theorem d_RM_finish_10 : decode b_RM_finish 10 = .ok (.getfield 274, 3) := by decide +kernel
theorem d_RM_finish_13 : decode b_RM_finish 13 = .ok (.if_icmp .ge (27), 3) := by decide +kernel
theorem d_RM_finish_16 : decode b_RM_finish 16 = .ok (.iload_n 2, 1) := by decide +kernel
theorem d_RM_finish_17 : decode b_RM_finish 17 = .ok (.bipush (6), 2) := by decide +kernel
theorem d_RM_finish_19 : decode b_RM_finish 19 = .ok (.if_icmp .ge (21), 3) := by decide +kernel
theorem d_RM_finish_22 : decode b_RM_finish 22 = .ok (.iload_n 1, 1) := by decide +kernel
theorem d_RM_finish_23 : decode b_RM_finish 23 = .ok (.aload_n 0, 1) := by decide +kernel
theorem d_RM_finish_24 : decode b_RM_finish 24 = .ok (.getfield 81, 3) := by decide +kernel
theorem d_RM_finish_27 : decode b_RM_finish 27 = .ok (.iload_n 2, 1) := by decide +kernel
theorem d_RM_finish_28 : decode b_RM_finish 28 = .ok (.iaload, 1) := by decide +kernel
theorem d_RM_finish_29 : decode b_RM_finish 29 = .ok (.ixor, 1) := by decide +kernel
theorem d_RM_finish_30 : decode b_RM_finish 30 = .ok (.invokestatic 148, 3) := by decide +kernel
theorem d_RM_finish_33 : decode b_RM_finish 33 = .ok (.istore_n 1, 1) := by decide +kernel
theorem d_RM_finish_34 : decode b_RM_finish 34 = .ok (.iinc 2 (1), 3) := by decide +kernel
theorem d_RM_finish_37 : decode b_RM_finish 37 = .ok (.goto (-31), 3) := by decide +kernel
theorem d_RM_finish_40 : decode b_RM_finish 40 = .ok (.aload_n 0, 1) := by decide +kernel
theorem d_RM_finish_41 : decode b_RM_finish 41 = .ok (.getfield 274, 3) := by decide +kernel
theorem d_RM_finish_44 : decode b_RM_finish 44 = .ok (.iconst 2, 1) := by decide +kernel
theorem d_RM_finish_45 : decode b_RM_finish 45 = .ok (.if_icmp .lt (31), 3) := by decide +kernel
theorem d_RM_finish_48 : decode b_RM_finish 48 = .ok (.aload_n 0, 1) := by decide +kernel
theorem d_RM_finish_49 : decode b_RM_finish 49 = .ok (.getfield 274, 3) := by decide +kernel
theorem d_RM_finish_52 : decode b_RM_finish 52 = .ok (.bipush (7), 2) := by decide +kernel
theorem d_RM_finish_54 : decode b_RM_finish 54 = .ok (.if_icmp .gt (22), 3) := by decide +kernel
theorem d_RM_finish_57 : decode b_RM_finish 57 = .ok (.aload_n 0, 1) := by decide +kernel
theorem d_RM_finish_58 : decode b_RM_finish 58 = .ok (.getfield 81, 3) := by decide +kernel
theorem d_RM_finish_61 : decode b_RM_finish 61 = .ok (.aload_n 0, 1) := by decide +kernel
theorem d_RM_finish_62 : decode b_RM_finish 62 = .ok (.getfield 274, 3) := by decide +kernel
theorem d_RM_finish_65 : decode b_RM_finish 65 = .ok (.iconst 1, 1) := by decide +kernel
theorem d_RM_finish_66 : decode b_RM_finish 66 = .ok (.isub, 1) := by decide +kernel
theorem d_RM_finish_67 : decode b_RM_finish 67 = .ok (.iaload, 1) := by decide +kernel
theorem d_RM_finish_68 : decode b_RM_finish 68 = .ok (.iload_n 1, 1) := by decide +kernel
theorem d_RM_finish_69 : decode b_RM_finish 69 = .ok (.if_icmp .ne (7), 3) := by decide +kernel
theorem d_RM_finish_72 : decode b_RM_finish 72 = .ok (.iconst 1, 1) := by decide +kernel
theorem d_RM_finish_73 : decode b_RM_finish 73 = .ok (.goto (4), 3) := by decide +kernel
theorem d_RM_finish_76 : decode b_RM_finish 76 = .ok (.iconst 0, 1) := by decide +kernel
theorem d_RM_finish_77 : decode b_RM_finish 77 = .ok (.istore_n 2, 1) := by decide +kernel
theorem d_RM_finish_78 : decode b_RM_finish 78 = .ok (.iload_n 2, 1) := by decide +kernel
theorem d_RM_finish_79 : decode b_RM_finish 79 = .ok (.ifCond .ne (14), 3) := by decide +kernel
theorem d_RM_finish_82 : decode b_RM_finish 82 = .ok (.aload_n 0, 1) := by decide +kernel
theorem d_RM_finish_83 : decode b_RM_finish 83 = .ok (.dup, 1) := by decide +kernel
theorem d_RM_finish_84 : decode b_RM_finish 84 = .ok (.getfield 286, 3) := by decide +kernel
theorem d_RM_finish_87 : decode b_RM_finish 87 = .ok (.iconst 1, 1) := by decide +kernel
theorem d_RM_finish_88 : decode b_RM_finish 88 = .ok (.iadd, 1) := by decide +kernel
theorem d_RM_finish_89 : decode b_RM_finish 89 = .ok (.putfield 286, 3) := by decide +kernel
theorem d_RM_finish_92 : decode b_RM_finish 92 = .ok (.return_, 1) := by decide +kernel
theorem d_RM_finish_93 : decode b_RM_finish 93 = .ok (.bipush (55), 2) := by decide +kernel
theorem d_RM_finish_95 : decode b_RM_finish 95 = .ok (.istore_n 3, 1) := by decide +kernel
theorem d_RM_finish_96 : decode b_RM_finish 96 = .ok (.iload_n 3, 1) := by decide +kernel
theorem d_RM_finish_97 : decode b_RM_finish 97 = .ok (.bipush (7), 2) := by decide +kernel
theorem d_RM_finish_99 : decode b_RM_finish 99 = .ok (.if_icmp .lt (24), 3) := by decide +kernel
theorem d_RM_finish_102 : decode b_RM_finish 102 = .ok (.aload_n 0, 1) := by decide +kernel
theorem d_RM_finish_103 : decode b_RM_finish 103 = .ok (.getfield 84, 3) := by decide +kernel
theorem d_RM_finish_106 : decode b_RM_finish 106 = .ok (.iload_n 3, 1) := by decide +kernel
theorem d_RM_finish_107 : decode b_RM_finish 107 = .ok (.aload_n 0, 1) := by decide +kernel
theorem d_RM_finish_108 : decode b_RM_finish 108 = .ok (.getfield 84, 3) := by decide +kernel
theorem d_RM_finish_111 : decode b_RM_finish 111 = .ok (.iload_n 3, 1) := by decide +kernel
theorem d_RM_finish_112 : decode b_RM_finish 112 = .ok (.bipush (7), 2) := by decide +kernel
theorem d_RM_finish_114 : decode b_RM_finish 114 = .ok (.isub, 1) := by decide +kernel
theorem d_RM_finish_115 : decode b_RM_finish 115 = .ok (.iaload, 1) := by decide +kernel
theorem d_RM_finish_116 : decode b_RM_finish 116 = .ok (.iastore, 1) := by decide +kernel
theorem d_RM_finish_117 : decode b_RM_finish 117 = .ok (.iinc 3 (-1), 3) := by decide +kernel
theorem d_RM_finish_120 : decode b_RM_finish 120 = .ok (.goto (-24), 3) := by decide +kernel
theorem d_RM_finish_123 : decode b_RM_finish 123 = .ok (.aload_n 0, 1) := by decide +kernel
theorem d_RM_finish_124 : decode b_RM_finish 124 = .ok (.getfield 84, 3) := by decide +kernel
theorem d_RM_finish_127 : decode b_RM_finish 127 = .ok (.iconst 0, 1) := by decide +kernel
theorem d_RM_finish_128 : decode b_RM_finish 128 = .ok (.aload_n 0, 1) := by decide +kernel
theorem d_RM_finish_129 : decode b_RM_finish 129 = .ok (.getfield 274, 3) := by decide +kernel
theorem d_RM_finish_132 : decode b_RM_finish 132 = .ok (.iconst 1, 1) := by decide +kernel
theorem d_RM_finish_133 : decode b_RM_finish 133 = .ok (.isub, 1) := by decide +kernel
theorem d_RM_finish_134 : decode b_RM_finish 134 = .ok (.iastore, 1) := by decide +kernel
theorem d_RM_finish_135 : decode b_RM_finish 135 = .ok (.iconst 0, 1) := by decide +kernel
theorem d_RM_finish_136 : decode b_RM_finish 136 = .ok (.istore_n 3, 1) := by decide +kernel
theorem d_RM_finish_137 : decode b_RM_finish 137 = .ok (.iload_n 3, 1) := by decide +kernel
theorem d_RM_finish_138 : decode b_RM_finish 138 = .ok (.aload_n 0, 1) := by decide +kernel
theorem d_RM_finish_139 : decode b_RM_finish 139 = .ok (.getfield 274, 3) := by decide +kernel
theorem d_RM_finish_142 : decode b_RM_finish 142 = .ok (.iconst 1, 1) := by decide +kernel
theorem d_RM_finish_143 : decode b_RM_finish 143 = .ok (.isub, 1) := by decide +kernel
theorem d_RM_finish_144 : decode b_RM_finish 144 = .ok (.if_icmp .ge (23), 3) := by decide +kernel
theorem d_RM_finish_147 : decode b_RM_finish 147 = .ok (.aload_n 0, 1) := by decide +kernel
theorem d_RM_finish_148 : decode b_RM_finish 148 = .ok (.getfield 84, 3) := by decide +kernel
theorem d_RM_finish_151 : decode b_RM_finish 151 = .ok (.iconst 1, 1) := by decide +kernel
theorem d_RM_finish_152 : decode b_RM_finish 152 = .ok (.iload_n 3, 1) := by decide +kernel
theorem d_RM_finish_153 : decode b_RM_finish 153 = .ok (.iadd, 1) := by decide +kernel
theorem d_RM_finish_154 : decode b_RM_finish 154 = .ok (.aload_n 0, 1) := by decide +kernel
theorem d_RM_finish_155 : decode b_RM_finish 155 = .ok (.getfield 81, 3) := by decide +kernel
theorem d_RM_finish_158 : decode b_RM_finish 158 = .ok (.iload_n 3, 1) := by decide +kernel
theorem d_RM_finish_159 : decode b_RM_finish 159 = .ok (.iaload, 1) := by decide +kernel
theorem d_RM_finish_160 : decode b_RM_finish 160 = .ok (.iastore, 1) := by decide +kernel
theorem d_RM_finish_161 : decode b_RM_finish 161 = .ok (.iinc 3 (1), 3) := by decide +kernel
theorem d_RM_finish_164 : decode b_RM_finish 164 = .ok (.goto (-27), 3) := by decide +kernel
theorem d_RM_finish_167 : decode b_RM_finish 167 = .ok (.aload_n 0, 1) := by decide +kernel
theorem d_RM_finish_168 : decode b_RM_finish 168 = .ok (.dup, 1) := by decide +kernel
theorem d_RM_finish_169 : decode b_RM_finish 169 = .ok (.getfield 289, 3) := by decide +kernel
theorem d_RM_finish_172 : decode b_RM_finish 172 = .ok (.iconst 1, 1) := by decide +kernel
theorem d_RM_finish_173 : decode b_RM_finish 173 = .ok (.iadd, 1) := by decide +kernel
theorem d_RM_finish_174 : decode b_RM_finish 174 = .ok (.putfield 289, 3) := by decide +kernel
theorem d_RM_finish_177 : decode b_RM_finish 177 = .ok (.return_, 1) := by decide +kernel
def K_RM_finish_6L (st : plS) (v1 : Int32) (v2 : Int32) : Bool × (Int32 × Int32) := (if (st 0 52) ≤ (v2 + 1) then (false, (v1, v2)) else (if 6 ≤ v2 then (false, (v1, v2)) else (true, (K_RM_hash (v1 ^^^ (st 17 (plIx v2))), v2 + 1))))
def P_RM_finish_6L (st : plS) (v1 : Int32) (v2 : Int32) : Prop := (¬ (st 0 52) ≤ (v2 + 1) → (¬ 6 ≤ v2 → (vp_in v2 7 ∧ P_RM_hash (v1 ^^^ (st 17 (plIx v2))))))
set_option maxRecDepth 20000 in
theorem j_RM_finish_6L {E : plE} (X : plX E b_RM_finish "ProtectedLineModel" 4 none 1 22) (a : Nat → Nat) (T : Bool × (Int32 × Int32)) (st : plS)  (hb : ∀ (c0 : Int32) (c1 : Int32), T = (true, (c0, c1)) → plJ E 4 (plwR (plg E) a st) 0 0 [(0, .ref (a 0)), (1, .int c0), (2, .int c1)] 6 []) (hx : ∀ (c0 : Int32) (c1 : Int32), T = (false, (c0, c1)) → plJ E 4 (plwR (plg E) a st) 0 0 [(0, .ref (a 0)), (1, .int c0), (2, .int c1)] 40 []) (v1 : Int32) (v2 : Int32) (hs : P_RM_finish_6L st v1 v2) (hk : T = K_RM_finish_6L st v1 v2) : plJ E 4 (plwR (plg E) a st) 0 0 [(0, .ref (a 0)), (1, .int v1), (2, .int v2)] 6 [] := by
  unfold P_RM_finish_6L at hs
  unfold K_RM_finish_6L at hk
  refine j_iload_n (pc := 6) X d_RM_finish_6 rfl 2 rfl ?_
  refine j_iconst (pc := 7) X d_RM_finish_7 ic_1 ?_
  refine j_iadd (pc := 8) X d_RM_finish_8 ?_
  refine j_aload_n (pc := 9) X d_RM_finish_9 rfl 0 rfl ?_
  refine get_RM_long0 (pc := 10) X fl_RM_274 d_RM_finish_10 ?_
  refine j_icmp_ge (pc := 13) (tgt := 40) X d_RM_finish_13 rfl (fun hc => ?_) (fun hc => ?_)
  · have hk := hk.trans (if_pos hc)
    exact hx v1 v2 hk
  · have hk := hk.trans (if_neg hc)
    have hs := hs hc
    refine j_iload_n (pc := 16) X d_RM_finish_16 rfl 2 rfl ?_
    refine j_bipush (pc := 17) X d_RM_finish_17 bp_6 ?_
    refine j_icmp_ge (pc := 19) (tgt := 40) X d_RM_finish_19 rfl (fun hc => ?_) (fun hc => ?_)
    · have hk := hk.trans (if_pos hc)
      exact hx v1 v2 hk
    · have hk := hk.trans (if_neg hc)
      have hs := hs hc
      refine j_iload_n (pc := 22) X d_RM_finish_22 rfl 1 rfl ?_
      refine j_aload_n (pc := 23) X d_RM_finish_23 rfl 0 rfl ?_
      refine get_RM_body (pc := 24) X fl_RM_81 d_RM_finish_24 ?_
      refine j_iload_n (pc := 27) X d_RM_finish_27 rfl 2 rfl ?_
      refine ald_RMbody (pc := 28) X hs.1 d_RM_finish_28 ?_
      have hs := hs.2
      refine j_ixor (pc := 29) X d_RM_finish_29 ?_
      refine j_callSp (pc := 30) (As := [.int (v1 ^^^ (st 17 (plIx v2)))]) (rest := []) X (c_RM_hash (plg E) a st (v1 ^^^ (st 17 (plIx v2))) hs) ml_RM_148 ⟨Nat.le_of_ble_eq_true rfl, Nat.le_of_ble_eq_true rfl⟩ rfl rfl (Nat.le_of_ble_eq_true rfl) d_RM_finish_30 ?_
      refine j_istore_n (pc := 33) X d_RM_finish_33 rfl (lv' := [(1, .int (K_RM_hash (v1 ^^^ (st 17 (plIx v2))))), (0, .ref (a 0)), (2, .int v2)]) (Nat.le_of_ble_eq_true rfl) rfl ?_
      refine j_iinc (pc := 34) X d_RM_finish_34 2 rfl ic_1 (lv' := [(2, .int (v2 + 1)), (1, .int (K_RM_hash (v1 ^^^ (st 17 (plIx v2))))), (0, .ref (a 0))]) (Nat.le_of_ble_eq_true rfl) rfl ?_
      refine j_goto (pc := 37) (tgt := 6) X d_RM_finish_37 rfl ?_
      refine j_sub [2, 1, 0] (lv' := [(0, .ref (a 0)), (1, .int (K_RM_hash (v1 ^^^ (st 17 (plIx v2))))), (2, .int (v2 + 1))]) rfl ?_
      exact hb (K_RM_hash (v1 ^^^ (st 17 (plIx v2)))) (v2 + 1) hk
def F_RM_finish_6 (st : plS) (c : Int32 × Int32) : Bool × (Int32 × Int32) := K_RM_finish_6L st c.1 c.2
def G_RM_finish_6 (st : plS) (c : Int32 × Int32) : Prop := P_RM_finish_6L st c.1 c.2
def K_RM_finish_96L (st : plS) (v3 : Int32) : Bool × (plS × Int32) := (if v3 < 7 then (false, (st, v3)) else (true, (plUp st 18 (plIx v3) (st 18 (plIx (v3 - 7))), v3 + (-1))))
def P_RM_finish_96L (st : plS) (v3 : Int32) : Prop := (¬ v3 < 7 → (vp_in (v3 - 7) 56 ∧ vp_in v3 56))
set_option maxRecDepth 20000 in
theorem j_RM_finish_96L {E : plE} (X : plX E b_RM_finish "ProtectedLineModel" 4 none 1 22) (a : Nat → Nat) (T : Bool × (plS × Int32))  (hb : ∀ (c0 : plS) (c1 : Int32), T = (true, (c0, c1)) → plJ E 4 (plwR (plg E) a c0) 0 0 [(0, .ref (a 0)), (3, .int c1)] 96 []) (hx : ∀ (c0 : plS) (c1 : Int32), T = (false, (c0, c1)) → plJ E 4 (plwR (plg E) a c0) 0 0 [(0, .ref (a 0)), (3, .int c1)] 123 []) (st : plS) (v3 : Int32) (hs : P_RM_finish_96L st v3) (hk : T = K_RM_finish_96L st v3) : plJ E 4 (plwR (plg E) a st) 0 0 [(0, .ref (a 0)), (3, .int v3)] 96 [] := by
  unfold P_RM_finish_96L at hs
  unfold K_RM_finish_96L at hk
  refine j_iload_n (pc := 96) X d_RM_finish_96 rfl 1 rfl ?_
  refine j_bipush (pc := 97) X d_RM_finish_97 bp_7 ?_
  refine j_icmp_lt (pc := 99) (tgt := 123) X d_RM_finish_99 rfl (fun hc => ?_) (fun hc => ?_)
  · have hk := hk.trans (if_pos hc)
    exact hx st v3 hk
  · have hk := hk.trans (if_neg hc)
    have hs := hs hc
    refine j_aload_n (pc := 102) X d_RM_finish_102 rfl 0 rfl ?_
    refine get_RM_kept (pc := 103) X fl_RM_84 d_RM_finish_103 ?_
    refine j_iload_n (pc := 106) X d_RM_finish_106 rfl 1 rfl ?_
    refine j_aload_n (pc := 107) X d_RM_finish_107 rfl 0 rfl ?_
    refine get_RM_kept (pc := 108) X fl_RM_84 d_RM_finish_108 ?_
    refine j_iload_n (pc := 111) X d_RM_finish_111 rfl 1 rfl ?_
    refine j_bipush (pc := 112) X d_RM_finish_112 bp_7 ?_
    refine j_isub (pc := 114) X d_RM_finish_114 ?_
    refine ald_RMkept (pc := 115) X hs.1 d_RM_finish_115 ?_
    have hs := hs.2
    refine ast_RMkept (pc := 116) X hs d_RM_finish_116 ?_
    refine j_iinc (pc := 117) X d_RM_finish_117 1 rfl ic_m1 (lv' := [(3, .int (v3 + (-1))), (0, .ref (a 0))]) (Nat.le_of_ble_eq_true rfl) rfl ?_
    refine j_goto (pc := 120) (tgt := 96) X d_RM_finish_120 rfl ?_
    refine j_sub [1, 0] (lv' := [(0, .ref (a 0)), (3, .int (v3 + (-1)))]) rfl ?_
    exact hb (plUp st 18 (plIx v3) (st 18 (plIx (v3 - 7)))) (v3 + (-1)) hk
def F_RM_finish_96 (c : plS × Int32) : Bool × (plS × Int32) := K_RM_finish_96L c.1 c.2
def G_RM_finish_96 (c : plS × Int32) : Prop := P_RM_finish_96L c.1 c.2
def K_RM_finish_137L (st : plS) (v3 : Int32) : Bool × (plS × Int32) := (if ((st 0 52) - 1) ≤ v3 then (false, (st, v3)) else (true, (plUp st 18 (plIx (1 + v3)) (st 17 (plIx v3)), v3 + 1)))
def P_RM_finish_137L (st : plS) (v3 : Int32) : Prop := (¬ ((st 0 52) - 1) ≤ v3 → (vp_in v3 7 ∧ vp_in (1 + v3) 56))
set_option maxRecDepth 20000 in
theorem j_RM_finish_137L {E : plE} (X : plX E b_RM_finish "ProtectedLineModel" 4 none 1 22) (a : Nat → Nat) (T : Bool × (plS × Int32))  (hb : ∀ (c0 : plS) (c1 : Int32), T = (true, (c0, c1)) → plJ E 4 (plwR (plg E) a c0) 0 0 [(0, .ref (a 0)), (3, .int c1)] 137 []) (hx : ∀ (c0 : plS) (c1 : Int32), T = (false, (c0, c1)) → plJ E 4 (plwR (plg E) a c0) 0 0 [(0, .ref (a 0)), (3, .int c1)] 167 []) (st : plS) (v3 : Int32) (hs : P_RM_finish_137L st v3) (hk : T = K_RM_finish_137L st v3) : plJ E 4 (plwR (plg E) a st) 0 0 [(0, .ref (a 0)), (3, .int v3)] 137 [] := by
  unfold P_RM_finish_137L at hs
  unfold K_RM_finish_137L at hk
  refine j_iload_n (pc := 137) X d_RM_finish_137 rfl 1 rfl ?_
  refine j_aload_n (pc := 138) X d_RM_finish_138 rfl 0 rfl ?_
  refine get_RM_long0 (pc := 139) X fl_RM_274 d_RM_finish_139 ?_
  refine j_iconst (pc := 142) X d_RM_finish_142 ic_1 ?_
  refine j_isub (pc := 143) X d_RM_finish_143 ?_
  refine j_icmp_ge (pc := 144) (tgt := 167) X d_RM_finish_144 rfl (fun hc => ?_) (fun hc => ?_)
  · have hk := hk.trans (if_pos hc)
    exact hx st v3 hk
  · have hk := hk.trans (if_neg hc)
    have hs := hs hc
    refine j_aload_n (pc := 147) X d_RM_finish_147 rfl 0 rfl ?_
    refine get_RM_kept (pc := 148) X fl_RM_84 d_RM_finish_148 ?_
    refine j_iconst (pc := 151) X d_RM_finish_151 ic_1 ?_
    refine j_iload_n (pc := 152) X d_RM_finish_152 rfl 1 rfl ?_
    refine j_iadd (pc := 153) X d_RM_finish_153 ?_
    refine j_aload_n (pc := 154) X d_RM_finish_154 rfl 0 rfl ?_
    refine get_RM_body (pc := 155) X fl_RM_81 d_RM_finish_155 ?_
    refine j_iload_n (pc := 158) X d_RM_finish_158 rfl 1 rfl ?_
    refine ald_RMbody (pc := 159) X hs.1 d_RM_finish_159 ?_
    have hs := hs.2
    refine ast_RMkept (pc := 160) X hs d_RM_finish_160 ?_
    refine j_iinc (pc := 161) X d_RM_finish_161 1 rfl ic_1 (lv' := [(3, .int (v3 + 1)), (0, .ref (a 0))]) (Nat.le_of_ble_eq_true rfl) rfl ?_
    refine j_goto (pc := 164) (tgt := 137) X d_RM_finish_164 rfl ?_
    refine j_sub [1, 0] (lv' := [(0, .ref (a 0)), (3, .int (v3 + 1))]) rfl ?_
    exact hb (plUp st 18 (plIx (1 + v3)) (st 17 (plIx v3))) (v3 + 1) hk
def F_RM_finish_137 (c : plS × Int32) : Bool × (plS × Int32) := K_RM_finish_137L c.1 c.2
def G_RM_finish_137 (c : plS × Int32) : Prop := P_RM_finish_137L c.1 c.2
def K_RM_finish_137X  (c : plS × Int32) : plS := plUp c.1 0 56 ((c.1 0 56) + 1)
set_option maxRecDepth 20000 in
theorem j_RM_finish_137X {E : plE} (X : plX E b_RM_finish "ProtectedLineModel" 4 none 1 22) (a : Nat → Nat) (T : plS) (hQ : plRv E (plwR (plg E) a) T)  (c : plS × Int32) (hk : T = K_RM_finish_137X c) : plJ E 4 (plwR (plg E) a c.1) 0 0 [(0, .ref (a 0)), (3, .int c.2)] 167 [] := by
  unfold K_RM_finish_137X at hk
  refine j_aload_n (pc := 167) X d_RM_finish_167 rfl 0 rfl ?_
  refine j_dup (pc := 168) X d_RM_finish_168 rfl ?_
  refine get_RM_delivered (pc := 169) X fl_RM_289 d_RM_finish_169 ?_
  refine j_iconst (pc := 172) X d_RM_finish_172 ic_1 ?_
  refine j_iadd (pc := 173) X d_RM_finish_173 ?_
  refine put_RM_delivered (pc := 174) X fl_RM_289 d_RM_finish_174 ?_
  exact j_retv (pc := 177) X hQ d_RM_finish_177 hk
def K_RM_finish_96X  (c : plS × Int32) : plS := K_RM_finish_137X (lpR (F_RM_finish_137) 64 (plUp c.1 18 (plIx 0) ((c.1 0 52) - 1), 0))
def P_RM_finish_96X  (c : plS × Int32) : Prop := lpP (G_RM_finish_137) (F_RM_finish_137) 64 (plUp c.1 18 (plIx 0) ((c.1 0 52) - 1), 0)
set_option maxRecDepth 20000 in
theorem j_RM_finish_96X {E : plE} (X : plX E b_RM_finish "ProtectedLineModel" 4 none 1 22) (a : Nat → Nat) (T : plS) (hQ : plRv E (plwR (plg E) a) T)  (c : plS × Int32) (hs : P_RM_finish_96X c) (hk : T = K_RM_finish_96X c) : plJ E 4 (plwR (plg E) a c.1) 0 0 [(0, .ref (a 0)), (3, .int c.2)] 123 [] := by
  unfold P_RM_finish_96X at hs
  unfold K_RM_finish_96X at hk
  refine j_aload_n (pc := 123) X d_RM_finish_123 rfl 0 rfl ?_
  refine get_RM_kept (pc := 124) X fl_RM_84 d_RM_finish_124 ?_
  refine j_iconst (pc := 127) X d_RM_finish_127 ic_0 ?_
  refine j_aload_n (pc := 128) X d_RM_finish_128 rfl 0 rfl ?_
  refine get_RM_long0 (pc := 129) X fl_RM_274 d_RM_finish_129 ?_
  refine j_iconst (pc := 132) X d_RM_finish_132 ic_1 ?_
  refine j_isub (pc := 133) X d_RM_finish_133 ?_
  refine ast_RMkept (pc := 134) X vi_0_56 d_RM_finish_134 ?_
  refine j_iconst (pc := 135) X d_RM_finish_135 ic_0 ?_
  refine j_istore_n (pc := 136) X d_RM_finish_136 rfl (lv' := [(3, .int 0), (0, .ref (a 0))]) (Nat.le_of_ble_eq_true rfl) rfl ?_
  refine j_sub [1, 0] (lv' := [(0, .ref (a 0)), (3, .int 0)]) rfl ?_
  exact lpJ (G_RM_finish_137) (F_RM_finish_137) (fun c => plJ E 4 (plwR (plg E) a c.1) 0 0 [(0, .ref (a 0)), (3, .int c.2)] 137 []) (fun c => plJ E 4 (plwR (plg E) a c.1) 0 0 [(0, .ref (a 0)), (3, .int c.2)] 167 []) (fun c hp h1 h2 => j_RM_finish_137L X a (F_RM_finish_137 c) (fun c0 c1 => h1 (c0, c1)) (fun c0 c1 => h2 (c0, c1)) c.1 c.2 hp rfl) 64 (plUp c.1 18 (plIx 0) ((c.1 0 52) - 1), 0) hs (j_RM_finish_137X X a T hQ (lpR (F_RM_finish_137) 64 (plUp c.1 18 (plIx 0) ((c.1 0 52) - 1), 0)) hk)
def K_RM_finish_77 (st : plS) (k0 : Int32) : plS := (if k0 = 0 then plUp st 0 57 ((st 0 57) + 1) else K_RM_finish_96X (lpR (F_RM_finish_96) 64 (st, 55)))
def P_RM_finish_77 (st : plS) (k0 : Int32) : Prop := (¬ k0 = 0 → (lpP (G_RM_finish_96) (F_RM_finish_96) 64 (st, 55) ∧ P_RM_finish_96X (lpR (F_RM_finish_96) 64 (st, 55))))
set_option maxRecDepth 20000 in
theorem j_RM_finish_77 {E : plE} (X : plX E b_RM_finish "ProtectedLineModel" 4 none 1 22) (a : Nat → Nat) (T : plS) (hQ : plRv E (plwR (plg E) a) T) (st : plS) (k0 : Int32) (hs : P_RM_finish_77 st k0) (hk : T = K_RM_finish_77 st k0) : plJ E 4 (plwR (plg E) a st) 0 0 [(0, .ref (a 0))] 77 [.int k0] := by
  unfold P_RM_finish_77 at hs
  unfold K_RM_finish_77 at hk
  refine j_istore_n (pc := 77) X d_RM_finish_77 rfl (lv' := [(2, .int k0), (0, .ref (a 0))]) (Nat.le_of_ble_eq_true rfl) rfl ?_
  refine j_iload_n (pc := 78) X d_RM_finish_78 rfl 0 rfl ?_
  refine j_if_ne (pc := 79) (tgt := 93) X d_RM_finish_79 rfl (fun hc => ?_) (fun hc => ?_)
  · have hk := hk.trans (if_neg hc)
    have hs := hs hc
    refine j_bipush (pc := 93) X d_RM_finish_93 bp_55 ?_
    refine j_istore_n (pc := 95) X d_RM_finish_95 rfl (lv' := [(3, .int 55), (2, .int k0), (0, .ref (a 0))]) (Nat.le_of_ble_eq_true rfl) rfl ?_
    refine j_sub [2, 0] (lv' := [(0, .ref (a 0)), (3, .int 55)]) rfl ?_
    exact lpJ (G_RM_finish_96) (F_RM_finish_96) (fun c => plJ E 4 (plwR (plg E) a c.1) 0 0 [(0, .ref (a 0)), (3, .int c.2)] 96 []) (fun c => plJ E 4 (plwR (plg E) a c.1) 0 0 [(0, .ref (a 0)), (3, .int c.2)] 123 []) (fun c hp h1 h2 => j_RM_finish_96L X a (F_RM_finish_96 c) (fun c0 c1 => h1 (c0, c1)) (fun c0 c1 => h2 (c0, c1)) c.1 c.2 hp rfl) 64 (st, 55) hs.1 (j_RM_finish_96X X a T hQ (lpR (F_RM_finish_96) 64 (st, 55)) hs.2 hk)
  · have hk := hk.trans (if_pos hc)
    refine j_aload_n (pc := 82) X d_RM_finish_82 rfl 1 rfl ?_
    refine j_dup (pc := 83) X d_RM_finish_83 rfl ?_
    refine get_RM_dropped (pc := 84) X fl_RM_286 d_RM_finish_84 ?_
    refine j_iconst (pc := 87) X d_RM_finish_87 ic_1 ?_
    refine j_iadd (pc := 88) X d_RM_finish_88 ?_
    refine put_RM_dropped (pc := 89) X fl_RM_286 d_RM_finish_89 ?_
    exact j_retv (pc := 92) X hQ d_RM_finish_92 hk
def K_RM_finish_76 (st : plS) : plS := K_RM_finish_77 st 0
def P_RM_finish_76 (st : plS) : Prop := P_RM_finish_77 st 0
set_option maxRecDepth 20000 in
theorem j_RM_finish_76 {E : plE} (X : plX E b_RM_finish "ProtectedLineModel" 4 none 1 22) (a : Nat → Nat) (T : plS) (hQ : plRv E (plwR (plg E) a) T) (st : plS)  (hs : P_RM_finish_76 st) (hk : T = K_RM_finish_76 st) : plJ E 4 (plwR (plg E) a st) 0 0 [(0, .ref (a 0))] 76 [] := by
  unfold P_RM_finish_76 at hs
  unfold K_RM_finish_76 at hk
  refine j_iconst (pc := 76) X d_RM_finish_76 ic_0 ?_
  exact j_RM_finish_77 X a T hQ st 0 hs hk
def K_RM_finish_40 (st : plS) (v1 : Int32) : plS := (if (st 0 52) < 2 then K_RM_finish_76 st else (if 7 < (st 0 52) then K_RM_finish_76 st else (if (st 17 (plIx ((st 0 52) - 1))) = v1 then K_RM_finish_77 st 1 else K_RM_finish_76 st)))
def P_RM_finish_40 (st : plS) (v1 : Int32) : Prop := (((st 0 52) < 2 → P_RM_finish_76 st) ∧ (¬ (st 0 52) < 2 → ((7 < (st 0 52) → P_RM_finish_76 st) ∧ (¬ 7 < (st 0 52) → (vp_in ((st 0 52) - 1) 7 ∧ (((st 17 (plIx ((st 0 52) - 1))) = v1 → P_RM_finish_77 st 1) ∧ (¬ (st 17 (plIx ((st 0 52) - 1))) = v1 → P_RM_finish_76 st)))))))
set_option maxRecDepth 20000 in
theorem j_RM_finish_40 {E : plE} (X : plX E b_RM_finish "ProtectedLineModel" 4 none 1 22) (a : Nat → Nat) (T : plS) (hQ : plRv E (plwR (plg E) a) T) (st : plS) (v1 : Int32) (hs : P_RM_finish_40 st v1) (hk : T = K_RM_finish_40 st v1) : plJ E 4 (plwR (plg E) a st) 0 0 [(0, .ref (a 0)), (1, .int v1)] 40 [] := by
  unfold P_RM_finish_40 at hs
  unfold K_RM_finish_40 at hk
  refine j_aload_n (pc := 40) X d_RM_finish_40 rfl 0 rfl ?_
  refine get_RM_long0 (pc := 41) X fl_RM_274 d_RM_finish_41 ?_
  refine j_iconst (pc := 44) X d_RM_finish_44 ic_2 ?_
  refine j_icmp_lt (pc := 45) (tgt := 76) X d_RM_finish_45 rfl (fun hc => ?_) (fun hc => ?_)
  · have hk := hk.trans (if_pos hc)
    have hs := hs.1 hc
    refine j_sub [0] (lv' := [(0, .ref (a 0))]) rfl ?_
    exact j_RM_finish_76 X a T hQ st hs hk
  · have hk := hk.trans (if_neg hc)
    have hs := hs.2 hc
    refine j_aload_n (pc := 48) X d_RM_finish_48 rfl 0 rfl ?_
    refine get_RM_long0 (pc := 49) X fl_RM_274 d_RM_finish_49 ?_
    refine j_bipush (pc := 52) X d_RM_finish_52 bp_7 ?_
    refine j_icmp_gt (pc := 54) (tgt := 76) X d_RM_finish_54 rfl (fun hc => ?_) (fun hc => ?_)
    · have hk := hk.trans (if_pos hc)
      have hs := hs.1 hc
      refine j_sub [0] (lv' := [(0, .ref (a 0))]) rfl ?_
      exact j_RM_finish_76 X a T hQ st hs hk
    · have hk := hk.trans (if_neg hc)
      have hs := hs.2 hc
      refine j_aload_n (pc := 57) X d_RM_finish_57 rfl 0 rfl ?_
      refine get_RM_body (pc := 58) X fl_RM_81 d_RM_finish_58 ?_
      refine j_aload_n (pc := 61) X d_RM_finish_61 rfl 0 rfl ?_
      refine get_RM_long0 (pc := 62) X fl_RM_274 d_RM_finish_62 ?_
      refine j_iconst (pc := 65) X d_RM_finish_65 ic_1 ?_
      refine j_isub (pc := 66) X d_RM_finish_66 ?_
      refine ald_RMbody (pc := 67) X hs.1 d_RM_finish_67 ?_
      have hs := hs.2
      refine j_iload_n (pc := 68) X d_RM_finish_68 rfl 1 rfl ?_
      refine j_icmp_ne (pc := 69) (tgt := 76) X d_RM_finish_69 rfl (fun hc => ?_) (fun hc => ?_)
      · have hk := hk.trans (if_neg hc)
        have hs := hs.2 hc
        refine j_sub [0] (lv' := [(0, .ref (a 0))]) rfl ?_
        exact j_RM_finish_76 X a T hQ st hs hk
      · have hk := hk.trans (if_pos hc)
        have hs := hs.1 hc
        refine j_iconst (pc := 72) X d_RM_finish_72 ic_1 ?_
        refine j_goto (pc := 73) (tgt := 77) X d_RM_finish_73 rfl ?_
        refine j_sub [0] (lv' := [(0, .ref (a 0))]) rfl ?_
        exact j_RM_finish_77 X a T hQ st 1 hs hk
def K_RM_finish_6X (st : plS) (c : Int32 × Int32) : plS := K_RM_finish_40 st c.1
def P_RM_finish_6X (st : plS) (c : Int32 × Int32) : Prop := P_RM_finish_40 st c.1
set_option maxRecDepth 20000 in
theorem j_RM_finish_6X {E : plE} (X : plX E b_RM_finish "ProtectedLineModel" 4 none 1 22) (a : Nat → Nat) (T : plS) (hQ : plRv E (plwR (plg E) a) T) (st : plS)  (c : Int32 × Int32) (hs : P_RM_finish_6X st c) (hk : T = K_RM_finish_6X st c) : plJ E 4 (plwR (plg E) a st) 0 0 [(0, .ref (a 0)), (1, .int c.1), (2, .int c.2)] 40 [] := by
  unfold P_RM_finish_6X at hs
  unfold K_RM_finish_6X at hk
  refine j_sub [0, 1] (lv' := [(0, .ref (a 0)), (1, .int c.1)]) rfl ?_
  exact j_RM_finish_40 X a T hQ st c.1 hs hk
def K_RM_finish (st : plS) : plS := K_RM_finish_6X st (lpR (F_RM_finish_6 st) 64 (255, 0))
def P_RM_finish (st : plS) : Prop := (lpP (G_RM_finish_6 st) (F_RM_finish_6 st) 64 (255, 0) ∧ P_RM_finish_6X st (lpR (F_RM_finish_6 st) 64 (255, 0)))
set_option maxRecDepth 20000 in
theorem j_RM_finish {E : plE} (X : plX E b_RM_finish "ProtectedLineModel" 4 none 1 22) (a : Nat → Nat) (T : plS) (hQ : plRv E (plwR (plg E) a) T) (st : plS)  (hs : P_RM_finish st) (hk : T = K_RM_finish st) : plJ E 4 (plwR (plg E) a st) 0 0 [(0, .ref (a 0))] 0 [] := by
  unfold P_RM_finish at hs
  unfold K_RM_finish at hk
  refine j_sipush (pc := 0) X d_RM_finish_0 sp_255 ?_
  refine j_istore_n (pc := 3) X d_RM_finish_3 rfl (lv' := [(1, .int 255), (0, .ref (a 0))]) (Nat.le_of_ble_eq_true rfl) rfl ?_
  refine j_iconst (pc := 4) X d_RM_finish_4 ic_0 ?_
  refine j_istore_n (pc := 5) X d_RM_finish_5 rfl (lv' := [(2, .int 0), (1, .int 255), (0, .ref (a 0))]) (Nat.le_of_ble_eq_true rfl) rfl ?_
  refine j_sub [2, 1, 0] (lv' := [(0, .ref (a 0)), (1, .int 255), (2, .int 0)]) rfl ?_
  exact lpJ (G_RM_finish_6 st) (F_RM_finish_6 st) (fun c => plJ E 4 (plwR (plg E) a st) 0 0 [(0, .ref (a 0)), (1, .int c.1), (2, .int c.2)] 6 []) (fun c => plJ E 4 (plwR (plg E) a st) 0 0 [(0, .ref (a 0)), (1, .int c.1), (2, .int c.2)] 40 []) (fun c hp h1 h2 => j_RM_finish_6L X a (F_RM_finish_6 st c) st (fun c0 c1 => h1 (c0, c1)) (fun c0 c1 => h2 (c0, c1)) c.1 c.2 hp rfl) 64 (255, 0) hs.1 (j_RM_finish_6X X a T hQ st (lpR (F_RM_finish_6 st) 64 (255, 0)) hs.2 hk)
set_option maxRecDepth 20000 in
theorem c_RM_finish (g : plG) (a : Nat → Nat) (st : plS)  (hs : P_RM_finish st ) : plMv g y_RM_finish b_RM_finish 4 none 1 22 [.ref (a 0)] (plwR g a) st (K_RM_finish st ) := by
  refine plMv.of (own := "ProtectedLineModel") (lv := [(0, .ref (a 0))]) rfl rfl (Nat.le_of_ble_eq_true rfl) rfl (fun E hE X hQ => ?_)
  subst hE
  exact j_RM_finish X a _ hQ st  hs rfl
theorem d_RM_content_0 : decode b_RM_content 0 = .ok (.iload_n 1, 1) := by decide +kernel
theorem d_RM_content_1 : decode b_RM_content 1 = .ok (.aload_n 0, 1) := by decide +kernel
theorem d_RM_content_2 : decode b_RM_content 2 = .ok (.getfield 280, 3) := by decide +kernel
theorem d_RM_content_5 : decode b_RM_content 5 = .ok (.ixor, 1) := by decide +kernel
theorem d_RM_content_6 : decode b_RM_content 6 = .ok (.istore_n 2, 1) := by decide +kernel
theorem d_RM_content_7 : decode b_RM_content 7 = .ok (.aload_n 0, 1) := by decide +kernel
theorem d_RM_content_8 : decode b_RM_content 8 = .ok (.iload_n 1, 1) := by decide +kernel
theorem d_RM_content_9 : decode b_RM_content 9 = .ok (.putfield 280, 3) := by decide +kernel
theorem d_RM_content_12 : decode b_RM_content 12 = .ok (.aload_n 0, 1) := by decide +kernel
theorem d_RM_content_13 : decode b_RM_content 13 = .ok (.dup, 1) := by decide +kernel
theorem d_RM_content_14 : decode b_RM_content 14 = .ok (.getfield 255, 3) := by decide +kernel
theorem d_RM_content_17 : decode b_RM_content 17 = .ok (.iconst 1, 1) := by decide +kernel
theorem d_RM_content_18 : decode b_RM_content 18 = .ok (.isub, 1) := by decide +kernel
theorem d_RM_content_19 : decode b_RM_content 19 = .ok (.putfield 255, 3) := by decide +kernel
theorem d_RM_content_22 : decode b_RM_content 22 = .ok (.aload_n 0, 1) := by decide +kernel
theorem d_RM_content_23 : decode b_RM_content 23 = .ok (.getfield 252, 3) := by decide +kernel
theorem d_RM_content_26 : decode b_RM_content 26 = .ok (.iconst 2, 1) := by decide +kernel
theorem d_RM_content_27 : decode b_RM_content 27 = .ok (.if_icmp .ge (4), 3) := by decide +kernel
theorem d_RM_content_30 : decode b_RM_content 30 = .ok (.return_, 1) := by decide +kernel
theorem d_RM_content_31 : decode b_RM_content 31 = .ok (.aload_n 0, 1) := by decide +kernel
theorem d_RM_content_32 : decode b_RM_content 32 = .ok (.getfield 277, 3) := by decide +kernel
theorem d_RM_content_35 : decode b_RM_content 35 = .ok (.bipush (7), 2) := by decide +kernel
theorem d_RM_content_37 : decode b_RM_content 37 = .ok (.if_icmp .ge (13), 3) := by decide +kernel
theorem d_RM_content_40 : decode b_RM_content 40 = .ok (.aload_n 0, 1) := by decide +kernel
theorem d_RM_content_41 : decode b_RM_content 41 = .ok (.getfield 81, 3) := by decide +kernel
theorem d_RM_content_44 : decode b_RM_content 44 = .ok (.aload_n 0, 1) := by decide +kernel
theorem d_RM_content_45 : decode b_RM_content 45 = .ok (.getfield 277, 3) := by decide +kernel
theorem d_RM_content_48 : decode b_RM_content 48 = .ok (.iload_n 2, 1) := by decide +kernel
theorem d_RM_content_49 : decode b_RM_content 49 = .ok (.iastore, 1) := by decide +kernel
theorem d_RM_content_50 : decode b_RM_content 50 = .ok (.aload_n 0, 1) := by decide +kernel
theorem d_RM_content_51 : decode b_RM_content 51 = .ok (.dup, 1) := by decide +kernel
theorem d_RM_content_52 : decode b_RM_content 52 = .ok (.getfield 277, 3) := by decide +kernel
theorem d_RM_content_55 : decode b_RM_content 55 = .ok (.iconst 1, 1) := by decide +kernel
theorem d_RM_content_56 : decode b_RM_content 56 = .ok (.iadd, 1) := by decide +kernel
theorem d_RM_content_57 : decode b_RM_content 57 = .ok (.putfield 277, 3) := by decide +kernel
theorem d_RM_content_60 : decode b_RM_content 60 = .ok (.aload_n 0, 1) := by decide +kernel
theorem d_RM_content_61 : decode b_RM_content 61 = .ok (.getfield 255, 3) := by decide +kernel
theorem d_RM_content_64 : decode b_RM_content 64 = .ok (.ifCond .ne (7), 3) := by decide +kernel
theorem d_RM_content_67 : decode b_RM_content 67 = .ok (.aload_n 0, 1) := by decide +kernel
theorem d_RM_content_68 : decode b_RM_content 68 = .ok (.invokevirtual 283, 3) := by decide +kernel
theorem d_RM_content_71 : decode b_RM_content 71 = .ok (.return_, 1) := by decide +kernel
def K_RM_content_71 (st : plS) : plS := st
set_option maxRecDepth 20000 in
theorem j_RM_content_71 {E : plE} (X : plX E b_RM_content "ProtectedLineModel" 3 none 2 45) (a : Nat → Nat) (T : plS) (hQ : plRv E (plwR (plg E) a) T) (st : plS)  (hk : T = K_RM_content_71 st) : plJ E 3 (plwR (plg E) a st) 0 0 [] 71 [] := by
  unfold K_RM_content_71 at hk
  exact j_retv (pc := 71) X hQ d_RM_content_71 hk
def K_RM_content_60 (st : plS) : plS := (if (st 0 51) = 0 then K_RM_content_71 (K_RM_finish st) else K_RM_content_71 st)
def P_RM_content_60 (st : plS) : Prop := ((st 0 51) = 0 → P_RM_finish st)
set_option maxRecDepth 20000 in
theorem j_RM_content_60 {E : plE} (X : plX E b_RM_content "ProtectedLineModel" 3 none 2 45) (a : Nat → Nat) (T : plS) (hQ : plRv E (plwR (plg E) a) T) (st : plS)  (hs : P_RM_content_60 st) (hk : T = K_RM_content_60 st) : plJ E 3 (plwR (plg E) a st) 0 0 [(0, .ref (a 0))] 60 [] := by
  unfold P_RM_content_60 at hs
  unfold K_RM_content_60 at hk
  refine j_aload_n (pc := 60) X d_RM_content_60 rfl 0 rfl ?_
  refine get_RM_left (pc := 61) X fl_RM_255 d_RM_content_61 ?_
  refine j_if_ne (pc := 64) (tgt := 71) X d_RM_content_64 rfl (fun hc => ?_) (fun hc => ?_)
  · have hk := hk.trans (if_neg hc)
    refine j_sub [] (lv' := []) rfl ?_
    exact j_RM_content_71 X a T hQ st hk
  · have hk := hk.trans (if_pos hc)
    have hs := hs hc
    refine j_aload_n (pc := 67) X d_RM_content_67 rfl 0 rfl ?_
    refine j_callVv (pc := 68) (As := []) (rest := []) X (c_RM_finish (plg E) a st hs) ml_RM_283 0 rfl rfl ⟨Nat.le_of_ble_eq_true rfl, Nat.le_of_ble_eq_true rfl⟩ rfl rfl (Nat.le_of_ble_eq_true rfl) d_RM_content_68 ?_
    refine j_sub [] (lv' := []) rfl ?_
    exact j_RM_content_71 X a T hQ (K_RM_finish st) hk
def K_RM_content_50 (st : plS) : plS := K_RM_content_60 (plUp st 0 53 ((st 0 53) + 1))
def P_RM_content_50 (st : plS) : Prop := P_RM_content_60 (plUp st 0 53 ((st 0 53) + 1))
set_option maxRecDepth 20000 in
theorem j_RM_content_50 {E : plE} (X : plX E b_RM_content "ProtectedLineModel" 3 none 2 45) (a : Nat → Nat) (T : plS) (hQ : plRv E (plwR (plg E) a) T) (st : plS)  (hs : P_RM_content_50 st) (hk : T = K_RM_content_50 st) : plJ E 3 (plwR (plg E) a st) 0 0 [(0, .ref (a 0))] 50 [] := by
  unfold P_RM_content_50 at hs
  unfold K_RM_content_50 at hk
  refine j_aload_n (pc := 50) X d_RM_content_50 rfl 0 rfl ?_
  refine j_dup (pc := 51) X d_RM_content_51 rfl ?_
  refine get_RM_filled (pc := 52) X fl_RM_277 d_RM_content_52 ?_
  refine j_iconst (pc := 55) X d_RM_content_55 ic_1 ?_
  refine j_iadd (pc := 56) X d_RM_content_56 ?_
  refine put_RM_filled (pc := 57) X fl_RM_277 d_RM_content_57 ?_
  exact j_RM_content_60 X a T hQ (plUp st 0 53 ((st 0 53) + 1)) hs hk
def K_RM_content_22 (st : plS) (v2 : Int32) : plS := (if 2 ≤ (st 0 49) then (if 7 ≤ (st 0 53) then K_RM_content_50 st else K_RM_content_50 (plUp st 17 (plIx (st 0 53)) v2)) else st)
def P_RM_content_22 (st : plS) (v2 : Int32) : Prop := (2 ≤ (st 0 49) → ((7 ≤ (st 0 53) → P_RM_content_50 st) ∧ (¬ 7 ≤ (st 0 53) → (vp_in (st 0 53) 7 ∧ P_RM_content_50 (plUp st 17 (plIx (st 0 53)) v2)))))
set_option maxRecDepth 20000 in
theorem j_RM_content_22 {E : plE} (X : plX E b_RM_content "ProtectedLineModel" 3 none 2 45) (a : Nat → Nat) (T : plS) (hQ : plRv E (plwR (plg E) a) T) (st : plS) (v2 : Int32) (hs : P_RM_content_22 st v2) (hk : T = K_RM_content_22 st v2) : plJ E 3 (plwR (plg E) a st) 0 0 [(0, .ref (a 0)), (2, .int v2)] 22 [] := by
  unfold P_RM_content_22 at hs
  unfold K_RM_content_22 at hk
  refine j_aload_n (pc := 22) X d_RM_content_22 rfl 0 rfl ?_
  refine get_RM_sync (pc := 23) X fl_RM_252 d_RM_content_23 ?_
  refine j_iconst (pc := 26) X d_RM_content_26 ic_2 ?_
  refine j_icmp_ge (pc := 27) (tgt := 31) X d_RM_content_27 rfl (fun hc => ?_) (fun hc => ?_)
  · have hk := hk.trans (if_pos hc)
    have hs := hs hc
    refine j_aload_n (pc := 31) X d_RM_content_31 rfl 0 rfl ?_
    refine get_RM_filled (pc := 32) X fl_RM_277 d_RM_content_32 ?_
    refine j_bipush (pc := 35) X d_RM_content_35 bp_7 ?_
    refine j_icmp_ge (pc := 37) (tgt := 50) X d_RM_content_37 rfl (fun hc => ?_) (fun hc => ?_)
    · have hk := hk.trans (if_pos hc)
      have hs := hs.1 hc
      refine j_sub [0] (lv' := [(0, .ref (a 0))]) rfl ?_
      exact j_RM_content_50 X a T hQ st hs hk
    · have hk := hk.trans (if_neg hc)
      have hs := hs.2 hc
      refine j_aload_n (pc := 40) X d_RM_content_40 rfl 0 rfl ?_
      refine get_RM_body (pc := 41) X fl_RM_81 d_RM_content_41 ?_
      refine j_aload_n (pc := 44) X d_RM_content_44 rfl 0 rfl ?_
      refine get_RM_filled (pc := 45) X fl_RM_277 d_RM_content_45 ?_
      refine j_iload_n (pc := 48) X d_RM_content_48 rfl 1 rfl ?_
      refine ast_RMbody (pc := 49) X hs.1 d_RM_content_49 ?_
      have hs := hs.2
      refine j_sub [0] (lv' := [(0, .ref (a 0))]) rfl ?_
      exact j_RM_content_50 X a T hQ (plUp st 17 (plIx (st 0 53)) v2) hs hk
  · have hk := hk.trans (if_neg hc)
    exact j_retv (pc := 30) X hQ d_RM_content_30 hk
def K_RM_content_12 (st : plS) (v2 : Int32) : plS := K_RM_content_22 (plUp st 0 51 ((st 0 51) - 1)) v2
def P_RM_content_12 (st : plS) (v2 : Int32) : Prop := P_RM_content_22 (plUp st 0 51 ((st 0 51) - 1)) v2
set_option maxRecDepth 20000 in
theorem j_RM_content_12 {E : plE} (X : plX E b_RM_content "ProtectedLineModel" 3 none 2 45) (a : Nat → Nat) (T : plS) (hQ : plRv E (plwR (plg E) a) T) (st : plS) (v2 : Int32) (hs : P_RM_content_12 st v2) (hk : T = K_RM_content_12 st v2) : plJ E 3 (plwR (plg E) a st) 0 0 [(0, .ref (a 0)), (2, .int v2)] 12 [] := by
  unfold P_RM_content_12 at hs
  unfold K_RM_content_12 at hk
  refine j_aload_n (pc := 12) X d_RM_content_12 rfl 0 rfl ?_
  refine j_dup (pc := 13) X d_RM_content_13 rfl ?_
  refine get_RM_left (pc := 14) X fl_RM_255 d_RM_content_14 ?_
  refine j_iconst (pc := 17) X d_RM_content_17 ic_1 ?_
  refine j_isub (pc := 18) X d_RM_content_18 ?_
  refine put_RM_left (pc := 19) X fl_RM_255 d_RM_content_19 ?_
  exact j_RM_content_22 X a T hQ (plUp st 0 51 ((st 0 51) - 1)) v2 hs hk
def K_RM_content (st : plS) (v1 : Int32) : plS := K_RM_content_12 (plUp st 0 54 v1) (v1 ^^^ (st 0 54))
def P_RM_content (st : plS) (v1 : Int32) : Prop := P_RM_content_12 (plUp st 0 54 v1) (v1 ^^^ (st 0 54))
set_option maxRecDepth 20000 in
theorem j_RM_content {E : plE} (X : plX E b_RM_content "ProtectedLineModel" 3 none 2 45) (a : Nat → Nat) (T : plS) (hQ : plRv E (plwR (plg E) a) T) (st : plS) (v1 : Int32) (hs : P_RM_content st v1) (hk : T = K_RM_content st v1) : plJ E 3 (plwR (plg E) a st) 0 0 [(0, .ref (a 0)), (1, .int v1)] 0 [] := by
  unfold P_RM_content at hs
  unfold K_RM_content at hk
  refine j_iload_n (pc := 0) X d_RM_content_0 rfl 1 rfl ?_
  refine j_aload_n (pc := 1) X d_RM_content_1 rfl 0 rfl ?_
  refine get_RM_memory (pc := 2) X fl_RM_280 d_RM_content_2 ?_
  refine j_ixor (pc := 5) X d_RM_content_5 ?_
  refine j_istore_n (pc := 6) X d_RM_content_6 rfl (lv' := [(2, .int (v1 ^^^ (st 0 54))), (0, .ref (a 0)), (1, .int v1)]) (Nat.le_of_ble_eq_true rfl) rfl ?_
  refine j_aload_n (pc := 7) X d_RM_content_7 rfl 1 rfl ?_
  refine j_iload_n (pc := 8) X d_RM_content_8 rfl 2 rfl ?_
  refine put_RM_memory (pc := 9) X fl_RM_280 d_RM_content_9 ?_
  refine j_sub [1, 0] (lv' := [(0, .ref (a 0)), (2, .int (v1 ^^^ (st 0 54)))]) rfl ?_
  exact j_RM_content_12 X a T hQ (plUp st 0 54 v1) (v1 ^^^ (st 0 54)) hs hk
set_option maxRecDepth 20000 in
theorem c_RM_content (g : plG) (a : Nat → Nat) (st : plS) (v1 : Int32) (hs : P_RM_content st v1) : plMv g y_RM_content b_RM_content 3 none 2 45 [.ref (a 0), .int v1] (plwR g a) st (K_RM_content st v1) := by
  refine plMv.of (own := "ProtectedLineModel") (lv := [(0, .ref (a 0)), (1, .int v1)]) rfl rfl (Nat.le_of_ble_eq_true rfl) rfl (fun E hE X hQ => ?_)
  subst hE
  exact j_RM_content X a _ hQ st v1 hs rfl
theorem d_RM_take_0 : decode b_RM_take 0 = .ok (.aload_n 0, 1) := by decide +kernel
theorem d_RM_take_1 : decode b_RM_take 1 = .ok (.getfield 255, 3) := by decide +kernel
theorem d_RM_take_4 : decode b_RM_take 4 = .ok (.ifCond .le (11), 3) := by decide +kernel
theorem d_RM_take_7 : decode b_RM_take 7 = .ok (.aload_n 0, 1) := by decide +kernel
theorem d_RM_take_8 : decode b_RM_take 8 = .ok (.iload_n 1, 1) := by decide +kernel
theorem d_RM_take_9 : decode b_RM_take 9 = .ok (.invokevirtual 258, 3) := by decide +kernel
theorem d_RM_take_12 : decode b_RM_take 12 = .ok (.goto (27), 3) := by decide +kernel
theorem d_RM_take_15 : decode b_RM_take 15 = .ok (.aload_n 0, 1) := by decide +kernel
theorem d_RM_take_16 : decode b_RM_take 16 = .ok (.getfield 78, 3) := by decide +kernel
theorem d_RM_take_19 : decode b_RM_take 19 = .ok (.ifCond .ge (11), 3) := by decide +kernel
theorem d_RM_take_22 : decode b_RM_take 22 = .ok (.aload_n 0, 1) := by decide +kernel
theorem d_RM_take_23 : decode b_RM_take 23 = .ok (.iload_n 1, 1) := by decide +kernel
theorem d_RM_take_24 : decode b_RM_take 24 = .ok (.putfield 78, 3) := by decide +kernel
theorem d_RM_take_27 : decode b_RM_take 27 = .ok (.goto (12), 3) := by decide +kernel
theorem d_RM_take_30 : decode b_RM_take 30 = .ok (.aload_n 0, 1) := by decide +kernel
theorem d_RM_take_31 : decode b_RM_take 31 = .ok (.aload_n 0, 1) := by decide +kernel
theorem d_RM_take_32 : decode b_RM_take 32 = .ok (.getfield 78, 3) := by decide +kernel
theorem d_RM_take_35 : decode b_RM_take 35 = .ok (.iload_n 1, 1) := by decide +kernel
theorem d_RM_take_36 : decode b_RM_take 36 = .ok (.invokevirtual 261, 3) := by decide +kernel
theorem d_RM_take_39 : decode b_RM_take 39 = .ok (.return_, 1) := by decide +kernel
def K_RM_take_39 (st : plS) : plS := st
set_option maxRecDepth 20000 in
theorem j_RM_take_39 {E : plE} (X : plX E b_RM_take "ProtectedLineModel" 2 none 4 89) (a : Nat → Nat) (T : plS) (hQ : plRv E (plwR (plg E) a) T) (st : plS)  (hk : T = K_RM_take_39 st) : plJ E 2 (plwR (plg E) a st) 0 0 [] 39 [] := by
  unfold K_RM_take_39 at hk
  exact j_retv (pc := 39) X hQ d_RM_take_39 hk
def K_RM_take (st : plS) (v1 : Int32) : plS := (if (st 0 51) ≤ 0 then (if 0 ≤ (st 0 50) then K_RM_take_39 (K_RM_pair st (st 0 50) v1) else K_RM_take_39 (plUp st 0 50 v1)) else K_RM_take_39 (K_RM_content st v1))
def P_RM_take (st : plS) (v1 : Int32) : Prop := (((st 0 51) ≤ 0 → (0 ≤ (st 0 50) → P_RM_pair st (st 0 50) v1)) ∧ (¬ (st 0 51) ≤ 0 → P_RM_content st v1))
set_option maxRecDepth 20000 in
theorem j_RM_take {E : plE} (X : plX E b_RM_take "ProtectedLineModel" 2 none 4 89) (a : Nat → Nat) (T : plS) (hQ : plRv E (plwR (plg E) a) T) (st : plS) (v1 : Int32) (hs : P_RM_take st v1) (hk : T = K_RM_take st v1) : plJ E 2 (plwR (plg E) a st) 0 0 [(0, .ref (a 0)), (1, .int v1)] 0 [] := by
  unfold P_RM_take at hs
  unfold K_RM_take at hk
  refine j_aload_n (pc := 0) X d_RM_take_0 rfl 0 rfl ?_
  refine get_RM_left (pc := 1) X fl_RM_255 d_RM_take_1 ?_
  refine j_if_le (pc := 4) (tgt := 15) X d_RM_take_4 rfl (fun hc => ?_) (fun hc => ?_)
  · have hk := hk.trans (if_pos hc)
    have hs := hs.1 hc
    refine j_aload_n (pc := 15) X d_RM_take_15 rfl 0 rfl ?_
    refine get_RM_first (pc := 16) X fl_RM_78 d_RM_take_16 ?_
    refine j_if_ge (pc := 19) (tgt := 30) X d_RM_take_19 rfl (fun hc => ?_) (fun hc => ?_)
    · have hk := hk.trans (if_pos hc)
      have hs := hs hc
      refine j_aload_n (pc := 30) X d_RM_take_30 rfl 0 rfl ?_
      refine j_aload_n (pc := 31) X d_RM_take_31 rfl 0 rfl ?_
      refine get_RM_first (pc := 32) X fl_RM_78 d_RM_take_32 ?_
      refine j_iload_n (pc := 35) X d_RM_take_35 rfl 1 rfl ?_
      refine j_callVv (pc := 36) (As := [.int (st 0 50), .int v1]) (rest := []) X (c_RM_pair (plg E) a st (st 0 50) v1 hs) ml_RM_261 0 rfl rfl ⟨Nat.le_of_ble_eq_true rfl, Nat.le_of_ble_eq_true rfl⟩ rfl rfl (Nat.le_of_ble_eq_true rfl) d_RM_take_36 ?_
      refine j_sub [] (lv' := []) rfl ?_
      exact j_RM_take_39 X a T hQ (K_RM_pair st (st 0 50) v1) hk
    · have hk := hk.trans (if_neg hc)
      refine j_aload_n (pc := 22) X d_RM_take_22 rfl 0 rfl ?_
      refine j_iload_n (pc := 23) X d_RM_take_23 rfl 1 rfl ?_
      refine put_RM_first (pc := 24) X fl_RM_78 d_RM_take_24 ?_
      refine j_goto (pc := 27) (tgt := 39) X d_RM_take_27 rfl ?_
      refine j_sub [] (lv' := []) rfl ?_
      exact j_RM_take_39 X a T hQ (plUp st 0 50 v1) hk
  · have hk := hk.trans (if_neg hc)
    have hs := hs.2 hc
    refine j_aload_n (pc := 7) X d_RM_take_7 rfl 0 rfl ?_
    refine j_iload_n (pc := 8) X d_RM_take_8 rfl 1 rfl ?_
    refine j_callVv (pc := 9) (As := [.int v1]) (rest := []) X (c_RM_content (plg E) a st v1 hs) ml_RM_258 0 rfl rfl ⟨Nat.le_of_ble_eq_true rfl, Nat.le_of_ble_eq_true rfl⟩ rfl rfl (Nat.le_of_ble_eq_true rfl) d_RM_take_9 ?_
    refine j_goto (pc := 12) (tgt := 39) X d_RM_take_12 rfl ?_
    refine j_sub [] (lv' := []) rfl ?_
    exact j_RM_take_39 X a T hQ (K_RM_content st v1) hk
set_option maxRecDepth 20000 in
theorem c_RM_take (g : plG) (a : Nat → Nat) (st : plS) (v1 : Int32) (hs : P_RM_take st v1) : plMv g y_RM_take b_RM_take 2 none 4 89 [.ref (a 0), .int v1] (plwR g a) st (K_RM_take st v1) := by
  refine plMv.of (own := "ProtectedLineModel") (lv := [(0, .ref (a 0)), (1, .int v1)]) rfl rfl (Nat.le_of_ble_eq_true rfl) rfl (fun E hE X hQ => ?_)
  subst hE
  exact j_RM_take X a _ hQ st v1 hs rfl
theorem d_RM_give_0 : decode b_RM_give 0 = .ok (.iload_n 2, 1) := by decide +kernel
theorem d_RM_give_1 : decode b_RM_give 1 = .ok (.ifCond .ne (52), 3) := by decide +kernel
theorem d_RM_give_4 : decode b_RM_give 4 = .ok (.aload_n 0, 1) := by decide +kernel
theorem d_RM_give_5 : decode b_RM_give 5 = .ok (.aload_n 0, 1) := by decide +kernel
theorem d_RM_give_6 : decode b_RM_give 6 = .ok (.getfield 243, 3) := by decide +kernel
theorem d_RM_give_9 : decode b_RM_give 9 = .ok (.iload_n 1, 1) := by decide +kernel
theorem d_RM_give_10 : decode b_RM_give 10 = .ok (.ixor, 1) := by decide +kernel
theorem d_RM_give_11 : decode b_RM_give 11 = .ok (.putfield 243, 3) := by decide +kernel
theorem d_RM_give_14 : decode b_RM_give 14 = .ok (.aload_n 0, 1) := by decide +kernel
theorem d_RM_give_15 : decode b_RM_give 15 = .ok (.aload_n 0, 1) := by decide +kernel
theorem d_RM_give_16 : decode b_RM_give 16 = .ok (.getfield 212, 3) := by decide +kernel
theorem d_RM_give_19 : decode b_RM_give 19 = .ok (.ifCond .le (21), 3) := by decide +kernel
theorem d_RM_give_22 : decode b_RM_give 22 = .ok (.aload_n 0, 1) := by decide +kernel
theorem d_RM_give_23 : decode b_RM_give 23 = .ok (.getfield 212, 3) := by decide +kernel
theorem d_RM_give_26 : decode b_RM_give 26 = .ok (.bipush (7), 2) := by decide +kernel
theorem d_RM_give_28 : decode b_RM_give 28 = .ok (.if_icmp .ge (12), 3) := by decide +kernel
theorem d_RM_give_31 : decode b_RM_give 31 = .ok (.aload_n 0, 1) := by decide +kernel
theorem d_RM_give_32 : decode b_RM_give 32 = .ok (.getfield 212, 3) := by decide +kernel
theorem d_RM_give_35 : decode b_RM_give 35 = .ok (.iconst 1, 1) := by decide +kernel
theorem d_RM_give_36 : decode b_RM_give 36 = .ok (.iadd, 1) := by decide +kernel
theorem d_RM_give_37 : decode b_RM_give 37 = .ok (.goto (7), 3) := by decide +kernel
theorem d_RM_give_40 : decode b_RM_give 40 = .ok (.aload_n 0, 1) := by decide +kernel
theorem d_RM_give_41 : decode b_RM_give 41 = .ok (.getfield 212, 3) := by decide +kernel
theorem d_RM_give_44 : decode b_RM_give 44 = .ok (.putfield 212, 3) := by decide +kernel
theorem d_RM_give_47 : decode b_RM_give 47 = .ok (.aload_n 0, 1) := by decide +kernel
theorem d_RM_give_48 : decode b_RM_give 48 = .ok (.iload_n 1, 1) := by decide +kernel
theorem d_RM_give_49 : decode b_RM_give 49 = .ok (.invokevirtual 246, 3) := by decide +kernel
theorem d_RM_give_52 : decode b_RM_give 52 = .ok (.return_, 1) := by decide +kernel
theorem d_RM_give_53 : decode b_RM_give 53 = .ok (.aload_n 0, 1) := by decide +kernel
theorem d_RM_give_54 : decode b_RM_give 54 = .ok (.getfield 212, 3) := by decide +kernel
theorem d_RM_give_57 : decode b_RM_give 57 = .ok (.bipush (6), 2) := by decide +kernel
theorem d_RM_give_59 : decode b_RM_give 59 = .ok (.if_icmp .ne (21), 3) := by decide +kernel
theorem d_RM_give_62 : decode b_RM_give 62 = .ok (.aload_n 0, 1) := by decide +kernel
theorem d_RM_give_63 : decode b_RM_give 63 = .ok (.aload_n 0, 1) := by decide +kernel
theorem d_RM_give_64 : decode b_RM_give 64 = .ok (.getfield 249, 3) := by decide +kernel
theorem d_RM_give_67 : decode b_RM_give 67 = .ok (.iload_n 1, 1) := by decide +kernel
theorem d_RM_give_68 : decode b_RM_give 68 = .ok (.aload_n 0, 1) := by decide +kernel
theorem d_RM_give_69 : decode b_RM_give 69 = .ok (.getfield 243, 3) := by decide +kernel
theorem d_RM_give_72 : decode b_RM_give 72 = .ok (.ixor, 1) := by decide +kernel
theorem d_RM_give_73 : decode b_RM_give 73 = .ok (.invokestatic 190, 3) := by decide +kernel
theorem d_RM_give_76 : decode b_RM_give 76 = .ok (.iadd, 1) := by decide +kernel
theorem d_RM_give_77 : decode b_RM_give 77 = .ok (.putfield 249, 3) := by decide +kernel
theorem d_RM_give_80 : decode b_RM_give 80 = .ok (.aload_n 0, 1) := by decide +kernel
theorem d_RM_give_81 : decode b_RM_give 81 = .ok (.iconst 1, 1) := by decide +kernel
theorem d_RM_give_82 : decode b_RM_give 82 = .ok (.putfield 212, 3) := by decide +kernel
theorem d_RM_give_85 : decode b_RM_give 85 = .ok (.aload_n 0, 1) := by decide +kernel
theorem d_RM_give_86 : decode b_RM_give 86 = .ok (.iload_n 1, 1) := by decide +kernel
theorem d_RM_give_87 : decode b_RM_give 87 = .ok (.putfield 243, 3) := by decide +kernel
theorem d_RM_give_90 : decode b_RM_give 90 = .ok (.return_, 1) := by decide +kernel
def K_RM_give_85 (st : plS) (v1 : Int32) : plS := plUp st 0 47 v1
set_option maxRecDepth 20000 in
theorem j_RM_give_85 {E : plE} (X : plX E b_RM_give "ProtectedLineModel" 3 none 5 110) (a : Nat → Nat) (T : plS) (hQ : plRv E (plwR (plg E) a) T) (st : plS) (v1 : Int32) (hk : T = K_RM_give_85 st v1) : plJ E 3 (plwR (plg E) a st) 0 0 [(0, .ref (a 0)), (1, .int v1)] 85 [] := by
  unfold K_RM_give_85 at hk
  refine j_aload_n (pc := 85) X d_RM_give_85 rfl 0 rfl ?_
  refine j_iload_n (pc := 86) X d_RM_give_86 rfl 1 rfl ?_
  refine put_RM_sum (pc := 87) X fl_RM_243 d_RM_give_87 ?_
  exact j_retv (pc := 90) X hQ d_RM_give_90 hk
def K_RM_give_80 (st : plS) (v1 : Int32) : plS := K_RM_give_85 (plUp st 0 46 1) v1
set_option maxRecDepth 20000 in
theorem j_RM_give_80 {E : plE} (X : plX E b_RM_give "ProtectedLineModel" 3 none 5 110) (a : Nat → Nat) (T : plS) (hQ : plRv E (plwR (plg E) a) T) (st : plS) (v1 : Int32) (hk : T = K_RM_give_80 st v1) : plJ E 3 (plwR (plg E) a st) 0 0 [(0, .ref (a 0)), (1, .int v1)] 80 [] := by
  unfold K_RM_give_80 at hk
  refine j_aload_n (pc := 80) X d_RM_give_80 rfl 0 rfl ?_
  refine j_iconst (pc := 81) X d_RM_give_81 ic_1 ?_
  refine put_RM_chain (pc := 82) X fl_RM_212 d_RM_give_82 ?_
  exact j_RM_give_85 X a T hQ (plUp st 0 46 1) v1 hk
def K_RM_give_47 (st : plS) (v1 : Int32) : plS := K_RM_take st v1
def P_RM_give_47 (st : plS) (v1 : Int32) : Prop := P_RM_take st v1
set_option maxRecDepth 20000 in
theorem j_RM_give_47 {E : plE} (X : plX E b_RM_give "ProtectedLineModel" 3 none 5 110) (a : Nat → Nat) (T : plS) (hQ : plRv E (plwR (plg E) a) T) (st : plS) (v1 : Int32) (hs : P_RM_give_47 st v1) (hk : T = K_RM_give_47 st v1) : plJ E 3 (plwR (plg E) a st) 0 0 [(0, .ref (a 0)), (1, .int v1)] 47 [] := by
  unfold P_RM_give_47 at hs
  unfold K_RM_give_47 at hk
  refine j_aload_n (pc := 47) X d_RM_give_47 rfl 0 rfl ?_
  refine j_iload_n (pc := 48) X d_RM_give_48 rfl 1 rfl ?_
  refine j_callVv (pc := 49) (As := [.int v1]) (rest := []) X (c_RM_take (plg E) a st v1 hs) ml_RM_246 0 rfl rfl ⟨Nat.le_of_ble_eq_true rfl, Nat.le_of_ble_eq_true rfl⟩ rfl rfl (Nat.le_of_ble_eq_true rfl) d_RM_give_49 ?_
  exact j_retv (pc := 52) X hQ d_RM_give_52 hk
def K_RM_give_44 (st : plS) (v1 : Int32) (k0 : Int32) : plS := K_RM_give_47 (plUp st 0 46 k0) v1
def P_RM_give_44 (st : plS) (v1 : Int32) (k0 : Int32) : Prop := P_RM_give_47 (plUp st 0 46 k0) v1
set_option maxRecDepth 20000 in
theorem j_RM_give_44 {E : plE} (X : plX E b_RM_give "ProtectedLineModel" 3 none 5 110) (a : Nat → Nat) (T : plS) (hQ : plRv E (plwR (plg E) a) T) (st : plS) (v1 : Int32) (k0 : Int32) (hs : P_RM_give_44 st v1 k0) (hk : T = K_RM_give_44 st v1 k0) : plJ E 3 (plwR (plg E) a st) 0 0 [(0, .ref (a 0)), (1, .int v1)] 44 [.int k0, .ref (a 0)] := by
  unfold P_RM_give_44 at hs
  unfold K_RM_give_44 at hk
  refine put_RM_chain (pc := 44) X fl_RM_212 d_RM_give_44 ?_
  exact j_RM_give_47 X a T hQ (plUp st 0 46 k0) v1 hs hk
def K_RM_give_40 (st : plS) (v1 : Int32) : plS := K_RM_give_44 st v1 (st 0 46)
def P_RM_give_40 (st : plS) (v1 : Int32) : Prop := P_RM_give_44 st v1 (st 0 46)
set_option maxRecDepth 20000 in
theorem j_RM_give_40 {E : plE} (X : plX E b_RM_give "ProtectedLineModel" 3 none 5 110) (a : Nat → Nat) (T : plS) (hQ : plRv E (plwR (plg E) a) T) (st : plS) (v1 : Int32) (hs : P_RM_give_40 st v1) (hk : T = K_RM_give_40 st v1) : plJ E 3 (plwR (plg E) a st) 0 0 [(0, .ref (a 0)), (1, .int v1)] 40 [.ref (a 0)] := by
  unfold P_RM_give_40 at hs
  unfold K_RM_give_40 at hk
  refine j_aload_n (pc := 40) X d_RM_give_40 rfl 0 rfl ?_
  refine get_RM_chain (pc := 41) X fl_RM_212 d_RM_give_41 ?_
  exact j_RM_give_44 X a T hQ st v1 (st 0 46) hs hk
def K_RM_give_14 (st : plS) (v1 : Int32) : plS := (if (st 0 46) ≤ 0 then K_RM_give_40 st v1 else (if 7 ≤ (st 0 46) then K_RM_give_40 st v1 else K_RM_give_44 st v1 ((st 0 46) + 1)))
def P_RM_give_14 (st : plS) (v1 : Int32) : Prop := (((st 0 46) ≤ 0 → P_RM_give_40 st v1) ∧ (¬ (st 0 46) ≤ 0 → ((7 ≤ (st 0 46) → P_RM_give_40 st v1) ∧ (¬ 7 ≤ (st 0 46) → P_RM_give_44 st v1 ((st 0 46) + 1)))))
set_option maxRecDepth 20000 in
theorem j_RM_give_14 {E : plE} (X : plX E b_RM_give "ProtectedLineModel" 3 none 5 110) (a : Nat → Nat) (T : plS) (hQ : plRv E (plwR (plg E) a) T) (st : plS) (v1 : Int32) (hs : P_RM_give_14 st v1) (hk : T = K_RM_give_14 st v1) : plJ E 3 (plwR (plg E) a st) 0 0 [(0, .ref (a 0)), (1, .int v1)] 14 [] := by
  unfold P_RM_give_14 at hs
  unfold K_RM_give_14 at hk
  refine j_aload_n (pc := 14) X d_RM_give_14 rfl 0 rfl ?_
  refine j_aload_n (pc := 15) X d_RM_give_15 rfl 0 rfl ?_
  refine get_RM_chain (pc := 16) X fl_RM_212 d_RM_give_16 ?_
  refine j_if_le (pc := 19) (tgt := 40) X d_RM_give_19 rfl (fun hc => ?_) (fun hc => ?_)
  · have hk := hk.trans (if_pos hc)
    have hs := hs.1 hc
    exact j_RM_give_40 X a T hQ st v1 hs hk
  · have hk := hk.trans (if_neg hc)
    have hs := hs.2 hc
    refine j_aload_n (pc := 22) X d_RM_give_22 rfl 0 rfl ?_
    refine get_RM_chain (pc := 23) X fl_RM_212 d_RM_give_23 ?_
    refine j_bipush (pc := 26) X d_RM_give_26 bp_7 ?_
    refine j_icmp_ge (pc := 28) (tgt := 40) X d_RM_give_28 rfl (fun hc => ?_) (fun hc => ?_)
    · have hk := hk.trans (if_pos hc)
      have hs := hs.1 hc
      exact j_RM_give_40 X a T hQ st v1 hs hk
    · have hk := hk.trans (if_neg hc)
      have hs := hs.2 hc
      refine j_aload_n (pc := 31) X d_RM_give_31 rfl 0 rfl ?_
      refine get_RM_chain (pc := 32) X fl_RM_212 d_RM_give_32 ?_
      refine j_iconst (pc := 35) X d_RM_give_35 ic_1 ?_
      refine j_iadd (pc := 36) X d_RM_give_36 ?_
      refine j_goto (pc := 37) (tgt := 44) X d_RM_give_37 rfl ?_
      exact j_RM_give_44 X a T hQ st v1 ((st 0 46) + 1) hs hk
def K_RM_give (st : plS) (v1 : Int32) (v2 : Int32) : plS := (if v2 = 0 then K_RM_give_14 (plUp st 0 47 ((st 0 47) ^^^ v1)) v1 else (if (st 0 46) = 6 then K_RM_give_80 (plUp st 0 48 ((st 0 48) + (K_RM_ones (v1 ^^^ (st 0 47))))) v1 else K_RM_give_80 st v1))
def P_RM_give (st : plS) (v1 : Int32) (v2 : Int32) : Prop := ((v2 = 0 → P_RM_give_14 (plUp st 0 47 ((st 0 47) ^^^ v1)) v1) ∧ (¬ v2 = 0 → ((st 0 46) = 6 → P_RM_ones (v1 ^^^ (st 0 47)))))
set_option maxRecDepth 20000 in
theorem j_RM_give {E : plE} (X : plX E b_RM_give "ProtectedLineModel" 3 none 5 110) (a : Nat → Nat) (T : plS) (hQ : plRv E (plwR (plg E) a) T) (st : plS) (v1 : Int32) (v2 : Int32) (hs : P_RM_give st v1 v2) (hk : T = K_RM_give st v1 v2) : plJ E 3 (plwR (plg E) a st) 0 0 [(0, .ref (a 0)), (1, .int v1), (2, .int v2)] 0 [] := by
  unfold P_RM_give at hs
  unfold K_RM_give at hk
  refine j_iload_n (pc := 0) X d_RM_give_0 rfl 2 rfl ?_
  refine j_if_ne (pc := 1) (tgt := 53) X d_RM_give_1 rfl (fun hc => ?_) (fun hc => ?_)
  · have hk := hk.trans (if_neg hc)
    have hs := hs.2 hc
    refine j_aload_n (pc := 53) X d_RM_give_53 rfl 0 rfl ?_
    refine get_RM_chain (pc := 54) X fl_RM_212 d_RM_give_54 ?_
    refine j_bipush (pc := 57) X d_RM_give_57 bp_6 ?_
    refine j_icmp_ne (pc := 59) (tgt := 80) X d_RM_give_59 rfl (fun hc => ?_) (fun hc => ?_)
    · have hk := hk.trans (if_neg hc)
      refine j_sub [0, 1] (lv' := [(0, .ref (a 0)), (1, .int v1)]) rfl ?_
      exact j_RM_give_80 X a T hQ st v1 hk
    · have hk := hk.trans (if_pos hc)
      have hs := hs hc
      refine j_aload_n (pc := 62) X d_RM_give_62 rfl 0 rfl ?_
      refine j_aload_n (pc := 63) X d_RM_give_63 rfl 0 rfl ?_
      refine get_RM_pathErrors (pc := 64) X fl_RM_249 d_RM_give_64 ?_
      refine j_iload_n (pc := 67) X d_RM_give_67 rfl 1 rfl ?_
      refine j_aload_n (pc := 68) X d_RM_give_68 rfl 0 rfl ?_
      refine get_RM_sum (pc := 69) X fl_RM_243 d_RM_give_69 ?_
      refine j_ixor (pc := 72) X d_RM_give_72 ?_
      refine j_callSp (pc := 73) (As := [.int (v1 ^^^ (st 0 47))]) (rest := [.int (st 0 48), .ref (a 0)]) X (c_RM_ones (plg E) a st (v1 ^^^ (st 0 47)) hs) ml_RM_190 ⟨Nat.le_of_ble_eq_true rfl, Nat.le_of_ble_eq_true rfl⟩ rfl rfl (Nat.le_of_ble_eq_true rfl) d_RM_give_73 ?_
      refine j_iadd (pc := 76) X d_RM_give_76 ?_
      refine put_RM_pathErrors (pc := 77) X fl_RM_249 d_RM_give_77 ?_
      refine j_sub [0, 1] (lv' := [(0, .ref (a 0)), (1, .int v1)]) rfl ?_
      exact j_RM_give_80 X a T hQ (plUp st 0 48 ((st 0 48) + (K_RM_ones (v1 ^^^ (st 0 47))))) v1 hk
  · have hk := hk.trans (if_pos hc)
    have hs := hs.1 hc
    refine j_aload_n (pc := 4) X d_RM_give_4 rfl 0 rfl ?_
    refine j_aload_n (pc := 5) X d_RM_give_5 rfl 0 rfl ?_
    refine get_RM_sum (pc := 6) X fl_RM_243 d_RM_give_6 ?_
    refine j_iload_n (pc := 9) X d_RM_give_9 rfl 1 rfl ?_
    refine j_ixor (pc := 10) X d_RM_give_10 ?_
    refine put_RM_sum (pc := 11) X fl_RM_243 d_RM_give_11 ?_
    refine j_sub [0, 1] (lv' := [(0, .ref (a 0)), (1, .int v1)]) rfl ?_
    exact j_RM_give_14 X a T hQ (plUp st 0 47 ((st 0 47) ^^^ v1)) v1 hs hk
set_option maxRecDepth 20000 in
theorem c_RM_give (g : plG) (a : Nat → Nat) (st : plS) (v1 : Int32) (v2 : Int32) (hs : P_RM_give st v1 v2) : plMv g y_RM_give b_RM_give 3 none 5 110 [.ref (a 0), .int v1, .int v2] (plwR g a) st (K_RM_give st v1 v2) := by
  refine plMv.of (own := "ProtectedLineModel") (lv := [(0, .ref (a 0)), (1, .int v1), (2, .int v2)]) rfl rfl (Nat.le_of_ble_eq_true rfl) rfl (fun E hE X hQ => ?_)
  subst hE
  exact j_RM_give X a _ hQ st v1 v2 hs rfl
