theorem d_RM_read_0 : decode b_RM_read 0 = .ok (.aload_n 0, 1) := by decide +kernel
theorem d_RM_read_1 : decode b_RM_read 1 = .ok (.iconst 0, 1) := by decide +kernel
theorem d_RM_read_2 : decode b_RM_read 2 = .ok (.putfield 209, 3) := by decide +kernel
theorem d_RM_read_5 : decode b_RM_read 5 = .ok (.iload_n 2, 1) := by decide +kernel
theorem d_RM_read_6 : decode b_RM_read 6 = .ok (.invokestatic 227, 3) := by decide +kernel
theorem d_RM_read_9 : decode b_RM_read 9 = .ok (.istore_n 3, 1) := by decide +kernel
theorem d_RM_read_10 : decode b_RM_read 10 = .ok (.iconst 0, 1) := by decide +kernel
theorem d_RM_read_11 : decode b_RM_read 11 = .ok (.istore 4, 2) := by decide +kernel
theorem d_RM_read_13 : decode b_RM_read 13 = .ok (.aload_n 0, 1) := by decide +kernel
theorem d_RM_read_14 : decode b_RM_read 14 = .ok (.getfield 72, 3) := by decide +kernel
theorem d_RM_read_17 : decode b_RM_read 17 = .ok (.ifCond .ge (24), 3) := by decide +kernel
theorem d_RM_read_20 : decode b_RM_read 20 = .ok (.aload_n 0, 1) := by decide +kernel
theorem d_RM_read_21 : decode b_RM_read 21 = .ok (.iload_n 3, 1) := by decide +kernel
theorem d_RM_read_22 : decode b_RM_read 22 = .ok (.invokevirtual 230, 3) := by decide +kernel
theorem d_RM_read_25 : decode b_RM_read 25 = .ok (.ifCond .ne (8), 3) := by decide +kernel
theorem d_RM_read_28 : decode b_RM_read 28 = .ok (.aload_n 0, 1) := by decide +kernel
theorem d_RM_read_29 : decode b_RM_read 29 = .ok (.invokevirtual 215, 3) := by decide +kernel
theorem d_RM_read_32 : decode b_RM_read 32 = .ok (.return_, 1) := by decide +kernel
theorem d_RM_read_33 : decode b_RM_read 33 = .ok (.aload_n 0, 1) := by decide +kernel
theorem d_RM_read_34 : decode b_RM_read 34 = .ok (.iload_n 3, 1) := by decide +kernel
theorem d_RM_read_35 : decode b_RM_read 35 = .ok (.invokevirtual 233, 3) := by decide +kernel
theorem d_RM_read_38 : decode b_RM_read 38 = .ok (.goto (138), 3) := by decide +kernel
theorem d_RM_read_41 : decode b_RM_read 41 = .ok (.iload_n 2, 1) := by decide +kernel
theorem d_RM_read_42 : decode b_RM_read 42 = .ok (.bipush (64), 2) := by decide +kernel
theorem d_RM_read_44 : decode b_RM_read 44 = .ok (.bipush (9), 2) := by decide +kernel
theorem d_RM_read_46 : decode b_RM_read 46 = .ok (.aload_n 0, 1) := by decide +kernel
theorem d_RM_read_47 : decode b_RM_read 47 = .ok (.getfield 72, 3) := by decide +kernel
theorem d_RM_read_50 : decode b_RM_read 50 = .ok (.imul, 1) := by decide +kernel
theorem d_RM_read_51 : decode b_RM_read 51 = .ok (.iadd, 1) := by decide +kernel
theorem d_RM_read_52 : decode b_RM_read 52 = .ok (.ixor, 1) := by decide +kernel
theorem d_RM_read_53 : decode b_RM_read 53 = .ok (.istore 5, 2) := by decide +kernel
theorem d_RM_read_55 : decode b_RM_read 55 = .ok (.iload 5, 2) := by decide +kernel
theorem d_RM_read_57 : decode b_RM_read 57 = .ok (.bipush (21), 2) := by decide +kernel
theorem d_RM_read_59 : decode b_RM_read 59 = .ok (.iand, 1) := by decide +kernel
theorem d_RM_read_60 : decode b_RM_read 60 = .ok (.invokestatic 190, 3) := by decide +kernel
theorem d_RM_read_63 : decode b_RM_read 63 = .ok (.istore 6, 2) := by decide +kernel
theorem d_RM_read_65 : decode b_RM_read 65 = .ok (.iload 5, 2) := by decide +kernel
theorem d_RM_read_67 : decode b_RM_read 67 = .ok (.bipush (42), 2) := by decide +kernel
theorem d_RM_read_69 : decode b_RM_read 69 = .ok (.iand, 1) := by decide +kernel
theorem d_RM_read_70 : decode b_RM_read 70 = .ok (.invokestatic 190, 3) := by decide +kernel
theorem d_RM_read_73 : decode b_RM_read 73 = .ok (.istore 7, 2) := by decide +kernel
theorem d_RM_read_75 : decode b_RM_read 75 = .ok (.iload_n 2, 1) := by decide +kernel
theorem d_RM_read_76 : decode b_RM_read 76 = .ok (.bipush (6), 2) := by decide +kernel
theorem d_RM_read_78 : decode b_RM_read 78 = .ok (.ishr, 1) := by decide +kernel
theorem d_RM_read_79 : decode b_RM_read 79 = .ok (.iconst 1, 1) := by decide +kernel
theorem d_RM_read_80 : decode b_RM_read 80 = .ok (.if_icmp .ne (7), 3) := by decide +kernel
theorem d_RM_read_83 : decode b_RM_read 83 = .ok (.iconst 1, 1) := by decide +kernel
theorem d_RM_read_84 : decode b_RM_read 84 = .ok (.goto (4), 3) := by decide +kernel
theorem d_RM_read_87 : decode b_RM_read 87 = .ok (.iconst 0, 1) := by decide +kernel
theorem d_RM_read_88 : decode b_RM_read 88 = .ok (.istore 8, 2) := by decide +kernel
theorem d_RM_read_90 : decode b_RM_read 90 = .ok (.iload 8, 2) := by decide +kernel
theorem d_RM_read_92 : decode b_RM_read 92 = .ok (.ifCond .eq (19), 3) := by decide +kernel
theorem d_RM_read_95 : decode b_RM_read 95 = .ok (.iload 6, 2) := by decide +kernel
theorem d_RM_read_97 : decode b_RM_read 97 = .ok (.iconst 2, 1) := by decide +kernel
theorem d_RM_read_98 : decode b_RM_read 98 = .ok (.if_icmp .lt (13), 3) := by decide +kernel
theorem d_RM_read_101 : decode b_RM_read 101 = .ok (.iload 7, 2) := by decide +kernel
theorem d_RM_read_103 : decode b_RM_read 103 = .ok (.iconst 1, 1) := by decide +kernel
theorem d_RM_read_104 : decode b_RM_read 104 = .ok (.if_icmp .gt (7), 3) := by decide +kernel
theorem d_RM_read_107 : decode b_RM_read 107 = .ok (.iconst 1, 1) := by decide +kernel
theorem d_RM_read_108 : decode b_RM_read 108 = .ok (.goto (25), 3) := by decide +kernel
theorem d_RM_read_111 : decode b_RM_read 111 = .ok (.iload 8, 2) := by decide +kernel
theorem d_RM_read_113 : decode b_RM_read 113 = .ok (.ifCond .eq (19), 3) := by decide +kernel
theorem d_RM_read_116 : decode b_RM_read 116 = .ok (.iload 7, 2) := by decide +kernel
theorem d_RM_read_118 : decode b_RM_read 118 = .ok (.iconst 2, 1) := by decide +kernel
theorem d_RM_read_119 : decode b_RM_read 119 = .ok (.if_icmp .lt (13), 3) := by decide +kernel
theorem d_RM_read_122 : decode b_RM_read 122 = .ok (.iload 6, 2) := by decide +kernel
theorem d_RM_read_124 : decode b_RM_read 124 = .ok (.iconst 1, 1) := by decide +kernel
theorem d_RM_read_125 : decode b_RM_read 125 = .ok (.if_icmp .gt (7), 3) := by decide +kernel
theorem d_RM_read_128 : decode b_RM_read 128 = .ok (.iconst (-1), 1) := by decide +kernel
theorem d_RM_read_129 : decode b_RM_read 129 = .ok (.goto (4), 3) := by decide +kernel
theorem d_RM_read_132 : decode b_RM_read 132 = .ok (.iconst 0, 1) := by decide +kernel
theorem d_RM_read_133 : decode b_RM_read 133 = .ok (.istore 4, 2) := by decide +kernel
theorem d_RM_read_135 : decode b_RM_read 135 = .ok (.iload 8, 2) := by decide +kernel
theorem d_RM_read_137 : decode b_RM_read 137 = .ok (.ifCond .eq (8), 3) := by decide +kernel
theorem d_RM_read_140 : decode b_RM_read 140 = .ok (.iload 5, 2) := by decide +kernel
theorem d_RM_read_142 : decode b_RM_read 142 = .ok (.ifCond .eq (8), 3) := by decide +kernel
theorem d_RM_read_145 : decode b_RM_read 145 = .ok (.iload 4, 2) := by decide +kernel
theorem d_RM_read_147 : decode b_RM_read 147 = .ok (.ifCond .eq (16), 3) := by decide +kernel
theorem d_RM_read_150 : decode b_RM_read 150 = .ok (.aload_n 0, 1) := by decide +kernel
theorem d_RM_read_151 : decode b_RM_read 151 = .ok (.iconst 0, 1) := by decide +kernel
theorem d_RM_read_152 : decode b_RM_read 152 = .ok (.putfield 221, 3) := by decide +kernel
theorem d_RM_read_155 : decode b_RM_read 155 = .ok (.aload_n 0, 1) := by decide +kernel
theorem d_RM_read_156 : decode b_RM_read 156 = .ok (.iconst (-1), 1) := by decide +kernel
theorem d_RM_read_157 : decode b_RM_read 157 = .ok (.putfield 75, 3) := by decide +kernel
theorem d_RM_read_160 : decode b_RM_read 160 = .ok (.goto (16), 3) := by decide +kernel
theorem d_RM_read_163 : decode b_RM_read 163 = .ok (.aload_n 0, 1) := by decide +kernel
theorem d_RM_read_164 : decode b_RM_read 164 = .ok (.iload_n 3, 1) := by decide +kernel
theorem d_RM_read_165 : decode b_RM_read 165 = .ok (.invokevirtual 236, 3) := by decide +kernel
theorem d_RM_read_168 : decode b_RM_read 168 = .ok (.ifCond .eq (8), 3) := by decide +kernel
theorem d_RM_read_171 : decode b_RM_read 171 = .ok (.aload_n 0, 1) := by decide +kernel
theorem d_RM_read_172 : decode b_RM_read 172 = .ok (.invokevirtual 215, 3) := by decide +kernel
theorem d_RM_read_175 : decode b_RM_read 175 = .ok (.return_, 1) := by decide +kernel
theorem d_RM_read_176 : decode b_RM_read 176 = .ok (.aload_n 0, 1) := by decide +kernel
theorem d_RM_read_177 : decode b_RM_read 177 = .ok (.getfield 72, 3) := by decide +kernel
theorem d_RM_read_180 : decode b_RM_read 180 = .ok (.istore 5, 2) := by decide +kernel
theorem d_RM_read_182 : decode b_RM_read 182 = .ok (.bipush (6), 2) := by decide +kernel
theorem d_RM_read_184 : decode b_RM_read 184 = .ok (.iload 4, 2) := by decide +kernel
theorem d_RM_read_186 : decode b_RM_read 186 = .ok (.iadd, 1) := by decide +kernel
theorem d_RM_read_187 : decode b_RM_read 187 = .ok (.istore 6, 2) := by decide +kernel
theorem d_RM_read_189 : decode b_RM_read 189 = .ok (.iload 6, 2) := by decide +kernel
theorem d_RM_read_191 : decode b_RM_read 191 = .ok (.bipush (12), 2) := by decide +kernel
theorem d_RM_read_193 : decode b_RM_read 193 = .ok (.if_icmp .ge (65), 3) := by decide +kernel
theorem d_RM_read_196 : decode b_RM_read 196 = .ok (.aload_n 0, 1) := by decide +kernel
theorem d_RM_read_197 : decode b_RM_read 197 = .ok (.aload_n 0, 1) := by decide +kernel
theorem d_RM_read_198 : decode b_RM_read 198 = .ok (.getfield 45, 3) := by decide +kernel
theorem d_RM_read_201 : decode b_RM_read 201 = .ok (.iload_n 1, 1) := by decide +kernel
theorem d_RM_read_202 : decode b_RM_read 202 = .ok (.iload 6, 2) := by decide +kernel
theorem d_RM_read_204 : decode b_RM_read 204 = .ok (.iadd, 1) := by decide +kernel
theorem d_RM_read_205 : decode b_RM_read 205 = .ok (.iaload, 1) := by decide +kernel
theorem d_RM_read_206 : decode b_RM_read 206 = .ok (.aload_n 0, 1) := by decide +kernel
theorem d_RM_read_207 : decode b_RM_read 207 = .ok (.getfield 32, 3) := by decide +kernel
theorem d_RM_read_210 : decode b_RM_read 210 = .ok (.iload 6, 2) := by decide +kernel
theorem d_RM_read_212 : decode b_RM_read 212 = .ok (.iaload, 1) := by decide +kernel
theorem d_RM_read_213 : decode b_RM_read 213 = .ok (.ixor, 1) := by decide +kernel
theorem d_RM_read_214 : decode b_RM_read 214 = .ok (.iload 6, 2) := by decide +kernel
theorem d_RM_read_216 : decode b_RM_read 216 = .ok (.bipush (6), 2) := by decide +kernel
theorem d_RM_read_218 : decode b_RM_read 218 = .ok (.isub, 1) := by decide +kernel
theorem d_RM_read_219 : decode b_RM_read 219 = .ok (.iload 4, 2) := by decide +kernel
theorem d_RM_read_221 : decode b_RM_read 221 = .ok (.isub, 1) := by decide +kernel
theorem d_RM_read_222 : decode b_RM_read 222 = .ok (.iload 5, 2) := by decide +kernel
theorem d_RM_read_224 : decode b_RM_read 224 = .ok (.isub, 1) := by decide +kernel
theorem d_RM_read_225 : decode b_RM_read 225 = .ok (.bipush (6), 2) := by decide +kernel
theorem d_RM_read_227 : decode b_RM_read 227 = .ok (.irem, 1) := by decide +kernel
theorem d_RM_read_228 : decode b_RM_read 228 = .ok (.ifCond .ne (20), 3) := by decide +kernel
theorem d_RM_read_231 : decode b_RM_read 231 = .ok (.iload 6, 2) := by decide +kernel
theorem d_RM_read_233 : decode b_RM_read 233 = .ok (.bipush (6), 2) := by decide +kernel
theorem d_RM_read_235 : decode b_RM_read 235 = .ok (.isub, 1) := by decide +kernel
theorem d_RM_read_236 : decode b_RM_read 236 = .ok (.iload 4, 2) := by decide +kernel
theorem d_RM_read_238 : decode b_RM_read 238 = .ok (.isub, 1) := by decide +kernel
theorem d_RM_read_239 : decode b_RM_read 239 = .ok (.iload 5, 2) := by decide +kernel
theorem d_RM_read_241 : decode b_RM_read 241 = .ok (.if_icmp .lt (7), 3) := by decide +kernel
theorem d_RM_read_244 : decode b_RM_read 244 = .ok (.iconst 1, 1) := by decide +kernel
theorem d_RM_read_245 : decode b_RM_read 245 = .ok (.goto (4), 3) := by decide +kernel
theorem d_RM_read_248 : decode b_RM_read 248 = .ok (.iconst 0, 1) := by decide +kernel
theorem d_RM_read_249 : decode b_RM_read 249 = .ok (.invokevirtual 239, 3) := by decide +kernel
theorem d_RM_read_252 : decode b_RM_read 252 = .ok (.iinc 6 (1), 3) := by decide +kernel
theorem d_RM_read_255 : decode b_RM_read 255 = .ok (.goto (-66), 3) := by decide +kernel
theorem d_RM_read_258 : decode b_RM_read 258 = .ok (.aload_n 0, 1) := by decide +kernel
theorem d_RM_read_259 : decode b_RM_read 259 = .ok (.iload 5, 2) := by decide +kernel
theorem d_RM_read_261 : decode b_RM_read 261 = .ok (.iload 4, 2) := by decide +kernel
theorem d_RM_read_263 : decode b_RM_read 263 = .ok (.iadd, 1) := by decide +kernel
theorem d_RM_read_264 : decode b_RM_read 264 = .ok (.bipush (6), 2) := by decide +kernel
theorem d_RM_read_266 : decode b_RM_read 266 = .ok (.iadd, 1) := by decide +kernel
theorem d_RM_read_267 : decode b_RM_read 267 = .ok (.bipush (6), 2) := by decide +kernel
theorem d_RM_read_269 : decode b_RM_read 269 = .ok (.irem, 1) := by decide +kernel
theorem d_RM_read_270 : decode b_RM_read 270 = .ok (.putfield 72, 3) := by decide +kernel
theorem d_RM_read_273 : decode b_RM_read 273 = .ok (.return_, 1) := by decide +kernel
def K_RM_read_189L249 (st : plS) (v1 : Int32) (v4 : Int32) (v5 : Int32) (v6 : Int32) (k0 : Int32) (k1 : Int32) : Bool × (plS × Int32) := (true, (K_RM_give st k1 k0, v6 + 1))
def P_RM_read_189L249 (st : plS) (v1 : Int32) (v4 : Int32) (v5 : Int32) (v6 : Int32) (k0 : Int32) (k1 : Int32) : Prop := P_RM_give st k1 k0
set_option maxRecDepth 20000 in
theorem j_RM_read_189L249 {E : plE} (X : plX E b_RM_read "ProtectedLineModel" 9 none 6 132) (a : Nat → Nat) (T : Bool × (plS × Int32)) (v1 : Int32) (v4 : Int32) (v5 : Int32) (hb : ∀ (c0 : plS) (c1 : Int32), T = (true, (c0, c1)) → plJ E 9 (plwR (plg E) a c0) 0 0 [(0, .ref (a 0)), (1, .int v1), (4, .int v4), (5, .int v5), (6, .int c1)] 189 []) (hx : ∀ (c0 : plS) (c1 : Int32), T = (false, (c0, c1)) → plJ E 9 (plwR (plg E) a c0) 0 0 [(0, .ref (a 0)), (1, .int v1), (4, .int v4), (5, .int v5), (6, .int c1)] 258 []) (st : plS) (v6 : Int32) (k0 : Int32) (k1 : Int32) (hs : P_RM_read_189L249 st v1 v4 v5 v6 k0 k1) (hk : T = K_RM_read_189L249 st v1 v4 v5 v6 k0 k1) : plJ E 9 (plwR (plg E) a st) 0 0 [(0, .ref (a 0)), (1, .int v1), (4, .int v4), (5, .int v5), (6, .int v6)] 249 [.int k0, .int k1, .ref (a 0)] := by
  unfold P_RM_read_189L249 at hs
  unfold K_RM_read_189L249 at hk
  refine j_callVv (pc := 249) (As := [.int k1, .int k0]) (rest := []) X (c_RM_give (plg E) a st k1 k0 hs) ml_RM_239 0 rfl rfl ⟨Nat.le_of_ble_eq_true rfl, Nat.le_of_ble_eq_true rfl⟩ rfl rfl (Nat.le_of_ble_eq_true rfl) d_RM_read_249 ?_
  refine j_iinc (pc := 252) X d_RM_read_252 4 rfl ic_1 (lv' := [(6, .int (v6 + 1)), (0, .ref (a 0)), (1, .int v1), (4, .int v4), (5, .int v5)]) (Nat.le_of_ble_eq_true rfl) rfl ?_
  refine j_goto (pc := 255) (tgt := 189) X d_RM_read_255 rfl ?_
  refine j_sub [1, 2, 3, 4, 0] (lv' := [(0, .ref (a 0)), (1, .int v1), (4, .int v4), (5, .int v5), (6, .int (v6 + 1))]) rfl ?_
  exact hb (K_RM_give st k1 k0) (v6 + 1) hk
def K_RM_read_189L248 (st : plS) (v1 : Int32) (v4 : Int32) (v5 : Int32) (v6 : Int32) (k0 : Int32) : Bool × (plS × Int32) := K_RM_read_189L249 st v1 v4 v5 v6 0 k0
def P_RM_read_189L248 (st : plS) (v1 : Int32) (v4 : Int32) (v5 : Int32) (v6 : Int32) (k0 : Int32) : Prop := P_RM_read_189L249 st v1 v4 v5 v6 0 k0
set_option maxRecDepth 20000 in
theorem j_RM_read_189L248 {E : plE} (X : plX E b_RM_read "ProtectedLineModel" 9 none 6 132) (a : Nat → Nat) (T : Bool × (plS × Int32)) (v1 : Int32) (v4 : Int32) (v5 : Int32) (hb : ∀ (c0 : plS) (c1 : Int32), T = (true, (c0, c1)) → plJ E 9 (plwR (plg E) a c0) 0 0 [(0, .ref (a 0)), (1, .int v1), (4, .int v4), (5, .int v5), (6, .int c1)] 189 []) (hx : ∀ (c0 : plS) (c1 : Int32), T = (false, (c0, c1)) → plJ E 9 (plwR (plg E) a c0) 0 0 [(0, .ref (a 0)), (1, .int v1), (4, .int v4), (5, .int v5), (6, .int c1)] 258 []) (st : plS) (v6 : Int32) (k0 : Int32) (hs : P_RM_read_189L248 st v1 v4 v5 v6 k0) (hk : T = K_RM_read_189L248 st v1 v4 v5 v6 k0) : plJ E 9 (plwR (plg E) a st) 0 0 [(0, .ref (a 0)), (1, .int v1), (4, .int v4), (5, .int v5), (6, .int v6)] 248 [.int k0, .ref (a 0)] := by
  unfold P_RM_read_189L248 at hs
  unfold K_RM_read_189L248 at hk
  refine j_iconst (pc := 248) X d_RM_read_248 ic_0 ?_
  exact j_RM_read_189L249 X a T v1 v4 v5 hb hx st v6 0 k0 hs hk
def K_RM_read_189L (st : plS) (v1 : Int32) (v4 : Int32) (v5 : Int32) (v6 : Int32) : Bool × (plS × Int32) := (if 12 ≤ v6 then (false, (st, v6)) else (if ((((v6 - 6) - v4) - v5) - (((v6 - 6) - v4) - v5) / 6 * 6) = 0 then (if ((v6 - 6) - v4) < v5 then K_RM_read_189L248 st v1 v4 v5 v6 ((st 10 (plIx (v1 + v6))) ^^^ (st 6 (plIx v6))) else K_RM_read_189L249 st v1 v4 v5 v6 1 ((st 10 (plIx (v1 + v6))) ^^^ (st 6 (plIx v6)))) else K_RM_read_189L248 st v1 v4 v5 v6 ((st 10 (plIx (v1 + v6))) ^^^ (st 6 (plIx v6)))))
def P_RM_read_189L (st : plS) (v1 : Int32) (v4 : Int32) (v5 : Int32) (v6 : Int32) : Prop := (¬ 12 ≤ v6 → (vp_in (v1 + v6) 24 ∧ (vp_in v6 12 ∧ ((((((v6 - 6) - v4) - v5) - (((v6 - 6) - v4) - v5) / 6 * 6) = 0 → ((((v6 - 6) - v4) < v5 → P_RM_read_189L248 st v1 v4 v5 v6 ((st 10 (plIx (v1 + v6))) ^^^ (st 6 (plIx v6)))) ∧ (¬ ((v6 - 6) - v4) < v5 → P_RM_read_189L249 st v1 v4 v5 v6 1 ((st 10 (plIx (v1 + v6))) ^^^ (st 6 (plIx v6)))))) ∧ (¬ ((((v6 - 6) - v4) - v5) - (((v6 - 6) - v4) - v5) / 6 * 6) = 0 → P_RM_read_189L248 st v1 v4 v5 v6 ((st 10 (plIx (v1 + v6))) ^^^ (st 6 (plIx v6))))))))
set_option maxRecDepth 20000 in
theorem j_RM_read_189L {E : plE} (X : plX E b_RM_read "ProtectedLineModel" 9 none 6 132) (a : Nat → Nat) (T : Bool × (plS × Int32)) (v1 : Int32) (v4 : Int32) (v5 : Int32) (hb : ∀ (c0 : plS) (c1 : Int32), T = (true, (c0, c1)) → plJ E 9 (plwR (plg E) a c0) 0 0 [(0, .ref (a 0)), (1, .int v1), (4, .int v4), (5, .int v5), (6, .int c1)] 189 []) (hx : ∀ (c0 : plS) (c1 : Int32), T = (false, (c0, c1)) → plJ E 9 (plwR (plg E) a c0) 0 0 [(0, .ref (a 0)), (1, .int v1), (4, .int v4), (5, .int v5), (6, .int c1)] 258 []) (st : plS) (v6 : Int32) (hs : P_RM_read_189L st v1 v4 v5 v6) (hk : T = K_RM_read_189L st v1 v4 v5 v6) : plJ E 9 (plwR (plg E) a st) 0 0 [(0, .ref (a 0)), (1, .int v1), (4, .int v4), (5, .int v5), (6, .int v6)] 189 [] := by
  unfold P_RM_read_189L at hs
  unfold K_RM_read_189L at hk
  refine j_iload (pc := 189) X d_RM_read_189 4 rfl ?_
  refine j_bipush (pc := 191) X d_RM_read_191 bp_12 ?_
  refine j_icmp_ge (pc := 193) (tgt := 258) X d_RM_read_193 rfl (fun hc => ?_) (fun hc => ?_)
  · have hk := hk.trans (if_pos hc)
    exact hx st v6 hk
  · have hk := hk.trans (if_neg hc)
    have hs := hs hc
    refine j_aload_n (pc := 196) X d_RM_read_196 rfl 0 rfl ?_
    refine j_aload_n (pc := 197) X d_RM_read_197 rfl 0 rfl ?_
    refine get_RM_now (pc := 198) X fl_RM_45 d_RM_read_198 ?_
    refine j_iload_n (pc := 201) X d_RM_read_201 rfl 1 rfl ?_
    refine j_iload (pc := 202) X d_RM_read_202 4 rfl ?_
    refine j_iadd (pc := 204) X d_RM_read_204 ?_
    refine ald_RMnow (pc := 205) X hs.1 d_RM_read_205 ?_
    have hs := hs.2
    refine j_aload_n (pc := 206) X d_RM_read_206 rfl 0 rfl ?_
    refine get_RM_row (pc := 207) X fl_RM_32 d_RM_read_207 ?_
    refine j_iload (pc := 210) X d_RM_read_210 4 rfl ?_
    refine ald_RMrow (pc := 212) X hs.1 d_RM_read_212 ?_
    have hs := hs.2
    refine j_ixor (pc := 213) X d_RM_read_213 ?_
    refine j_iload (pc := 214) X d_RM_read_214 4 rfl ?_
    refine j_bipush (pc := 216) X d_RM_read_216 bp_6 ?_
    refine j_isub (pc := 218) X d_RM_read_218 ?_
    refine j_iload (pc := 219) X d_RM_read_219 2 rfl ?_
    refine j_isub (pc := 221) X d_RM_read_221 ?_
    refine j_iload (pc := 222) X d_RM_read_222 3 rfl ?_
    refine j_isub (pc := 224) X d_RM_read_224 ?_
    refine j_bipush (pc := 225) X d_RM_read_225 bp_6 ?_
    refine j_irem (pc := 227) X d_RM_read_227 nz_6 ?_
    refine j_if_ne (pc := 228) (tgt := 248) X d_RM_read_228 rfl (fun hc => ?_) (fun hc => ?_)
    · have hk := hk.trans (if_neg hc)
      have hs := hs.2 hc
      exact j_RM_read_189L248 X a T v1 v4 v5 hb hx st v6 ((st 10 (plIx (v1 + v6))) ^^^ (st 6 (plIx v6))) hs hk
    · have hk := hk.trans (if_pos hc)
      have hs := hs.1 hc
      refine j_iload (pc := 231) X d_RM_read_231 4 rfl ?_
      refine j_bipush (pc := 233) X d_RM_read_233 bp_6 ?_
      refine j_isub (pc := 235) X d_RM_read_235 ?_
      refine j_iload (pc := 236) X d_RM_read_236 2 rfl ?_
      refine j_isub (pc := 238) X d_RM_read_238 ?_
      refine j_iload (pc := 239) X d_RM_read_239 3 rfl ?_
      refine j_icmp_lt (pc := 241) (tgt := 248) X d_RM_read_241 rfl (fun hc => ?_) (fun hc => ?_)
      · have hk := hk.trans (if_pos hc)
        have hs := hs.1 hc
        exact j_RM_read_189L248 X a T v1 v4 v5 hb hx st v6 ((st 10 (plIx (v1 + v6))) ^^^ (st 6 (plIx v6))) hs hk
      · have hk := hk.trans (if_neg hc)
        have hs := hs.2 hc
        refine j_iconst (pc := 244) X d_RM_read_244 ic_1 ?_
        refine j_goto (pc := 245) (tgt := 249) X d_RM_read_245 rfl ?_
        exact j_RM_read_189L249 X a T v1 v4 v5 hb hx st v6 1 ((st 10 (plIx (v1 + v6))) ^^^ (st 6 (plIx v6))) hs hk
def F_RM_read_189 (v1 : Int32) (v4 : Int32) (v5 : Int32) (c : plS × Int32) : Bool × (plS × Int32) := K_RM_read_189L c.1 v1 v4 v5 c.2
def G_RM_read_189 (v1 : Int32) (v4 : Int32) (v5 : Int32) (c : plS × Int32) : Prop := P_RM_read_189L c.1 v1 v4 v5 c.2
def K_RM_read_189X (v1 : Int32) (v4 : Int32) (v5 : Int32) (c : plS × Int32) : plS := plUp c.1 0 41 (((v5 + v4) + 6) - ((v5 + v4) + 6) / 6 * 6)
set_option maxRecDepth 20000 in
theorem j_RM_read_189X {E : plE} (X : plX E b_RM_read "ProtectedLineModel" 9 none 6 132) (a : Nat → Nat) (T : plS) (hQ : plRv E (plwR (plg E) a) T) (v1 : Int32) (v4 : Int32) (v5 : Int32) (c : plS × Int32) (hk : T = K_RM_read_189X v1 v4 v5 c) : plJ E 9 (plwR (plg E) a c.1) 0 0 [(0, .ref (a 0)), (1, .int v1), (4, .int v4), (5, .int v5), (6, .int c.2)] 258 [] := by
  unfold K_RM_read_189X at hk
  refine j_aload_n (pc := 258) X d_RM_read_258 rfl 0 rfl ?_
  refine j_iload (pc := 259) X d_RM_read_259 3 rfl ?_
  refine j_iload (pc := 261) X d_RM_read_261 2 rfl ?_
  refine j_iadd (pc := 263) X d_RM_read_263 ?_
  refine j_bipush (pc := 264) X d_RM_read_264 bp_6 ?_
  refine j_iadd (pc := 266) X d_RM_read_266 ?_
  refine j_bipush (pc := 267) X d_RM_read_267 bp_6 ?_
  refine j_irem (pc := 269) X d_RM_read_269 nz_6 ?_
  refine put_RM_pointer (pc := 270) X fl_RM_72 d_RM_read_270 ?_
  exact j_retv (pc := 273) X hQ d_RM_read_273 hk
def K_RM_read_176 (st : plS) (v1 : Int32) (v4 : Int32) : plS := K_RM_read_189X v1 v4 (st 0 41) (lpR (F_RM_read_189 v1 v4 (st 0 41)) 64 (st, 6 + v4))
def P_RM_read_176 (st : plS) (v1 : Int32) (v4 : Int32) : Prop := lpP (G_RM_read_189 v1 v4 (st 0 41)) (F_RM_read_189 v1 v4 (st 0 41)) 64 (st, 6 + v4)
set_option maxRecDepth 20000 in
theorem j_RM_read_176 {E : plE} (X : plX E b_RM_read "ProtectedLineModel" 9 none 6 132) (a : Nat → Nat) (T : plS) (hQ : plRv E (plwR (plg E) a) T) (st : plS) (v1 : Int32) (v4 : Int32) (hs : P_RM_read_176 st v1 v4) (hk : T = K_RM_read_176 st v1 v4) : plJ E 9 (plwR (plg E) a st) 0 0 [(0, .ref (a 0)), (1, .int v1), (4, .int v4)] 176 [] := by
  unfold P_RM_read_176 at hs
  unfold K_RM_read_176 at hk
  refine j_aload_n (pc := 176) X d_RM_read_176 rfl 0 rfl ?_
  refine get_RM_pointer (pc := 177) X fl_RM_72 d_RM_read_177 ?_
  refine j_istore (pc := 180) X d_RM_read_180 (lv' := [(5, .int (st 0 41)), (0, .ref (a 0)), (1, .int v1), (4, .int v4)]) (Nat.le_of_ble_eq_true rfl) rfl ?_
  refine j_bipush (pc := 182) X d_RM_read_182 bp_6 ?_
  refine j_iload (pc := 184) X d_RM_read_184 3 rfl ?_
  refine j_iadd (pc := 186) X d_RM_read_186 ?_
  refine j_istore (pc := 187) X d_RM_read_187 (lv' := [(6, .int (6 + v4)), (5, .int (st 0 41)), (0, .ref (a 0)), (1, .int v1), (4, .int v4)]) (Nat.le_of_ble_eq_true rfl) rfl ?_
  refine j_sub [2, 3, 4, 1, 0] (lv' := [(0, .ref (a 0)), (1, .int v1), (4, .int v4), (5, .int (st 0 41)), (6, .int (6 + v4))]) rfl ?_
  exact lpJ (G_RM_read_189 v1 v4 (st 0 41)) (F_RM_read_189 v1 v4 (st 0 41)) (fun c => plJ E 9 (plwR (plg E) a c.1) 0 0 [(0, .ref (a 0)), (1, .int v1), (4, .int v4), (5, .int (st 0 41)), (6, .int c.2)] 189 []) (fun c => plJ E 9 (plwR (plg E) a c.1) 0 0 [(0, .ref (a 0)), (1, .int v1), (4, .int v4), (5, .int (st 0 41)), (6, .int c.2)] 258 []) (fun c hp h1 h2 => j_RM_read_189L X a (F_RM_read_189 v1 v4 (st 0 41) c) v1 v4 (st 0 41) (fun c0 c1 => h1 (c0, c1)) (fun c0 c1 => h2 (c0, c1)) c.1 c.2 hp rfl) 64 (st, 6 + v4) hs (j_RM_read_189X X a T hQ v1 v4 (st 0 41) (lpR (F_RM_read_189 v1 v4 (st 0 41)) 64 (st, 6 + v4)) hk)
def K_RM_read_168q (v1 : Int32) (v4 : Int32) (q : Int32 × plS) : plS := (if q.1 = 0 then K_RM_read_176 q.2 v1 v4 else K_RM_hunt q.2)
def P_RM_read_168q (v1 : Int32) (v4 : Int32) (q : Int32 × plS) : Prop := (q.1 = 0 → P_RM_read_176 q.2 v1 v4)
set_option maxRecDepth 20000 in
theorem j_RM_read_168q {E : plE} (X : plX E b_RM_read "ProtectedLineModel" 9 none 6 132) (a : Nat → Nat) (T : plS) (hQ : plRv E (plwR (plg E) a) T) (v1 : Int32) (v4 : Int32) (q : Int32 × plS) (hs : P_RM_read_168q v1 v4 q) (hk : T = K_RM_read_168q v1 v4 q) : plJ E 9 (plwR (plg E) a q.2) 0 0 [(0, .ref (a 0)), (1, .int v1), (4, .int v4)] 168 [.int q.1] := by
  unfold P_RM_read_168q at hs
  unfold K_RM_read_168q at hk
  refine j_if_eq (pc := 168) (tgt := 176) X d_RM_read_168 rfl (fun hc => ?_) (fun hc => ?_)
  · have hk := hk.trans (if_pos hc)
    have hs := hs hc
    exact j_RM_read_176 X a T hQ q.2 v1 v4 hs hk
  · have hk := hk.trans (if_neg hc)
    refine j_aload_n (pc := 171) X d_RM_read_171 rfl 0 rfl ?_
    refine j_callVv (pc := 172) (As := []) (rest := []) X (c_RM_hunt (plg E) a q.2) ml_RM_215 0 rfl rfl ⟨Nat.le_of_ble_eq_true rfl, Nat.le_of_ble_eq_true rfl⟩ rfl rfl (Nat.le_of_ble_eq_true rfl) d_RM_read_172 ?_
    exact j_retv (pc := 175) X hQ d_RM_read_175 hk
def K_RM_read_155 (st : plS) (v1 : Int32) (v4 : Int32) : plS := K_RM_read_176 (plUp st 0 44 ((-1))) v1 v4
def P_RM_read_155 (st : plS) (v1 : Int32) (v4 : Int32) : Prop := P_RM_read_176 (plUp st 0 44 ((-1))) v1 v4
set_option maxRecDepth 20000 in
theorem j_RM_read_155 {E : plE} (X : plX E b_RM_read "ProtectedLineModel" 9 none 6 132) (a : Nat → Nat) (T : plS) (hQ : plRv E (plwR (plg E) a) T) (st : plS) (v1 : Int32) (v4 : Int32) (hs : P_RM_read_155 st v1 v4) (hk : T = K_RM_read_155 st v1 v4) : plJ E 9 (plwR (plg E) a st) 0 0 [(0, .ref (a 0)), (1, .int v1), (4, .int v4)] 155 [] := by
  unfold P_RM_read_155 at hs
  unfold K_RM_read_155 at hk
  refine j_aload_n (pc := 155) X d_RM_read_155 rfl 0 rfl ?_
  refine j_iconst (pc := 156) X d_RM_read_156 ic_m1 ?_
  refine put_RM_rowFor (pc := 157) X fl_RM_75 d_RM_read_157 ?_
  refine j_goto (pc := 160) (tgt := 176) X d_RM_read_160 rfl ?_
  exact j_RM_read_176 X a T hQ (plUp st 0 44 ((-1))) v1 v4 hs hk
def K_RM_read_150 (st : plS) (v1 : Int32) (v4 : Int32) : plS := K_RM_read_155 (plUp st 0 43 0) v1 v4
def P_RM_read_150 (st : plS) (v1 : Int32) (v4 : Int32) : Prop := P_RM_read_155 (plUp st 0 43 0) v1 v4
set_option maxRecDepth 20000 in
theorem j_RM_read_150 {E : plE} (X : plX E b_RM_read "ProtectedLineModel" 9 none 6 132) (a : Nat → Nat) (T : plS) (hQ : plRv E (plwR (plg E) a) T) (st : plS) (v1 : Int32) (v4 : Int32) (hs : P_RM_read_150 st v1 v4) (hk : T = K_RM_read_150 st v1 v4) : plJ E 9 (plwR (plg E) a st) 0 0 [(0, .ref (a 0)), (1, .int v1), (4, .int v4)] 150 [] := by
  unfold P_RM_read_150 at hs
  unfold K_RM_read_150 at hk
  refine j_aload_n (pc := 150) X d_RM_read_150 rfl 0 rfl ?_
  refine j_iconst (pc := 151) X d_RM_read_151 ic_0 ?_
  refine put_RM_strange (pc := 152) X fl_RM_221 d_RM_read_152 ?_
  exact j_RM_read_155 X a T hQ (plUp st 0 43 0) v1 v4 hs hk
def K_RM_read_145 (st : plS) (v1 : Int32) (v3 : Int32) (v4 : Int32) : plS := (if v4 = 0 then K_RM_read_168q v1 v4 (K_RM_unread st v3) else K_RM_read_150 st v1 v4)
def P_RM_read_145 (st : plS) (v1 : Int32) (v3 : Int32) (v4 : Int32) : Prop := ((v4 = 0 → (P_RM_unread st v3 ∧ P_RM_read_168q v1 v4 (K_RM_unread st v3))) ∧ (¬ v4 = 0 → P_RM_read_150 st v1 v4))
set_option maxRecDepth 20000 in
theorem j_RM_read_145 {E : plE} (X : plX E b_RM_read "ProtectedLineModel" 9 none 6 132) (a : Nat → Nat) (T : plS) (hQ : plRv E (plwR (plg E) a) T) (st : plS) (v1 : Int32) (v3 : Int32) (v4 : Int32) (hs : P_RM_read_145 st v1 v3 v4) (hk : T = K_RM_read_145 st v1 v3 v4) : plJ E 9 (plwR (plg E) a st) 0 0 [(0, .ref (a 0)), (1, .int v1), (3, .int v3), (4, .int v4)] 145 [] := by
  unfold P_RM_read_145 at hs
  unfold K_RM_read_145 at hk
  refine j_iload (pc := 145) X d_RM_read_145 3 rfl ?_
  refine j_if_eq (pc := 147) (tgt := 163) X d_RM_read_147 rfl (fun hc => ?_) (fun hc => ?_)
  · have hk := hk.trans (if_pos hc)
    have hs := hs.1 hc
    refine j_aload_n (pc := 163) X d_RM_read_163 rfl 0 rfl ?_
    refine j_iload_n (pc := 164) X d_RM_read_164 rfl 2 rfl ?_
    refine j_callVi (pc := 165) (As := [.int v3]) (rest := []) X (c_RM_unread (plg E) a st v3 hs.1) ml_RM_236 0 rfl rfl ⟨Nat.le_of_ble_eq_true rfl, Nat.le_of_ble_eq_true rfl⟩ rfl rfl (Nat.le_of_ble_eq_true rfl) d_RM_read_165 ?_
    refine j_sub [0, 1, 3] (lv' := [(0, .ref (a 0)), (1, .int v1), (4, .int v4)]) rfl ?_
    exact j_RM_read_168q X a T hQ v1 v4 (K_RM_unread st v3) hs.2 hk
  · have hk := hk.trans (if_neg hc)
    have hs := hs.2 hc
    refine j_sub [0, 1, 3] (lv' := [(0, .ref (a 0)), (1, .int v1), (4, .int v4)]) rfl ?_
    exact j_RM_read_150 X a T hQ st v1 v4 hs hk
def K_RM_read_133 (st : plS) (v1 : Int32) (v3 : Int32) (v5 : Int32) (v8 : Int32) (k0 : Int32) : plS := (if v8 = 0 then K_RM_read_145 st v1 v3 k0 else (if v5 = 0 then K_RM_read_150 st v1 k0 else K_RM_read_145 st v1 v3 k0))
def P_RM_read_133 (st : plS) (v1 : Int32) (v3 : Int32) (v5 : Int32) (v8 : Int32) (k0 : Int32) : Prop := ((v8 = 0 → P_RM_read_145 st v1 v3 k0) ∧ (¬ v8 = 0 → ((v5 = 0 → P_RM_read_150 st v1 k0) ∧ (¬ v5 = 0 → P_RM_read_145 st v1 v3 k0))))
set_option maxRecDepth 20000 in
theorem j_RM_read_133 {E : plE} (X : plX E b_RM_read "ProtectedLineModel" 9 none 6 132) (a : Nat → Nat) (T : plS) (hQ : plRv E (plwR (plg E) a) T) (st : plS) (v1 : Int32) (v3 : Int32) (v5 : Int32) (v8 : Int32) (k0 : Int32) (hs : P_RM_read_133 st v1 v3 v5 v8 k0) (hk : T = K_RM_read_133 st v1 v3 v5 v8 k0) : plJ E 9 (plwR (plg E) a st) 0 0 [(0, .ref (a 0)), (1, .int v1), (3, .int v3), (5, .int v5), (8, .int v8)] 133 [.int k0] := by
  unfold P_RM_read_133 at hs
  unfold K_RM_read_133 at hk
  refine j_istore (pc := 133) X d_RM_read_133 (lv' := [(4, .int k0), (0, .ref (a 0)), (1, .int v1), (3, .int v3), (5, .int v5), (8, .int v8)]) (Nat.le_of_ble_eq_true rfl) rfl ?_
  refine j_iload (pc := 135) X d_RM_read_135 5 rfl ?_
  refine j_if_eq (pc := 137) (tgt := 145) X d_RM_read_137 rfl (fun hc => ?_) (fun hc => ?_)
  · have hk := hk.trans (if_pos hc)
    have hs := hs.1 hc
    refine j_sub [1, 2, 3, 0] (lv' := [(0, .ref (a 0)), (1, .int v1), (3, .int v3), (4, .int k0)]) rfl ?_
    exact j_RM_read_145 X a T hQ st v1 v3 k0 hs hk
  · have hk := hk.trans (if_neg hc)
    have hs := hs.2 hc
    refine j_iload (pc := 140) X d_RM_read_140 4 rfl ?_
    refine j_if_eq (pc := 142) (tgt := 150) X d_RM_read_142 rfl (fun hc => ?_) (fun hc => ?_)
    · have hk := hk.trans (if_pos hc)
      have hs := hs.1 hc
      refine j_sub [1, 2, 0] (lv' := [(0, .ref (a 0)), (1, .int v1), (4, .int k0)]) rfl ?_
      exact j_RM_read_150 X a T hQ st v1 k0 hs hk
    · have hk := hk.trans (if_neg hc)
      have hs := hs.2 hc
      refine j_sub [1, 2, 3, 0] (lv' := [(0, .ref (a 0)), (1, .int v1), (3, .int v3), (4, .int k0)]) rfl ?_
      exact j_RM_read_145 X a T hQ st v1 v3 k0 hs hk
def K_RM_read_132 (st : plS) (v1 : Int32) (v3 : Int32) (v5 : Int32) (v8 : Int32) : plS := K_RM_read_133 st v1 v3 v5 v8 0
def P_RM_read_132 (st : plS) (v1 : Int32) (v3 : Int32) (v5 : Int32) (v8 : Int32) : Prop := P_RM_read_133 st v1 v3 v5 v8 0
set_option maxRecDepth 20000 in
theorem j_RM_read_132 {E : plE} (X : plX E b_RM_read "ProtectedLineModel" 9 none 6 132) (a : Nat → Nat) (T : plS) (hQ : plRv E (plwR (plg E) a) T) (st : plS) (v1 : Int32) (v3 : Int32) (v5 : Int32) (v8 : Int32) (hs : P_RM_read_132 st v1 v3 v5 v8) (hk : T = K_RM_read_132 st v1 v3 v5 v8) : plJ E 9 (plwR (plg E) a st) 0 0 [(0, .ref (a 0)), (1, .int v1), (3, .int v3), (5, .int v5), (8, .int v8)] 132 [] := by
  unfold P_RM_read_132 at hs
  unfold K_RM_read_132 at hk
  refine j_iconst (pc := 132) X d_RM_read_132 ic_0 ?_
  exact j_RM_read_133 X a T hQ st v1 v3 v5 v8 0 hs hk
def K_RM_read_111 (st : plS) (v1 : Int32) (v3 : Int32) (v5 : Int32) (v6 : Int32) (v7 : Int32) (v8 : Int32) : plS := (if v8 = 0 then K_RM_read_132 st v1 v3 v5 v8 else (if v7 < 2 then K_RM_read_132 st v1 v3 v5 v8 else (if 1 < v6 then K_RM_read_132 st v1 v3 v5 v8 else K_RM_read_133 st v1 v3 v5 v8 ((-1)))))
def P_RM_read_111 (st : plS) (v1 : Int32) (v3 : Int32) (v5 : Int32) (v6 : Int32) (v7 : Int32) (v8 : Int32) : Prop := ((v8 = 0 → P_RM_read_132 st v1 v3 v5 v8) ∧ (¬ v8 = 0 → ((v7 < 2 → P_RM_read_132 st v1 v3 v5 v8) ∧ (¬ v7 < 2 → ((1 < v6 → P_RM_read_132 st v1 v3 v5 v8) ∧ (¬ 1 < v6 → P_RM_read_133 st v1 v3 v5 v8 ((-1))))))))
set_option maxRecDepth 20000 in
theorem j_RM_read_111 {E : plE} (X : plX E b_RM_read "ProtectedLineModel" 9 none 6 132) (a : Nat → Nat) (T : plS) (hQ : plRv E (plwR (plg E) a) T) (st : plS) (v1 : Int32) (v3 : Int32) (v5 : Int32) (v6 : Int32) (v7 : Int32) (v8 : Int32) (hs : P_RM_read_111 st v1 v3 v5 v6 v7 v8) (hk : T = K_RM_read_111 st v1 v3 v5 v6 v7 v8) : plJ E 9 (plwR (plg E) a st) 0 0 [(0, .ref (a 0)), (1, .int v1), (3, .int v3), (5, .int v5), (6, .int v6), (7, .int v7), (8, .int v8)] 111 [] := by
  unfold P_RM_read_111 at hs
  unfold K_RM_read_111 at hk
  refine j_iload (pc := 111) X d_RM_read_111 6 rfl ?_
  refine j_if_eq (pc := 113) (tgt := 132) X d_RM_read_113 rfl (fun hc => ?_) (fun hc => ?_)
  · have hk := hk.trans (if_pos hc)
    have hs := hs.1 hc
    refine j_sub [0, 1, 2, 3, 6] (lv' := [(0, .ref (a 0)), (1, .int v1), (3, .int v3), (5, .int v5), (8, .int v8)]) rfl ?_
    exact j_RM_read_132 X a T hQ st v1 v3 v5 v8 hs hk
  · have hk := hk.trans (if_neg hc)
    have hs := hs.2 hc
    refine j_iload (pc := 116) X d_RM_read_116 5 rfl ?_
    refine j_iconst (pc := 118) X d_RM_read_118 ic_2 ?_
    refine j_icmp_lt (pc := 119) (tgt := 132) X d_RM_read_119 rfl (fun hc => ?_) (fun hc => ?_)
    · have hk := hk.trans (if_pos hc)
      have hs := hs.1 hc
      refine j_sub [0, 1, 2, 3, 6] (lv' := [(0, .ref (a 0)), (1, .int v1), (3, .int v3), (5, .int v5), (8, .int v8)]) rfl ?_
      exact j_RM_read_132 X a T hQ st v1 v3 v5 v8 hs hk
    · have hk := hk.trans (if_neg hc)
      have hs := hs.2 hc
      refine j_iload (pc := 122) X d_RM_read_122 4 rfl ?_
      refine j_iconst (pc := 124) X d_RM_read_124 ic_1 ?_
      refine j_icmp_gt (pc := 125) (tgt := 132) X d_RM_read_125 rfl (fun hc => ?_) (fun hc => ?_)
      · have hk := hk.trans (if_pos hc)
        have hs := hs.1 hc
        refine j_sub [0, 1, 2, 3, 6] (lv' := [(0, .ref (a 0)), (1, .int v1), (3, .int v3), (5, .int v5), (8, .int v8)]) rfl ?_
        exact j_RM_read_132 X a T hQ st v1 v3 v5 v8 hs hk
      · have hk := hk.trans (if_neg hc)
        have hs := hs.2 hc
        refine j_iconst (pc := 128) X d_RM_read_128 ic_m1 ?_
        refine j_goto (pc := 129) (tgt := 133) X d_RM_read_129 rfl ?_
        refine j_sub [0, 1, 2, 3, 6] (lv' := [(0, .ref (a 0)), (1, .int v1), (3, .int v3), (5, .int v5), (8, .int v8)]) rfl ?_
        exact j_RM_read_133 X a T hQ st v1 v3 v5 v8 ((-1)) hs hk
def K_RM_read_88 (st : plS) (v1 : Int32) (v3 : Int32) (v5 : Int32) (v6 : Int32) (v7 : Int32) (k0 : Int32) : plS := (if k0 = 0 then K_RM_read_111 st v1 v3 v5 v6 v7 k0 else (if v6 < 2 then K_RM_read_111 st v1 v3 v5 v6 v7 k0 else (if 1 < v7 then K_RM_read_111 st v1 v3 v5 v6 v7 k0 else K_RM_read_133 st v1 v3 v5 k0 1)))
def P_RM_read_88 (st : plS) (v1 : Int32) (v3 : Int32) (v5 : Int32) (v6 : Int32) (v7 : Int32) (k0 : Int32) : Prop := ((k0 = 0 → P_RM_read_111 st v1 v3 v5 v6 v7 k0) ∧ (¬ k0 = 0 → ((v6 < 2 → P_RM_read_111 st v1 v3 v5 v6 v7 k0) ∧ (¬ v6 < 2 → ((1 < v7 → P_RM_read_111 st v1 v3 v5 v6 v7 k0) ∧ (¬ 1 < v7 → P_RM_read_133 st v1 v3 v5 k0 1))))))
set_option maxRecDepth 20000 in
theorem j_RM_read_88 {E : plE} (X : plX E b_RM_read "ProtectedLineModel" 9 none 6 132) (a : Nat → Nat) (T : plS) (hQ : plRv E (plwR (plg E) a) T) (st : plS) (v1 : Int32) (v3 : Int32) (v5 : Int32) (v6 : Int32) (v7 : Int32) (k0 : Int32) (hs : P_RM_read_88 st v1 v3 v5 v6 v7 k0) (hk : T = K_RM_read_88 st v1 v3 v5 v6 v7 k0) : plJ E 9 (plwR (plg E) a st) 0 0 [(0, .ref (a 0)), (1, .int v1), (3, .int v3), (5, .int v5), (6, .int v6), (7, .int v7)] 88 [.int k0] := by
  unfold P_RM_read_88 at hs
  unfold K_RM_read_88 at hk
  refine j_istore (pc := 88) X d_RM_read_88 (lv' := [(8, .int k0), (0, .ref (a 0)), (1, .int v1), (3, .int v3), (5, .int v5), (6, .int v6), (7, .int v7)]) (Nat.le_of_ble_eq_true rfl) rfl ?_
  refine j_iload (pc := 90) X d_RM_read_90 0 rfl ?_
  refine j_if_eq (pc := 92) (tgt := 111) X d_RM_read_92 rfl (fun hc => ?_) (fun hc => ?_)
  · have hk := hk.trans (if_pos hc)
    have hs := hs.1 hc
    refine j_sub [1, 2, 3, 4, 5, 6, 0] (lv' := [(0, .ref (a 0)), (1, .int v1), (3, .int v3), (5, .int v5), (6, .int v6), (7, .int v7), (8, .int k0)]) rfl ?_
    exact j_RM_read_111 X a T hQ st v1 v3 v5 v6 v7 k0 hs hk
  · have hk := hk.trans (if_neg hc)
    have hs := hs.2 hc
    refine j_iload (pc := 95) X d_RM_read_95 5 rfl ?_
    refine j_iconst (pc := 97) X d_RM_read_97 ic_2 ?_
    refine j_icmp_lt (pc := 98) (tgt := 111) X d_RM_read_98 rfl (fun hc => ?_) (fun hc => ?_)
    · have hk := hk.trans (if_pos hc)
      have hs := hs.1 hc
      refine j_sub [1, 2, 3, 4, 5, 6, 0] (lv' := [(0, .ref (a 0)), (1, .int v1), (3, .int v3), (5, .int v5), (6, .int v6), (7, .int v7), (8, .int k0)]) rfl ?_
      exact j_RM_read_111 X a T hQ st v1 v3 v5 v6 v7 k0 hs hk
    · have hk := hk.trans (if_neg hc)
      have hs := hs.2 hc
      refine j_iload (pc := 101) X d_RM_read_101 6 rfl ?_
      refine j_iconst (pc := 103) X d_RM_read_103 ic_1 ?_
      refine j_icmp_gt (pc := 104) (tgt := 111) X d_RM_read_104 rfl (fun hc => ?_) (fun hc => ?_)
      · have hk := hk.trans (if_pos hc)
        have hs := hs.1 hc
        refine j_sub [1, 2, 3, 4, 5, 6, 0] (lv' := [(0, .ref (a 0)), (1, .int v1), (3, .int v3), (5, .int v5), (6, .int v6), (7, .int v7), (8, .int k0)]) rfl ?_
        exact j_RM_read_111 X a T hQ st v1 v3 v5 v6 v7 k0 hs hk
      · have hk := hk.trans (if_neg hc)
        have hs := hs.2 hc
        refine j_iconst (pc := 107) X d_RM_read_107 ic_1 ?_
        refine j_goto (pc := 108) (tgt := 133) X d_RM_read_108 rfl ?_
        refine j_sub [1, 2, 3, 4, 0] (lv' := [(0, .ref (a 0)), (1, .int v1), (3, .int v3), (5, .int v5), (8, .int k0)]) rfl ?_
        exact j_RM_read_133 X a T hQ st v1 v3 v5 k0 1 hs hk
def K_RM_read_25q (v1 : Int32) (v3 : Int32) (v4 : Int32) (q : Int32 × plS) : plS := (if q.1 = 0 then K_RM_hunt q.2 else K_RM_read_176 (K_RM_found q.2 v3) v1 v4)
def P_RM_read_25q (v1 : Int32) (v3 : Int32) (v4 : Int32) (q : Int32 × plS) : Prop := (¬ q.1 = 0 → P_RM_read_176 (K_RM_found q.2 v3) v1 v4)
set_option maxRecDepth 20000 in
theorem j_RM_read_25q {E : plE} (X : plX E b_RM_read "ProtectedLineModel" 9 none 6 132) (a : Nat → Nat) (T : plS) (hQ : plRv E (plwR (plg E) a) T) (v1 : Int32) (v3 : Int32) (v4 : Int32) (q : Int32 × plS) (hs : P_RM_read_25q v1 v3 v4 q) (hk : T = K_RM_read_25q v1 v3 v4 q) : plJ E 9 (plwR (plg E) a q.2) 0 0 [(0, .ref (a 0)), (1, .int v1), (3, .int v3), (4, .int v4)] 25 [.int q.1] := by
  unfold P_RM_read_25q at hs
  unfold K_RM_read_25q at hk
  refine j_if_ne (pc := 25) (tgt := 33) X d_RM_read_25 rfl (fun hc => ?_) (fun hc => ?_)
  · have hk := hk.trans (if_neg hc)
    have hs := hs hc
    refine j_aload_n (pc := 33) X d_RM_read_33 rfl 0 rfl ?_
    refine j_iload_n (pc := 34) X d_RM_read_34 rfl 2 rfl ?_
    refine j_callVv (pc := 35) (As := [.int v3]) (rest := []) X (c_RM_found (plg E) a q.2 v3) ml_RM_233 0 rfl rfl ⟨Nat.le_of_ble_eq_true rfl, Nat.le_of_ble_eq_true rfl⟩ rfl rfl (Nat.le_of_ble_eq_true rfl) d_RM_read_35 ?_
    refine j_goto (pc := 38) (tgt := 176) X d_RM_read_38 rfl ?_
    refine j_sub [0, 1, 3] (lv' := [(0, .ref (a 0)), (1, .int v1), (4, .int v4)]) rfl ?_
    exact j_RM_read_176 X a T hQ (K_RM_found q.2 v3) v1 v4 hs hk
  · have hk := hk.trans (if_pos hc)
    refine j_aload_n (pc := 28) X d_RM_read_28 rfl 0 rfl ?_
    refine j_callVv (pc := 29) (As := []) (rest := []) X (c_RM_hunt (plg E) a q.2) ml_RM_215 0 rfl rfl ⟨Nat.le_of_ble_eq_true rfl, Nat.le_of_ble_eq_true rfl⟩ rfl rfl (Nat.le_of_ble_eq_true rfl) d_RM_read_29 ?_
    exact j_retv (pc := 32) X hQ d_RM_read_32 hk
def K_RM_read_5 (st : plS) (v1 : Int32) (v2 : Int32) : plS := (if 0 ≤ (st 0 41) then (if (v2 >>> ((6 : Int32) &&& 31)) = 1 then K_RM_read_88 st v1 (K_RM_plain v2) (v2 ^^^ (64 + (9 * (st 0 41)))) (K_RM_ones ((v2 ^^^ (64 + (9 * (st 0 41)))) &&& 21)) (K_RM_ones ((v2 ^^^ (64 + (9 * (st 0 41)))) &&& 42)) 1 else K_RM_read_88 st v1 (K_RM_plain v2) (v2 ^^^ (64 + (9 * (st 0 41)))) (K_RM_ones ((v2 ^^^ (64 + (9 * (st 0 41)))) &&& 21)) (K_RM_ones ((v2 ^^^ (64 + (9 * (st 0 41)))) &&& 42)) 0) else K_RM_read_25q v1 (K_RM_plain v2) 0 (K_RM_third st (K_RM_plain v2)))
def P_RM_read_5 (st : plS) (v1 : Int32) (v2 : Int32) : Prop := ((0 ≤ (st 0 41) → (P_RM_ones ((v2 ^^^ (64 + (9 * (st 0 41)))) &&& 21) ∧ (P_RM_ones ((v2 ^^^ (64 + (9 * (st 0 41)))) &&& 42) ∧ (((v2 >>> ((6 : Int32) &&& 31)) = 1 → P_RM_read_88 st v1 (K_RM_plain v2) (v2 ^^^ (64 + (9 * (st 0 41)))) (K_RM_ones ((v2 ^^^ (64 + (9 * (st 0 41)))) &&& 21)) (K_RM_ones ((v2 ^^^ (64 + (9 * (st 0 41)))) &&& 42)) 1) ∧ (¬ (v2 >>> ((6 : Int32) &&& 31)) = 1 → P_RM_read_88 st v1 (K_RM_plain v2) (v2 ^^^ (64 + (9 * (st 0 41)))) (K_RM_ones ((v2 ^^^ (64 + (9 * (st 0 41)))) &&& 21)) (K_RM_ones ((v2 ^^^ (64 + (9 * (st 0 41)))) &&& 42)) 0))))) ∧ (¬ 0 ≤ (st 0 41) → (P_RM_third st (K_RM_plain v2) ∧ P_RM_read_25q v1 (K_RM_plain v2) 0 (K_RM_third st (K_RM_plain v2)))))
set_option maxRecDepth 20000 in
theorem j_RM_read_5 {E : plE} (X : plX E b_RM_read "ProtectedLineModel" 9 none 6 132) (a : Nat → Nat) (T : plS) (hQ : plRv E (plwR (plg E) a) T) (st : plS) (v1 : Int32) (v2 : Int32) (hs : P_RM_read_5 st v1 v2) (hk : T = K_RM_read_5 st v1 v2) : plJ E 9 (plwR (plg E) a st) 0 0 [(0, .ref (a 0)), (1, .int v1), (2, .int v2)] 5 [] := by
  unfold P_RM_read_5 at hs
  unfold K_RM_read_5 at hk
  refine j_iload_n (pc := 5) X d_RM_read_5 rfl 2 rfl ?_
  refine j_callSp (pc := 6) (As := [.int v2]) (rest := []) X (c_RM_plain (plg E) a st v2) ml_RM_227 ⟨Nat.le_of_ble_eq_true rfl, Nat.le_of_ble_eq_true rfl⟩ rfl rfl (Nat.le_of_ble_eq_true rfl) d_RM_read_6 ?_
  refine j_istore_n (pc := 9) X d_RM_read_9 rfl (lv' := [(3, .int (K_RM_plain v2)), (0, .ref (a 0)), (1, .int v1), (2, .int v2)]) (Nat.le_of_ble_eq_true rfl) rfl ?_
  refine j_iconst (pc := 10) X d_RM_read_10 ic_0 ?_
  refine j_istore (pc := 11) X d_RM_read_11 (lv' := [(4, .int 0), (3, .int (K_RM_plain v2)), (0, .ref (a 0)), (1, .int v1), (2, .int v2)]) (Nat.le_of_ble_eq_true rfl) rfl ?_
  refine j_aload_n (pc := 13) X d_RM_read_13 rfl 2 rfl ?_
  refine get_RM_pointer (pc := 14) X fl_RM_72 d_RM_read_14 ?_
  refine j_if_ge (pc := 17) (tgt := 41) X d_RM_read_17 rfl (fun hc => ?_) (fun hc => ?_)
  · have hk := hk.trans (if_pos hc)
    have hs := hs.1 hc
    refine j_iload_n (pc := 41) X d_RM_read_41 rfl 4 rfl ?_
    refine j_bipush (pc := 42) X d_RM_read_42 bp_64 ?_
    refine j_bipush (pc := 44) X d_RM_read_44 bp_9 ?_
    refine j_aload_n (pc := 46) X d_RM_read_46 rfl 2 rfl ?_
    refine get_RM_pointer (pc := 47) X fl_RM_72 d_RM_read_47 ?_
    refine j_imul (pc := 50) X d_RM_read_50 ?_
    refine j_iadd (pc := 51) X d_RM_read_51 ?_
    refine j_ixor (pc := 52) X d_RM_read_52 ?_
    refine j_istore (pc := 53) X d_RM_read_53 (lv' := [(5, .int (v2 ^^^ (64 + (9 * (st 0 41))))), (4, .int 0), (3, .int (K_RM_plain v2)), (0, .ref (a 0)), (1, .int v1), (2, .int v2)]) (Nat.le_of_ble_eq_true rfl) rfl ?_
    refine j_iload (pc := 55) X d_RM_read_55 0 rfl ?_
    refine j_bipush (pc := 57) X d_RM_read_57 bp_21 ?_
    refine j_iand (pc := 59) X d_RM_read_59 ?_
    refine j_callSp (pc := 60) (As := [.int ((v2 ^^^ (64 + (9 * (st 0 41)))) &&& 21)]) (rest := []) X (c_RM_ones (plg E) a st ((v2 ^^^ (64 + (9 * (st 0 41)))) &&& 21) hs.1) ml_RM_190 ⟨Nat.le_of_ble_eq_true rfl, Nat.le_of_ble_eq_true rfl⟩ rfl rfl (Nat.le_of_ble_eq_true rfl) d_RM_read_60 ?_
    have hs := hs.2
    refine j_istore (pc := 63) X d_RM_read_63 (lv' := [(6, .int (K_RM_ones ((v2 ^^^ (64 + (9 * (st 0 41)))) &&& 21))), (5, .int (v2 ^^^ (64 + (9 * (st 0 41))))), (4, .int 0), (3, .int (K_RM_plain v2)), (0, .ref (a 0)), (1, .int v1), (2, .int v2)]) (Nat.le_of_ble_eq_true rfl) rfl ?_
    refine j_iload (pc := 65) X d_RM_read_65 1 rfl ?_
    refine j_bipush (pc := 67) X d_RM_read_67 bp_42 ?_
    refine j_iand (pc := 69) X d_RM_read_69 ?_
    refine j_callSp (pc := 70) (As := [.int ((v2 ^^^ (64 + (9 * (st 0 41)))) &&& 42)]) (rest := []) X (c_RM_ones (plg E) a st ((v2 ^^^ (64 + (9 * (st 0 41)))) &&& 42) hs.1) ml_RM_190 ⟨Nat.le_of_ble_eq_true rfl, Nat.le_of_ble_eq_true rfl⟩ rfl rfl (Nat.le_of_ble_eq_true rfl) d_RM_read_70 ?_
    have hs := hs.2
    refine j_istore (pc := 73) X d_RM_read_73 (lv' := [(7, .int (K_RM_ones ((v2 ^^^ (64 + (9 * (st 0 41)))) &&& 42))), (6, .int (K_RM_ones ((v2 ^^^ (64 + (9 * (st 0 41)))) &&& 21))), (5, .int (v2 ^^^ (64 + (9 * (st 0 41))))), (4, .int 0), (3, .int (K_RM_plain v2)), (0, .ref (a 0)), (1, .int v1), (2, .int v2)]) (Nat.le_of_ble_eq_true rfl) rfl ?_
    refine j_iload_n (pc := 75) X d_RM_read_75 rfl 7 rfl ?_
    refine j_bipush (pc := 76) X d_RM_read_76 bp_6 ?_
    refine j_ishr (pc := 78) X d_RM_read_78 ?_
    refine j_iconst (pc := 79) X d_RM_read_79 ic_1 ?_
    refine j_icmp_ne (pc := 80) (tgt := 87) X d_RM_read_80 rfl (fun hc => ?_) (fun hc => ?_)
    · have hk := hk.trans (if_neg hc)
      have hs := hs.2 hc
      refine j_iconst (pc := 87) X d_RM_read_87 ic_0 ?_
      refine j_sub [5, 6, 4, 2, 1, 0] (lv' := [(0, .ref (a 0)), (1, .int v1), (3, .int (K_RM_plain v2)), (5, .int (v2 ^^^ (64 + (9 * (st 0 41))))), (6, .int (K_RM_ones ((v2 ^^^ (64 + (9 * (st 0 41)))) &&& 21))), (7, .int (K_RM_ones ((v2 ^^^ (64 + (9 * (st 0 41)))) &&& 42)))]) rfl ?_
      exact j_RM_read_88 X a T hQ st v1 (K_RM_plain v2) (v2 ^^^ (64 + (9 * (st 0 41)))) (K_RM_ones ((v2 ^^^ (64 + (9 * (st 0 41)))) &&& 21)) (K_RM_ones ((v2 ^^^ (64 + (9 * (st 0 41)))) &&& 42)) 0 hs hk
    · have hk := hk.trans (if_pos hc)
      have hs := hs.1 hc
      refine j_iconst (pc := 83) X d_RM_read_83 ic_1 ?_
      refine j_goto (pc := 84) (tgt := 88) X d_RM_read_84 rfl ?_
      refine j_sub [5, 6, 4, 2, 1, 0] (lv' := [(0, .ref (a 0)), (1, .int v1), (3, .int (K_RM_plain v2)), (5, .int (v2 ^^^ (64 + (9 * (st 0 41))))), (6, .int (K_RM_ones ((v2 ^^^ (64 + (9 * (st 0 41)))) &&& 21))), (7, .int (K_RM_ones ((v2 ^^^ (64 + (9 * (st 0 41)))) &&& 42)))]) rfl ?_
      exact j_RM_read_88 X a T hQ st v1 (K_RM_plain v2) (v2 ^^^ (64 + (9 * (st 0 41)))) (K_RM_ones ((v2 ^^^ (64 + (9 * (st 0 41)))) &&& 21)) (K_RM_ones ((v2 ^^^ (64 + (9 * (st 0 41)))) &&& 42)) 1 hs hk
  · have hk := hk.trans (if_neg hc)
    have hs := hs.2 hc
    refine j_aload_n (pc := 20) X d_RM_read_20 rfl 2 rfl ?_
    refine j_iload_n (pc := 21) X d_RM_read_21 rfl 1 rfl ?_
    refine j_callVi (pc := 22) (As := [.int (K_RM_plain v2)]) (rest := []) X (c_RM_third (plg E) a st (K_RM_plain v2) hs.1) ml_RM_230 0 rfl rfl ⟨Nat.le_of_ble_eq_true rfl, Nat.le_of_ble_eq_true rfl⟩ rfl rfl (Nat.le_of_ble_eq_true rfl) d_RM_read_22 ?_
    refine j_sub [2, 3, 1, 0] (lv' := [(0, .ref (a 0)), (1, .int v1), (3, .int (K_RM_plain v2)), (4, .int 0)]) rfl ?_
    exact j_RM_read_25q X a T hQ v1 (K_RM_plain v2) 0 (K_RM_third st (K_RM_plain v2)) hs.2 hk
def K_RM_read (st : plS) (v1 : Int32) (v2 : Int32) : plS := K_RM_read_5 (plUp st 0 42 0) v1 v2
def P_RM_read (st : plS) (v1 : Int32) (v2 : Int32) : Prop := P_RM_read_5 (plUp st 0 42 0) v1 v2
set_option maxRecDepth 20000 in
theorem j_RM_read {E : plE} (X : plX E b_RM_read "ProtectedLineModel" 9 none 6 132) (a : Nat → Nat) (T : plS) (hQ : plRv E (plwR (plg E) a) T) (st : plS) (v1 : Int32) (v2 : Int32) (hs : P_RM_read st v1 v2) (hk : T = K_RM_read st v1 v2) : plJ E 9 (plwR (plg E) a st) 0 0 [(0, .ref (a 0)), (1, .int v1), (2, .int v2)] 0 [] := by
  unfold P_RM_read at hs
  unfold K_RM_read at hk
  refine j_aload_n (pc := 0) X d_RM_read_0 rfl 0 rfl ?_
  refine j_iconst (pc := 1) X d_RM_read_1 ic_0 ?_
  refine put_RM_gaps (pc := 2) X fl_RM_209 d_RM_read_2 ?_
  exact j_RM_read_5 X a T hQ (plUp st 0 42 0) v1 v2 hs hk
set_option maxRecDepth 20000 in
theorem c_RM_read (g : plG) (a : Nat → Nat) (st : plS) (v1 : Int32) (v2 : Int32) (hs : P_RM_read st v1 v2) : plMv g y_RM_read b_RM_read 9 none 6 132 [.ref (a 0), .int v1, .int v2] (plwR g a) st (K_RM_read st v1 v2) := by
  refine plMv.of (own := "ProtectedLineModel") (lv := [(0, .ref (a 0)), (1, .int v1), (2, .int v2)]) rfl rfl (Nat.le_of_ble_eq_true rfl) rfl (fun E hE X hQ => ?_)
  subst hE
  exact j_RM_read X a _ hQ st v1 v2 hs rfl
