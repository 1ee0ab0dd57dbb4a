def sim_send (R : plS → plS → Nat → Prop) : Prop := ∀ (c r : plS) (t : Nat), t < 512 → R c r t → ∀ (v0 : Int32) (v1 : Int64), (P_PL_send c v0 v1 ∧ P_RM_send r v0 v1 ∧ (K_PL_send c v0 v1).1 = (K_RM_send r v0 v1).1 ∧ R (K_PL_send c v0 v1).2 (K_RM_send r v0 v1).2 (t + 1))
def sim_tick (R : plS → plS → Nat → Prop) : Prop := ∀ (c r : plS) (t : Nat), t < 512 → R c r t → ∀ (v0 : Int32), (P_PL_tick c v0 ∧ P_RM_tick r v0 ∧ (K_PL_tick c v0).1 = (K_RM_tick r v0).1 ∧ R (K_PL_tick c v0).2 (K_RM_tick r v0).2 (t + 1))
def sim_cut (R : plS → plS → Nat → Prop) : Prop := ∀ (c r : plS) (t : Nat), t < 512 → R c r t → ∀ (v0 : Int32) (v1 : Int32), plB v1 → (P_PL_cut c v0 v1 ∧ P_RM_cut r v0 v1 ∧ (K_PL_cut c v0 v1).1 = (K_RM_cut r v0 v1).1 ∧ R (K_PL_cut c v0 v1).2 (K_RM_cut r v0 v1).2 (t + 1))
def sim_damage (R : plS → plS → Nat → Prop) : Prop := ∀ (c r : plS) (t : Nat), t < 512 → R c r t → ∀ (v0 : Int32) (v1 : Int32) (v2 : Int32), (P_PL_damage c v0 v1 v2 ∧ P_RM_damage r v0 v1 v2 ∧ (K_PL_damage c v0 v1 v2).1 = (K_RM_damage r v0 v1 v2).1 ∧ R (K_PL_damage c v0 v1 v2).2 (K_RM_damage r v0 v1 v2).2 (t + 1))
def sim_drift (R : plS → plS → Nat → Prop) : Prop := ∀ (c r : plS) (t : Nat), t < 512 → R c r t → ∀ (v0 : Int32), (P_PL_drift c v0 ∧ (K_PL_drift c v0).1 = (K_RM_drift r v0).1 ∧ R (K_PL_drift c v0).2 (K_RM_drift r v0).2 (t + 1))
def sim_command (R : plS → plS → Nat → Prop) : Prop := ∀ (c r : plS) (t : Nat), t < 512 → R c r t → ∀ (v0 : Int32), ((K_PL_command c v0).1 = (K_RM_command r v0).1 ∧ R (K_PL_command c v0).2 (K_RM_command r v0).2 (t + 1))
def sim_waiting (R : plS → plS → Nat → Prop) : Prop := ∀ (c r : plS) (t : Nat), t < 512 → R c r t → (K_PL_waiting c  = K_RM_waiting r )
def sim_sent (R : plS → plS → Nat → Prop) : Prop := ∀ (c r : plS) (t : Nat), t < 512 → R c r t → ∀ (v0 : Int32) (v1 : Int32), (P_PL_sent c v0 v1 ∧ P_RM_sent r v0 v1 ∧ K_PL_sent c v0 v1 = K_RM_sent r v0 v1)
def sim_alignment (R : plS → plS → Nat → Prop) : Prop := ∀ (c r : plS) (t : Nat), t < 512 → R c r t → ∀ (v0 : Int32), (P_PL_alignment c v0 ∧ P_RM_alignment r v0 ∧ K_PL_alignment c v0 = K_RM_alignment r v0)
def sim_errors (R : plS → plS → Nat → Prop) : Prop := ∀ (c r : plS) (t : Nat), t < 512 → R c r t → ∀ (v0 : Int32), (P_PL_errors c v0 ∧ P_RM_errors r v0 ∧ K_PL_errors c v0 = K_RM_errors r v0)
def sim_request (R : plS → plS → Nat → Prop) : Prop := ∀ (c r : plS) (t : Nat), t < 512 → R c r t → (K_PL_request c  = K_RM_request r )
def sim_bridged (R : plS → plS → Nat → Prop) : Prop := ∀ (c r : plS) (t : Nat), t < 512 → R c r t → (P_PL_bridged c  ∧ P_RM_bridged r  ∧ K_PL_bridged c  = K_RM_bridged r )
def sim_selected (R : plS → plS → Nat → Prop) : Prop := ∀ (c r : plS) (t : Nat), t < 512 → R c r t → (K_PL_selected c  = K_RM_selected r )
def sim_pointer (R : plS → plS → Nat → Prop) : Prop := ∀ (c r : plS) (t : Nat), t < 512 → R c r t → (K_PL_pointer c  = K_RM_pointer r )
def sim_pathErrors (R : plS → plS → Nat → Prop) : Prop := ∀ (c r : plS) (t : Nat), t < 512 → R c r t → (K_PL_pathErrors c  = K_RM_pathErrors r )
def sim_sync (R : plS → plS → Nat → Prop) : Prop := ∀ (c r : plS) (t : Nat), t < 512 → R c r t → (K_PL_sync c  = K_RM_sync r )
def sim_delivered (R : plS → plS → Nat → Prop) : Prop := ∀ (c r : plS) (t : Nat), t < 512 → R c r t → (K_PL_delivered c  = K_RM_delivered r )
def sim_dropped (R : plS → plS → Nat → Prop) : Prop := ∀ (c r : plS) (t : Nat), t < 512 → R c r t → (K_PL_dropped c  = K_RM_dropped r )
def sim_got (R : plS → plS → Nat → Prop) : Prop := ∀ (c r : plS) (t : Nat), t < 512 → R c r t → ∀ (v0 : Int32) (v1 : Int32), (P_PL_got c v0 v1 ∧ P_RM_got r v0 v1 ∧ K_PL_got c v0 v1 = K_RM_got r v0 v1)
def plSim (R : plS → plS → Nat → Prop) : Prop := (∀ v1 v2 v3 v4 : Int32, P_RM_init_176 plR0 v1 v2 v3 v4) ∧ (∀ v1 v2 v3 v4 : Int32, R (plC0 v1 v2 v3 v4) (K_RM_init_176 plR0 v1 v2 v3 v4) 0) ∧ (∀ (c r : plS) (t : Nat), R c r t → R c r (t + 1)) ∧ sim_send R ∧ sim_tick R ∧ sim_cut R ∧ sim_damage R ∧ sim_drift R ∧ sim_command R ∧ sim_waiting R ∧ sim_sent R ∧ sim_alignment R ∧ sim_errors R ∧ sim_request R ∧ sim_bridged R ∧ sim_selected R ∧ sim_pointer R ∧ sim_pathErrors R ∧ sim_sync R ∧ sim_delivered R ∧ sim_dropped R ∧ sim_got R
set_option maxRecDepth 20000 in
theorem law_send {E : plE} (X : plX E code "ProtectedLineLaw" 4 (some .boolean) 11 412) (hA : plNew E) (hcs : 45 ≤ (eR E).cells ∧ 969 ≤ (eR E).slots) {b L : Nat} {xs : Nat → Int32} (hX : plSc E b L xs) {R : plS → plS → Nat → Prop} (hS : plSim R) (a a2 : Nat → Nat) (c r : plS) (t : Nat) (htt : t < 512) (hR : R c r t) (h1 : vp_in (nI (4 + 4 * t) + 1) L) (h2 : vp_in (nI (4 + 4 * t) + 2) L) (h3 : vp_in (nI (4 + 4 * t) + 3) L) (hgo : ∀ c' r' : plS, R c' r' (t + 1) → plJ E 4 (plwC (plg E) a c' ++ plwR (plg E) a2 r') 45 969 [(0, .ref b), (1, .ref (a 0)), (2, .ref (a2 0)), (3, .int (nI (4 + 4 * t)))] 617 []) : plJ E 4 (plwC (plg E) a c ++ plwR (plg E) a2 r) 45 969 [(0, .ref b), (1, .ref (a 0)), (2, .ref (a2 0)), (3, .int (nI (4 + 4 * t)))] 164 [] := by
  refine j_aload_n (pc := 164) X d_LAW_law_164 rfl 1 rfl ?_
  refine j_aload_n (pc := 165) X d_LAW_law_165 rfl 0 rfl ?_
  refine j_iload_n (pc := 166) X d_LAW_law_166 rfl 3 rfl ?_
  refine j_iconst (pc := 167) X d_LAW_law_167 ic_1 ?_
  refine j_iadd (pc := 168) X d_LAW_law_168 ?_
  refine j_sld (pc := 169) X hX h1 d_LAW_law_169 ?_
  refine j_aload_n (pc := 170) X d_LAW_law_170 rfl 0 rfl ?_
  refine j_iload_n (pc := 171) X d_LAW_law_171 rfl 3 rfl ?_
  refine j_iconst (pc := 172) X d_LAW_law_172 ic_2 ?_
  refine j_iadd (pc := 173) X d_LAW_law_173 ?_
  refine j_sld (pc := 174) X hX h2 d_LAW_law_174 ?_
  refine j_i2l (pc := 175) X d_LAW_law_175 ?_
  refine j_bipush (pc := 176) X d_LAW_law_176 bp_32 ?_
  refine j_lshl (pc := 178) X d_LAW_law_178 ?_
  refine j_aload_n (pc := 179) X d_LAW_law_179 rfl 0 rfl ?_
  refine j_iload_n (pc := 180) X d_LAW_law_180 rfl 3 rfl ?_
  refine j_iconst (pc := 181) X d_LAW_law_181 ic_3 ?_
  refine j_iadd (pc := 182) X d_LAW_law_182 ?_
  refine j_sld (pc := 183) X hX h3 d_LAW_law_183 ?_
  refine j_i2l (pc := 184) X d_LAW_law_184 ?_
  refine j_ldc2 (pc := 185) X m_const_LAW_21 d_LAW_law_185 ?_
  refine j_land (pc := 188) X d_LAW_law_188 ?_
  refine j_lor (pc := 189) X d_LAW_law_189 ?_
  have hM := hS.2.2.2.1 c r t htt hR (xs (plIx (nI (4 + 4 * t) + 1))) (((Int32.toInt64 (xs (plIx (nI (4 + 4 * t) + 2)))) <<< (Int32.toInt64 32 &&& 63)) ||| ((Int32.toInt64 (xs (plIx (nI (4 + 4 * t) + 3)))) &&& 4294967295))
  obtain ⟨hpc, hpr, heq, hR2⟩ := hM
  refine j_LCi (pc := 190) (As := [.int (xs (plIx (nI (4 + 4 * t) + 1))), .long (((Int32.toInt64 (xs (plIx (nI (4 + 4 * t) + 2)))) <<< (Int32.toInt64 32 &&& 63)) ||| ((Int32.toInt64 (xs (plIx (nI (4 + 4 * t) + 3)))) &&& 4294967295))]) (rest := []) X hA (fun g => c_PL_send g a c (xs (plIx (nI (4 + 4 * t) + 1))) (((Int32.toInt64 (xs (plIx (nI (4 + 4 * t) + 2)))) <<< (Int32.toInt64 32 &&& 63)) ||| ((Int32.toInt64 (xs (plIx (nI (4 + 4 * t) + 3)))) &&& 4294967295)) hpc) ml_LAW_23 rfl ⟨Nat.le_of_ble_eq_true rfl, Nat.le_of_ble_eq_true rfl⟩ hcs rfl rfl (Nat.le_of_ble_eq_true rfl) d_LAW_law_190 ?_
  refine j_aload_n (pc := 193) X d_LAW_law_193 rfl 2 rfl ?_
  refine j_aload_n (pc := 194) X d_LAW_law_194 rfl 0 rfl ?_
  refine j_iload_n (pc := 195) X d_LAW_law_195 rfl 3 rfl ?_
  refine j_iconst (pc := 196) X d_LAW_law_196 ic_1 ?_
  refine j_iadd (pc := 197) X d_LAW_law_197 ?_
  refine j_sld (pc := 198) X hX h1 d_LAW_law_198 ?_
  refine j_aload_n (pc := 199) X d_LAW_law_199 rfl 0 rfl ?_
  refine j_iload_n (pc := 200) X d_LAW_law_200 rfl 3 rfl ?_
  refine j_iconst (pc := 201) X d_LAW_law_201 ic_2 ?_
  refine j_iadd (pc := 202) X d_LAW_law_202 ?_
  refine j_sld (pc := 203) X hX h2 d_LAW_law_203 ?_
  refine j_i2l (pc := 204) X d_LAW_law_204 ?_
  refine j_bipush (pc := 205) X d_LAW_law_205 bp_32 ?_
  refine j_lshl (pc := 207) X d_LAW_law_207 ?_
  refine j_aload_n (pc := 208) X d_LAW_law_208 rfl 0 rfl ?_
  refine j_iload_n (pc := 209) X d_LAW_law_209 rfl 3 rfl ?_
  refine j_iconst (pc := 210) X d_LAW_law_210 ic_3 ?_
  refine j_iadd (pc := 211) X d_LAW_law_211 ?_
  refine j_sld (pc := 212) X hX h3 d_LAW_law_212 ?_
  refine j_i2l (pc := 213) X d_LAW_law_213 ?_
  refine j_ldc2 (pc := 214) X m_const_LAW_21 d_LAW_law_214 ?_
  refine j_land (pc := 217) X d_LAW_law_217 ?_
  refine j_lor (pc := 218) X d_LAW_law_218 ?_
  refine j_LRi (pc := 219) (As := [.int (xs (plIx (nI (4 + 4 * t) + 1))), .long (((Int32.toInt64 (xs (plIx (nI (4 + 4 * t) + 2)))) <<< (Int32.toInt64 32 &&& 63)) ||| ((Int32.toInt64 (xs (plIx (nI (4 + 4 * t) + 3)))) &&& 4294967295))]) (rest := [.int ((K_PL_send c (xs (plIx (nI (4 + 4 * t) + 1))) (((Int32.toInt64 (xs (plIx (nI (4 + 4 * t) + 2)))) <<< (Int32.toInt64 32 &&& 63)) ||| ((Int32.toInt64 (xs (plIx (nI (4 + 4 * t) + 3)))) &&& 4294967295))).1)]) X hA (fun g => c_RM_send g a2 r (xs (plIx (nI (4 + 4 * t) + 1))) (((Int32.toInt64 (xs (plIx (nI (4 + 4 * t) + 2)))) <<< (Int32.toInt64 32 &&& 63)) ||| ((Int32.toInt64 (xs (plIx (nI (4 + 4 * t) + 3)))) &&& 4294967295)) hpr) ml_LAW_27 rfl ⟨Nat.le_of_ble_eq_true rfl, Nat.le_of_ble_eq_true rfl⟩ hcs rfl rfl (Nat.le_of_ble_eq_true rfl) d_LAW_law_219 ?_
  refine j_icmp_eq (pc := 222) (tgt := 617) X d_LAW_law_222 rfl (fun _ => ?_) (fun hc => absurd heq hc)
  exact hgo _ _ hR2
set_option maxRecDepth 20000 in
theorem law_tick {E : plE} (X : plX E code "ProtectedLineLaw" 4 (some .boolean) 11 412) (hA : plNew E) (hcs : 45 ≤ (eR E).cells ∧ 969 ≤ (eR E).slots) {b L : Nat} {xs : Nat → Int32} (hX : plSc E b L xs) {R : plS → plS → Nat → Prop} (hS : plSim R) (a a2 : Nat → Nat) (c r : plS) (t : Nat) (htt : t < 512) (hR : R c r t) (h1 : vp_in (nI (4 + 4 * t) + 1) L) (h2 : vp_in (nI (4 + 4 * t) + 2) L) (h3 : vp_in (nI (4 + 4 * t) + 3) L) (hgo : ∀ c' r' : plS, R c' r' (t + 1) → plJ E 4 (plwC (plg E) a c' ++ plwR (plg E) a2 r') 45 969 [(0, .ref b), (1, .ref (a 0)), (2, .ref (a2 0)), (3, .int (nI (4 + 4 * t)))] 617 []) : plJ E 4 (plwC (plg E) a c ++ plwR (plg E) a2 r) 45 969 [(0, .ref b), (1, .ref (a 0)), (2, .ref (a2 0)), (3, .int (nI (4 + 4 * t)))] 227 [] := by
  refine j_aload_n (pc := 227) X d_LAW_law_227 rfl 1 rfl ?_
  refine j_aload_n (pc := 228) X d_LAW_law_228 rfl 0 rfl ?_
  refine j_iload_n (pc := 229) X d_LAW_law_229 rfl 3 rfl ?_
  refine j_iconst (pc := 230) X d_LAW_law_230 ic_1 ?_
  refine j_iadd (pc := 231) X d_LAW_law_231 ?_
  refine j_sld (pc := 232) X hX h1 d_LAW_law_232 ?_
  have hM := hS.2.2.2.2.1 c r t htt hR (xs (plIx (nI (4 + 4 * t) + 1)))
  obtain ⟨hpc, hpr, heq, hR2⟩ := hM
  refine j_LCi (pc := 233) (As := [.int (xs (plIx (nI (4 + 4 * t) + 1)))]) (rest := []) X hA (fun g => c_PL_tick g a c (xs (plIx (nI (4 + 4 * t) + 1))) hpc) ml_LAW_28 rfl ⟨Nat.le_of_ble_eq_true rfl, Nat.le_of_ble_eq_true rfl⟩ hcs rfl rfl (Nat.le_of_ble_eq_true rfl) d_LAW_law_233 ?_
  refine j_aload_n (pc := 236) X d_LAW_law_236 rfl 2 rfl ?_
  refine j_aload_n (pc := 237) X d_LAW_law_237 rfl 0 rfl ?_
  refine j_iload_n (pc := 238) X d_LAW_law_238 rfl 3 rfl ?_
  refine j_iconst (pc := 239) X d_LAW_law_239 ic_1 ?_
  refine j_iadd (pc := 240) X d_LAW_law_240 ?_
  refine j_sld (pc := 241) X hX h1 d_LAW_law_241 ?_
  refine j_LRi (pc := 242) (As := [.int (xs (plIx (nI (4 + 4 * t) + 1)))]) (rest := [.int ((K_PL_tick c (xs (plIx (nI (4 + 4 * t) + 1)))).1)]) X hA (fun g => c_RM_tick g a2 r (xs (plIx (nI (4 + 4 * t) + 1))) hpr) ml_LAW_32 rfl ⟨Nat.le_of_ble_eq_true rfl, Nat.le_of_ble_eq_true rfl⟩ hcs rfl rfl (Nat.le_of_ble_eq_true rfl) d_LAW_law_242 ?_
  refine j_icmp_eq (pc := 245) (tgt := 617) X d_LAW_law_245 rfl (fun _ => ?_) (fun hc => absurd heq hc)
  exact hgo _ _ hR2
set_option maxRecDepth 20000 in
theorem law_cut {E : plE} (X : plX E code "ProtectedLineLaw" 4 (some .boolean) 11 412) (hA : plNew E) (hcs : 45 ≤ (eR E).cells ∧ 969 ≤ (eR E).slots) {b L : Nat} {xs : Nat → Int32} (hX : plSc E b L xs) {R : plS → plS → Nat → Prop} (hS : plSim R) (a a2 : Nat → Nat) (c r : plS) (t : Nat) (htt : t < 512) (hR : R c r t) (h1 : vp_in (nI (4 + 4 * t) + 1) L) (h2 : vp_in (nI (4 + 4 * t) + 2) L) (h3 : vp_in (nI (4 + 4 * t) + 3) L) (hgo : ∀ c' r' : plS, R c' r' (t + 1) → plJ E 4 (plwC (plg E) a c' ++ plwR (plg E) a2 r') 45 969 [(0, .ref b), (1, .ref (a 0)), (2, .ref (a2 0)), (3, .int (nI (4 + 4 * t)))] 617 []) : plJ E 4 (plwC (plg E) a c ++ plwR (plg E) a2 r) 45 969 [(0, .ref b), (1, .ref (a 0)), (2, .ref (a2 0)), (3, .int (nI (4 + 4 * t)))] 250 [] := by
  refine j_aload_n (pc := 250) X d_LAW_law_250 rfl 1 rfl ?_
  refine j_aload_n (pc := 251) X d_LAW_law_251 rfl 0 rfl ?_
  refine j_iload_n (pc := 252) X d_LAW_law_252 rfl 3 rfl ?_
  refine j_iconst (pc := 253) X d_LAW_law_253 ic_1 ?_
  refine j_iadd (pc := 254) X d_LAW_law_254 ?_
  refine j_sld (pc := 255) X hX h1 d_LAW_law_255 ?_
  refine j_aload_n (pc := 256) X d_LAW_law_256 rfl 0 rfl ?_
  refine j_iload_n (pc := 257) X d_LAW_law_257 rfl 3 rfl ?_
  refine j_iconst (pc := 258) X d_LAW_law_258 ic_2 ?_
  refine j_iadd (pc := 259) X d_LAW_law_259 ?_
  refine j_sld (pc := 260) X hX h2 d_LAW_law_260 ?_
  refine j_if_eq (pc := 261) (tgt := 268) X d_LAW_law_261 rfl (fun hz => ?_) (fun hz => ?_)
  · skip
    have hz0 := hz
    refine j_iconst (pc := 268) X d_LAW_law_268 ic_0 ?_
    have hM := hS.2.2.2.2.2.1 c r t htt hR (xs (plIx (nI (4 + 4 * t) + 1))) (0) (Or.inl rfl)
    obtain ⟨hpc, hpr, heq, hR2⟩ := hM
    refine j_LCi (pc := 269) (As := [.int (xs (plIx (nI (4 + 4 * t) + 1))), .int (0)]) (rest := []) X hA (fun g => c_PL_cut g a c (xs (plIx (nI (4 + 4 * t) + 1))) (0) hpc) ml_LAW_33 rfl ⟨Nat.le_of_ble_eq_true rfl, Nat.le_of_ble_eq_true rfl⟩ hcs rfl rfl (Nat.le_of_ble_eq_true rfl) d_LAW_law_269 ?_
    refine j_aload_n (pc := 272) X d_LAW_law_272 rfl 2 rfl ?_
    refine j_aload_n (pc := 273) X d_LAW_law_273 rfl 0 rfl ?_
    refine j_iload_n (pc := 274) X d_LAW_law_274 rfl 3 rfl ?_
    refine j_iconst (pc := 275) X d_LAW_law_275 ic_1 ?_
    refine j_iadd (pc := 276) X d_LAW_law_276 ?_
    refine j_sld (pc := 277) X hX h1 d_LAW_law_277 ?_
    refine j_aload_n (pc := 278) X d_LAW_law_278 rfl 0 rfl ?_
    refine j_iload_n (pc := 279) X d_LAW_law_279 rfl 3 rfl ?_
    refine j_iconst (pc := 280) X d_LAW_law_280 ic_2 ?_
    refine j_iadd (pc := 281) X d_LAW_law_281 ?_
    refine j_sld (pc := 282) X hX h2 d_LAW_law_282 ?_
    refine j_if_eq (pc := 283) (tgt := 290) X d_LAW_law_283 rfl (fun hz => ?_) (fun hz => ?_)
    · skip
      refine j_iconst (pc := 290) X d_LAW_law_290 ic_0 ?_
      refine j_LRi (pc := 291) (As := [.int (xs (plIx (nI (4 + 4 * t) + 1))), .int (0)]) (rest := [.int ((K_PL_cut c (xs (plIx (nI (4 + 4 * t) + 1))) (0)).1)]) X hA (fun g => c_RM_cut g a2 r (xs (plIx (nI (4 + 4 * t) + 1))) (0) hpr) ml_LAW_37 rfl ⟨Nat.le_of_ble_eq_true rfl, Nat.le_of_ble_eq_true rfl⟩ hcs rfl rfl (Nat.le_of_ble_eq_true rfl) d_LAW_law_291 ?_
      refine j_icmp_eq (pc := 294) (tgt := 617) X d_LAW_law_294 rfl (fun _ => ?_) (fun hc => absurd heq hc)
      exact hgo _ _ hR2
    · skip
      exact absurd hz0 hz
  · skip
    have hz0 := hz
    refine j_iconst (pc := 264) X d_LAW_law_264 ic_1 ?_
    refine j_goto (pc := 265) (tgt := 269) X d_LAW_law_265 rfl ?_
    have hM := hS.2.2.2.2.2.1 c r t htt hR (xs (plIx (nI (4 + 4 * t) + 1))) (1) (Or.inr rfl)
    obtain ⟨hpc, hpr, heq, hR2⟩ := hM
    refine j_LCi (pc := 269) (As := [.int (xs (plIx (nI (4 + 4 * t) + 1))), .int (1)]) (rest := []) X hA (fun g => c_PL_cut g a c (xs (plIx (nI (4 + 4 * t) + 1))) (1) hpc) ml_LAW_33 rfl ⟨Nat.le_of_ble_eq_true rfl, Nat.le_of_ble_eq_true rfl⟩ hcs rfl rfl (Nat.le_of_ble_eq_true rfl) d_LAW_law_269 ?_
    refine j_aload_n (pc := 272) X d_LAW_law_272 rfl 2 rfl ?_
    refine j_aload_n (pc := 273) X d_LAW_law_273 rfl 0 rfl ?_
    refine j_iload_n (pc := 274) X d_LAW_law_274 rfl 3 rfl ?_
    refine j_iconst (pc := 275) X d_LAW_law_275 ic_1 ?_
    refine j_iadd (pc := 276) X d_LAW_law_276 ?_
    refine j_sld (pc := 277) X hX h1 d_LAW_law_277 ?_
    refine j_aload_n (pc := 278) X d_LAW_law_278 rfl 0 rfl ?_
    refine j_iload_n (pc := 279) X d_LAW_law_279 rfl 3 rfl ?_
    refine j_iconst (pc := 280) X d_LAW_law_280 ic_2 ?_
    refine j_iadd (pc := 281) X d_LAW_law_281 ?_
    refine j_sld (pc := 282) X hX h2 d_LAW_law_282 ?_
    refine j_if_eq (pc := 283) (tgt := 290) X d_LAW_law_283 rfl (fun hz => ?_) (fun hz => ?_)
    · skip
      exact absurd hz hz0
    · skip
      refine j_iconst (pc := 286) X d_LAW_law_286 ic_1 ?_
      refine j_goto (pc := 287) (tgt := 291) X d_LAW_law_287 rfl ?_
      refine j_LRi (pc := 291) (As := [.int (xs (plIx (nI (4 + 4 * t) + 1))), .int (1)]) (rest := [.int ((K_PL_cut c (xs (plIx (nI (4 + 4 * t) + 1))) (1)).1)]) X hA (fun g => c_RM_cut g a2 r (xs (plIx (nI (4 + 4 * t) + 1))) (1) hpr) ml_LAW_37 rfl ⟨Nat.le_of_ble_eq_true rfl, Nat.le_of_ble_eq_true rfl⟩ hcs rfl rfl (Nat.le_of_ble_eq_true rfl) d_LAW_law_291 ?_
      refine j_icmp_eq (pc := 294) (tgt := 617) X d_LAW_law_294 rfl (fun _ => ?_) (fun hc => absurd heq hc)
      exact hgo _ _ hR2
set_option maxRecDepth 20000 in
theorem law_damage {E : plE} (X : plX E code "ProtectedLineLaw" 4 (some .boolean) 11 412) (hA : plNew E) (hcs : 45 ≤ (eR E).cells ∧ 969 ≤ (eR E).slots) {b L : Nat} {xs : Nat → Int32} (hX : plSc E b L xs) {R : plS → plS → Nat → Prop} (hS : plSim R) (a a2 : Nat → Nat) (c r : plS) (t : Nat) (htt : t < 512) (hR : R c r t) (h1 : vp_in (nI (4 + 4 * t) + 1) L) (h2 : vp_in (nI (4 + 4 * t) + 2) L) (h3 : vp_in (nI (4 + 4 * t) + 3) L) (hgo : ∀ c' r' : plS, R c' r' (t + 1) → plJ E 4 (plwC (plg E) a c' ++ plwR (plg E) a2 r') 45 969 [(0, .ref b), (1, .ref (a 0)), (2, .ref (a2 0)), (3, .int (nI (4 + 4 * t)))] 617 []) : plJ E 4 (plwC (plg E) a c ++ plwR (plg E) a2 r) 45 969 [(0, .ref b), (1, .ref (a 0)), (2, .ref (a2 0)), (3, .int (nI (4 + 4 * t)))] 299 [] := by
  refine j_aload_n (pc := 299) X d_LAW_law_299 rfl 1 rfl ?_
  refine j_aload_n (pc := 300) X d_LAW_law_300 rfl 0 rfl ?_
  refine j_iload_n (pc := 301) X d_LAW_law_301 rfl 3 rfl ?_
  refine j_iconst (pc := 302) X d_LAW_law_302 ic_1 ?_
  refine j_iadd (pc := 303) X d_LAW_law_303 ?_
  refine j_sld (pc := 304) X hX h1 d_LAW_law_304 ?_
  refine j_aload_n (pc := 305) X d_LAW_law_305 rfl 0 rfl ?_
  refine j_iload_n (pc := 306) X d_LAW_law_306 rfl 3 rfl ?_
  refine j_iconst (pc := 307) X d_LAW_law_307 ic_2 ?_
  refine j_iadd (pc := 308) X d_LAW_law_308 ?_
  refine j_sld (pc := 309) X hX h2 d_LAW_law_309 ?_
  refine j_aload_n (pc := 310) X d_LAW_law_310 rfl 0 rfl ?_
  refine j_iload_n (pc := 311) X d_LAW_law_311 rfl 3 rfl ?_
  refine j_iconst (pc := 312) X d_LAW_law_312 ic_3 ?_
  refine j_iadd (pc := 313) X d_LAW_law_313 ?_
  refine j_sld (pc := 314) X hX h3 d_LAW_law_314 ?_
  have hM := hS.2.2.2.2.2.2.1 c r t htt hR (xs (plIx (nI (4 + 4 * t) + 1))) (xs (plIx (nI (4 + 4 * t) + 2))) (xs (plIx (nI (4 + 4 * t) + 3)))
  obtain ⟨hpc, hpr, heq, hR2⟩ := hM
  refine j_LCi (pc := 315) (As := [.int (xs (plIx (nI (4 + 4 * t) + 1))), .int (xs (plIx (nI (4 + 4 * t) + 2))), .int (xs (plIx (nI (4 + 4 * t) + 3)))]) (rest := []) X hA (fun g => c_PL_damage g a c (xs (plIx (nI (4 + 4 * t) + 1))) (xs (plIx (nI (4 + 4 * t) + 2))) (xs (plIx (nI (4 + 4 * t) + 3))) hpc) ml_LAW_38 rfl ⟨Nat.le_of_ble_eq_true rfl, Nat.le_of_ble_eq_true rfl⟩ hcs rfl rfl (Nat.le_of_ble_eq_true rfl) d_LAW_law_315 ?_
  refine j_aload_n (pc := 318) X d_LAW_law_318 rfl 2 rfl ?_
  refine j_aload_n (pc := 319) X d_LAW_law_319 rfl 0 rfl ?_
  refine j_iload_n (pc := 320) X d_LAW_law_320 rfl 3 rfl ?_
  refine j_iconst (pc := 321) X d_LAW_law_321 ic_1 ?_
  refine j_iadd (pc := 322) X d_LAW_law_322 ?_
  refine j_sld (pc := 323) X hX h1 d_LAW_law_323 ?_
  refine j_aload_n (pc := 324) X d_LAW_law_324 rfl 0 rfl ?_
  refine j_iload_n (pc := 325) X d_LAW_law_325 rfl 3 rfl ?_
  refine j_iconst (pc := 326) X d_LAW_law_326 ic_2 ?_
  refine j_iadd (pc := 327) X d_LAW_law_327 ?_
  refine j_sld (pc := 328) X hX h2 d_LAW_law_328 ?_
  refine j_aload_n (pc := 329) X d_LAW_law_329 rfl 0 rfl ?_
  refine j_iload_n (pc := 330) X d_LAW_law_330 rfl 3 rfl ?_
  refine j_iconst (pc := 331) X d_LAW_law_331 ic_3 ?_
  refine j_iadd (pc := 332) X d_LAW_law_332 ?_
  refine j_sld (pc := 333) X hX h3 d_LAW_law_333 ?_
  refine j_LRi (pc := 334) (As := [.int (xs (plIx (nI (4 + 4 * t) + 1))), .int (xs (plIx (nI (4 + 4 * t) + 2))), .int (xs (plIx (nI (4 + 4 * t) + 3)))]) (rest := [.int ((K_PL_damage c (xs (plIx (nI (4 + 4 * t) + 1))) (xs (plIx (nI (4 + 4 * t) + 2))) (xs (plIx (nI (4 + 4 * t) + 3)))).1)]) X hA (fun g => c_RM_damage g a2 r (xs (plIx (nI (4 + 4 * t) + 1))) (xs (plIx (nI (4 + 4 * t) + 2))) (xs (plIx (nI (4 + 4 * t) + 3))) hpr) ml_LAW_42 rfl ⟨Nat.le_of_ble_eq_true rfl, Nat.le_of_ble_eq_true rfl⟩ hcs rfl rfl (Nat.le_of_ble_eq_true rfl) d_LAW_law_334 ?_
  refine j_icmp_eq (pc := 337) (tgt := 617) X d_LAW_law_337 rfl (fun _ => ?_) (fun hc => absurd heq hc)
  exact hgo _ _ hR2
set_option maxRecDepth 20000 in
theorem law_drift {E : plE} (X : plX E code "ProtectedLineLaw" 4 (some .boolean) 11 412) (hA : plNew E) (hcs : 45 ≤ (eR E).cells ∧ 969 ≤ (eR E).slots) {b L : Nat} {xs : Nat → Int32} (hX : plSc E b L xs) {R : plS → plS → Nat → Prop} (hS : plSim R) (a a2 : Nat → Nat) (c r : plS) (t : Nat) (htt : t < 512) (hR : R c r t) (h1 : vp_in (nI (4 + 4 * t) + 1) L) (h2 : vp_in (nI (4 + 4 * t) + 2) L) (h3 : vp_in (nI (4 + 4 * t) + 3) L) (hgo : ∀ c' r' : plS, R c' r' (t + 1) → plJ E 4 (plwC (plg E) a c' ++ plwR (plg E) a2 r') 45 969 [(0, .ref b), (1, .ref (a 0)), (2, .ref (a2 0)), (3, .int (nI (4 + 4 * t)))] 617 []) : plJ E 4 (plwC (plg E) a c ++ plwR (plg E) a2 r) 45 969 [(0, .ref b), (1, .ref (a 0)), (2, .ref (a2 0)), (3, .int (nI (4 + 4 * t)))] 342 [] := by
  refine j_aload_n (pc := 342) X d_LAW_law_342 rfl 1 rfl ?_
  refine j_aload_n (pc := 343) X d_LAW_law_343 rfl 0 rfl ?_
  refine j_iload_n (pc := 344) X d_LAW_law_344 rfl 3 rfl ?_
  refine j_iconst (pc := 345) X d_LAW_law_345 ic_1 ?_
  refine j_iadd (pc := 346) X d_LAW_law_346 ?_
  refine j_sld (pc := 347) X hX h1 d_LAW_law_347 ?_
  have hM := hS.2.2.2.2.2.2.2.1 c r t htt hR (xs (plIx (nI (4 + 4 * t) + 1)))
  obtain ⟨hpc, heq, hR2⟩ := hM
  refine j_LCi (pc := 348) (As := [.int (xs (plIx (nI (4 + 4 * t) + 1)))]) (rest := []) X hA (fun g => c_PL_drift g a c (xs (plIx (nI (4 + 4 * t) + 1))) hpc) ml_LAW_43 rfl ⟨Nat.le_of_ble_eq_true rfl, Nat.le_of_ble_eq_true rfl⟩ hcs rfl rfl (Nat.le_of_ble_eq_true rfl) d_LAW_law_348 ?_
  refine j_aload_n (pc := 351) X d_LAW_law_351 rfl 2 rfl ?_
  refine j_aload_n (pc := 352) X d_LAW_law_352 rfl 0 rfl ?_
  refine j_iload_n (pc := 353) X d_LAW_law_353 rfl 3 rfl ?_
  refine j_iconst (pc := 354) X d_LAW_law_354 ic_1 ?_
  refine j_iadd (pc := 355) X d_LAW_law_355 ?_
  refine j_sld (pc := 356) X hX h1 d_LAW_law_356 ?_
  refine j_LRi (pc := 357) (As := [.int (xs (plIx (nI (4 + 4 * t) + 1)))]) (rest := [.int ((K_PL_drift c (xs (plIx (nI (4 + 4 * t) + 1)))).1)]) X hA (fun g => c_RM_drift g a2 r (xs (plIx (nI (4 + 4 * t) + 1)))) ml_LAW_46 rfl ⟨Nat.le_of_ble_eq_true rfl, Nat.le_of_ble_eq_true rfl⟩ hcs rfl rfl (Nat.le_of_ble_eq_true rfl) d_LAW_law_357 ?_
  refine j_icmp_eq (pc := 360) (tgt := 617) X d_LAW_law_360 rfl (fun _ => ?_) (fun hc => absurd heq hc)
  exact hgo _ _ hR2
set_option maxRecDepth 20000 in
theorem law_command {E : plE} (X : plX E code "ProtectedLineLaw" 4 (some .boolean) 11 412) (hA : plNew E) (hcs : 45 ≤ (eR E).cells ∧ 969 ≤ (eR E).slots) {b L : Nat} {xs : Nat → Int32} (hX : plSc E b L xs) {R : plS → plS → Nat → Prop} (hS : plSim R) (a a2 : Nat → Nat) (c r : plS) (t : Nat) (htt : t < 512) (hR : R c r t) (h1 : vp_in (nI (4 + 4 * t) + 1) L) (h2 : vp_in (nI (4 + 4 * t) + 2) L) (h3 : vp_in (nI (4 + 4 * t) + 3) L) (hgo : ∀ c' r' : plS, R c' r' (t + 1) → plJ E 4 (plwC (plg E) a c' ++ plwR (plg E) a2 r') 45 969 [(0, .ref b), (1, .ref (a 0)), (2, .ref (a2 0)), (3, .int (nI (4 + 4 * t)))] 617 []) : plJ E 4 (plwC (plg E) a c ++ plwR (plg E) a2 r) 45 969 [(0, .ref b), (1, .ref (a 0)), (2, .ref (a2 0)), (3, .int (nI (4 + 4 * t)))] 365 [] := by
  refine j_aload_n (pc := 365) X d_LAW_law_365 rfl 1 rfl ?_
  refine j_aload_n (pc := 366) X d_LAW_law_366 rfl 0 rfl ?_
  refine j_iload_n (pc := 367) X d_LAW_law_367 rfl 3 rfl ?_
  refine j_iconst (pc := 368) X d_LAW_law_368 ic_1 ?_
  refine j_iadd (pc := 369) X d_LAW_law_369 ?_
  refine j_sld (pc := 370) X hX h1 d_LAW_law_370 ?_
  have hM := hS.2.2.2.2.2.2.2.2.1 c r t htt hR (xs (plIx (nI (4 + 4 * t) + 1)))
  obtain ⟨heq, hR2⟩ := hM
  refine j_LCi (pc := 371) (As := [.int (xs (plIx (nI (4 + 4 * t) + 1)))]) (rest := []) X hA (fun g => c_PL_command g a c (xs (plIx (nI (4 + 4 * t) + 1)))) ml_LAW_47 rfl ⟨Nat.le_of_ble_eq_true rfl, Nat.le_of_ble_eq_true rfl⟩ hcs rfl rfl (Nat.le_of_ble_eq_true rfl) d_LAW_law_371 ?_
  refine j_aload_n (pc := 374) X d_LAW_law_374 rfl 2 rfl ?_
  refine j_aload_n (pc := 375) X d_LAW_law_375 rfl 0 rfl ?_
  refine j_iload_n (pc := 376) X d_LAW_law_376 rfl 3 rfl ?_
  refine j_iconst (pc := 377) X d_LAW_law_377 ic_1 ?_
  refine j_iadd (pc := 378) X d_LAW_law_378 ?_
  refine j_sld (pc := 379) X hX h1 d_LAW_law_379 ?_
  refine j_LRi (pc := 380) (As := [.int (xs (plIx (nI (4 + 4 * t) + 1)))]) (rest := [.int ((K_PL_command c (xs (plIx (nI (4 + 4 * t) + 1)))).1)]) X hA (fun g => c_RM_command g a2 r (xs (plIx (nI (4 + 4 * t) + 1)))) ml_LAW_50 rfl ⟨Nat.le_of_ble_eq_true rfl, Nat.le_of_ble_eq_true rfl⟩ hcs rfl rfl (Nat.le_of_ble_eq_true rfl) d_LAW_law_380 ?_
  refine j_icmp_eq (pc := 383) (tgt := 617) X d_LAW_law_383 rfl (fun _ => ?_) (fun hc => absurd heq hc)
  exact hgo _ _ hR2
set_option maxRecDepth 20000 in
theorem law_waiting {E : plE} (X : plX E code "ProtectedLineLaw" 4 (some .boolean) 11 412) (hA : plNew E) (hcs : 45 ≤ (eR E).cells ∧ 969 ≤ (eR E).slots) {b L : Nat} {xs : Nat → Int32} (hX : plSc E b L xs) {R : plS → plS → Nat → Prop} (hS : plSim R) (a a2 : Nat → Nat) (c r : plS) (t : Nat) (htt : t < 512) (hR : R c r t) (h1 : vp_in (nI (4 + 4 * t) + 1) L) (h2 : vp_in (nI (4 + 4 * t) + 2) L) (h3 : vp_in (nI (4 + 4 * t) + 3) L) (hgo : ∀ c' r' : plS, R c' r' (t + 1) → plJ E 4 (plwC (plg E) a c' ++ plwR (plg E) a2 r') 45 969 [(0, .ref b), (1, .ref (a 0)), (2, .ref (a2 0)), (3, .int (nI (4 + 4 * t)))] 617 []) : plJ E 4 (plwC (plg E) a c ++ plwR (plg E) a2 r) 45 969 [(0, .ref b), (1, .ref (a 0)), (2, .ref (a2 0)), (3, .int (nI (4 + 4 * t)))] 388 [] := by
  refine j_aload_n (pc := 388) X d_LAW_law_388 rfl 1 rfl ?_
  have hM := hS.2.2.2.2.2.2.2.2.2.1 c r t htt hR
  have heq := hM
  refine j_LCp (pc := 389) (As := []) (rest := []) X hA (fun g => c_PL_waiting g a c ) ml_LAW_51 rfl ⟨Nat.le_of_ble_eq_true rfl, Nat.le_of_ble_eq_true rfl⟩ hcs rfl rfl (Nat.le_of_ble_eq_true rfl) d_LAW_law_389 ?_
  refine j_aload_n (pc := 392) X d_LAW_law_392 rfl 2 rfl ?_
  refine j_LRp (pc := 393) (As := []) (rest := [.int ((K_PL_waiting c ))]) X hA (fun g => c_RM_waiting g a2 r ) ml_LAW_55 rfl ⟨Nat.le_of_ble_eq_true rfl, Nat.le_of_ble_eq_true rfl⟩ hcs rfl rfl (Nat.le_of_ble_eq_true rfl) d_LAW_law_393 ?_
  refine j_icmp_eq (pc := 396) (tgt := 617) X d_LAW_law_396 rfl (fun _ => ?_) (fun hc => absurd heq hc)
  exact hgo _ _ (hS.2.2.1 c r t hR)
set_option maxRecDepth 20000 in
theorem law_sent {E : plE} (X : plX E code "ProtectedLineLaw" 4 (some .boolean) 11 412) (hA : plNew E) (hcs : 45 ≤ (eR E).cells ∧ 969 ≤ (eR E).slots) {b L : Nat} {xs : Nat → Int32} (hX : plSc E b L xs) {R : plS → plS → Nat → Prop} (hS : plSim R) (a a2 : Nat → Nat) (c r : plS) (t : Nat) (htt : t < 512) (hR : R c r t) (h1 : vp_in (nI (4 + 4 * t) + 1) L) (h2 : vp_in (nI (4 + 4 * t) + 2) L) (h3 : vp_in (nI (4 + 4 * t) + 3) L) (hgo : ∀ c' r' : plS, R c' r' (t + 1) → plJ E 4 (plwC (plg E) a c' ++ plwR (plg E) a2 r') 45 969 [(0, .ref b), (1, .ref (a 0)), (2, .ref (a2 0)), (3, .int (nI (4 + 4 * t)))] 617 []) : plJ E 4 (plwC (plg E) a c ++ plwR (plg E) a2 r) 45 969 [(0, .ref b), (1, .ref (a 0)), (2, .ref (a2 0)), (3, .int (nI (4 + 4 * t)))] 401 [] := by
  refine j_aload_n (pc := 401) X d_LAW_law_401 rfl 1 rfl ?_
  refine j_aload_n (pc := 402) X d_LAW_law_402 rfl 0 rfl ?_
  refine j_iload_n (pc := 403) X d_LAW_law_403 rfl 3 rfl ?_
  refine j_iconst (pc := 404) X d_LAW_law_404 ic_1 ?_
  refine j_iadd (pc := 405) X d_LAW_law_405 ?_
  refine j_sld (pc := 406) X hX h1 d_LAW_law_406 ?_
  refine j_aload_n (pc := 407) X d_LAW_law_407 rfl 0 rfl ?_
  refine j_iload_n (pc := 408) X d_LAW_law_408 rfl 3 rfl ?_
  refine j_iconst (pc := 409) X d_LAW_law_409 ic_2 ?_
  refine j_iadd (pc := 410) X d_LAW_law_410 ?_
  refine j_sld (pc := 411) X hX h2 d_LAW_law_411 ?_
  have hM := hS.2.2.2.2.2.2.2.2.2.2.1 c r t htt hR (xs (plIx (nI (4 + 4 * t) + 1))) (xs (plIx (nI (4 + 4 * t) + 2)))
  obtain ⟨hpc, hpr, heq⟩ := hM
  refine j_LCp (pc := 412) (As := [.int (xs (plIx (nI (4 + 4 * t) + 1))), .int (xs (plIx (nI (4 + 4 * t) + 2)))]) (rest := []) X hA (fun g => c_PL_sent g a c (xs (plIx (nI (4 + 4 * t) + 1))) (xs (plIx (nI (4 + 4 * t) + 2))) hpc) ml_LAW_56 rfl ⟨Nat.le_of_ble_eq_true rfl, Nat.le_of_ble_eq_true rfl⟩ hcs rfl rfl (Nat.le_of_ble_eq_true rfl) d_LAW_law_412 ?_
  refine j_aload_n (pc := 415) X d_LAW_law_415 rfl 2 rfl ?_
  refine j_aload_n (pc := 416) X d_LAW_law_416 rfl 0 rfl ?_
  refine j_iload_n (pc := 417) X d_LAW_law_417 rfl 3 rfl ?_
  refine j_iconst (pc := 418) X d_LAW_law_418 ic_1 ?_
  refine j_iadd (pc := 419) X d_LAW_law_419 ?_
  refine j_sld (pc := 420) X hX h1 d_LAW_law_420 ?_
  refine j_aload_n (pc := 421) X d_LAW_law_421 rfl 0 rfl ?_
  refine j_iload_n (pc := 422) X d_LAW_law_422 rfl 3 rfl ?_
  refine j_iconst (pc := 423) X d_LAW_law_423 ic_2 ?_
  refine j_iadd (pc := 424) X d_LAW_law_424 ?_
  refine j_sld (pc := 425) X hX h2 d_LAW_law_425 ?_
  refine j_LRp (pc := 426) (As := [.int (xs (plIx (nI (4 + 4 * t) + 1))), .int (xs (plIx (nI (4 + 4 * t) + 2)))]) (rest := [.int ((K_PL_sent c (xs (plIx (nI (4 + 4 * t) + 1))) (xs (plIx (nI (4 + 4 * t) + 2)))))]) X hA (fun g => c_RM_sent g a2 r (xs (plIx (nI (4 + 4 * t) + 1))) (xs (plIx (nI (4 + 4 * t) + 2))) hpr) ml_LAW_60 rfl ⟨Nat.le_of_ble_eq_true rfl, Nat.le_of_ble_eq_true rfl⟩ hcs rfl rfl (Nat.le_of_ble_eq_true rfl) d_LAW_law_426 ?_
  refine j_icmp_eq (pc := 429) (tgt := 617) X d_LAW_law_429 rfl (fun _ => ?_) (fun hc => absurd heq hc)
  exact hgo _ _ (hS.2.2.1 c r t hR)
set_option maxRecDepth 20000 in
theorem law_alignment {E : plE} (X : plX E code "ProtectedLineLaw" 4 (some .boolean) 11 412) (hA : plNew E) (hcs : 45 ≤ (eR E).cells ∧ 969 ≤ (eR E).slots) {b L : Nat} {xs : Nat → Int32} (hX : plSc E b L xs) {R : plS → plS → Nat → Prop} (hS : plSim R) (a a2 : Nat → Nat) (c r : plS) (t : Nat) (htt : t < 512) (hR : R c r t) (h1 : vp_in (nI (4 + 4 * t) + 1) L) (h2 : vp_in (nI (4 + 4 * t) + 2) L) (h3 : vp_in (nI (4 + 4 * t) + 3) L) (hgo : ∀ c' r' : plS, R c' r' (t + 1) → plJ E 4 (plwC (plg E) a c' ++ plwR (plg E) a2 r') 45 969 [(0, .ref b), (1, .ref (a 0)), (2, .ref (a2 0)), (3, .int (nI (4 + 4 * t)))] 617 []) : plJ E 4 (plwC (plg E) a c ++ plwR (plg E) a2 r) 45 969 [(0, .ref b), (1, .ref (a 0)), (2, .ref (a2 0)), (3, .int (nI (4 + 4 * t)))] 434 [] := by
  refine j_aload_n (pc := 434) X d_LAW_law_434 rfl 1 rfl ?_
  refine j_aload_n (pc := 435) X d_LAW_law_435 rfl 0 rfl ?_
  refine j_iload_n (pc := 436) X d_LAW_law_436 rfl 3 rfl ?_
  refine j_iconst (pc := 437) X d_LAW_law_437 ic_1 ?_
  refine j_iadd (pc := 438) X d_LAW_law_438 ?_
  refine j_sld (pc := 439) X hX h1 d_LAW_law_439 ?_
  have hM := hS.2.2.2.2.2.2.2.2.2.2.2.1 c r t htt hR (xs (plIx (nI (4 + 4 * t) + 1)))
  obtain ⟨hpc, hpr, heq⟩ := hM
  refine j_LCp (pc := 440) (As := [.int (xs (plIx (nI (4 + 4 * t) + 1)))]) (rest := []) X hA (fun g => c_PL_alignment g a c (xs (plIx (nI (4 + 4 * t) + 1))) hpc) ml_LAW_61 rfl ⟨Nat.le_of_ble_eq_true rfl, Nat.le_of_ble_eq_true rfl⟩ hcs rfl rfl (Nat.le_of_ble_eq_true rfl) d_LAW_law_440 ?_
  refine j_aload_n (pc := 443) X d_LAW_law_443 rfl 2 rfl ?_
  refine j_aload_n (pc := 444) X d_LAW_law_444 rfl 0 rfl ?_
  refine j_iload_n (pc := 445) X d_LAW_law_445 rfl 3 rfl ?_
  refine j_iconst (pc := 446) X d_LAW_law_446 ic_1 ?_
  refine j_iadd (pc := 447) X d_LAW_law_447 ?_
  refine j_sld (pc := 448) X hX h1 d_LAW_law_448 ?_
  refine j_LRp (pc := 449) (As := [.int (xs (plIx (nI (4 + 4 * t) + 1)))]) (rest := [.int ((K_PL_alignment c (xs (plIx (nI (4 + 4 * t) + 1)))))]) X hA (fun g => c_RM_alignment g a2 r (xs (plIx (nI (4 + 4 * t) + 1))) hpr) ml_LAW_65 rfl ⟨Nat.le_of_ble_eq_true rfl, Nat.le_of_ble_eq_true rfl⟩ hcs rfl rfl (Nat.le_of_ble_eq_true rfl) d_LAW_law_449 ?_
  refine j_icmp_eq (pc := 452) (tgt := 617) X d_LAW_law_452 rfl (fun _ => ?_) (fun hc => absurd heq hc)
  exact hgo _ _ (hS.2.2.1 c r t hR)
set_option maxRecDepth 20000 in
theorem law_errors {E : plE} (X : plX E code "ProtectedLineLaw" 4 (some .boolean) 11 412) (hA : plNew E) (hcs : 45 ≤ (eR E).cells ∧ 969 ≤ (eR E).slots) {b L : Nat} {xs : Nat → Int32} (hX : plSc E b L xs) {R : plS → plS → Nat → Prop} (hS : plSim R) (a a2 : Nat → Nat) (c r : plS) (t : Nat) (htt : t < 512) (hR : R c r t) (h1 : vp_in (nI (4 + 4 * t) + 1) L) (h2 : vp_in (nI (4 + 4 * t) + 2) L) (h3 : vp_in (nI (4 + 4 * t) + 3) L) (hgo : ∀ c' r' : plS, R c' r' (t + 1) → plJ E 4 (plwC (plg E) a c' ++ plwR (plg E) a2 r') 45 969 [(0, .ref b), (1, .ref (a 0)), (2, .ref (a2 0)), (3, .int (nI (4 + 4 * t)))] 617 []) : plJ E 4 (plwC (plg E) a c ++ plwR (plg E) a2 r) 45 969 [(0, .ref b), (1, .ref (a 0)), (2, .ref (a2 0)), (3, .int (nI (4 + 4 * t)))] 457 [] := by
  refine j_aload_n (pc := 457) X d_LAW_law_457 rfl 1 rfl ?_
  refine j_aload_n (pc := 458) X d_LAW_law_458 rfl 0 rfl ?_
  refine j_iload_n (pc := 459) X d_LAW_law_459 rfl 3 rfl ?_
  refine j_iconst (pc := 460) X d_LAW_law_460 ic_1 ?_
  refine j_iadd (pc := 461) X d_LAW_law_461 ?_
  refine j_sld (pc := 462) X hX h1 d_LAW_law_462 ?_
  have hM := hS.2.2.2.2.2.2.2.2.2.2.2.2.1 c r t htt hR (xs (plIx (nI (4 + 4 * t) + 1)))
  obtain ⟨hpc, hpr, heq⟩ := hM
  refine j_LCp (pc := 463) (As := [.int (xs (plIx (nI (4 + 4 * t) + 1)))]) (rest := []) X hA (fun g => c_PL_errors g a c (xs (plIx (nI (4 + 4 * t) + 1))) hpc) ml_LAW_66 rfl ⟨Nat.le_of_ble_eq_true rfl, Nat.le_of_ble_eq_true rfl⟩ hcs rfl rfl (Nat.le_of_ble_eq_true rfl) d_LAW_law_463 ?_
  refine j_aload_n (pc := 466) X d_LAW_law_466 rfl 2 rfl ?_
  refine j_aload_n (pc := 467) X d_LAW_law_467 rfl 0 rfl ?_
  refine j_iload_n (pc := 468) X d_LAW_law_468 rfl 3 rfl ?_
  refine j_iconst (pc := 469) X d_LAW_law_469 ic_1 ?_
  refine j_iadd (pc := 470) X d_LAW_law_470 ?_
  refine j_sld (pc := 471) X hX h1 d_LAW_law_471 ?_
  refine j_LRp (pc := 472) (As := [.int (xs (plIx (nI (4 + 4 * t) + 1)))]) (rest := [.int ((K_PL_errors c (xs (plIx (nI (4 + 4 * t) + 1)))))]) X hA (fun g => c_RM_errors g a2 r (xs (plIx (nI (4 + 4 * t) + 1))) hpr) ml_LAW_69 rfl ⟨Nat.le_of_ble_eq_true rfl, Nat.le_of_ble_eq_true rfl⟩ hcs rfl rfl (Nat.le_of_ble_eq_true rfl) d_LAW_law_472 ?_
  refine j_icmp_eq (pc := 475) (tgt := 617) X d_LAW_law_475 rfl (fun _ => ?_) (fun hc => absurd heq hc)
  exact hgo _ _ (hS.2.2.1 c r t hR)
set_option maxRecDepth 20000 in
theorem law_request {E : plE} (X : plX E code "ProtectedLineLaw" 4 (some .boolean) 11 412) (hA : plNew E) (hcs : 45 ≤ (eR E).cells ∧ 969 ≤ (eR E).slots) {b L : Nat} {xs : Nat → Int32} (hX : plSc E b L xs) {R : plS → plS → Nat → Prop} (hS : plSim R) (a a2 : Nat → Nat) (c r : plS) (t : Nat) (htt : t < 512) (hR : R c r t) (h1 : vp_in (nI (4 + 4 * t) + 1) L) (h2 : vp_in (nI (4 + 4 * t) + 2) L) (h3 : vp_in (nI (4 + 4 * t) + 3) L) (hgo : ∀ c' r' : plS, R c' r' (t + 1) → plJ E 4 (plwC (plg E) a c' ++ plwR (plg E) a2 r') 45 969 [(0, .ref b), (1, .ref (a 0)), (2, .ref (a2 0)), (3, .int (nI (4 + 4 * t)))] 617 []) : plJ E 4 (plwC (plg E) a c ++ plwR (plg E) a2 r) 45 969 [(0, .ref b), (1, .ref (a 0)), (2, .ref (a2 0)), (3, .int (nI (4 + 4 * t)))] 480 [] := by
  refine j_aload_n (pc := 480) X d_LAW_law_480 rfl 1 rfl ?_
  have hM := hS.2.2.2.2.2.2.2.2.2.2.2.2.2.1 c r t htt hR
  have heq := hM
  refine j_LCp (pc := 481) (As := []) (rest := []) X hA (fun g => c_PL_request g a c ) ml_LAW_70 rfl ⟨Nat.le_of_ble_eq_true rfl, Nat.le_of_ble_eq_true rfl⟩ hcs rfl rfl (Nat.le_of_ble_eq_true rfl) d_LAW_law_481 ?_
  refine j_aload_n (pc := 484) X d_LAW_law_484 rfl 2 rfl ?_
  refine j_LRp (pc := 485) (As := []) (rest := [.int ((K_PL_request c ))]) X hA (fun g => c_RM_request g a2 r ) ml_LAW_73 rfl ⟨Nat.le_of_ble_eq_true rfl, Nat.le_of_ble_eq_true rfl⟩ hcs rfl rfl (Nat.le_of_ble_eq_true rfl) d_LAW_law_485 ?_
  refine j_icmp_eq (pc := 488) (tgt := 617) X d_LAW_law_488 rfl (fun _ => ?_) (fun hc => absurd heq hc)
  exact hgo _ _ (hS.2.2.1 c r t hR)
set_option maxRecDepth 20000 in
theorem law_bridged {E : plE} (X : plX E code "ProtectedLineLaw" 4 (some .boolean) 11 412) (hA : plNew E) (hcs : 45 ≤ (eR E).cells ∧ 969 ≤ (eR E).slots) {b L : Nat} {xs : Nat → Int32} (hX : plSc E b L xs) {R : plS → plS → Nat → Prop} (hS : plSim R) (a a2 : Nat → Nat) (c r : plS) (t : Nat) (htt : t < 512) (hR : R c r t) (h1 : vp_in (nI (4 + 4 * t) + 1) L) (h2 : vp_in (nI (4 + 4 * t) + 2) L) (h3 : vp_in (nI (4 + 4 * t) + 3) L) (hgo : ∀ c' r' : plS, R c' r' (t + 1) → plJ E 4 (plwC (plg E) a c' ++ plwR (plg E) a2 r') 45 969 [(0, .ref b), (1, .ref (a 0)), (2, .ref (a2 0)), (3, .int (nI (4 + 4 * t)))] 617 []) : plJ E 4 (plwC (plg E) a c ++ plwR (plg E) a2 r) 45 969 [(0, .ref b), (1, .ref (a 0)), (2, .ref (a2 0)), (3, .int (nI (4 + 4 * t)))] 493 [] := by
  refine j_aload_n (pc := 493) X d_LAW_law_493 rfl 1 rfl ?_
  have hM := hS.2.2.2.2.2.2.2.2.2.2.2.2.2.2.1 c r t htt hR
  obtain ⟨hpc, hpr, heq⟩ := hM
  refine j_LCp (pc := 494) (As := []) (rest := []) X hA (fun g => c_PL_bridged g a c  hpc) ml_LAW_74 rfl ⟨Nat.le_of_ble_eq_true rfl, Nat.le_of_ble_eq_true rfl⟩ hcs rfl rfl (Nat.le_of_ble_eq_true rfl) d_LAW_law_494 ?_
  refine j_aload_n (pc := 497) X d_LAW_law_497 rfl 2 rfl ?_
  refine j_LRp (pc := 498) (As := []) (rest := [.int ((K_PL_bridged c ))]) X hA (fun g => c_RM_bridged g a2 r  hpr) ml_LAW_78 rfl ⟨Nat.le_of_ble_eq_true rfl, Nat.le_of_ble_eq_true rfl⟩ hcs rfl rfl (Nat.le_of_ble_eq_true rfl) d_LAW_law_498 ?_
  refine j_icmp_eq (pc := 501) (tgt := 617) X d_LAW_law_501 rfl (fun _ => ?_) (fun hc => absurd heq hc)
  exact hgo _ _ (hS.2.2.1 c r t hR)
set_option maxRecDepth 20000 in
theorem law_selected {E : plE} (X : plX E code "ProtectedLineLaw" 4 (some .boolean) 11 412) (hA : plNew E) (hcs : 45 ≤ (eR E).cells ∧ 969 ≤ (eR E).slots) {b L : Nat} {xs : Nat → Int32} (hX : plSc E b L xs) {R : plS → plS → Nat → Prop} (hS : plSim R) (a a2 : Nat → Nat) (c r : plS) (t : Nat) (htt : t < 512) (hR : R c r t) (h1 : vp_in (nI (4 + 4 * t) + 1) L) (h2 : vp_in (nI (4 + 4 * t) + 2) L) (h3 : vp_in (nI (4 + 4 * t) + 3) L) (hgo : ∀ c' r' : plS, R c' r' (t + 1) → plJ E 4 (plwC (plg E) a c' ++ plwR (plg E) a2 r') 45 969 [(0, .ref b), (1, .ref (a 0)), (2, .ref (a2 0)), (3, .int (nI (4 + 4 * t)))] 617 []) : plJ E 4 (plwC (plg E) a c ++ plwR (plg E) a2 r) 45 969 [(0, .ref b), (1, .ref (a 0)), (2, .ref (a2 0)), (3, .int (nI (4 + 4 * t)))] 506 [] := by
  refine j_aload_n (pc := 506) X d_LAW_law_506 rfl 1 rfl ?_
  have hM := hS.2.2.2.2.2.2.2.2.2.2.2.2.2.2.2.1 c r t htt hR
  have heq := hM
  refine j_LCp (pc := 507) (As := []) (rest := []) X hA (fun g => c_PL_selected g a c ) ml_LAW_79 rfl ⟨Nat.le_of_ble_eq_true rfl, Nat.le_of_ble_eq_true rfl⟩ hcs rfl rfl (Nat.le_of_ble_eq_true rfl) d_LAW_law_507 ?_
  refine j_aload_n (pc := 510) X d_LAW_law_510 rfl 2 rfl ?_
  refine j_LRp (pc := 511) (As := []) (rest := [.int ((K_PL_selected c ))]) X hA (fun g => c_RM_selected g a2 r ) ml_LAW_82 rfl ⟨Nat.le_of_ble_eq_true rfl, Nat.le_of_ble_eq_true rfl⟩ hcs rfl rfl (Nat.le_of_ble_eq_true rfl) d_LAW_law_511 ?_
  refine j_icmp_eq (pc := 514) (tgt := 617) X d_LAW_law_514 rfl (fun _ => ?_) (fun hc => absurd heq hc)
  exact hgo _ _ (hS.2.2.1 c r t hR)
set_option maxRecDepth 20000 in
theorem law_pointer {E : plE} (X : plX E code "ProtectedLineLaw" 4 (some .boolean) 11 412) (hA : plNew E) (hcs : 45 ≤ (eR E).cells ∧ 969 ≤ (eR E).slots) {b L : Nat} {xs : Nat → Int32} (hX : plSc E b L xs) {R : plS → plS → Nat → Prop} (hS : plSim R) (a a2 : Nat → Nat) (c r : plS) (t : Nat) (htt : t < 512) (hR : R c r t) (h1 : vp_in (nI (4 + 4 * t) + 1) L) (h2 : vp_in (nI (4 + 4 * t) + 2) L) (h3 : vp_in (nI (4 + 4 * t) + 3) L) (hgo : ∀ c' r' : plS, R c' r' (t + 1) → plJ E 4 (plwC (plg E) a c' ++ plwR (plg E) a2 r') 45 969 [(0, .ref b), (1, .ref (a 0)), (2, .ref (a2 0)), (3, .int (nI (4 + 4 * t)))] 617 []) : plJ E 4 (plwC (plg E) a c ++ plwR (plg E) a2 r) 45 969 [(0, .ref b), (1, .ref (a 0)), (2, .ref (a2 0)), (3, .int (nI (4 + 4 * t)))] 519 [] := by
  refine j_aload_n (pc := 519) X d_LAW_law_519 rfl 1 rfl ?_
  have hM := hS.2.2.2.2.2.2.2.2.2.2.2.2.2.2.2.2.1 c r t htt hR
  have heq := hM
  refine j_LCp (pc := 520) (As := []) (rest := []) X hA (fun g => c_PL_pointer g a c ) ml_LAW_83 rfl ⟨Nat.le_of_ble_eq_true rfl, Nat.le_of_ble_eq_true rfl⟩ hcs rfl rfl (Nat.le_of_ble_eq_true rfl) d_LAW_law_520 ?_
  refine j_aload_n (pc := 523) X d_LAW_law_523 rfl 2 rfl ?_
  refine j_LRp (pc := 524) (As := []) (rest := [.int ((K_PL_pointer c ))]) X hA (fun g => c_RM_pointer g a2 r ) ml_LAW_86 rfl ⟨Nat.le_of_ble_eq_true rfl, Nat.le_of_ble_eq_true rfl⟩ hcs rfl rfl (Nat.le_of_ble_eq_true rfl) d_LAW_law_524 ?_
  refine j_icmp_eq (pc := 527) (tgt := 617) X d_LAW_law_527 rfl (fun _ => ?_) (fun hc => absurd heq hc)
  exact hgo _ _ (hS.2.2.1 c r t hR)
set_option maxRecDepth 20000 in
theorem law_pathErrors {E : plE} (X : plX E code "ProtectedLineLaw" 4 (some .boolean) 11 412) (hA : plNew E) (hcs : 45 ≤ (eR E).cells ∧ 969 ≤ (eR E).slots) {b L : Nat} {xs : Nat → Int32} (hX : plSc E b L xs) {R : plS → plS → Nat → Prop} (hS : plSim R) (a a2 : Nat → Nat) (c r : plS) (t : Nat) (htt : t < 512) (hR : R c r t) (h1 : vp_in (nI (4 + 4 * t) + 1) L) (h2 : vp_in (nI (4 + 4 * t) + 2) L) (h3 : vp_in (nI (4 + 4 * t) + 3) L) (hgo : ∀ c' r' : plS, R c' r' (t + 1) → plJ E 4 (plwC (plg E) a c' ++ plwR (plg E) a2 r') 45 969 [(0, .ref b), (1, .ref (a 0)), (2, .ref (a2 0)), (3, .int (nI (4 + 4 * t)))] 617 []) : plJ E 4 (plwC (plg E) a c ++ plwR (plg E) a2 r) 45 969 [(0, .ref b), (1, .ref (a 0)), (2, .ref (a2 0)), (3, .int (nI (4 + 4 * t)))] 532 [] := by
  refine j_aload_n (pc := 532) X d_LAW_law_532 rfl 1 rfl ?_
  have hM := hS.2.2.2.2.2.2.2.2.2.2.2.2.2.2.2.2.2.1 c r t htt hR
  have heq := hM
  refine j_LCp (pc := 533) (As := []) (rest := []) X hA (fun g => c_PL_pathErrors g a c ) ml_LAW_87 rfl ⟨Nat.le_of_ble_eq_true rfl, Nat.le_of_ble_eq_true rfl⟩ hcs rfl rfl (Nat.le_of_ble_eq_true rfl) d_LAW_law_533 ?_
  refine j_aload_n (pc := 536) X d_LAW_law_536 rfl 2 rfl ?_
  refine j_LRp (pc := 537) (As := []) (rest := [.int ((K_PL_pathErrors c ))]) X hA (fun g => c_RM_pathErrors g a2 r ) ml_LAW_90 rfl ⟨Nat.le_of_ble_eq_true rfl, Nat.le_of_ble_eq_true rfl⟩ hcs rfl rfl (Nat.le_of_ble_eq_true rfl) d_LAW_law_537 ?_
  refine j_icmp_eq (pc := 540) (tgt := 617) X d_LAW_law_540 rfl (fun _ => ?_) (fun hc => absurd heq hc)
  exact hgo _ _ (hS.2.2.1 c r t hR)
set_option maxRecDepth 20000 in
theorem law_sync {E : plE} (X : plX E code "ProtectedLineLaw" 4 (some .boolean) 11 412) (hA : plNew E) (hcs : 45 ≤ (eR E).cells ∧ 969 ≤ (eR E).slots) {b L : Nat} {xs : Nat → Int32} (hX : plSc E b L xs) {R : plS → plS → Nat → Prop} (hS : plSim R) (a a2 : Nat → Nat) (c r : plS) (t : Nat) (htt : t < 512) (hR : R c r t) (h1 : vp_in (nI (4 + 4 * t) + 1) L) (h2 : vp_in (nI (4 + 4 * t) + 2) L) (h3 : vp_in (nI (4 + 4 * t) + 3) L) (hgo : ∀ c' r' : plS, R c' r' (t + 1) → plJ E 4 (plwC (plg E) a c' ++ plwR (plg E) a2 r') 45 969 [(0, .ref b), (1, .ref (a 0)), (2, .ref (a2 0)), (3, .int (nI (4 + 4 * t)))] 617 []) : plJ E 4 (plwC (plg E) a c ++ plwR (plg E) a2 r) 45 969 [(0, .ref b), (1, .ref (a 0)), (2, .ref (a2 0)), (3, .int (nI (4 + 4 * t)))] 545 [] := by
  refine j_aload_n (pc := 545) X d_LAW_law_545 rfl 1 rfl ?_
  have hM := hS.2.2.2.2.2.2.2.2.2.2.2.2.2.2.2.2.2.2.1 c r t htt hR
  have heq := hM
  refine j_LCp (pc := 546) (As := []) (rest := []) X hA (fun g => c_PL_sync g a c ) ml_LAW_91 rfl ⟨Nat.le_of_ble_eq_true rfl, Nat.le_of_ble_eq_true rfl⟩ hcs rfl rfl (Nat.le_of_ble_eq_true rfl) d_LAW_law_546 ?_
  refine j_aload_n (pc := 549) X d_LAW_law_549 rfl 2 rfl ?_
  refine j_LRp (pc := 550) (As := []) (rest := [.int ((K_PL_sync c ))]) X hA (fun g => c_RM_sync g a2 r ) ml_LAW_94 rfl ⟨Nat.le_of_ble_eq_true rfl, Nat.le_of_ble_eq_true rfl⟩ hcs rfl rfl (Nat.le_of_ble_eq_true rfl) d_LAW_law_550 ?_
  refine j_icmp_eq (pc := 553) (tgt := 617) X d_LAW_law_553 rfl (fun _ => ?_) (fun hc => absurd heq hc)
  exact hgo _ _ (hS.2.2.1 c r t hR)
set_option maxRecDepth 20000 in
theorem law_delivered {E : plE} (X : plX E code "ProtectedLineLaw" 4 (some .boolean) 11 412) (hA : plNew E) (hcs : 45 ≤ (eR E).cells ∧ 969 ≤ (eR E).slots) {b L : Nat} {xs : Nat → Int32} (hX : plSc E b L xs) {R : plS → plS → Nat → Prop} (hS : plSim R) (a a2 : Nat → Nat) (c r : plS) (t : Nat) (htt : t < 512) (hR : R c r t) (h1 : vp_in (nI (4 + 4 * t) + 1) L) (h2 : vp_in (nI (4 + 4 * t) + 2) L) (h3 : vp_in (nI (4 + 4 * t) + 3) L) (hgo : ∀ c' r' : plS, R c' r' (t + 1) → plJ E 4 (plwC (plg E) a c' ++ plwR (plg E) a2 r') 45 969 [(0, .ref b), (1, .ref (a 0)), (2, .ref (a2 0)), (3, .int (nI (4 + 4 * t)))] 617 []) : plJ E 4 (plwC (plg E) a c ++ plwR (plg E) a2 r) 45 969 [(0, .ref b), (1, .ref (a 0)), (2, .ref (a2 0)), (3, .int (nI (4 + 4 * t)))] 558 [] := by
  refine j_aload_n (pc := 558) X d_LAW_law_558 rfl 1 rfl ?_
  have hM := hS.2.2.2.2.2.2.2.2.2.2.2.2.2.2.2.2.2.2.2.1 c r t htt hR
  have heq := hM
  refine j_LCp (pc := 559) (As := []) (rest := []) X hA (fun g => c_PL_delivered g a c ) ml_LAW_95 rfl ⟨Nat.le_of_ble_eq_true rfl, Nat.le_of_ble_eq_true rfl⟩ hcs rfl rfl (Nat.le_of_ble_eq_true rfl) d_LAW_law_559 ?_
  refine j_aload_n (pc := 562) X d_LAW_law_562 rfl 2 rfl ?_
  refine j_LRp (pc := 563) (As := []) (rest := [.int ((K_PL_delivered c ))]) X hA (fun g => c_RM_delivered g a2 r ) ml_LAW_98 rfl ⟨Nat.le_of_ble_eq_true rfl, Nat.le_of_ble_eq_true rfl⟩ hcs rfl rfl (Nat.le_of_ble_eq_true rfl) d_LAW_law_563 ?_
  refine j_icmp_eq (pc := 566) (tgt := 617) X d_LAW_law_566 rfl (fun _ => ?_) (fun hc => absurd heq hc)
  exact hgo _ _ (hS.2.2.1 c r t hR)
set_option maxRecDepth 20000 in
theorem law_dropped {E : plE} (X : plX E code "ProtectedLineLaw" 4 (some .boolean) 11 412) (hA : plNew E) (hcs : 45 ≤ (eR E).cells ∧ 969 ≤ (eR E).slots) {b L : Nat} {xs : Nat → Int32} (hX : plSc E b L xs) {R : plS → plS → Nat → Prop} (hS : plSim R) (a a2 : Nat → Nat) (c r : plS) (t : Nat) (htt : t < 512) (hR : R c r t) (h1 : vp_in (nI (4 + 4 * t) + 1) L) (h2 : vp_in (nI (4 + 4 * t) + 2) L) (h3 : vp_in (nI (4 + 4 * t) + 3) L) (hgo : ∀ c' r' : plS, R c' r' (t + 1) → plJ E 4 (plwC (plg E) a c' ++ plwR (plg E) a2 r') 45 969 [(0, .ref b), (1, .ref (a 0)), (2, .ref (a2 0)), (3, .int (nI (4 + 4 * t)))] 617 []) : plJ E 4 (plwC (plg E) a c ++ plwR (plg E) a2 r) 45 969 [(0, .ref b), (1, .ref (a 0)), (2, .ref (a2 0)), (3, .int (nI (4 + 4 * t)))] 571 [] := by
  refine j_aload_n (pc := 571) X d_LAW_law_571 rfl 1 rfl ?_
  have hM := hS.2.2.2.2.2.2.2.2.2.2.2.2.2.2.2.2.2.2.2.2.1 c r t htt hR
  have heq := hM
  refine j_LCp (pc := 572) (As := []) (rest := []) X hA (fun g => c_PL_dropped g a c ) ml_LAW_99 rfl ⟨Nat.le_of_ble_eq_true rfl, Nat.le_of_ble_eq_true rfl⟩ hcs rfl rfl (Nat.le_of_ble_eq_true rfl) d_LAW_law_572 ?_
  refine j_aload_n (pc := 575) X d_LAW_law_575 rfl 2 rfl ?_
  refine j_LRp (pc := 576) (As := []) (rest := [.int ((K_PL_dropped c ))]) X hA (fun g => c_RM_dropped g a2 r ) ml_LAW_102 rfl ⟨Nat.le_of_ble_eq_true rfl, Nat.le_of_ble_eq_true rfl⟩ hcs rfl rfl (Nat.le_of_ble_eq_true rfl) d_LAW_law_576 ?_
  refine j_icmp_eq (pc := 579) (tgt := 617) X d_LAW_law_579 rfl (fun _ => ?_) (fun hc => absurd heq hc)
  exact hgo _ _ (hS.2.2.1 c r t hR)
set_option maxRecDepth 20000 in
theorem law_got {E : plE} (X : plX E code "ProtectedLineLaw" 4 (some .boolean) 11 412) (hA : plNew E) (hcs : 45 ≤ (eR E).cells ∧ 969 ≤ (eR E).slots) {b L : Nat} {xs : Nat → Int32} (hX : plSc E b L xs) {R : plS → plS → Nat → Prop} (hS : plSim R) (a a2 : Nat → Nat) (c r : plS) (t : Nat) (htt : t < 512) (hR : R c r t) (h1 : vp_in (nI (4 + 4 * t) + 1) L) (h2 : vp_in (nI (4 + 4 * t) + 2) L) (h3 : vp_in (nI (4 + 4 * t) + 3) L) (hgo : ∀ c' r' : plS, R c' r' (t + 1) → plJ E 4 (plwC (plg E) a c' ++ plwR (plg E) a2 r') 45 969 [(0, .ref b), (1, .ref (a 0)), (2, .ref (a2 0)), (3, .int (nI (4 + 4 * t)))] 617 []) : plJ E 4 (plwC (plg E) a c ++ plwR (plg E) a2 r) 45 969 [(0, .ref b), (1, .ref (a 0)), (2, .ref (a2 0)), (3, .int (nI (4 + 4 * t)))] 584 [] := by
  refine j_aload_n (pc := 584) X d_LAW_law_584 rfl 1 rfl ?_
  refine j_aload_n (pc := 585) X d_LAW_law_585 rfl 0 rfl ?_
  refine j_iload_n (pc := 586) X d_LAW_law_586 rfl 3 rfl ?_
  refine j_iconst (pc := 587) X d_LAW_law_587 ic_1 ?_
  refine j_iadd (pc := 588) X d_LAW_law_588 ?_
  refine j_sld (pc := 589) X hX h1 d_LAW_law_589 ?_
  refine j_aload_n (pc := 590) X d_LAW_law_590 rfl 0 rfl ?_
  refine j_iload_n (pc := 591) X d_LAW_law_591 rfl 3 rfl ?_
  refine j_iconst (pc := 592) X d_LAW_law_592 ic_2 ?_
  refine j_iadd (pc := 593) X d_LAW_law_593 ?_
  refine j_sld (pc := 594) X hX h2 d_LAW_law_594 ?_
  have hM := hS.2.2.2.2.2.2.2.2.2.2.2.2.2.2.2.2.2.2.2.2.2 c r t htt hR (xs (plIx (nI (4 + 4 * t) + 1))) (xs (plIx (nI (4 + 4 * t) + 2)))
  obtain ⟨hpc, hpr, heq⟩ := hM
  refine j_LCp (pc := 595) (As := [.int (xs (plIx (nI (4 + 4 * t) + 1))), .int (xs (plIx (nI (4 + 4 * t) + 2)))]) (rest := []) X hA (fun g => c_PL_got g a c (xs (plIx (nI (4 + 4 * t) + 1))) (xs (plIx (nI (4 + 4 * t) + 2))) hpc) ml_LAW_103 rfl ⟨Nat.le_of_ble_eq_true rfl, Nat.le_of_ble_eq_true rfl⟩ hcs rfl rfl (Nat.le_of_ble_eq_true rfl) d_LAW_law_595 ?_
  refine j_aload_n (pc := 598) X d_LAW_law_598 rfl 2 rfl ?_
  refine j_aload_n (pc := 599) X d_LAW_law_599 rfl 0 rfl ?_
  refine j_iload_n (pc := 600) X d_LAW_law_600 rfl 3 rfl ?_
  refine j_iconst (pc := 601) X d_LAW_law_601 ic_1 ?_
  refine j_iadd (pc := 602) X d_LAW_law_602 ?_
  refine j_sld (pc := 603) X hX h1 d_LAW_law_603 ?_
  refine j_aload_n (pc := 604) X d_LAW_law_604 rfl 0 rfl ?_
  refine j_iload_n (pc := 605) X d_LAW_law_605 rfl 3 rfl ?_
  refine j_iconst (pc := 606) X d_LAW_law_606 ic_2 ?_
  refine j_iadd (pc := 607) X d_LAW_law_607 ?_
  refine j_sld (pc := 608) X hX h2 d_LAW_law_608 ?_
  refine j_LRp (pc := 609) (As := [.int (xs (plIx (nI (4 + 4 * t) + 1))), .int (xs (plIx (nI (4 + 4 * t) + 2)))]) (rest := [.int ((K_PL_got c (xs (plIx (nI (4 + 4 * t) + 1))) (xs (plIx (nI (4 + 4 * t) + 2)))))]) X hA (fun g => c_RM_got g a2 r (xs (plIx (nI (4 + 4 * t) + 1))) (xs (plIx (nI (4 + 4 * t) + 2))) hpr) ml_LAW_106 rfl ⟨Nat.le_of_ble_eq_true rfl, Nat.le_of_ble_eq_true rfl⟩ hcs rfl rfl (Nat.le_of_ble_eq_true rfl) d_LAW_law_609 ?_
  refine j_icmp_eq (pc := 612) (tgt := 617) X d_LAW_law_612 rfl (fun _ => ?_) (fun hc => absurd heq hc)
  exact hgo _ _ (hS.2.2.1 c r t hR)

