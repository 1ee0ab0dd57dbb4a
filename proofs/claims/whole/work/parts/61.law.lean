theorem plwC_f {g g2 : plG} (h1 : plgI g = plgI g2) (a : Nat → Nat) : plwC g a = plwC g2 a := funext fun st => plwC_g h1 a st
theorem plwR_f {g g2 : plG} (h1 : plgI g = plgI g2) (h2 : plgZ g = plgZ g2) (a : Nat → Nat) : plwR g a = plwR g2 a := funext fun st => plwR_g h1 h2 a st
section
variable {E : plE} {cc : ByteArray} {own : String} {nL : Nat} {ret : Option FieldType} {fr lo : Nat} {k n : Nat} {lv : List (Nat × Value)} {pc : Nat} {y : MethodName} {b : ByteArray} {mL fr' lo' m index : Nat} {rt : Option FieldType} {As rest stk : List Value} {a a2 : Nat → Nat} {c r : plS}
theorem j_LCi {T : Int32 × plS} (X : plX E cc own nL ret fr lo) (hA : plNew E) (hM : ∀ g : plG, plMi g y b mL rt fr' lo' (.ref (a 0) :: As) (plwC g a) c T) (hL : plCV own index y b mL rt m) (hy : y.cls = "ProtectedLine") (hR : fr' + 1 ≤ fr ∧ 8 + (mL + 11) + lo' ≤ lo) (hcs : k ≤ (eR E).cells ∧ n ≤ (eR E).slots) (hn : As.length = m) (hst : stk = As.reverse ++ .ref (a 0) :: rest) (hW : (rest.map fun v => v.category).sum ≤ 8) (d : decode cc pc = .ok (.invokevirtual index, 3))
    (kk : plJ E nL (plwR (plg E) a2 r ++ plwC (plg E) a T.2) k n lv (pc + 3) (.int T.1 :: rest)) : plJ E nL (plwC (plg E) a c ++ plwR (plg E) a2 r) k n lv pc stk := by
  refine j_callL X hA [0, 1, 2, 3, 4, 5, 6, 7, 8, 9, 10, 11, 12, 13, 14, 15, 16, 17, 18, 19, 20, 21, 22, 23, 24, 25] [26, 27, 28, 29, 30, 31, 32, 33, 34, 35, 36, 37, 38, 39, 40, 41, 42, 43, 44] (wc := plwC (plg E) a c) (wr := plwR (plg E) a2 r) (wf := plwC (plg E) a) (post := fun r u => (r, u) = T) (fun sz => ?_) hL (q0 := 0) rfl (by rw [hy]; rfl) hR hcs rfl rfl rfl rfl (by decide) hn hst hW d (fun r u h => ?_)
  · have h := hM ((plg E).1, (plg E).2.1, va_A (plwC (plg E) a c) sz, (plg E).2.2.2)
    rw [plwC_f (g2 := plg E) rfl a] at h
    exact h
  · cases h
    exact kk
theorem j_LCp {T : Int32} (X : plX E cc own nL ret fr lo) (hA : plNew E) (hM : ∀ g : plG, plMp g y b mL rt fr' lo' (.ref (a 0) :: As) (plwC g a) c T) (hL : plCV own index y b mL rt m) (hy : y.cls = "ProtectedLine") (hR : fr' + 1 ≤ fr ∧ 8 + (mL + 11) + lo' ≤ lo) (hcs : k ≤ (eR E).cells ∧ n ≤ (eR E).slots) (hn : As.length = m) (hst : stk = As.reverse ++ .ref (a 0) :: rest) (hW : (rest.map fun v => v.category).sum ≤ 8) (d : decode cc pc = .ok (.invokevirtual index, 3))
    (kk : plJ E nL (plwR (plg E) a2 r ++ plwC (plg E) a c) k n lv (pc + 3) (.int T :: rest)) : plJ E nL (plwC (plg E) a c ++ plwR (plg E) a2 r) k n lv pc stk := by
  refine j_callL X hA [0, 1, 2, 3, 4, 5, 6, 7, 8, 9, 10, 11, 12, 13, 14, 15, 16, 17, 18, 19, 20, 21, 22, 23, 24, 25] [26, 27, 28, 29, 30, 31, 32, 33, 34, 35, 36, 37, 38, 39, 40, 41, 42, 43, 44] (wc := plwC (plg E) a c) (wr := plwR (plg E) a2 r) (wf := plwC (plg E) a) (post := fun r u => r = T ∧ u = c) (fun sz => ?_) hL (q0 := 0) rfl (by rw [hy]; rfl) hR hcs rfl rfl rfl rfl (by decide) hn hst hW d (fun r u h => ?_)
  · have h := hM ((plg E).1, (plg E).2.1, va_A (plwC (plg E) a c) sz, (plg E).2.2.2)
    rw [plwC_f (g2 := plg E) rfl a] at h
    exact h
  · obtain ⟨rfl, rfl⟩ := h
    exact kk
theorem j_LRi {T : Int32 × plS} (X : plX E cc own nL ret fr lo) (hA : plNew E) (hM : ∀ g : plG, plMi g y b mL rt fr' lo' (.ref (a2 0) :: As) (plwR g a2) r T) (hL : plCV own index y b mL rt m) (hy : y.cls = "ProtectedLineModel") (hR : fr' + 1 ≤ fr ∧ 8 + (mL + 11) + lo' ≤ lo) (hcs : k ≤ (eR E).cells ∧ n ≤ (eR E).slots) (hn : As.length = m) (hst : stk = As.reverse ++ .ref (a2 0) :: rest) (hW : (rest.map fun v => v.category).sum ≤ 8) (d : decode cc pc = .ok (.invokevirtual index, 3))
    (kk : plJ E nL (plwC (plg E) a c ++ plwR (plg E) a2 T.2) k n lv (pc + 3) (.int T.1 :: rest)) : plJ E nL (plwR (plg E) a2 r ++ plwC (plg E) a c) k n lv pc stk := by
  refine j_callL X hA [0, 1, 2, 3, 4, 5, 6, 7, 8, 9, 10, 11, 12, 13, 14, 15, 16, 17, 18] [19, 20, 21, 22, 23, 24, 25, 26, 27, 28, 29, 30, 31, 32, 33, 34, 35, 36, 37, 38, 39, 40, 41, 42, 43, 44] (wc := plwR (plg E) a2 r) (wr := plwC (plg E) a c) (wf := plwR (plg E) a2) (post := fun r u => (r, u) = T) (fun sz => ?_) hL (q0 := 0) rfl (by rw [hy]; rfl) hR hcs rfl rfl rfl rfl (by decide) hn hst hW d (fun r u h => ?_)
  · have h := hM ((plg E).1, (plg E).2.1, va_A (plwR (plg E) a2 r) sz, (plg E).2.2.2)
    rw [plwR_f (g2 := plg E) rfl rfl a2] at h
    exact h
  · cases h
    exact kk
theorem j_LRp {T : Int32} (X : plX E cc own nL ret fr lo) (hA : plNew E) (hM : ∀ g : plG, plMp g y b mL rt fr' lo' (.ref (a2 0) :: As) (plwR g a2) r T) (hL : plCV own index y b mL rt m) (hy : y.cls = "ProtectedLineModel") (hR : fr' + 1 ≤ fr ∧ 8 + (mL + 11) + lo' ≤ lo) (hcs : k ≤ (eR E).cells ∧ n ≤ (eR E).slots) (hn : As.length = m) (hst : stk = As.reverse ++ .ref (a2 0) :: rest) (hW : (rest.map fun v => v.category).sum ≤ 8) (d : decode cc pc = .ok (.invokevirtual index, 3))
    (kk : plJ E nL (plwC (plg E) a c ++ plwR (plg E) a2 r) k n lv (pc + 3) (.int T :: rest)) : plJ E nL (plwR (plg E) a2 r ++ plwC (plg E) a c) k n lv pc stk := by
  refine j_callL X hA [0, 1, 2, 3, 4, 5, 6, 7, 8, 9, 10, 11, 12, 13, 14, 15, 16, 17, 18] [19, 20, 21, 22, 23, 24, 25, 26, 27, 28, 29, 30, 31, 32, 33, 34, 35, 36, 37, 38, 39, 40, 41, 42, 43, 44] (wc := plwR (plg E) a2 r) (wr := plwC (plg E) a c) (wf := plwR (plg E) a2) (post := fun q u => q = T ∧ u = r) (fun sz => ?_) hL (q0 := 0) rfl (by rw [hy]; rfl) hR hcs rfl rfl rfl rfl (by decide) hn hst hW d (fun q u h => ?_)
  · have h := hM ((plg E).1, (plg E).2.1, va_A (plwR (plg E) a2 r) sz, (plg E).2.2.2)
    rw [plwR_f (g2 := plg E) rfl rfl a2] at h
    exact h
  · obtain ⟨rfl, rfl⟩ := h
    exact kk
end
/-- the law's script -/
def plSc (E : plE) (b L : Nat) (xs : Nat → Int32) : Prop := va_X b L xs (eS E) (eS E).heap ∧ b < (eS E).heap.size ∧ ¬ plgA (plg E) b
section
variable {E : plE} {cc : ByteArray} {own : String} {nL : Nat} {ret : Option FieldType} {fr lo : Nat} {w : va_W} {k n : Nat} {lv : List (Nat × Value)} {pc : Nat} {st : List Value} {b L : Nat} {xs : Nat → Int32}
theorem j_sld (X : plX E cc own nL ret fr lo) (hX : plSc E b L xs) {i : Int32} (hin : vp_in i L) (d : decode cc pc = .ok (.iaload, 1)) (kk : plJ E nL w k n lv (pc + 1) (.int (xs (plIx i)) :: st)) : plJ E nL w k n lv pc (.int i :: .ref b :: st) := fun H locs ls hl hP hD hS => va_sld X.1 X.2.1 hX.1 hX.2.1 hX.2.2 hS hin d (kk H locs ls hl hP hD hS)
theorem j_slen (X : plX E cc own nL ret fr lo) (hX : plSc E b L xs) (d : decode cc pc = .ok (.arraylength, 1)) (kk : plJ E nL w k n lv (pc + 1) (.int (nI L) :: st)) : plJ E nL w k n lv pc (.ref b :: st) := fun H locs ls hl hP hD hS => va_slen X.1 X.2.1 hX.1 hX.2.1 hX.2.2 hS d (kk H locs ls hl hP hD hS)
theorem j_tableIn (X : plX E cc own nL ret fr lo) {dflt lo' hi : Int} {offs : Array Int} {len : Nat} {x : Int32} {off : Int} {tgt : Nat} (d : decode cc pc = .ok (.tableswitch dflt lo' hi offs, len)) (h1 : ¬ x.toInt < lo') (h2 : ¬ hi < x.toInt) (ho : offs[(x.toInt - lo').toNat]? = some off) (ht : (pc : Int) + off = (tgt : Int)) (kk : plJ E nL w k n lv tgt st) : plJ E nL w k n lv pc (.int x :: st) := fun H locs ls hl hP hD hS => lv_tableIn X.1 X.2.1 d h1 h2 ho ht (kk H locs ls hl hP hD hS)
theorem j_tableOut (X : plX E cc own nL ret fr lo) {dflt lo' hi : Int} {offs : Array Int} {len : Nat} {x : Int32} {tgt : Nat} (d : decode cc pc = .ok (.tableswitch dflt lo' hi offs, len)) (h : x.toInt < lo' ∨ hi < x.toInt) (ht : (pc : Int) + dflt = (tgt : Int)) (kk : plJ E nL w k n lv tgt st) : plJ E nL w k n lv pc (.int x :: st) := fun H locs ls hl hP hD hS => lv_tableOut X.1 X.2.1 d h ht (kk H locs ls hl hP hD hS)
end
def plCell (L : Nat) (xs : Nat → Int32) (v : Int32) : Int32 := if nI L ≤ v then 0 else xs (plIx v)
theorem plVin {L : Nat} {v : Int32} (hL : L < 2 ^ 31) (h0 : ¬ v < 0) (h : ¬ nI L ≤ v) : vp_in v L := by
  obtain ⟨j, hj, rfl⟩ := nI_of h0
  rw [nI_leI hL hj] at h
  exact vp_in_nI (by omega) hL
theorem j_cell {E : plE} {cc : ByteArray} {own : String} {nL : Nat} {ret : Option FieldType} {fr lo : Nat} {w : va_W} {k n : Nat} {lv : List (Nat × Value)} {pc index : Nat} {v : Int32} {rest : List Value} {b L : Nat} {xs : Nat → Int32} (X : plX E cc own nL ret fr lo) (hX : plSc E b L xs) (hLL : L < 2 ^ 31) (hv : ¬ v < 0) (hL : plCS own index y_LAW_cell b_LAW_cell 2 (some .int) 2) (hfr : 1 ≤ fr) (hlo : 21 ≤ lo) (hW : (rest.map fun v => v.category).sum ≤ 8) (hcs : k ≤ (eR E).cells ∧ n ≤ (eR E).slots) (d : decode cc pc = .ok (.invokestatic index, 3))
    (kk : plJ E nL w k n lv (pc + 3) (.int (plCell L xs v) :: rest)) : plJ E nL w k n lv pc (.int v :: .ref b :: rest) := by
  have hM : Met (plgL (plg E)) y_LAW_cell (.code y_LAW_cell b_LAW_cell 2 (some .int) :: plWG) { frames := 0, cells := 0, slots := 0, locals := 0 } (va_Pc [.ref b, .int v] (fun U => plIn ((plg E).1, (plg E).2.1, (fun _ => False), (plg E).2.2.2) [] U ∧ va_X b L xs U U.heap ∧ b < U.heap.size)) (va_Qi (fun (r : Int32) (_ : Unit) => r = plCell L xs v) (fun _ _ => True) (fun _ => False)) 0 0 (fun _ => False) := by
    refine Met.ofW (cc := b_LAW_cell) (maxL := 2) (ret := some .int) rfl rfl ?_
    intro p e s m args' below meth c s₁ B hml hv'
    obtain ⟨rfl, ⟨hP, hK, hD, hXX⟩, hsc, hbl⟩ := hv'
    have hts := atoms_spec (ws := .code y_LAW_cell b_LAW_cell 2 (some .int) :: plWG) B.pre
    have hown := findClass_of_methodNamed B.named
    have hl := lv_entry [.ref b, .int v] (n := 2) (Nat.le_of_ble_eq_true rfl)
    rw [lg_entry_eq]
    generalize (lg_sl [.ref b, .int v] ++ List.replicate (2 - (lg_sl [.ref b, .int v]).length) Slot.unset).toArray = ls at hl ⊢
    have hE : ∃ E2 : plE, E2 = (((plg E).1, (plg E).2.1, (fun _ => False), (plg E).2.2.2), p, e, (headSpec (.code y_LAW_cell b_LAW_cell 2 (some .int) :: plWG) { frames := 0, cells := 0, slots := 0, locals := 0 }).room, s, m, [.ref b, .int v].toArray, below, meth, c, MQ below (va_Qi (fun (r : Int32) (_ : Unit) => r = plCell L xs v) (fun _ _ => True) (fun _ => False)) [.ref b, .int v].toArray s 0 0 (fun _ => False)) := ⟨_, rfl⟩
    obtain ⟨E2, hE⟩ := hE
    have X2 : plX E2 b_LAW_cell "ProtectedLineLaw" 2 (some .int) 0 0 := by
      rw [hE]
      exact ⟨B.exec, B.bytes, hml, hown, fun x h => hts x (List.mem_cons_of_mem _ h), hK, B.notSynchronized, B.returns, ⟨Nat.le_refl _, Nat.le_refl _⟩, hXX⟩
    have hX2 : plSc E2 b L xs := by
      rw [hE]
      exact ⟨hsc, hbl, fun h => h⟩
    have hQ : eQ E2 = MQ (eB E2) (va_Qi (fun (r : Int32) (_ : Unit) => r = plCell L xs v) (fun _ _ => True) (fun _ => False)) (eA E2) (eS E2) 0 0 (fun _ => False) := by rw [hE]
    have hA2 : plgA (plg E2) = fun _ => False := by rw [hE]
    have hret : ∀ (q : Int32) (lv : List (Nat × Value)), q = plCell L xs v → plJ E2 2 [] 0 0 lv 13 [.int q] := by
      intro q lv hq H locs ls hl hP hD hS
      rw [hA2] at hS
      rw [hQ]
      exact W.iret X2.1 X2.2.1 X2.2.2.2.2.2.2.2.1 (fun t ht hW => ⟨⟨q, (), rfl, hq, trivial⟩, hS.F ht⟩) hS.2.2 d_LAW_cell_13 X2.2.2.2.2.2.2.1
    have J : plJ E2 2 [] 0 0 [(0, .ref b), (1, .int v)] 0 [] := by
      refine j_iload_n (pc := 0) X2 d_LAW_cell_0 rfl 1 rfl ?_
      refine j_aload_n (pc := 1) X2 d_LAW_cell_1 rfl 0 rfl ?_
      refine j_slen (pc := 2) X2 hX2 d_LAW_cell_2 ?_
      refine j_icmp_ge (pc := 3) (tgt := 12) X2 d_LAW_cell_3 rfl (fun hc => ?_) (fun hc => ?_)
      · refine j_iconst (pc := 12) X2 d_LAW_cell_12 ic_0 ?_
        exact hret 0 _ (by unfold plCell; rw [if_pos hc])
      · refine j_aload_n (pc := 6) X2 d_LAW_cell_6 rfl 0 rfl ?_
        refine j_iload_n (pc := 7) X2 d_LAW_cell_7 rfl 1 rfl ?_
        refine j_sld (pc := 8) X2 hX2 (plVin hLL hv hc) d_LAW_cell_8 ?_
        refine j_goto (pc := 9) (tgt := 13) X2 d_LAW_cell_9 rfl ?_
        exact hret _ _ (by unfold plCell; rw [if_neg hc])
    have K := J s.heap [] ls
    rw [hE] at K
    exact K hl hP hD va_S.rf
  intro H locs ls hl hP hD hS
  obtain ⟨hlk, hs, hini, hcd, hmn⟩ := hL
  have hts := X.2.2.2.2.1
  have hXH : va_X b L xs (eS E) H := hX.1.kept (hS.2.1 b hX.2.1 hX.2.2)
  have hbH : b < H.size := Nat.lt_of_lt_of_le hX.2.1 hS.1
  have hpre : PreS (eS E) H (va_Pc [.ref b, .int v] (fun U => plIn ((plg E).1, (plg E).2.1, (fun _ => False), (plg E).2.2.2) [] U ∧ va_X b L xs U U.heap ∧ b < U.heap.size)) [.ref b, .int v] := by
    refine ⟨fun a U g mk q => ⟨q.1, q.2.1.blind, va_X.moved (u := U) (U := U.calling g mk a) (Vm.Alike.refl U.vm) q.2.2.1, q.2.2.2⟩, fun U hU hW => ⟨rfl, ⟨fun j q hj => (by cases hj), va_K.moved hW.alike X.2.2.2.2.2.1, ⟨fun i j p q hi => (by cases hi), fun j q hj => (by cases hj)⟩, (X.2.2.2.2.2.2.2.2.2.go hW hS hU).narrow (fun q h => False.elim h)⟩, ?_, ?_⟩⟩
    · rw [hU]; exact hXH.moved hW.alike
    · rw [hU]; exact hbH
  have hRR : 0 + 1 ≤ (eR E).frames ∧ 8 + (2 + 11) + 0 ≤ (eR E).locals := ⟨Nat.le_trans hfr X.2.2.2.2.2.2.2.2.1.1, Nat.le_trans hlo X.2.2.2.2.2.2.2.2.1.2⟩
  have hrun : va_Run (eP E) (plgL (plg E)) (eE E) (eR E) (eS E) (eM E) (eA E) (eB E) (eT E) (eC E) H locs k n 0 0 (F0 (eM E) pc ls (.int v :: .ref b :: rest)) rest (va_Qi (fun (r : Int32) (_ : Unit) => r = plCell L xs v) (fun _ _ => True) (fun _ => False) [Value.ref b, Value.int v].toArray) (fun _ => False) := by
    rcases hlk with hlk | ⟨host, hlk⟩
    · refine va_runS (As := [.ref b, .int v]) (rest := rest) ⟨X.1, X.2.1, X.2.2.1, X.2.2.2.1, hts⟩ hM (va_cwS 2 hts (fun x hx => ?_) rfl rfl rfl hmn hRR) hpre rfl rfl hl.1 rfl (lv_room hW) d hcs
      unfold va_wsS at hx
      rcases List.mem_append.mp hx with h | h
      · simp only [List.mem_cons, List.not_mem_nil, or_false] at h
        rcases h with rfl | rfl | rfl
        · exact ⟨hlk, plGood _ hlk⟩
        · exact ⟨hs, plGood _ hs⟩
        · exact ⟨hini, plGood _ hini⟩
      · exact plGoodIn hcd x h
    · exact va_runSN (As := [.ref b, .int v]) (rest := rest) (host := host) ⟨X.1, X.2.1, X.2.2.1, X.2.2.2.1, hts⟩ hM ⟨va_cnB 2 hts (plGoodIn hcd) rfl rfl rfl (X.2.2.2.2.2.2.2.2.2.2.1 _ hlk) (hts _ hini) hmn hRR, hts _ hs, trivial⟩ hpre rfl rfl hl.1 rfl (lv_room hW) d hcs
  refine va_calli hrun hS (fun q _ h => False.elim h) (fun q h => False.elim h) (fun r u t H1 locs1 ht hvm hp hB hz hk hS1 => ?_)
  subst hp
  have hkeep : ∀ (j : Nat) (q : Nat × va_E), w[j]? = some q → H1[q.1]? = H[q.1]? := fun j q hj => hk q.1 (hP j q hj).lt (fun h => h)
  exact kk H1 locs1 ls hl (hP.kept hkeep) hD hS1

