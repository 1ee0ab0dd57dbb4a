theorem d_LAW_cell_0 : decode b_LAW_cell 0 = .ok (.iload_n 1, 1) := by decide +kernel
theorem d_LAW_cell_1 : decode b_LAW_cell 1 = .ok (.aload_n 0, 1) := by decide +kernel
theorem d_LAW_cell_2 : decode b_LAW_cell 2 = .ok (.arraylength, 1) := by decide +kernel
theorem d_LAW_cell_3 : decode b_LAW_cell 3 = .ok (.if_icmp .ge (9), 3) := by decide +kernel
theorem d_LAW_cell_6 : decode b_LAW_cell 6 = .ok (.aload_n 0, 1) := by decide +kernel
theorem d_LAW_cell_7 : decode b_LAW_cell 7 = .ok (.iload_n 1, 1) := by decide +kernel
theorem d_LAW_cell_8 : decode b_LAW_cell 8 = .ok (.iaload, 1) := by decide +kernel
theorem d_LAW_cell_9 : decode b_LAW_cell 9 = .ok (.goto (4), 3) := by decide +kernel
theorem d_LAW_cell_12 : decode b_LAW_cell 12 = .ok (.iconst 0, 1) := by decide +kernel
theorem d_LAW_cell_13 : decode b_LAW_cell 13 = .ok (.ireturn, 1) := by decide +kernel
/-! the law's calls: the callee's world is a part of the law's -/
theorem j_callL {E : plE} {cc : ByteArray} {own : String} {nL : Nat} {ret : Option FieldType} {fr lo : Nat} {w wc wr : va_W} {k n : Nat} {lv : List (Nat × Value)} {pc : Nat} (X : plX E cc own nL ret fr lo) (hA : plNew E) {y : MethodName} {b : ByteArray} {mL fr' lo' m index ba : Nat} {rt : Option FieldType} {post : Int32 → plS → Prop} {wf : plS → va_W} {As rest stk : List Value} (isC isR : List Nat)
    (hM : ∀ sz : Nat, Met (plgL (plg E)) y (.code y b mL rt :: plWG) { frames := fr', cells := 0, slots := 0, locals := lo' } (va_Pc (.ref ba :: As) (plIn ((plg E).1, (plg E).2.1, va_A wc sz, (plg E).2.2.2) wc)) (va_Qi post (fun u t => plOut ((plg E).1, (plg E).2.1, va_A wc sz, (plg E).2.2.2) (wf u) t) (va_A wc sz)) 0 0 (va_A wc sz))
    (hL : plCV own index y b mL rt m) {q0 ci : Nat} {fs : List Value} (hb : wc[q0]? = some (ba, .inr (ci, fs))) {TT : u_T} {N : Nat} (hc : plCl[ci]? = some (y.cls, TT, N)) (hR : fr' + 1 ≤ fr ∧ 8 + (mL + 11) + lo' ≤ lo) (hcs : k ≤ (eR E).cells ∧ n ≤ (eR E).slots)
    (hC : isC.map (fun i => w[i]?) = wc.map some) (hRs : isR.map (fun i => w[i]?) = wr.map some) (hndC : va_nd isC = true) (hnd : va_nd isR = true) (hdis : ∀ i ∈ isR, i ∉ isC) (hn : As.length = m) (hst : stk = As.reverse ++ .ref ba :: rest) (hW : (rest.map fun v => v.category).sum ≤ 8) (d : decode cc pc = .ok (.invokevirtual index, 3))
    (kk : ∀ (r : Int32) (u : plS), post r u → plJ E nL (wr ++ wf u) k n lv (pc + 3) (.int r :: rest)) : plJ E nL w k n lv pc stk := by
  intro H locs ls hl hP hD hS
  obtain ⟨hlk, hi, hs, hini, hcd, hmn⟩ := hL
  have hts := X.2.2.2.2.1
  have hF := va_free (wc := wc) hD hS hA isC hC
  have hPc : va_P (plgD (plg E)) plCl wc H := fun j q hj => by
    have h1 : (isC.map (fun i => w[i]?))[j]? = some (some q) := by rw [hC, List.getElem?_map, hj]; rfl
    rw [List.getElem?_map] at h1
    cases hi : isC[j]? with
    | none => rw [hi] at h1; cases h1
    | some i => rw [hi] at h1; exact hP i q (Option.some.inj h1)
  have hDc : va_D (va_A wc H.size) wc := (hD.sub isC hndC hC).self
  have hpre : PreV (eS E) H y.cls ba (va_Pc (.ref ba :: As) (plIn ((plg E).1, (plg E).2.1, va_A wc H.size, (plg E).2.2.2) wc)) As :=
    ⟨fun a U g mk q => ⟨q.1, q.2.blind⟩, va_recv X.2.2.2.2.2.1 hPc hc hb, fun U hU hW => ⟨rfl, by rw [hU]; exact hPc, va_K.moved hW.alike X.2.2.2.2.2.1, hDc, (X.2.2.2.2.2.2.2.2.2.go hW hS hU).narrow hF⟩⟩
  have hRR : fr' + 1 ≤ (eR E).frames ∧ 8 + (mL + 11) + lo' ≤ (eR E).locals := ⟨Nat.le_trans hR.1 X.2.2.2.2.2.2.2.2.1.1, Nat.le_trans hR.2 X.2.2.2.2.2.2.2.2.1.2⟩
  have hrun : va_Run (eP E) (plgL (plg E)) (eE E) (eR E) (eS E) (eM E) (eA E) (eB E) (eT E) (eC E) H locs k n 0 0 (F0 (eM E) pc ls stk) rest (va_Qi post (fun u t => plOut ((plg E).1, (plg E).2.1, va_A wc H.size, (plg E).2.2.2) (wf u) t) (va_A wc H.size) (Value.ref ba :: As).toArray) (va_A wc H.size) := by
    rcases hlk with hlk | ⟨host, hlk⟩
    · refine va_runV (As := As) (rest := rest) (C := y.cls) ⟨X.1, X.2.1, X.2.2.1, X.2.2.2.1, hts⟩ (hM H.size) (cwV m hts (fun x hx => ?_) rfl rfl rfl ⟨rfl, hmn⟩ hRR) hpre rfl hn hl.1 hst (lv_room hW) d hcs
      unfold wsV at hx
      rcases List.mem_append.mp hx with h | h
      · simp only [List.mem_cons, List.not_mem_nil, or_false] at h
        rcases h with rfl | rfl | rfl | rfl
        · exact ⟨hlk, plGood _ hlk⟩
        · exact ⟨hi, plGood _ hi⟩
        · exact ⟨hs, plGood _ hs⟩
        · exact ⟨hini, plGood _ hini⟩
      · exact plGoodIn hcd x h
    · exact va_runVN (As := As) (rest := rest) (C := y.cls) (host := host) ⟨X.1, X.2.1, X.2.2.1, X.2.2.2.1, hts⟩ (hM H.size) ⟨va_cnB m hts (plGoodIn hcd) rfl rfl rfl (X.2.2.2.2.2.2.2.2.2.2.1 _ hlk) (hts _ hini) hmn hRR, hts _ hi, hts _ hs⟩ hpre rfl hn hl.1 hst (lv_room hW) d hcs
  refine va_calli hrun hS (fun q _ h => hF q h) hF (fun r u t H1 locs1 ht hvm hp hB hz hk hS1 => ?_)
  subst ht
  obtain ⟨hP2, hD2⟩ := va_join (wr := wr) (w1 := wf u) hP hD isC isR hC hRs hnd hdis hk hF hB.1 hB.2
  exact kk r u hp t.heap locs1 ls hl hP2 hD2 hS1

