set_option maxHeartbeats 4000000 in
set_option maxRecDepth 20000 in
theorem law_step {E : plE} (X : plX E code "ProtectedLineLaw" 4 (some .boolean) 11 412) (hA : plNew E) (hcs : 45 ≤ (eR E).cells ∧ 969 ≤ (eR E).slots) {b L : Nat} {xs : Nat → Int32} (hX : plSc E b L xs) (hL : L ≤ 2052) {R : plS → plS → Nat → Prop} (hS : plSim R) (a a2 : Nat → Nat) (c r : plS) (t : Nat) (htt : t < 512) (hR : R c r t) (h0 : vp_in (nI (4 + 4 * t)) L) (h1 : vp_in (nI (4 + 4 * t) + 1) L) (h2 : vp_in (nI (4 + 4 * t) + 2) L) (h3 : vp_in (nI (4 + 4 * t) + 3) L) (hgo : ∀ c' r' : plS, R c' r' (t + 1) → plJ E 4 (plwC (plg E) a c' ++ plwR (plg E) a2 r') 45 969 [(0, .ref b), (1, .ref (a 0)), (2, .ref (a2 0)), (3, .int (nI (4 + 4 * t)))] 617 []) : plJ E 4 (plwC (plg E) a c ++ plwR (plg E) a2 r) 45 969 [(0, .ref b), (1, .ref (a 0)), (2, .ref (a2 0)), (3, .int (nI (4 + 4 * t)))] 66 [] := by
  refine j_aload_n (pc := 66) X d_LAW_law_66 rfl 0 rfl ?_
  refine j_iload_n (pc := 67) X d_LAW_law_67 rfl 3 rfl ?_
  refine j_sld (pc := 68) X hX h0 d_LAW_law_68 ?_
  refine j_bipush (pc := 69) X d_LAW_law_69 bp_31 ?_
  refine j_iand (pc := 71) X d_LAW_law_71 ?_
  obtain ⟨j, hj, e⟩ := pk_andE (xs (plIx (nI (4 + 4 * t)))) (m := 31) 5 rfl
  rw [e]
  rcases (show j = 0 ∨ j = 1 ∨ j = 2 ∨ j = 3 ∨ j = 4 ∨ j = 5 ∨ j = 6 ∨ j = 7 ∨ j = 8 ∨ j = 9 ∨ j = 10 ∨ j = 11 ∨ j = 12 ∨ j = 13 ∨ j = 14 ∨ j = 15 ∨ j = 16 ∨ j = 17 ∨ j = 18 ∨ j = 19 ∨ j = 20 ∨ j = 21 ∨ j = 22 ∨ j = 23 ∨ j = 24 ∨ j = 25 ∨ j = 26 ∨ j = 27 ∨ j = 28 ∨ j = 29 ∨ j = 30 ∨ j = 31 by omega) with rfl | rfl | rfl | rfl | rfl | rfl | rfl | rfl | rfl | rfl | rfl | rfl | rfl | rfl | rfl | rfl | rfl | rfl | rfl | rfl | rfl | rfl | rfl | rfl | rfl | rfl | rfl | rfl | rfl | rfl | rfl | rfl
  · exact j_tableIn (pc := 72) (off := 92) (tgt := 164) X d_LAW_law_72 (by decide +kernel) (by decide +kernel) (by decide +kernel) rfl (law_send X hA hcs hX hS a a2 c r t htt hR h1 h2 h3 hgo)
  · exact j_tableIn (pc := 72) (off := 155) (tgt := 227) X d_LAW_law_72 (by decide +kernel) (by decide +kernel) (by decide +kernel) rfl (law_tick X hA hcs hX hS a a2 c r t htt hR h1 h2 h3 hgo)
  · exact j_tableIn (pc := 72) (off := 178) (tgt := 250) X d_LAW_law_72 (by decide +kernel) (by decide +kernel) (by decide +kernel) rfl (law_cut X hA hcs hX hS a a2 c r t htt hR h1 h2 h3 hgo)
  · exact j_tableIn (pc := 72) (off := 227) (tgt := 299) X d_LAW_law_72 (by decide +kernel) (by decide +kernel) (by decide +kernel) rfl (law_damage X hA hcs hX hS a a2 c r t htt hR h1 h2 h3 hgo)
  · exact j_tableIn (pc := 72) (off := 270) (tgt := 342) X d_LAW_law_72 (by decide +kernel) (by decide +kernel) (by decide +kernel) rfl (law_drift X hA hcs hX hS a a2 c r t htt hR h1 h2 h3 hgo)
  · exact j_tableIn (pc := 72) (off := 293) (tgt := 365) X d_LAW_law_72 (by decide +kernel) (by decide +kernel) (by decide +kernel) rfl (law_command X hA hcs hX hS a a2 c r t htt hR h1 h2 h3 hgo)
  · exact j_tableIn (pc := 72) (off := 316) (tgt := 388) X d_LAW_law_72 (by decide +kernel) (by decide +kernel) (by decide +kernel) rfl (law_waiting X hA hcs hX hS a a2 c r t htt hR h1 h2 h3 hgo)
  · exact j_tableIn (pc := 72) (off := 329) (tgt := 401) X d_LAW_law_72 (by decide +kernel) (by decide +kernel) (by decide +kernel) rfl (law_sent X hA hcs hX hS a a2 c r t htt hR h1 h2 h3 hgo)
  · exact j_tableIn (pc := 72) (off := 362) (tgt := 434) X d_LAW_law_72 (by decide +kernel) (by decide +kernel) (by decide +kernel) rfl (law_alignment X hA hcs hX hS a a2 c r t htt hR h1 h2 h3 hgo)
  · exact j_tableIn (pc := 72) (off := 385) (tgt := 457) X d_LAW_law_72 (by decide +kernel) (by decide +kernel) (by decide +kernel) rfl (law_errors X hA hcs hX hS a a2 c r t htt hR h1 h2 h3 hgo)
  · exact j_tableIn (pc := 72) (off := 408) (tgt := 480) X d_LAW_law_72 (by decide +kernel) (by decide +kernel) (by decide +kernel) rfl (law_request X hA hcs hX hS a a2 c r t htt hR h1 h2 h3 hgo)
  · exact j_tableIn (pc := 72) (off := 421) (tgt := 493) X d_LAW_law_72 (by decide +kernel) (by decide +kernel) (by decide +kernel) rfl (law_bridged X hA hcs hX hS a a2 c r t htt hR h1 h2 h3 hgo)
  · exact j_tableIn (pc := 72) (off := 434) (tgt := 506) X d_LAW_law_72 (by decide +kernel) (by decide +kernel) (by decide +kernel) rfl (law_selected X hA hcs hX hS a a2 c r t htt hR h1 h2 h3 hgo)
  · exact j_tableIn (pc := 72) (off := 447) (tgt := 519) X d_LAW_law_72 (by decide +kernel) (by decide +kernel) (by decide +kernel) rfl (law_pointer X hA hcs hX hS a a2 c r t htt hR h1 h2 h3 hgo)
  · exact j_tableIn (pc := 72) (off := 460) (tgt := 532) X d_LAW_law_72 (by decide +kernel) (by decide +kernel) (by decide +kernel) rfl (law_pathErrors X hA hcs hX hS a a2 c r t htt hR h1 h2 h3 hgo)
  · exact j_tableIn (pc := 72) (off := 473) (tgt := 545) X d_LAW_law_72 (by decide +kernel) (by decide +kernel) (by decide +kernel) rfl (law_sync X hA hcs hX hS a a2 c r t htt hR h1 h2 h3 hgo)
  · exact j_tableIn (pc := 72) (off := 486) (tgt := 558) X d_LAW_law_72 (by decide +kernel) (by decide +kernel) (by decide +kernel) rfl (law_delivered X hA hcs hX hS a a2 c r t htt hR h1 h2 h3 hgo)
  · exact j_tableIn (pc := 72) (off := 499) (tgt := 571) X d_LAW_law_72 (by decide +kernel) (by decide +kernel) (by decide +kernel) rfl (law_dropped X hA hcs hX hS a a2 c r t htt hR h1 h2 h3 hgo)
  · exact j_tableIn (pc := 72) (off := 512) (tgt := 584) X d_LAW_law_72 (by decide +kernel) (by decide +kernel) (by decide +kernel) rfl (law_got X hA hcs hX hS a a2 c r t htt hR h1 h2 h3 hgo)
  · exact j_tableOut (pc := 72) (tgt := 617) X d_LAW_law_72 (Or.inr (by decide +kernel)) rfl (hgo c r (hS.2.2.1 c r t hR))
  · exact j_tableOut (pc := 72) (tgt := 617) X d_LAW_law_72 (Or.inr (by decide +kernel)) rfl (hgo c r (hS.2.2.1 c r t hR))
  · exact j_tableOut (pc := 72) (tgt := 617) X d_LAW_law_72 (Or.inr (by decide +kernel)) rfl (hgo c r (hS.2.2.1 c r t hR))
  · exact j_tableOut (pc := 72) (tgt := 617) X d_LAW_law_72 (Or.inr (by decide +kernel)) rfl (hgo c r (hS.2.2.1 c r t hR))
  · exact j_tableOut (pc := 72) (tgt := 617) X d_LAW_law_72 (Or.inr (by decide +kernel)) rfl (hgo c r (hS.2.2.1 c r t hR))
  · exact j_tableOut (pc := 72) (tgt := 617) X d_LAW_law_72 (Or.inr (by decide +kernel)) rfl (hgo c r (hS.2.2.1 c r t hR))
  · exact j_tableOut (pc := 72) (tgt := 617) X d_LAW_law_72 (Or.inr (by decide +kernel)) rfl (hgo c r (hS.2.2.1 c r t hR))
  · exact j_tableOut (pc := 72) (tgt := 617) X d_LAW_law_72 (Or.inr (by decide +kernel)) rfl (hgo c r (hS.2.2.1 c r t hR))
  · exact j_tableOut (pc := 72) (tgt := 617) X d_LAW_law_72 (Or.inr (by decide +kernel)) rfl (hgo c r (hS.2.2.1 c r t hR))
  · exact j_tableOut (pc := 72) (tgt := 617) X d_LAW_law_72 (Or.inr (by decide +kernel)) rfl (hgo c r (hS.2.2.1 c r t hR))
  · exact j_tableOut (pc := 72) (tgt := 617) X d_LAW_law_72 (Or.inr (by decide +kernel)) rfl (hgo c r (hS.2.2.1 c r t hR))
  · exact j_tableOut (pc := 72) (tgt := 617) X d_LAW_law_72 (Or.inr (by decide +kernel)) rfl (hgo c r (hS.2.2.1 c r t hR))
  · exact j_tableOut (pc := 72) (tgt := 617) X d_LAW_law_72 (Or.inr (by decide +kernel)) rfl (hgo c r (hS.2.2.1 c r t hR))
theorem plLe {L t : Nat} (hL : L ≤ 2052) (ht : t ≤ 513) (h : ¬ nI L - 4 < nI (4 + 4 * t)) : 4 + 4 * t + 4 ≤ L := by
  rw [Int32.lt_iff_toInt_lt, show (4 : Int32) = nI 4 from rfl, pk_sub_toInt (by omega) (by omega), nI_toInt (by omega)] at h
  omega
set_option maxRecDepth 20000 in
theorem law_loop {E : plE} (X : plX E code "ProtectedLineLaw" 4 (some .boolean) 11 412) (hA : plNew E) (hcs : 45 ≤ (eR E).cells ∧ 969 ≤ (eR E).slots) {b L : Nat} {xs : Nat → Int32} (hX : plSc E b L xs) (hL : L ≤ 2052) {R : plS → plS → Nat → Prop} (hS : plSim R) (a a2 : Nat → Nat) (hend : ∀ (w : va_W) (lv : List (Nat × Value)), plJ E 4 w 45 969 lv 623 []) (N : Nat) : ∀ (t : Nat) (c r : plS), t + N = 513 → R c r t → plJ E 4 (plwC (plg E) a c ++ plwR (plg E) a2 r) 45 969 [(0, .ref b), (1, .ref (a 0)), (2, .ref (a2 0)), (3, .int (nI (4 + 4 * t)))] 58 [] := by
  induction N with
  | zero =>
    intro t c r hN hR
    refine j_iload_n (pc := 58) X d_LAW_law_58 rfl 3 rfl ?_
    refine j_aload_n (pc := 59) X d_LAW_law_59 rfl 0 rfl ?_
    refine j_slen (pc := 60) X hX d_LAW_law_60 ?_
    refine j_iconst (pc := 61) X d_LAW_law_61 ic_4 ?_
    refine j_isub (pc := 62) X d_LAW_law_62 ?_
    refine j_icmp_gt (pc := 63) (tgt := 623) X d_LAW_law_63 rfl (fun _ => hend _ _) (fun hc => ?_)
    have := plLe hL (by omega) hc
    omega
  | succ N ih =>
    intro t c r hN hR
    refine j_iload_n (pc := 58) X d_LAW_law_58 rfl 3 rfl ?_
    refine j_aload_n (pc := 59) X d_LAW_law_59 rfl 0 rfl ?_
    refine j_slen (pc := 60) X hX d_LAW_law_60 ?_
    refine j_iconst (pc := 61) X d_LAW_law_61 ic_4 ?_
    refine j_isub (pc := 62) X d_LAW_law_62 ?_
    refine j_icmp_gt (pc := 63) (tgt := 623) X d_LAW_law_63 rfl (fun _ => hend _ _) (fun hc => ?_)
    have hl := plLe hL (by omega) hc
    have e1 : nI (4 + 4 * t) + 1 = nI (4 + 4 * t + 1) := by rw [show (1 : Int32) = nI 1 from rfl, nI_add]
    have e2 : nI (4 + 4 * t) + 2 = nI (4 + 4 * t + 2) := by rw [show (2 : Int32) = nI 2 from rfl, nI_add]
    have e3 : nI (4 + 4 * t) + 3 = nI (4 + 4 * t + 3) := by rw [show (3 : Int32) = nI 3 from rfl, nI_add]
    have e4 : nI (4 + 4 * t) + 4 = nI (4 + 4 * (t + 1)) := by rw [show (4 : Int32) = nI 4 from rfl, nI_add]; rfl
    refine law_step X hA hcs hX hL hS a a2 c r t (by omega) hR (vp_in_nI (by omega) (by omega)) (by rw [e1]; exact vp_in_nI (by omega) (by omega)) (by rw [e2]; exact vp_in_nI (by omega) (by omega)) (by rw [e3]; exact vp_in_nI (by omega) (by omega)) (fun c' r' h => ?_)
    refine j_iinc (pc := 617) X d_LAW_law_617 3 rfl ic_4 (lv' := [(3, .int (nI (4 + 4 * t) + 4)), (0, .ref b), (1, .ref (a 0)), (2, .ref (a2 0))]) (Nat.le_of_ble_eq_true rfl) rfl ?_
    refine j_goto (pc := 620) (tgt := 58) X d_LAW_law_620 rfl ?_
    rw [e4]
    refine j_sub [1, 2, 3, 0] (lv' := [(0, .ref b), (1, .ref (a 0)), (2, .ref (a2 0)), (3, .int (nI (4 + 4 * (t + 1))))]) rfl ?_
    exact ih (t + 1) c' r' (by omega) h
set_option maxHeartbeats 4000000 in
set_option maxRecDepth 100000 in
theorem law_begin {E : plE} (X : plX E code "ProtectedLineLaw" 4 (some .boolean) 11 412) (hA : plNew E) (hcs : 45 ≤ (eR E).cells ∧ 969 ≤ (eR E).slots) {b L : Nat} {xs : Nat → Int32} (hX : plSc E b L xs) (hL : L ≤ 2052) {R : plS → plS → Nat → Prop} (hS : plSim R) (hend : ∀ (w : va_W) (lv : List (Nat × Value)), plJ E 4 w 45 969 lv 623 []) : plJ E 4 [] 0 0 [(0, .ref b)] 0 [] := by
  refine j_new (pc := 0) X hA (ci := 0) (T := F_PL) (N := 8) (fs := [.null, .null, .null, .null, .null, .null, .null, .null]) (ty := t_PL) (w2 := fun x => [(x, .inr (0, [.null, .null, .null, .null, .null, .null, .null, .null]))]) in_PL rfl t_PL_ok df_PL nl_LAW_7 ⟨Nat.le_trans (Nat.le_of_ble_eq_true rfl) hcs.1, Nat.le_trans (Nat.le_of_ble_eq_true rfl) hcs.2⟩ (fun _ => rfl) d_LAW_law_0 (fun q => ?_)
  refine j_dup (pc := 3) X d_LAW_law_3 rfl ?_
  refine j_aload_n (pc := 4) X d_LAW_law_4 rfl 0 rfl ?_
  refine j_iconst (pc := 5) X d_LAW_law_5 ic_0 ?_
  refine j_cell (pc := 6) X hX (by omega) (by decide) ml_LAW_9 (Nat.le_of_ble_eq_true rfl) (Nat.le_of_ble_eq_true rfl) (Nat.le_of_ble_eq_true rfl) ⟨Nat.le_trans (Nat.le_of_ble_eq_true rfl) hcs.1, Nat.le_trans (Nat.le_of_ble_eq_true rfl) hcs.2⟩ d_LAW_law_6 ?_
  refine j_aload_n (pc := 9) X d_LAW_law_9 rfl 0 rfl ?_
  refine j_iconst (pc := 10) X d_LAW_law_10 ic_1 ?_
  refine j_cell (pc := 11) X hX (by omega) (by decide) ml_LAW_9 (Nat.le_of_ble_eq_true rfl) (Nat.le_of_ble_eq_true rfl) (Nat.le_of_ble_eq_true rfl) ⟨Nat.le_trans (Nat.le_of_ble_eq_true rfl) hcs.1, Nat.le_trans (Nat.le_of_ble_eq_true rfl) hcs.2⟩ d_LAW_law_11 ?_
  refine j_aload_n (pc := 14) X d_LAW_law_14 rfl 0 rfl ?_
  refine j_iconst (pc := 15) X d_LAW_law_15 ic_2 ?_
  refine j_cell (pc := 16) X hX (by omega) (by decide) ml_LAW_9 (Nat.le_of_ble_eq_true rfl) (Nat.le_of_ble_eq_true rfl) (Nat.le_of_ble_eq_true rfl) ⟨Nat.le_trans (Nat.le_of_ble_eq_true rfl) hcs.1, Nat.le_trans (Nat.le_of_ble_eq_true rfl) hcs.2⟩ d_LAW_law_16 ?_
  refine j_aload_n (pc := 19) X d_LAW_law_19 rfl 0 rfl ?_
  refine j_iconst (pc := 20) X d_LAW_law_20 ic_3 ?_
  refine j_cell (pc := 21) X hX (by omega) (by decide) ml_LAW_9 (Nat.le_of_ble_eq_true rfl) (Nat.le_of_ble_eq_true rfl) (Nat.le_of_ble_eq_true rfl) ⟨Nat.le_trans (Nat.le_of_ble_eq_true rfl) hcs.1, Nat.le_trans (Nat.le_of_ble_eq_true rfl) hcs.2⟩ d_LAW_law_21 ?_
  refine j_callI (pc := 24) (As := [.int (plCell L xs 0), .int (plCell L xs 1), .int (plCell L xs 2), .int (plCell L xs 3)]) (rest := [.ref q]) (wr := []) (w2 := fun u => plwC (plg E) (fun i => (q :: u).getD i 0) (plC0 (plCell L xs 0) (plCell L xs 1) (plCell L xs 2) (plCell L xs 3))) X hA 0 [] (c_PL_init (plg E) q (plCell L xs 0) (plCell L xs 1) (plCell L xs 2) (plCell L xs 3)) ci_LAW_15 ⟨Nat.le_of_ble_eq_true rfl, Nat.le_of_ble_eq_true rfl⟩ ⟨Nat.le_trans (Nat.le_of_ble_eq_true rfl) hcs.1, Nat.le_trans (Nat.le_of_ble_eq_true rfl) hcs.2⟩ rfl rfl rfl (by decide) (fun u => plC0_w (plg E) q (plCell L xs 0) (plCell L xs 1) (plCell L xs 2) (plCell L xs 3) u) rfl rfl (Nat.le_of_ble_eq_true rfl) d_LAW_law_24 (fun u hu => ?_)
  refine j_astore_n (pc := 27) X d_LAW_law_27 rfl (lv' := [(1, .ref q), (0, .ref b)]) (Nat.le_of_ble_eq_true rfl) rfl ?_
  refine j_new (pc := 28) X hA (ci := 10) (T := F_RM) (N := 59) (fs := [.null, .int 0, .int 0, .int 0, .int 0, .null, .null, .int 0, .int 0, .int 0, .int 0, .int 0, .int 0, .int 0, .int 0, .int 0, .int 0, .int 0, .int 0, .int 0, .null, .null, .null, .null, .null, .null, .null, .null, .null, .null, .null, .null, .null, .int 0, .int 0, .int 0, .int 0, .int 0, .int 0, .int 0, .int 0, .int 0, .int 0, .int 0, .int 0, .int 0, .int 0, .int 0, .int 0, .int 0, .int 0, .int 0, .int 0, .int 0, .int 0, .null, .int 0, .int 0, .null]) (ty := t_RM) (w2 := fun x => plwC (plg E) (fun i => (q :: u).getD i 0) (plC0 (plCell L xs 0) (plCell L xs 1) (plCell L xs 2) (plCell L xs 3)) ++ [(x, .inr (10, [.null, .int 0, .int 0, .int 0, .int 0, .null, .null, .int 0, .int 0, .int 0, .int 0, .int 0, .int 0, .int 0, .int 0, .int 0, .int 0, .int 0, .int 0, .int 0, .null, .null, .null, .null, .null, .null, .null, .null, .null, .null, .null, .null, .null, .int 0, .int 0, .int 0, .int 0, .int 0, .int 0, .int 0, .int 0, .int 0, .int 0, .int 0, .int 0, .int 0, .int 0, .int 0, .int 0, .int 0, .int 0, .int 0, .int 0, .int 0, .int 0, .null, .int 0, .int 0, .null]))]) in_RM rfl t_RM_ok df_RM nl_LAW_18 ⟨Nat.le_trans (Nat.le_of_ble_eq_true rfl) hcs.1, Nat.le_trans (Nat.le_of_ble_eq_true rfl) hcs.2⟩ (fun _ => rfl) d_LAW_law_28 (fun q2 => ?_)
  refine j_dup (pc := 31) X d_LAW_law_31 rfl ?_
  refine j_aload_n (pc := 32) X d_LAW_law_32 rfl 1 rfl ?_
  refine j_iconst (pc := 33) X d_LAW_law_33 ic_0 ?_
  refine j_cell (pc := 34) X hX (by omega) (by decide) ml_LAW_9 (Nat.le_of_ble_eq_true rfl) (Nat.le_of_ble_eq_true rfl) (Nat.le_of_ble_eq_true rfl) ⟨Nat.le_trans (Nat.le_of_ble_eq_true rfl) hcs.1, Nat.le_trans (Nat.le_of_ble_eq_true rfl) hcs.2⟩ d_LAW_law_34 ?_
  refine j_aload_n (pc := 37) X d_LAW_law_37 rfl 1 rfl ?_
  refine j_iconst (pc := 38) X d_LAW_law_38 ic_1 ?_
  refine j_cell (pc := 39) X hX (by omega) (by decide) ml_LAW_9 (Nat.le_of_ble_eq_true rfl) (Nat.le_of_ble_eq_true rfl) (Nat.le_of_ble_eq_true rfl) ⟨Nat.le_trans (Nat.le_of_ble_eq_true rfl) hcs.1, Nat.le_trans (Nat.le_of_ble_eq_true rfl) hcs.2⟩ d_LAW_law_39 ?_
  refine j_aload_n (pc := 42) X d_LAW_law_42 rfl 1 rfl ?_
  refine j_iconst (pc := 43) X d_LAW_law_43 ic_2 ?_
  refine j_cell (pc := 44) X hX (by omega) (by decide) ml_LAW_9 (Nat.le_of_ble_eq_true rfl) (Nat.le_of_ble_eq_true rfl) (Nat.le_of_ble_eq_true rfl) ⟨Nat.le_trans (Nat.le_of_ble_eq_true rfl) hcs.1, Nat.le_trans (Nat.le_of_ble_eq_true rfl) hcs.2⟩ d_LAW_law_44 ?_
  refine j_aload_n (pc := 47) X d_LAW_law_47 rfl 1 rfl ?_
  refine j_iconst (pc := 48) X d_LAW_law_48 ic_3 ?_
  refine j_cell (pc := 49) X hX (by omega) (by decide) ml_LAW_9 (Nat.le_of_ble_eq_true rfl) (Nat.le_of_ble_eq_true rfl) (Nat.le_of_ble_eq_true rfl) ⟨Nat.le_trans (Nat.le_of_ble_eq_true rfl) hcs.1, Nat.le_trans (Nat.le_of_ble_eq_true rfl) hcs.2⟩ d_LAW_law_49 ?_
  refine j_callI (pc := 52) (As := [.int (plCell L xs 0), .int (plCell L xs 1), .int (plCell L xs 2), .int (plCell L xs 3)]) (rest := [.ref q2]) (wr := plwC (plg E) (fun i => (q :: u).getD i 0) (plC0 (plCell L xs 0) (plCell L xs 1) (plCell L xs 2) (plCell L xs 3))) (w2 := fun u2 => plwC (plg E) (fun i => (q :: u).getD i 0) (plC0 (plCell L xs 0) (plCell L xs 1) (plCell L xs 2) (plCell L xs 3)) ++ plwR (plg E) (fun i => (q2 :: u2).getD i 0) (K_RM_init_176 plR0 (plCell L xs 0) (plCell L xs 1) (plCell L xs 2) (plCell L xs 3))) X hA 26 [0, 1, 2, 3, 4, 5, 6, 7, 8, 9, 10, 11, 12, 13, 14, 15, 16, 17, 18, 19, 20, 21, 22, 23, 24, 25] (c_RM_init (plg E) q2 (plCell L xs 0) (plCell L xs 1) (plCell L xs 2) (plCell L xs 3) (hS.1 (plCell L xs 0) (plCell L xs 1) (plCell L xs 2) (plCell L xs 3))) ci_LAW_20 ⟨Nat.le_of_ble_eq_true rfl, Nat.le_of_ble_eq_true rfl⟩ ⟨Nat.le_trans (Nat.le_of_ble_eq_true rfl) hcs.1, Nat.le_trans (Nat.le_of_ble_eq_true rfl) hcs.2⟩ rfl rfl rfl (by decide) (fun u2 => rfl) rfl rfl (Nat.le_of_ble_eq_true rfl) d_LAW_law_52 (fun u2 hu2 => ?_)
  refine j_astore_n (pc := 55) X d_LAW_law_55 rfl (lv' := [(2, .ref q2), (1, .ref q), (0, .ref b)]) (Nat.le_of_ble_eq_true rfl) rfl ?_
  refine j_iconst (pc := 56) X d_LAW_law_56 ic_4 ?_
  refine j_istore_n (pc := 57) X d_LAW_law_57 rfl (lv' := [(3, .int 4), (2, .ref q2), (1, .ref q), (0, .ref b)]) (Nat.le_of_ble_eq_true rfl) rfl ?_
  refine j_sub [3, 2, 1, 0] (lv' := [(0, .ref b), (1, .ref q), (2, .ref q2), (3, .int 4)]) rfl ?_
  exact law_loop X hA hcs hX hL hS (fun i => (q :: u).getD i 0) (fun i => (q2 :: u2).getD i 0) hend 513 0 _ _ rfl (hS.2.1 (plCell L xs 0) (plCell L xs 1) (plCell L xs 2) (plCell L xs 3))

