theorem d_RM_bridged_0 : decode b_RM_bridged 0 = .ok (.aload_n 0, 1) := by decide +kernel
theorem d_RM_bridged_1 : decode b_RM_bridged 1 = .ok (.getfield 144, 3) := by decide +kernel
theorem d_RM_bridged_4 : decode b_RM_bridged 4 = .ok (.ireturn, 1) := by decide +kernel
def K_RM_bridged (st : plS) : Int32 := st 0 16
def P_RM_bridged (st : plS) : Prop := plB (st 0 16)
set_option maxRecDepth 20000 in
theorem j_RM_bridged {E : plE} (X : plX E b_RM_bridged "ProtectedLineModel" 1 (some .boolean) 0 0) (a : Nat → Nat) (T : Int32) (st : plS) (hQ : plRp E (plwR (plg E) a) st T)  (hs : P_RM_bridged st) (hk : T = K_RM_bridged st) : plJ E 1 (plwR (plg E) a st) 0 0 [(0, .ref (a 0))] 0 [] := by
  unfold P_RM_bridged at hs
  unfold K_RM_bridged at hk
  refine j_aload_n (pc := 0) X d_RM_bridged_0 rfl 0 rfl ?_
  refine get_RM_bridge (pc := 1) X fl_RM_144 d_RM_bridged_1 ?_
  exact j_retzp (pc := 4) X hQ d_RM_bridged_4 hs hk
set_option maxRecDepth 20000 in
theorem c_RM_bridged (g : plG) (a : Nat → Nat) (st : plS)  (hs : P_RM_bridged st ) : plMp g y_RM_bridged b_RM_bridged 1 (some .boolean) 0 0 [.ref (a 0)] (plwR g a) st (K_RM_bridged st ) := by
  refine plMp.of (own := "ProtectedLineModel") (lv := [(0, .ref (a 0))]) rfl rfl (Nat.le_of_ble_eq_true rfl) rfl (fun E hE X hQ => ?_)
  subst hE
  exact j_RM_bridged X a _ st hQ  hs rfl
theorem d_RM_selected_0 : decode b_RM_selected 0 = .ok (.aload_n 0, 1) := by decide +kernel
theorem d_RM_selected_1 : decode b_RM_selected 1 = .ok (.getfield 135, 3) := by decide +kernel
theorem d_RM_selected_4 : decode b_RM_selected 4 = .ok (.ireturn, 1) := by decide +kernel
def K_RM_selected (st : plS) : Int32 := st 0 40
set_option maxRecDepth 20000 in
theorem j_RM_selected {E : plE} (X : plX E b_RM_selected "ProtectedLineModel" 1 (some .int) 0 0) (a : Nat → Nat) (T : Int32) (st : plS) (hQ : plRp E (plwR (plg E) a) st T)  (hk : T = K_RM_selected st) : plJ E 1 (plwR (plg E) a st) 0 0 [(0, .ref (a 0))] 0 [] := by
  unfold K_RM_selected at hk
  refine j_aload_n (pc := 0) X d_RM_selected_0 rfl 0 rfl ?_
  refine get_RM_selected (pc := 1) X fl_RM_135 d_RM_selected_1 ?_
  exact j_retip (pc := 4) X hQ d_RM_selected_4 hk
set_option maxRecDepth 20000 in
theorem c_RM_selected (g : plG) (a : Nat → Nat) (st : plS)  : plMp g y_RM_selected b_RM_selected 1 (some .int) 0 0 [.ref (a 0)] (plwR g a) st (K_RM_selected st ) := by
  refine plMp.of (own := "ProtectedLineModel") (lv := [(0, .ref (a 0))]) rfl rfl (Nat.le_of_ble_eq_true rfl) rfl (fun E hE X hQ => ?_)
  subst hE
  exact j_RM_selected X a _ st hQ  rfl
theorem d_RM_pointer_0 : decode b_RM_pointer 0 = .ok (.aload_n 0, 1) := by decide +kernel
theorem d_RM_pointer_1 : decode b_RM_pointer 1 = .ok (.getfield 72, 3) := by decide +kernel
theorem d_RM_pointer_4 : decode b_RM_pointer 4 = .ok (.ireturn, 1) := by decide +kernel
def K_RM_pointer (st : plS) : Int32 := st 0 41
set_option maxRecDepth 20000 in
theorem j_RM_pointer {E : plE} (X : plX E b_RM_pointer "ProtectedLineModel" 1 (some .int) 0 0) (a : Nat → Nat) (T : Int32) (st : plS) (hQ : plRp E (plwR (plg E) a) st T)  (hk : T = K_RM_pointer st) : plJ E 1 (plwR (plg E) a st) 0 0 [(0, .ref (a 0))] 0 [] := by
  unfold K_RM_pointer at hk
  refine j_aload_n (pc := 0) X d_RM_pointer_0 rfl 0 rfl ?_
  refine get_RM_pointer (pc := 1) X fl_RM_72 d_RM_pointer_1 ?_
  exact j_retip (pc := 4) X hQ d_RM_pointer_4 hk
set_option maxRecDepth 20000 in
theorem c_RM_pointer (g : plG) (a : Nat → Nat) (st : plS)  : plMp g y_RM_pointer b_RM_pointer 1 (some .int) 0 0 [.ref (a 0)] (plwR g a) st (K_RM_pointer st ) := by
  refine plMp.of (own := "ProtectedLineModel") (lv := [(0, .ref (a 0))]) rfl rfl (Nat.le_of_ble_eq_true rfl) rfl (fun E hE X hQ => ?_)
  subst hE
  exact j_RM_pointer X a _ st hQ  rfl
theorem d_RM_pathErrors_0 : decode b_RM_pathErrors 0 = .ok (.aload_n 0, 1) := by decide +kernel
theorem d_RM_pathErrors_1 : decode b_RM_pathErrors 1 = .ok (.getfield 249, 3) := by decide +kernel
theorem d_RM_pathErrors_4 : decode b_RM_pathErrors 4 = .ok (.ireturn, 1) := by decide +kernel
def K_RM_pathErrors (st : plS) : Int32 := st 0 48
set_option maxRecDepth 20000 in
theorem j_RM_pathErrors {E : plE} (X : plX E b_RM_pathErrors "ProtectedLineModel" 1 (some .int) 0 0) (a : Nat → Nat) (T : Int32) (st : plS) (hQ : plRp E (plwR (plg E) a) st T)  (hk : T = K_RM_pathErrors st) : plJ E 1 (plwR (plg E) a st) 0 0 [(0, .ref (a 0))] 0 [] := by
  unfold K_RM_pathErrors at hk
  refine j_aload_n (pc := 0) X d_RM_pathErrors_0 rfl 0 rfl ?_
  refine get_RM_pathErrors (pc := 1) X fl_RM_249 d_RM_pathErrors_1 ?_
  exact j_retip (pc := 4) X hQ d_RM_pathErrors_4 hk
set_option maxRecDepth 20000 in
theorem c_RM_pathErrors (g : plG) (a : Nat → Nat) (st : plS)  : plMp g y_RM_pathErrors b_RM_pathErrors 1 (some .int) 0 0 [.ref (a 0)] (plwR g a) st (K_RM_pathErrors st ) := by
  refine plMp.of (own := "ProtectedLineModel") (lv := [(0, .ref (a 0))]) rfl rfl (Nat.le_of_ble_eq_true rfl) rfl (fun E hE X hQ => ?_)
  subst hE
  exact j_RM_pathErrors X a _ st hQ  rfl
theorem d_RM_sync_0 : decode b_RM_sync 0 = .ok (.aload_n 0, 1) := by decide +kernel
theorem d_RM_sync_1 : decode b_RM_sync 1 = .ok (.getfield 252, 3) := by decide +kernel
theorem d_RM_sync_4 : decode b_RM_sync 4 = .ok (.ireturn, 1) := by decide +kernel
def K_RM_sync (st : plS) : Int32 := st 0 49
set_option maxRecDepth 20000 in
theorem j_RM_sync {E : plE} (X : plX E b_RM_sync "ProtectedLineModel" 1 (some .int) 0 0) (a : Nat → Nat) (T : Int32) (st : plS) (hQ : plRp E (plwR (plg E) a) st T)  (hk : T = K_RM_sync st) : plJ E 1 (plwR (plg E) a st) 0 0 [(0, .ref (a 0))] 0 [] := by
  unfold K_RM_sync at hk
  refine j_aload_n (pc := 0) X d_RM_sync_0 rfl 0 rfl ?_
  refine get_RM_sync (pc := 1) X fl_RM_252 d_RM_sync_1 ?_
  exact j_retip (pc := 4) X hQ d_RM_sync_4 hk
set_option maxRecDepth 20000 in
theorem c_RM_sync (g : plG) (a : Nat → Nat) (st : plS)  : plMp g y_RM_sync b_RM_sync 1 (some .int) 0 0 [.ref (a 0)] (plwR g a) st (K_RM_sync st ) := by
  refine plMp.of (own := "ProtectedLineModel") (lv := [(0, .ref (a 0))]) rfl rfl (Nat.le_of_ble_eq_true rfl) rfl (fun E hE X hQ => ?_)
  subst hE
  exact j_RM_sync X a _ st hQ  rfl
theorem d_RM_delivered_0 : decode b_RM_delivered 0 = .ok (.aload_n 0, 1) := by decide +kernel
theorem d_RM_delivered_1 : decode b_RM_delivered 1 = .ok (.getfield 289, 3) := by decide +kernel
theorem d_RM_delivered_4 : decode b_RM_delivered 4 = .ok (.ireturn, 1) := by decide +kernel
def K_RM_delivered (st : plS) : Int32 := st 0 56
set_option maxRecDepth 20000 in
theorem j_RM_delivered {E : plE} (X : plX E b_RM_delivered "ProtectedLineModel" 1 (some .int) 0 0) (a : Nat → Nat) (T : Int32) (st : plS) (hQ : plRp E (plwR (plg E) a) st T)  (hk : T = K_RM_delivered st) : plJ E 1 (plwR (plg E) a st) 0 0 [(0, .ref (a 0))] 0 [] := by
  unfold K_RM_delivered at hk
  refine j_aload_n (pc := 0) X d_RM_delivered_0 rfl 0 rfl ?_
  refine get_RM_delivered (pc := 1) X fl_RM_289 d_RM_delivered_1 ?_
  exact j_retip (pc := 4) X hQ d_RM_delivered_4 hk
set_option maxRecDepth 20000 in
theorem c_RM_delivered (g : plG) (a : Nat → Nat) (st : plS)  : plMp g y_RM_delivered b_RM_delivered 1 (some .int) 0 0 [.ref (a 0)] (plwR g a) st (K_RM_delivered st ) := by
  refine plMp.of (own := "ProtectedLineModel") (lv := [(0, .ref (a 0))]) rfl rfl (Nat.le_of_ble_eq_true rfl) rfl (fun E hE X hQ => ?_)
  subst hE
  exact j_RM_delivered X a _ st hQ  rfl
theorem d_RM_dropped_0 : decode b_RM_dropped 0 = .ok (.aload_n 0, 1) := by decide +kernel
theorem d_RM_dropped_1 : decode b_RM_dropped 1 = .ok (.getfield 286, 3) := by decide +kernel
theorem d_RM_dropped_4 : decode b_RM_dropped 4 = .ok (.ireturn, 1) := by decide +kernel
def K_RM_dropped (st : plS) : Int32 := st 0 57
set_option maxRecDepth 20000 in
theorem j_RM_dropped {E : plE} (X : plX E b_RM_dropped "ProtectedLineModel" 1 (some .int) 0 0) (a : Nat → Nat) (T : Int32) (st : plS) (hQ : plRp E (plwR (plg E) a) st T)  (hk : T = K_RM_dropped st) : plJ E 1 (plwR (plg E) a st) 0 0 [(0, .ref (a 0))] 0 [] := by
  unfold K_RM_dropped at hk
  refine j_aload_n (pc := 0) X d_RM_dropped_0 rfl 0 rfl ?_
  refine get_RM_dropped (pc := 1) X fl_RM_286 d_RM_dropped_1 ?_
  exact j_retip (pc := 4) X hQ d_RM_dropped_4 hk
set_option maxRecDepth 20000 in
theorem c_RM_dropped (g : plG) (a : Nat → Nat) (st : plS)  : plMp g y_RM_dropped b_RM_dropped 1 (some .int) 0 0 [.ref (a 0)] (plwR g a) st (K_RM_dropped st ) := by
  refine plMp.of (own := "ProtectedLineModel") (lv := [(0, .ref (a 0))]) rfl rfl (Nat.le_of_ble_eq_true rfl) rfl (fun E hE X hQ => ?_)
  subst hE
  exact j_RM_dropped X a _ st hQ  rfl
theorem d_RM_got_0 : decode b_RM_got 0 = .ok (.iload_n 1, 1) := by decide +kernel
theorem d_RM_got_1 : decode b_RM_got 1 = .ok (.ifCond .lt (35), 3) := by decide +kernel
theorem d_RM_got_4 : decode b_RM_got 4 = .ok (.iload_n 1, 1) := by decide +kernel
theorem d_RM_got_5 : decode b_RM_got 5 = .ok (.bipush (7), 2) := by decide +kernel
theorem d_RM_got_7 : decode b_RM_got 7 = .ok (.if_icmp .gt (29), 3) := by decide +kernel
theorem d_RM_got_10 : decode b_RM_got 10 = .ok (.iload_n 1, 1) := by decide +kernel
theorem d_RM_got_11 : decode b_RM_got 11 = .ok (.aload_n 0, 1) := by decide +kernel
theorem d_RM_got_12 : decode b_RM_got 12 = .ok (.getfield 289, 3) := by decide +kernel
theorem d_RM_got_15 : decode b_RM_got 15 = .ok (.if_icmp .ge (21), 3) := by decide +kernel
theorem d_RM_got_18 : decode b_RM_got 18 = .ok (.iload_n 2, 1) := by decide +kernel
theorem d_RM_got_19 : decode b_RM_got 19 = .ok (.iconst (-1), 1) := by decide +kernel
theorem d_RM_got_20 : decode b_RM_got 20 = .ok (.if_icmp .lt (16), 3) := by decide +kernel
theorem d_RM_got_23 : decode b_RM_got 23 = .ok (.iload_n 2, 1) := by decide +kernel
theorem d_RM_got_24 : decode b_RM_got 24 = .ok (.aload_n 0, 1) := by decide +kernel
theorem d_RM_got_25 : decode b_RM_got 25 = .ok (.getfield 84, 3) := by decide +kernel
theorem d_RM_got_28 : decode b_RM_got 28 = .ok (.bipush (7), 2) := by decide +kernel
theorem d_RM_got_30 : decode b_RM_got 30 = .ok (.iload_n 1, 1) := by decide +kernel
theorem d_RM_got_31 : decode b_RM_got 31 = .ok (.imul, 1) := by decide +kernel
theorem d_RM_got_32 : decode b_RM_got 32 = .ok (.iaload, 1) := by decide +kernel
theorem d_RM_got_33 : decode b_RM_got 33 = .ok (.if_icmp .lt (5), 3) := by decide +kernel
theorem d_RM_got_36 : decode b_RM_got 36 = .ok (.iconst (-1), 1) := by decide +kernel
theorem d_RM_got_37 : decode b_RM_got 37 = .ok (.ireturn, 1) := by decide +kernel
theorem d_RM_got_38 : decode b_RM_got 38 = .ok (.aload_n 0, 1) := by decide +kernel
theorem d_RM_got_39 : decode b_RM_got 39 = .ok (.getfield 84, 3) := by decide +kernel
theorem d_RM_got_42 : decode b_RM_got 42 = .ok (.bipush (7), 2) := by decide +kernel
theorem d_RM_got_44 : decode b_RM_got 44 = .ok (.iload_n 1, 1) := by decide +kernel
theorem d_RM_got_45 : decode b_RM_got 45 = .ok (.imul, 1) := by decide +kernel
theorem d_RM_got_46 : decode b_RM_got 46 = .ok (.iconst 1, 1) := by decide +kernel
theorem d_RM_got_47 : decode b_RM_got 47 = .ok (.iadd, 1) := by decide +kernel
theorem d_RM_got_48 : decode b_RM_got 48 = .ok (.iload_n 2, 1) := by decide +kernel
theorem d_RM_got_49 : decode b_RM_got 49 = .ok (.iadd, 1) := by decide +kernel
theorem d_RM_got_50 : decode b_RM_got 50 = .ok (.iaload, 1) := by decide +kernel
theorem d_RM_got_51 : decode b_RM_got 51 = .ok (.ireturn, 1) := by decide +kernel
def K_RM_got_36 (st : plS) : Int32 := (-1)
set_option maxRecDepth 20000 in
theorem j_RM_got_36 {E : plE} (X : plX E b_RM_got "ProtectedLineModel" 3 (some .int) 0 0) (a : Nat → Nat) (T : Int32) (st : plS) (hQ : plRp E (plwR (plg E) a) st T)  (hk : T = K_RM_got_36 st) : plJ E 3 (plwR (plg E) a st) 0 0 [] 36 [] := by
  unfold K_RM_got_36 at hk
  refine j_iconst (pc := 36) X d_RM_got_36 ic_m1 ?_
  exact j_retip (pc := 37) X hQ d_RM_got_37 hk
def K_RM_got (st : plS) (v1 : Int32) (v2 : Int32) : Int32 := (if v1 < 0 then K_RM_got_36 st else (if 7 < v1 then K_RM_got_36 st else (if (st 0 56) ≤ v1 then K_RM_got_36 st else (if v2 < ((-1)) then K_RM_got_36 st else (if v2 < (st 18 (plIx (7 * v1))) then st 18 (plIx (((7 * v1) + 1) + v2)) else K_RM_got_36 st)))))
def P_RM_got (st : plS) (v1 : Int32) (v2 : Int32) : Prop := (¬ v1 < 0 → (¬ 7 < v1 → (¬ (st 0 56) ≤ v1 → (¬ v2 < ((-1)) → (vp_in (7 * v1) 56 ∧ (v2 < (st 18 (plIx (7 * v1))) → vp_in (((7 * v1) + 1) + v2) 56))))))
set_option maxRecDepth 20000 in
theorem j_RM_got {E : plE} (X : plX E b_RM_got "ProtectedLineModel" 3 (some .int) 0 0) (a : Nat → Nat) (T : Int32) (st : plS) (hQ : plRp E (plwR (plg E) a) st T) (v1 : Int32) (v2 : Int32) (hs : P_RM_got st v1 v2) (hk : T = K_RM_got st v1 v2) : plJ E 3 (plwR (plg E) a st) 0 0 [(0, .ref (a 0)), (1, .int v1), (2, .int v2)] 0 [] := by
  unfold P_RM_got at hs
  unfold K_RM_got at hk
  refine j_iload_n (pc := 0) X d_RM_got_0 rfl 1 rfl ?_
  refine j_if_lt (pc := 1) (tgt := 36) X d_RM_got_1 rfl (fun hc => ?_) (fun hc => ?_)
  · have hk := hk.trans (if_pos hc)
    refine j_sub [] (lv' := []) rfl ?_
    exact j_RM_got_36 X a T st hQ hk
  · have hk := hk.trans (if_neg hc)
    have hs := hs hc
    refine j_iload_n (pc := 4) X d_RM_got_4 rfl 1 rfl ?_
    refine j_bipush (pc := 5) X d_RM_got_5 bp_7 ?_
    refine j_icmp_gt (pc := 7) (tgt := 36) X d_RM_got_7 rfl (fun hc => ?_) (fun hc => ?_)
    · have hk := hk.trans (if_pos hc)
      refine j_sub [] (lv' := []) rfl ?_
      exact j_RM_got_36 X a T st hQ hk
    · have hk := hk.trans (if_neg hc)
      have hs := hs hc
      refine j_iload_n (pc := 10) X d_RM_got_10 rfl 1 rfl ?_
      refine j_aload_n (pc := 11) X d_RM_got_11 rfl 0 rfl ?_
      refine get_RM_delivered (pc := 12) X fl_RM_289 d_RM_got_12 ?_
      refine j_icmp_ge (pc := 15) (tgt := 36) X d_RM_got_15 rfl (fun hc => ?_) (fun hc => ?_)
      · have hk := hk.trans (if_pos hc)
        refine j_sub [] (lv' := []) rfl ?_
        exact j_RM_got_36 X a T st hQ hk
      · have hk := hk.trans (if_neg hc)
        have hs := hs hc
        refine j_iload_n (pc := 18) X d_RM_got_18 rfl 2 rfl ?_
        refine j_iconst (pc := 19) X d_RM_got_19 ic_m1 ?_
        refine j_icmp_lt (pc := 20) (tgt := 36) X d_RM_got_20 rfl (fun hc => ?_) (fun hc => ?_)
        · have hk := hk.trans (if_pos hc)
          refine j_sub [] (lv' := []) rfl ?_
          exact j_RM_got_36 X a T st hQ hk
        · have hk := hk.trans (if_neg hc)
          have hs := hs hc
          refine j_iload_n (pc := 23) X d_RM_got_23 rfl 2 rfl ?_
          refine j_aload_n (pc := 24) X d_RM_got_24 rfl 0 rfl ?_
          refine get_RM_kept (pc := 25) X fl_RM_84 d_RM_got_25 ?_
          refine j_bipush (pc := 28) X d_RM_got_28 bp_7 ?_
          refine j_iload_n (pc := 30) X d_RM_got_30 rfl 1 rfl ?_
          refine j_imul (pc := 31) X d_RM_got_31 ?_
          refine ald_RMkept (pc := 32) X hs.1 d_RM_got_32 ?_
          have hs := hs.2
          refine j_icmp_lt (pc := 33) (tgt := 38) X d_RM_got_33 rfl (fun hc => ?_) (fun hc => ?_)
          · have hk := hk.trans (if_pos hc)
            have hs := hs hc
            refine j_aload_n (pc := 38) X d_RM_got_38 rfl 0 rfl ?_
            refine get_RM_kept (pc := 39) X fl_RM_84 d_RM_got_39 ?_
            refine j_bipush (pc := 42) X d_RM_got_42 bp_7 ?_
            refine j_iload_n (pc := 44) X d_RM_got_44 rfl 1 rfl ?_
            refine j_imul (pc := 45) X d_RM_got_45 ?_
            refine j_iconst (pc := 46) X d_RM_got_46 ic_1 ?_
            refine j_iadd (pc := 47) X d_RM_got_47 ?_
            refine j_iload_n (pc := 48) X d_RM_got_48 rfl 2 rfl ?_
            refine j_iadd (pc := 49) X d_RM_got_49 ?_
            refine ald_RMkept (pc := 50) X hs d_RM_got_50 ?_
            exact j_retip (pc := 51) X hQ d_RM_got_51 hk
          · have hk := hk.trans (if_neg hc)
            refine j_sub [] (lv' := []) rfl ?_
            exact j_RM_got_36 X a T st hQ hk
set_option maxRecDepth 20000 in
theorem c_RM_got (g : plG) (a : Nat → Nat) (st : plS) (v1 : Int32) (v2 : Int32) (hs : P_RM_got st v1 v2) : plMp g y_RM_got b_RM_got 3 (some .int) 0 0 [.ref (a 0), .int v1, .int v2] (plwR g a) st (K_RM_got st v1 v2) := by
  refine plMp.of (own := "ProtectedLineModel") (lv := [(0, .ref (a 0)), (1, .int v1), (2, .int v2)]) rfl rfl (Nat.le_of_ble_eq_true rfl) rfl (fun E hE X hQ => ?_)
  subst hE
  exact j_RM_got X a _ st hQ v1 v2 hs rfl
