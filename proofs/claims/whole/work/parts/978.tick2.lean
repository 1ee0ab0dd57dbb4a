/-! one tick, the rest: node B -/
theorem plReadable_LW {c r : plS} {n : Nat} (H : plLn 9 10 11 12 0 c r n) (hR : plRw r) : P_LW_readable c ∧ (K_LW_readable c = 0 ↔ ¬ (r 14 0 = 2 ∧ ¬ r 11 0 = 0)) ∧ (r 14 0 = 2 ∧ ¬ r 11 0 = 0 → ∀ p, 2 ≤ p → p < 12 → c 12 p ^^^ plROW (p - 2) = r 10 (12 * 0 + p) ^^^ r 6 p ∧ plBy (c 12 p ^^^ plROW (p - 2))) := by
  obtain ⟨_, b2, b3, b4, _, b6, ⟨b7, b7'⟩, b8, ⟨S, s1, s2, s3, s4⟩, b10⟩ := H
  have e9 : c 9 9 = r 14 0 := by rw [s2, s3]
  refine ⟨⟨fun _ => ⟨fun _ => Or.inl rfl, fun _ => Or.inr rfl⟩, fun _ => Or.inl rfl⟩, ?_, fun z p h1 h2 => ?_⟩
  · unfold K_LW_readable K_LW_readable_19 K_LW_readable_20
    rw [e9, b7]
    by_cases y1 : r 14 0 = 2
    · rw [if_pos y1]
      by_cases y2 : r 11 0 = 0
      · rw [if_pos y2]; exact ⟨fun _ w => w.2 y2, fun _ => rfl⟩
      · rw [if_neg y2]; exact ⟨fun w => absurd w (show ¬ (1 : Int32) = 0 by decide), fun w => absurd ⟨y1, y2⟩ w⟩
    · rw [if_neg y1]; exact ⟨fun _ w => y1 w.1, fun _ => rfl⟩
  · obtain ⟨z1, z2⟩ := b8 (by rw [b7]; exact z.2)
    obtain ⟨z3, z4⟩ := z1 p h2
    rw [hR.2.2 p h1 h2, z3]
    rw [z3] at z4
    exact ⟨rfl, z4.xor (plBy.row _)⟩
theorem plSel_LW {c r : plS} {n m : Nat} (hn : n < 2 ^ 20) (H : plLn 9 10 11 12 0 c r m) (hR : plRw r) (hP : plPtr c r n (7 * n)) (hS : plStr c r (7 * n)) (h40 : r 0 40 = nI 0) : ∃ c' : plS, (if K_LW_readable c = 0 then K_PL_passTick_147 c else (if K_LW_plainAt c 4 = 255 then K_PL_passTick_147 c else K_PL_passTick_154 (K_PR_take_LW c))) = K_PL_passTick_154 c' ∧ (P_PL_passTick_154 c' → (P_LW_readable c ∧ ((K_LW_readable c = 0 → P_PL_passTick_147 c) ∧ (¬ K_LW_readable c = 0 → (P_LW_plainAt c 4 ∧ ((K_LW_plainAt c 4 = 255 → P_PL_passTick_147 c) ∧ (¬ K_LW_plainAt c 4 = 255 → (P_PR_take_LW c ∧ P_PL_passTick_154 (K_PR_take_LW c))))))))) ∧ P_RM_select_52 r ∧ plPtr c' (K_RM_select_52 r) (n + 1) (7 * (n + 1)) ∧ plStr c' (K_RM_select_52 r) (7 * (n + 1)) ∧ ∀ i k, i < 21 → c' i k = c i k := by
  obtain ⟨q1, q2, q3⟩ := plReadable_LW H hR
  have xl : plIx (r 0 40) = 0 := by rw [h40]; rfl
  have vl : vp_in (r 0 40) 2 := by rw [h40]; exact vp_in_nI (by omega) (by omega)
  have m12 : (12 : Int32) * r 0 40 = nI (12 * 0) := by rw [h40]; rfl
  have x4 : plIx (nI (12 * 0) + 4) = 12 * 0 + 4 := by rw [show (4 : Int32) = nI 4 from rfl, nI_add]; exact plIx_nI (by omega)
  have v4 : vp_in (nI (12 * 0) + 4) 24 := by rw [show (4 : Int32) = nI 4 from rfl, nI_add]; exact vp_in_nI (by omega) (by omega)
  have pp : P_LW_plainAt c 4 := ⟨vp_in_nI (n := 4) (by omega) (by omega), vp_in_nI (n := 2) (by omega) (by omega)⟩
  obtain ⟨gp, gs⟩ := plGap hP (by omega) hS
  have kpl : K_LW_plainAt c 4 = c 12 4 ^^^ plROW 2 := by
    unfold K_LW_plainAt
    rw [show plIx 4 = 4 from rfl, show plIx (4 - 2) = 2 from rfl]
  have gapc : ∀ i k, i < 21 → K_PR_gap c i k = c i k := fun i k h => by apply fr_K_PR_gap <;> omega
  have takec : ∀ i k, i < 21 → K_PR_take_LW c i k = c i k := fun i k h => by apply fr_K_PR_take_LW <;> omega
  by_cases z : r 14 0 = 2 ∧ ¬ r 11 0 = 0
  · have nr : ¬ K_LW_readable c = 0 := fun w => q2.mp w z
    have hb := q3 z
    obtain ⟨b1, b2⟩ := hb 4 (by omega) (by omega)
    rw [show 4 - 2 = 2 from rfl] at b1
    have k52 : K_RM_select_52 r = if r 10 (12 * 0 + 4) ^^^ r 6 4 = 255 then K_RM_gap r else K_RM_read r (nI (12 * 0)) (r 10 (12 * 0 + 4) ^^^ r 6 4) := by
      unfold K_RM_select_52
      rw [xl, if_pos z.1, if_neg z.2, m12]
      unfold K_RM_select_90 K_RM_select_139 K_RM_select_143
      rw [if_neg (show ¬ (1 : Int32) = 0 by decide), x4, show plIx 4 = 4 from rfl]
    by_cases y : r 10 (12 * 0 + 4) ^^^ r 6 4 = 255
    · have y' : K_LW_plainAt c 4 = 255 := by rw [kpl, b1]; exact y
      refine ⟨K_PR_gap c, ?_, fun p => ⟨q1, fun w => absurd w nr, fun _ => ⟨pp, fun _ => p, fun w => absurd y' w⟩⟩, ?_, ?_, ?_, gapc⟩
      · rw [if_neg nr, if_pos y']
        unfold K_PL_passTick_147
        rfl
      · unfold P_RM_select_52
        refine ⟨vl, fun _ => ⟨vl, fun w => absurd (by rw [xl] at w; exact w) z.2, fun _ => ?_⟩, fun w => absurd (by rw [xl]; exact z.1) w⟩
        unfold P_RM_select_90
        rw [m12, x4, show plIx 4 = 4 from rfl]
        exact fun _ => ⟨v4, fun w => absurd y w⟩
      · rw [k52, if_pos y]; exact gp.mono (by omega) (by omega)
      · rw [k52, if_pos y]; exact gs.mono (by omega)
    · have y' : ¬ K_LW_plainAt c 4 = 255 := by rw [kpl, b1]; exact y
      obtain ⟨t1, t2, t3, t4⟩ := plRead_LW (σ := 0) hP (by omega) hS (by omega) (by omega) (fun p h1 h2 => hb p (by omega) h2)
      refine ⟨K_PR_take_LW c, ?_, fun p => ⟨q1, fun w => absurd w nr, fun _ => ⟨pp, fun w => absurd w y', fun _ => ⟨t1, p⟩⟩⟩, ?_, ?_, ?_, takec⟩
      · rw [if_neg nr, if_neg y']
      · unfold P_RM_select_52
        refine ⟨vl, fun _ => ⟨vl, fun w => absurd (by rw [xl] at w; exact w) z.2, fun _ => ?_⟩, fun w => absurd (by rw [xl]; exact z.1) w⟩
        unfold P_RM_select_90
        rw [m12, x4, show plIx 4 = 4 from rfl]
        exact fun _ => ⟨v4, fun _ => ⟨v4, t2⟩⟩
      · rw [k52, if_neg y]; exact t3.mono (by omega) (by omega)
      · rw [k52, if_neg y]; exact t4.mono (by omega)
  · have r0 : K_LW_readable c = 0 := q2.mpr z
    have k52 : K_RM_select_52 r = K_RM_gap r := by
      unfold K_RM_select_52 K_RM_select_89
      rw [xl]
      have k90 : ∀ v, K_RM_select_90 r v 0 = K_RM_gap r := fun v => by
        unfold K_RM_select_90 K_RM_select_139 K_RM_select_143
        rw [if_pos rfl]
      by_cases y1 : r 14 0 = 2
      · rw [if_pos y1, if_pos (Classical.byContradiction (fun w => z ⟨y1, w⟩)), k90]
      · rw [if_neg y1, k90]
    refine ⟨K_PR_gap c, ?_, fun p => ⟨q1, fun _ => p, fun w => absurd r0 w⟩, ?_, ?_, ?_, gapc⟩
    · rw [if_pos r0]
      unfold K_PL_passTick_147
      rfl
    · unfold P_RM_select_52
      rw [xl]
      exact ⟨vl, fun y1 => ⟨vl, fun _ w => absurd rfl w, fun y2 => absurd ⟨y1, y2⟩ z⟩, fun _ w => absurd rfl w⟩
    · rw [k52]; exact gp.mono (by omega) (by omega)
    · rw [k52]; exact gs.mono (by omega)
theorem plReadable_LP {c r : plS} {n : Nat} (H : plLn 13 14 15 16 1 c r n) (hR : plRw r) : P_LP_readable c ∧ (K_LP_readable c = 0 ↔ ¬ (r 14 1 = 2 ∧ ¬ r 11 1 = 0)) ∧ (r 14 1 = 2 ∧ ¬ r 11 1 = 0 → ∀ p, 2 ≤ p → p < 12 → c 16 p ^^^ plROW (p - 2) = r 10 (12 * 1 + p) ^^^ r 6 p ∧ plBy (c 16 p ^^^ plROW (p - 2))) := by
  obtain ⟨_, b2, b3, b4, _, b6, ⟨b7, b7'⟩, b8, ⟨S, s1, s2, s3, s4⟩, b10⟩ := H
  have e9 : c 13 9 = r 14 1 := by rw [s2, s3]
  refine ⟨⟨fun _ => ⟨fun _ => Or.inl rfl, fun _ => Or.inr rfl⟩, fun _ => Or.inl rfl⟩, ?_, fun z p h1 h2 => ?_⟩
  · unfold K_LP_readable K_LP_readable_19 K_LP_readable_20
    rw [e9, b7]
    by_cases y1 : r 14 1 = 2
    · rw [if_pos y1]
      by_cases y2 : r 11 1 = 0
      · rw [if_pos y2]; exact ⟨fun _ w => w.2 y2, fun _ => rfl⟩
      · rw [if_neg y2]; exact ⟨fun w => absurd w (show ¬ (1 : Int32) = 0 by decide), fun w => absurd ⟨y1, y2⟩ w⟩
    · rw [if_neg y1]; exact ⟨fun _ w => y1 w.1, fun _ => rfl⟩
  · obtain ⟨z1, z2⟩ := b8 (by rw [b7]; exact z.2)
    obtain ⟨z3, z4⟩ := z1 p h2
    rw [hR.2.2 p h1 h2, z3]
    rw [z3] at z4
    exact ⟨rfl, z4.xor (plBy.row _)⟩
theorem plSel_LP {c r : plS} {n m : Nat} (hn : n < 2 ^ 20) (H : plLn 13 14 15 16 1 c r m) (hR : plRw r) (hP : plPtr c r n (7 * n)) (hS : plStr c r (7 * n)) (h40 : r 0 40 = nI 1) : ∃ c' : plS, (if K_LP_readable c = 0 then K_PL_passTick_147 c else (if K_LP_plainAt c 4 = 255 then K_PL_passTick_147 c else K_PL_passTick_154 (K_PR_take_LP c))) = K_PL_passTick_154 c' ∧ (P_PL_passTick_154 c' → (P_LP_readable c ∧ ((K_LP_readable c = 0 → P_PL_passTick_147 c) ∧ (¬ K_LP_readable c = 0 → (P_LP_plainAt c 4 ∧ ((K_LP_plainAt c 4 = 255 → P_PL_passTick_147 c) ∧ (¬ K_LP_plainAt c 4 = 255 → (P_PR_take_LP c ∧ P_PL_passTick_154 (K_PR_take_LP c))))))))) ∧ P_RM_select_52 r ∧ plPtr c' (K_RM_select_52 r) (n + 1) (7 * (n + 1)) ∧ plStr c' (K_RM_select_52 r) (7 * (n + 1)) ∧ ∀ i k, i < 21 → c' i k = c i k := by
  obtain ⟨q1, q2, q3⟩ := plReadable_LP H hR
  have xl : plIx (r 0 40) = 1 := by rw [h40]; rfl
  have vl : vp_in (r 0 40) 2 := by rw [h40]; exact vp_in_nI (by omega) (by omega)
  have m12 : (12 : Int32) * r 0 40 = nI (12 * 1) := by rw [h40]; rfl
  have x4 : plIx (nI (12 * 1) + 4) = 12 * 1 + 4 := by rw [show (4 : Int32) = nI 4 from rfl, nI_add]; exact plIx_nI (by omega)
  have v4 : vp_in (nI (12 * 1) + 4) 24 := by rw [show (4 : Int32) = nI 4 from rfl, nI_add]; exact vp_in_nI (by omega) (by omega)
  have pp : P_LP_plainAt c 4 := ⟨vp_in_nI (n := 4) (by omega) (by omega), vp_in_nI (n := 2) (by omega) (by omega)⟩
  obtain ⟨gp, gs⟩ := plGap hP (by omega) hS
  have kpl : K_LP_plainAt c 4 = c 16 4 ^^^ plROW 2 := by
    unfold K_LP_plainAt
    rw [show plIx 4 = 4 from rfl, show plIx (4 - 2) = 2 from rfl]
  have gapc : ∀ i k, i < 21 → K_PR_gap c i k = c i k := fun i k h => by apply fr_K_PR_gap <;> omega
  have takec : ∀ i k, i < 21 → K_PR_take_LP c i k = c i k := fun i k h => by apply fr_K_PR_take_LP <;> omega
  by_cases z : r 14 1 = 2 ∧ ¬ r 11 1 = 0
  · have nr : ¬ K_LP_readable c = 0 := fun w => q2.mp w z
    have hb := q3 z
    obtain ⟨b1, b2⟩ := hb 4 (by omega) (by omega)
    rw [show 4 - 2 = 2 from rfl] at b1
    have k52 : K_RM_select_52 r = if r 10 (12 * 1 + 4) ^^^ r 6 4 = 255 then K_RM_gap r else K_RM_read r (nI (12 * 1)) (r 10 (12 * 1 + 4) ^^^ r 6 4) := by
      unfold K_RM_select_52
      rw [xl, if_pos z.1, if_neg z.2, m12]
      unfold K_RM_select_90 K_RM_select_139 K_RM_select_143
      rw [if_neg (show ¬ (1 : Int32) = 0 by decide), x4, show plIx 4 = 4 from rfl]
    by_cases y : r 10 (12 * 1 + 4) ^^^ r 6 4 = 255
    · have y' : K_LP_plainAt c 4 = 255 := by rw [kpl, b1]; exact y
      refine ⟨K_PR_gap c, ?_, fun p => ⟨q1, fun w => absurd w nr, fun _ => ⟨pp, fun _ => p, fun w => absurd y' w⟩⟩, ?_, ?_, ?_, gapc⟩
      · rw [if_neg nr, if_pos y']
        unfold K_PL_passTick_147
        rfl
      · unfold P_RM_select_52
        refine ⟨vl, fun _ => ⟨vl, fun w => absurd (by rw [xl] at w; exact w) z.2, fun _ => ?_⟩, fun w => absurd (by rw [xl]; exact z.1) w⟩
        unfold P_RM_select_90
        rw [m12, x4, show plIx 4 = 4 from rfl]
        exact fun _ => ⟨v4, fun w => absurd y w⟩
      · rw [k52, if_pos y]; exact gp.mono (by omega) (by omega)
      · rw [k52, if_pos y]; exact gs.mono (by omega)
    · have y' : ¬ K_LP_plainAt c 4 = 255 := by rw [kpl, b1]; exact y
      obtain ⟨t1, t2, t3, t4⟩ := plRead_LP (σ := 1) hP (by omega) hS (by omega) (by omega) (fun p h1 h2 => hb p (by omega) h2)
      refine ⟨K_PR_take_LP c, ?_, fun p => ⟨q1, fun w => absurd w nr, fun _ => ⟨pp, fun w => absurd w y', fun _ => ⟨t1, p⟩⟩⟩, ?_, ?_, ?_, takec⟩
      · rw [if_neg nr, if_neg y']
      · unfold P_RM_select_52
        refine ⟨vl, fun _ => ⟨vl, fun w => absurd (by rw [xl] at w; exact w) z.2, fun _ => ?_⟩, fun w => absurd (by rw [xl]; exact z.1) w⟩
        unfold P_RM_select_90
        rw [m12, x4, show plIx 4 = 4 from rfl]
        exact fun _ => ⟨v4, fun _ => ⟨v4, t2⟩⟩
      · rw [k52, if_neg y]; exact t3.mono (by omega) (by omega)
      · rw [k52, if_neg y]; exact t4.mono (by omega)
  · have r0 : K_LP_readable c = 0 := q2.mpr z
    have k52 : K_RM_select_52 r = K_RM_gap r := by
      unfold K_RM_select_52 K_RM_select_89
      rw [xl]
      have k90 : ∀ v, K_RM_select_90 r v 0 = K_RM_gap r := fun v => by
        unfold K_RM_select_90 K_RM_select_139 K_RM_select_143
        rw [if_pos rfl]
      by_cases y1 : r 14 1 = 2
      · rw [if_pos y1, if_pos (Classical.byContradiction (fun w => z ⟨y1, w⟩)), k90]
      · rw [if_neg y1, k90]
    refine ⟨K_PR_gap c, ?_, fun p => ⟨q1, fun _ => p, fun w => absurd r0 w⟩, ?_, ?_, ?_, gapc⟩
    · rw [if_pos r0]
      unfold K_PL_passTick_147
      rfl
    · unfold P_RM_select_52
      rw [xl]
      exact ⟨vl, fun y1 => ⟨vl, fun _ w => absurd rfl w, fun y2 => absurd ⟨y1, y2⟩ z⟩, fun _ w => absurd rfl w⟩
    · rw [k52]; exact gp.mono (by omega) (by omega)
    · rw [k52]; exact gs.mono (by omega)
theorem plStep4 {c r : plS} {n : Nat} (hn : n < 2 ^ 20) (H : plAll c r (n + 1) (n + 1) (n + 1) (n + 1) n n) : ∃ k : Int32, K_PL_passTick_53 c = K_PL_passTick_82 c k ∧ (P_PL_passTick_82 c k → P_PL_passTick_53 c) ∧ plAll (K_LB_hear c k) (K_RM_listen r) (n + 1) (n + 1) (n + 1) (n + 1) n (n + 1) := by
  obtain ⟨hT, hRw, hSrc, hCon, hNa, hLa, hL0, hL1, hBk, hLb, hPtr, hStr⟩ := H
  obtain ⟨q1, q2, q3⟩ := plReadable_LP hL1 hRw
  have pp : P_LP_plainAt c 3 := ⟨vp_in_nI (n := 3) (by omega) (by omega), vp_in_nI (n := 1) (by omega) (by omega)⟩
  have key : ∀ k, plLb (K_LB_hear c k) (K_RM_listen r) (n + 1) → plAll (K_LB_hear c k) (K_RM_listen r) (n + 1) (n + 1) (n + 1) (n + 1) n (n + 1) := fun k lb => by
    obtain ⟨c1, hc1⟩ : ∃ c1, c1 = K_LB_hear c k := ⟨_, rfl⟩
    obtain ⟨r1, hr1⟩ : ∃ r1, r1 = K_RM_listen r := ⟨_, rfl⟩
    rw [← hc1, ← hr1] at lb ⊢
    have hc : ∀ i k, ¬ i = 20 → c1 i k = c i k := fun i k h => by rw [hc1]; apply fr_K_LB_hear <;> omega
    have hr : ∀ i k, ¬ (i = 0 ∧ 34 ≤ k ∧ k ≤ 36) → r1 i k = r i k := fun i k h => by rw [hr1]; apply fr_K_RM_listen <;> omega
    exact ⟨by rw [hr _ _ (by omega)]; exact hT, hRw.ext (fun k => hr _ _ (by omega)), hSrc.ext (fun k => hc _ _ (by omega)) (fun k => hc _ _ (by omega)) (fun k => hc _ _ (by omega)) (fun k => hc _ _ (by omega)) (fun k hk => hr _ _ (by omega)) (fun k => hr _ _ (by omega)) (fun k => hr _ _ (by omega)), hCon.ext (fun k => hc _ _ (by omega)) (fun k hk => hr _ _ (by omega)), hNa.ext (fun k => hc _ _ (by omega)) (fun k hk => hr _ _ (by omega)), hLa.ext (fun k hk => hc _ _ (by omega)) (fun k h1 h2 => hr _ _ (by omega)), plLn.ext (by omega) hL0 (fun k => hc _ _ (by omega)) (fun k => hc _ _ (by omega)) (fun k => hc _ _ (by omega)) (fun k => hc _ _ (by omega)) (fun k h1 h2 => hr _ _ (by omega)) (fun k h1 h2 => hr _ _ (by omega)) (fun k h1 h2 => hr _ _ (by omega)) (fun i hi => hr _ _ (by omega)), plLn.ext (by omega) hL1 (fun k => hc _ _ (by omega)) (fun k => hc _ _ (by omega)) (fun k => hc _ _ (by omega)) (fun k => hc _ _ (by omega)) (fun k h1 h2 => hr _ _ (by omega)) (fun k h1 h2 => hr _ _ (by omega)) (fun k h1 h2 => hr _ _ (by omega)) (fun i hi => hr _ _ (by omega)), hBk.ext (fun k => hc _ _ (by omega)) (fun k => hc _ _ (by omega)) (hr _ _ (by omega)) (fun k => hr _ _ (by omega)), lb, hPtr.ext (fun k h1 h2 => hc _ _ (by omega)) (fun k h1 h2 => hr _ _ (by omega)), hStr.ext (fun k => hc _ _ (by omega)) (fun k => hc _ _ (by omega)) (fun k => hc _ _ (by omega)) (fun k => hc _ _ (by omega)) (fun k h1 h2 => hr _ _ (by omega)) (fun k => hr _ _ (by omega)) (fun k => hr _ _ (by omega))⟩
  unfold K_PL_passTick_53 P_PL_passTick_53
  by_cases z : r 14 1 = 2 ∧ ¬ r 11 1 = 0
  · have nr : ¬ K_LP_readable c = 0 := fun w => q2.mp w z
    obtain ⟨b1, b2⟩ := q3 z 3 (by omega) (by omega)
    have kp : K_LP_plainAt c 3 = c 16 3 ^^^ plROW (3 - 2) := by
      unfold K_LP_plainAt
      rw [show plIx 3 = 3 from rfl, show plIx (3 - 2) = 3 - 2 from rfl]
    refine ⟨K_LP_plainAt c 3, by rw [if_neg nr], fun p => ⟨q1, fun w => absurd w nr, fun _ => ⟨pp, p⟩⟩, key _ (plHearB (by omega) hLb (fun _ => ⟨by rw [kp]; exact b2, by rw [kp]; exact b1⟩) (fun w => absurd z w))⟩
  · have r0 : K_LP_readable c = 0 := q2.mpr z
    exact ⟨-1, by rw [if_pos r0], fun p => ⟨q1, fun _ => p, fun w => absurd r0 w⟩, key _ (plHearB (by omega) hLb (fun w => absurd w z) (fun _ => rfl))⟩
theorem plStep5 {c r0 r : plS} {n S0 : Nat} (hn : n < 2 ^ 20) (H : plAll c r (n + 1) (n + 1) (n + 1) (n + 1) n (n + 1)) (W : plSw c r0 n) (hS0 : S0 ≤ 2) (c9 : c 9 9 = nI S0) (g : ∀ k, k = 1 ∨ k = 2 ∨ k = 37 ∨ k = 38 ∨ k = 39 → r 0 k = r0 0 k) (g33 : r 0 33 = if S0 = 2 then 0 else r0 0 33 + 1) : ∃ (c' r' : plS), K_PL_passTick_85 c = K_PL_passTick_106 c' ∧ (P_PL_passTick_106 c' → P_PL_passTick_85 c) ∧ K_RM_select (K_RM_decide r) = K_RM_select_52 r' ∧ (P_RM_select_52 r' → P_RM_select (K_RM_decide r)) ∧ plAll c' r' (n + 1) (n + 1) (n + 1) (n + 1) n (n + 1) ∧ plSw c' r' (n + 1) := by
  obtain ⟨hT, hRw, hSrc, hCon, hNa, hLa, hL0, hL1, hBk, hLb, hPtr, hStr⟩ := H
  obtain ⟨S1, s1, s2, s3, _⟩ := hL1.2.2.2.2.2.2.2.2.1
  obtain ⟨p1, p2, ch, d1, d2, d3, d4, d5⟩ := plDecide (by omega) hS0 s1 W g g33 c9 s2 s3 hLb.2
  obtain ⟨c1, hc1⟩ : ∃ c1, c1 = K_SW_decide c (K_LW_failed c) (K_LP_failed c) := ⟨_, rfl⟩
  obtain ⟨r1, hr1⟩ : ∃ r1, r1 = plUp (K_RM_decide r) 0 40 ch := ⟨_, rfl⟩
  rw [← hc1, ← hr1] at d3
  rw [← hr1] at d4 d5
  have hc : ∀ i k, ¬ i = 19 → c1 i k = c i k := fun i k h => by rw [hc1]; apply fr_K_SW_decide <;> omega
  have hr : ∀ i k, ¬ (i = 0 ∧ 38 ≤ k ∧ k ≤ 40) → r1 i k = r i k := fun i k h => by rw [hr1, plUp_ap, if_neg (by omega)]; apply fr_K_RM_decide <;> omega
  refine ⟨c1, r1, ?_, fun p => ?_, d4, d5, ⟨by rw [hr _ _ (by omega)]; exact hT, hRw.ext (fun k => hr _ _ (by omega)), hSrc.ext (fun k => hc _ _ (by omega)) (fun k => hc _ _ (by omega)) (fun k => hc _ _ (by omega)) (fun k => hc _ _ (by omega)) (fun k hk => hr _ _ (by omega)) (fun k => hr _ _ (by omega)) (fun k => hr _ _ (by omega)), hCon.ext (fun k => hc _ _ (by omega)) (fun k hk => hr _ _ (by omega)), hNa.ext (fun k => hc _ _ (by omega)) (fun k hk => hr _ _ (by omega)), hLa.ext (fun k hk => hc _ _ (by omega)) (fun k h1 h2 => hr _ _ (by omega)), plLn.ext (by omega) hL0 (fun k => hc _ _ (by omega)) (fun k => hc _ _ (by omega)) (fun k => hc _ _ (by omega)) (fun k => hc _ _ (by omega)) (fun k h1 h2 => hr _ _ (by omega)) (fun k h1 h2 => hr _ _ (by omega)) (fun k h1 h2 => hr _ _ (by omega)) (fun i hi => hr _ _ (by omega)), plLn.ext (by omega) hL1 (fun k => hc _ _ (by omega)) (fun k => hc _ _ (by omega)) (fun k => hc _ _ (by omega)) (fun k => hc _ _ (by omega)) (fun k h1 h2 => hr _ _ (by omega)) (fun k h1 h2 => hr _ _ (by omega)) (fun k h1 h2 => hr _ _ (by omega)) (fun i hi => hr _ _ (by omega)), hBk.ext (fun k => hc _ _ (by omega)) (fun k => hc _ _ (by omega)) (hr _ _ (by omega)) (fun k => hr _ _ (by omega)), hLb.ext (fun k hk => hc _ _ (by omega)) (fun k h1 h2 => hr _ _ (by omega)), hPtr.ext (fun k h1 h2 => hc _ _ (by omega)) (fun k h1 h2 => hr _ _ (by omega)), hStr.ext (fun k => hc _ _ (by omega)) (fun k => hc _ _ (by omega)) (fun k => hc _ _ (by omega)) (fun k => hc _ _ (by omega)) (fun k h1 h2 => hr _ _ (by omega)) (fun k => hr _ _ (by omega)) (fun k => hr _ _ (by omega))⟩, d3⟩
  · unfold K_PL_passTick_85
    rw [← hc1]
  · unfold P_PL_passTick_85
    rw [← hc1]
    exact ⟨p1, p2, p⟩
theorem plStep7 {c r : plS} {n : Nat} (hn : n < 2 ^ 20) (H : plAll c r (n + 1) (n + 1) (n + 1) (n + 1) n (n + 1)) (W : plSw c r (n + 1)) : P_PL_passTick_106 c ∧ P_RM_select_52 r ∧ ∃ r' : plS, plIx ((K_RM_select_52 r 0 3) &&& 7) = (n + 1) % 8 ∧ vp_in ((K_RM_select_52 r 0 3) &&& 7) 8 ∧ r' = plUp (K_RM_select_52 r) 5 ((n + 1) % 8) ((16 * (K_RM_select_52 r 0 38)) + (K_RM_select_52 r 0 40)) ∧ plAll (K_PL_passTick_106 c) r' (n + 1) (n + 1) (n + 1) (n + 1) (n + 1) (n + 1) ∧ plSw (K_PL_passTick_106 c) r' (n + 1) := by
  obtain ⟨hT, hRw, hSrc, hCon, hNa, hLa, hL0, hL1, hBk, hLb, hPtr, hStr⟩ := H
  have W' := W
  obtain ⟨h, w, o, f, q, x, a1, a2, a3, a4, a5, a6, b1, b2, b3, b4, b5, b6, b7, b8, b9, b10, b11, b12, b13, b14, b15⟩ := W'
  have sel : ∃ c' : plS, K_PL_passTick_106 c = K_PL_passTick_154 c' ∧ (P_PL_passTick_154 c' → P_PL_passTick_106 c) ∧ P_RM_select_52 r ∧ plPtr c' (K_RM_select_52 r) (n + 1) (7 * (n + 1)) ∧ plStr c' (K_RM_select_52 r) (7 * (n + 1)) ∧ ∀ i k, i < 21 → c' i k = c i k := by
    unfold K_PL_passTick_106 P_PL_passTick_106
    rcases b15 with z | z
    · obtain ⟨c', t1, t2, t3, t4, t5, t6⟩ := plSel_LW hn hL0 hRw hPtr hStr (by rw [← b14, z]; rfl)
      exact ⟨c', by rw [if_pos z]; exact t1, fun p => ⟨fun _ => t2 p, fun y => absurd z y⟩, t3, t4, t5, t6⟩
    · have nz : ¬ c 19 7 = 0 := by rw [z]; decide
      obtain ⟨c', t1, t2, t3, t4, t5, t6⟩ := plSel_LP hn hL1 hRw hPtr hStr (by rw [← b14, z]; rfl)
      exact ⟨c', by rw [if_neg nz]; exact t1, fun p => ⟨fun y => absurd y nz, fun _ => t2 p⟩, t3, t4, t5, t6⟩
  obtain ⟨c', t1, t2, t3, t4, t5, t6⟩ := sel
  obtain ⟨r1, hr1⟩ : ∃ r1, r1 = K_RM_select_52 r := ⟨_, rfl⟩
  rw [← hr1] at t4 t5 ⊢
  have hc1 : ∀ i k, ¬ 21 ≤ i → c' i k = c i k := fun i k h => t6 i k (by omega)
  have hr1' : ∀ i k, ¬ ((i = 0 ∧ 41 ≤ k) ∨ i = 17 ∨ i = 18) → r1 i k = r i k := fun i k h => by rw [hr1]; apply fr_K_RM_select_52 <;> omega
  have kb : plBy (K_SW_kByte c') := by
    unfold K_SW_kByte
    rw [hc1 _ _ (by omega), hc1 _ _ (by omega), b9, show (16 : Int32) = nI 16 from rfl, pk_mul]
    rcases b15 with z | z
    · rw [z, show (0 : Int32) = nI 0 from rfl, nI_add]; exact plBy.lit (by omega)
    · rw [z, show (1 : Int32) = nI 1 from rfl, nI_add]; exact plBy.lit (by omega)
  have ek : 16 * (r1 0 38) + (r1 0 40) = K_SW_kByte c' := by
    unfold K_SW_kByte
    rw [hc1 _ _ (by omega), hc1 _ _ (by omega), hr1' _ _ (by omega), hr1' _ _ (by omega), b10, b9, b14]
  have bk1 : plBk c' r1 n := hBk.ext (fun k => hc1 _ _ (by omega)) (fun k => hc1 _ _ (by omega)) (hr1' _ _ (by omega)) (fun k => hr1' _ _ (by omega))
  obtain ⟨p3, bk⟩ := plBackL (k := K_SW_kByte c') (by omega) bk1 kb
  have i7 : (r1 0 3) &&& 7 = nI ((n + 1) % 8) := by rw [hr1' _ _ (by omega), hT, plAnd7 (by omega)]
  refine ⟨t2 p3, t3, plUp r1 5 ((n + 1) % 8) (K_SW_kByte c'), by rw [i7]; exact plIx_nI (by omega), by rw [i7]; exact vp_in_nI (by omega) (by omega), by rw [ek], ?_⟩
  rw [t1]
  unfold K_PL_passTick_154
  obtain ⟨c2, hc2⟩ : ∃ c2, c2 = K_BL_launch c' (K_SW_kByte c') := ⟨_, rfl⟩
  obtain ⟨r2, hr2⟩ : ∃ r2, r2 = plUp r1 5 ((n + 1) % 8) (K_SW_kByte c') := ⟨_, rfl⟩
  rw [← hc2, ← hr2] at bk ⊢
  have e2 : ∀ i k, ¬ (i = 17 ∨ i = 18) → c2 i k = c' i k := fun i k h => by rw [hc2]; apply fr_K_BL_launch <;> omega
  have f2 : ∀ i k, ¬ i = 5 → r2 i k = r1 i k := fun i k h => by rw [hr2, plUp_ap, if_neg (fun y => h y.1)]
  have hc : ∀ i k, ¬ (i = 17 ∨ i = 18 ∨ 21 ≤ i) → c2 i k = c i k := fun i k h => by rw [e2 i k (by omega), hc1 i k (by omega)]
  have hr : ∀ i k, ¬ (i = 5 ∨ (i = 0 ∧ 41 ≤ k) ∨ i = 17 ∨ i = 18) → r2 i k = r i k := fun i k h => by rw [f2 i k (by omega), hr1' i k (by omega)]
  exact ⟨⟨by rw [hr _ _ (by omega)]; exact hT, hRw.ext (fun k => hr _ _ (by omega)), hSrc.ext (fun k => hc _ _ (by omega)) (fun k => hc _ _ (by omega)) (fun k => hc _ _ (by omega)) (fun k => hc _ _ (by omega)) (fun k hk => hr _ _ (by omega)) (fun k => hr _ _ (by omega)) (fun k => hr _ _ (by omega)), hCon.ext (fun k => hc _ _ (by omega)) (fun k hk => hr _ _ (by omega)), hNa.ext (fun k => hc _ _ (by omega)) (fun k hk => hr _ _ (by omega)), hLa.ext (fun k hk => hc _ _ (by omega)) (fun k h1 h2 => hr _ _ (by omega)), plLn.ext (by omega) hL0 (fun k => hc _ _ (by omega)) (fun k => hc _ _ (by omega)) (fun k => hc _ _ (by omega)) (fun k => hc _ _ (by omega)) (fun k h1 h2 => hr _ _ (by omega)) (fun k h1 h2 => hr _ _ (by omega)) (fun k h1 h2 => hr _ _ (by omega)) (fun i hi => hr _ _ (by omega)), plLn.ext (by omega) hL1 (fun k => hc _ _ (by omega)) (fun k => hc _ _ (by omega)) (fun k => hc _ _ (by omega)) (fun k => hc _ _ (by omega)) (fun k h1 h2 => hr _ _ (by omega)) (fun k h1 h2 => hr _ _ (by omega)) (fun k h1 h2 => hr _ _ (by omega)) (fun i hi => hr _ _ (by omega)), bk, hLb.ext (fun k hk => hc _ _ (by omega)) (fun k h1 h2 => hr _ _ (by omega)), t4.ext (fun k h1 h2 => e2 _ _ (by omega)) (fun k h1 h2 => f2 _ _ (by omega)), t5.ext (fun k => e2 _ _ (by omega)) (fun k => e2 _ _ (by omega)) (fun k => e2 _ _ (by omega)) (fun k => e2 _ _ (by omega)) (fun k h1 h2 => f2 _ _ (by omega)) (fun k => f2 _ _ (by omega)) (fun k => f2 _ _ (by omega))⟩, W.ext (fun k => hc _ _ (by omega)) (fun k hk => hr _ _ (by omega))⟩
