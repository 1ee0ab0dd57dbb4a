/-! ticks; the other calls that change something -/
theorem plTick1 {c r : plS} {n : Nat} (hn : n < 2 ^ 20) (H : plAll c r n n n n n n) (W : plSw c r n) (v1 v2 : Int32) : P_PL_passTick c ∧ P_RM_tick_15L30 (plUp r 0 3 (r 0 3 + 1)) v1 v2 ∧ ∃ r', K_RM_tick_15L30 (plUp r 0 3 (r 0 3 + 1)) v1 v2 = (true, (r', v2 + 1)) ∧ plAll (K_PL_passTick c) r' (n + 1) (n + 1) (n + 1) (n + 1) (n + 1) (n + 1) ∧ plSw (K_PL_passTick c) r' (n + 1) := by
  rw [show r 0 3 + 1 = nI (n + 1) by rw [H.1, nI_1]]
  obtain ⟨p1, p2, H1, W1⟩ := plStep1 hn H W
  unfold P_PL_passTick K_PL_passTick P_RM_tick_15L30 K_RM_tick_15L30
  obtain ⟨c1, hc1⟩ : ∃ c1, c1 = K_LA_hear c (K_BL_arriving c (c 13 4)) := ⟨_, rfl⟩
  obtain ⟨r1, hr1⟩ : ∃ r1, r1 = K_RM_hear (plUp r 0 3 (nI (n + 1))) := ⟨_, rfl⟩
  rw [← hc1, ← hr1] at H1 W1 ⊢
  obtain ⟨p3, p4, H2, W2⟩ := plStep2 hn H1 W1
  unfold P_PL_passTick_24 K_PL_passTick_24 P_RM_tick_15L34 K_RM_tick_15L34
  obtain ⟨c2, hc2⟩ : ∃ c2, c2 = K_NA_transmit_LW_LP c1 := ⟨_, rfl⟩
  obtain ⟨r2, hr2⟩ : ∃ r2, r2 = K_RM_build r1 := ⟨_, rfl⟩
  rw [← hc2, ← hr2] at H2 W2 ⊢
  obtain ⟨p5, p6, p7, H3, W3, g3, S0, s1, s2, s3⟩ := plStep3 hn H2 W2
  unfold P_PL_passTick_39 K_PL_passTick_39 P_PL_passTick_46 K_PL_passTick_46 P_RM_tick_15L38 K_RM_tick_15L38
  obtain ⟨c3, hc3⟩ : ∃ c3, c3 = K_LP_receive (K_LW_receive c2) := ⟨_, rfl⟩
  obtain ⟨r3, hr3⟩ : ∃ r3, r3 = K_RM_arrive r2 := ⟨_, rfl⟩
  rw [← hc3] at H3 W3 s2 ⊢
  rw [← hr3] at H3 g3 s3 ⊢
  obtain ⟨k, k4, p8, H4⟩ := plStep4 hn H3
  rw [k4]
  unfold P_RM_tick_15L42 K_RM_tick_15L42
  unfold K_PL_passTick_82
  unfold P_PL_passTick_82 at p8
  obtain ⟨c4, hc4⟩ : ∃ c4, c4 = K_LB_hear c3 k := ⟨_, rfl⟩
  obtain ⟨r4, hr4⟩ : ∃ r4, r4 = K_RM_listen r3 := ⟨_, rfl⟩
  rw [← hc4] at H4 p8 ⊢
  rw [← hr4] at H4 ⊢
  have e4 : ∀ i j, ¬ i = 20 → c4 i j = c3 i j := fun i j h => by rw [hc4]; apply fr_K_LB_hear <;> omega
  have g4 : ∀ i j, ¬ (i = 0 ∧ 34 ≤ j ∧ j ≤ 36) → r4 i j = r3 i j := fun i j h => by rw [hr4]; apply fr_K_RM_listen <;> omega
  obtain ⟨c5, r5, k5, p9, k6, p10, H5, W5⟩ := plStep5 hn H4 (W3.ext (fun j => e4 _ _ (by omega)) (fun _ _ => rfl)) s1 (by rw [e4 _ _ (by omega)]; exact s2) (fun j hj => by rw [g4 _ _ (by omega), g3 _ _ (by omega)]) (by rw [g4 _ _ (by omega)]; exact s3)
  rw [k5]
  unfold P_RM_tick_15L46 K_RM_tick_15L46 P_RM_tick_15L50 K_RM_tick_15L50
  rw [k6]
  obtain ⟨p11, p12, r6, i1, i2, i3, H6, W6⟩ := plStep7 hn H5 W5
  unfold P_RM_tick_15L54 K_RM_tick_15L54
  rw [i1, ← i3]
  exact ⟨⟨p1, p3, p5, p6, p8 (p9 p11)⟩, ⟨p2, p4, p7, p10 p12, i2⟩, r6, rfl, H6, W6⟩
def plR (c r : plS) (t : Nat) : Prop := ∃ n, n ≤ 40 * t ∧ plAll c r n n n n n n ∧ plSw c r n
theorem plSim_tick : sim_tick plR := by
  intro c r t ht hR v
  obtain ⟨n, hn, H, W⟩ := hR
  have keep : plR c r (t + 1) := ⟨n, by omega, H, W⟩
  unfold P_PL_tick P_RM_tick K_PL_tick K_RM_tick K_PL_tick_11 K_RM_tick_11
  by_cases z1 : v < 1
  · rw [if_pos z1, if_pos z1]
    exact ⟨fun y => absurd z1 y, fun y => absurd z1 y, rfl, keep⟩
  · rw [if_neg z1, if_neg z1]
    by_cases z40 : v ≤ 40
    · rw [if_pos z40, if_pos z40]
      obtain ⟨m, hm, rfl⟩ := nI_of (x := v) (fun y => z1 (by rw [Int32.lt_iff_toInt_lt] at y ⊢; rw [show (0 : Int32).toInt = 0 from rfl] at y; rw [show (1 : Int32).toInt = 1 from rfl]; omega))
      have m40 : m ≤ 40 := by rw [show (40 : Int32) = nI 40 from rfl, nI_leI (by omega) (by omega)] at z40; exact z40
      obtain ⟨l1, l2, c', r', k1, k2, H2, W2⟩ := plL2 (G_PL_tick_15 (nI m)) (F_PL_tick_15 (nI m)) (G_RM_tick_15 (nI m)) (F_RM_tick_15 (nI m)) (fun k x y => ∃ c' r', x = (c', nI k) ∧ y = (r', nI k) ∧ plAll c' r' (n + k) (n + k) (n + k) (n + k) (n + k) (n + k) ∧ plSw c' r' (n + k)) m (by
        rintro k _ _ hk ⟨c', r', rfl, rfl, H2, W2⟩
        have le : ¬ nI m ≤ nI k := by rw [nI_leI (by omega) (by omega)]; omega
        obtain ⟨p1, p2, r'', k1, H3, W3⟩ := plTick1 (by omega) H2 W2 (nI m) (nI k)
        have kf : F_PL_tick_15 (nI m) (c', nI k) = (true, (K_PL_passTick c', nI (k + 1))) := by
          unfold F_PL_tick_15 K_PL_tick_15L
          rw [if_neg le, nI_1]
        have kg : F_RM_tick_15 (nI m) (r', nI k) = (true, (r'', nI (k + 1))) := by
          unfold F_RM_tick_15 K_RM_tick_15L
          rw [if_neg le, k1, nI_1]
        refine ⟨?_, ?_, by rw [kf], by rw [kg], _, _, by rw [kf], by rw [kg], H3, W3⟩
        · unfold G_PL_tick_15 P_PL_tick_15L
          exact fun _ => p1
        · unfold G_RM_tick_15 P_RM_tick_15L
          exact fun _ => p2) (by
        rintro _ _ ⟨c', r', rfl, rfl, H2, W2⟩
        have le : nI m ≤ nI m := by rw [nI_leI (by omega) (by omega)]; omega
        refine ⟨?_, ?_, ?_, ?_⟩
        · unfold G_PL_tick_15 P_PL_tick_15L
          exact fun y => absurd le y
        · unfold G_RM_tick_15 P_RM_tick_15L
          exact fun y => absurd le y
        · unfold F_PL_tick_15 K_PL_tick_15L
          rw [if_pos le]
        · unfold F_RM_tick_15 K_RM_tick_15L
          rw [if_pos le]) 64 0 (c, nI 0) (r, nI 0) (by omega) (by omega) ⟨c, r, rfl, rfl, H, W⟩
      rw [show nI 0 = 0 from rfl] at l1 l2 k1 k2
      refine ⟨fun _ _ => l1, fun _ _ => l2, ?_⟩
      rw [k1, k2]
      exact ⟨rfl, n + m, by omega, H2, W2⟩
    · rw [if_neg z40, if_neg z40]
      exact ⟨fun _ y => absurd y z40, fun _ y => absurd y z40, rfl, keep⟩
theorem plSim_send : sim_send plR := by
  intro c r t ht hR v0 v1
  obtain ⟨n, hn, ⟨hT, hRw, hSrc, hCon, hNa, hLa, hL0, hL1, hBk, hLb, hPtr, hStr⟩, W⟩ := hR
  obtain ⟨p1, p2, p3, p4⟩ := plSend v0 v1 hSrc
  obtain ⟨c1, hc1⟩ : ∃ c1, c1 = (K_PL_send c v0 v1).2 := ⟨_, rfl⟩
  obtain ⟨r1, hr1⟩ : ∃ r1, r1 = (K_RM_send r v0 v1).2 := ⟨_, rfl⟩
  rw [← hc1, ← hr1] at p4 ⊢
  have hc : ∀ i k, ¬ (i = 1 ∨ i = 2 ∨ i = 3) → c1 i k = c i k := fun i k h => by rw [hc1]; apply fr_K_PL_send <;> omega
  have hr : ∀ i k, ¬ ((i = 0 ∧ k = 4) ∨ i = 2) → r1 i k = r i k := fun i k h => by rw [hr1]; apply fr_K_RM_send <;> omega
  exact ⟨p1, p2, p3, n, by omega, ⟨by rw [hr _ _ (by omega)]; exact hT, hRw.ext (fun k => hr _ _ (by omega)), p4, hCon.ext (fun k => hc _ _ (by omega)) (fun k hk => hr _ _ (by omega)), hNa.ext (fun k => hc _ _ (by omega)) (fun k hk => hr _ _ (by omega)), hLa.ext (fun k hk => hc _ _ (by omega)) (fun k h1 h2 => hr _ _ (by omega)), plLn.ext (by omega) hL0 (fun k => hc _ _ (by omega)) (fun k => hc _ _ (by omega)) (fun k => hc _ _ (by omega)) (fun k => hc _ _ (by omega)) (fun k h1 h2 => hr _ _ (by omega)) (fun k h1 h2 => hr _ _ (by omega)) (fun k h1 h2 => hr _ _ (by omega)) (fun i hi => hr _ _ (by omega)), plLn.ext (by omega) hL1 (fun k => hc _ _ (by omega)) (fun k => hc _ _ (by omega)) (fun k => hc _ _ (by omega)) (fun k => hc _ _ (by omega)) (fun k h1 h2 => hr _ _ (by omega)) (fun k h1 h2 => hr _ _ (by omega)) (fun k h1 h2 => hr _ _ (by omega)) (fun i hi => hr _ _ (by omega)), hBk.ext (fun k => hc _ _ (by omega)) (fun k => hc _ _ (by omega)) (hr _ _ (by omega)) (fun k => hr _ _ (by omega)), hLb.ext (fun k hk => hc _ _ (by omega)) (fun k h1 h2 => hr _ _ (by omega)), hPtr.ext (fun k h1 h2 => hc _ _ (by omega)) (fun k h1 h2 => hr _ _ (by omega)), hStr.ext (fun k => hc _ _ (by omega)) (fun k => hc _ _ (by omega)) (fun k => hc _ _ (by omega)) (fun k => hc _ _ (by omega)) (fun k h1 h2 => hr _ _ (by omega)) (fun k => hr _ _ (by omega)) (fun k => hr _ _ (by omega))⟩, W.ext (fun k => hc _ _ (by omega)) (fun k hk => hr _ _ (by omega))⟩
theorem plSim_command : sim_command plR := by
  intro c r t ht hR v
  obtain ⟨n, hn, ⟨hT, hRw, hSrc, hCon, hNa, hLa, hL0, hL1, hBk, hLb, hPtr, hStr⟩, W⟩ := hR
  unfold K_PL_command K_RM_command K_PL_command_9 K_RM_command_9
  by_cases z0 : v < 0
  · rw [if_pos z0, if_pos z0]
    exact ⟨rfl, n, by omega, ⟨hT, hRw, hSrc, hCon, hNa, hLa, hL0, hL1, hBk, hLb, hPtr, hStr⟩, W⟩
  · rw [if_neg z0, if_neg z0]
    by_cases z3 : v ≤ 3
    · rw [if_pos z3, if_pos z3]
      refine ⟨rfl, n, by omega, ?_⟩
      obtain ⟨m, hm, rfl⟩ := nI_of z0
      have m3 : m ≤ 3 := by rw [show (3 : Int32) = nI 3 from rfl, nI_leI (by omega) (by omega)] at z3; exact z3
      show plAll (plUp c 19 3 (nI m)) (plUp r 0 37 (nI m)) n n n n n n ∧ plSw (plUp c 19 3 (nI m)) (plUp r 0 37 (nI m)) n
      obtain ⟨c1, hc1⟩ : ∃ c1, c1 = plUp c 19 3 (nI m) := ⟨_, rfl⟩
      obtain ⟨r1, hr1⟩ : ∃ r1, r1 = plUp r 0 37 (nI m) := ⟨_, rfl⟩
      rw [← hc1, ← hr1]
      have hc : ∀ i k, ¬ (i = 19 ∧ k = 3) → c1 i k = c i k := fun i k h => by rw [hc1, plUp_ap, if_neg h]
      have hr : ∀ i k, ¬ (i = 0 ∧ k = 37) → r1 i k = r i k := fun i k h => by rw [hr1, plUp_ap, if_neg h]
      refine ⟨⟨by rw [hr _ _ (by omega)]; exact hT, hRw.ext (fun k => hr _ _ (by omega)), hSrc.ext (fun k => hc _ _ (by omega)) (fun k => hc _ _ (by omega)) (fun k => hc _ _ (by omega)) (fun k => hc _ _ (by omega)) (fun k hk => hr _ _ (by omega)) (fun k => hr _ _ (by omega)) (fun k => hr _ _ (by omega)), hCon.ext (fun k => hc _ _ (by omega)) (fun k hk => hr _ _ (by omega)), hNa.ext (fun k => hc _ _ (by omega)) (fun k hk => hr _ _ (by omega)), hLa.ext (fun k hk => hc _ _ (by omega)) (fun k h1 h2 => hr _ _ (by omega)), plLn.ext (by omega) hL0 (fun k => hc _ _ (by omega)) (fun k => hc _ _ (by omega)) (fun k => hc _ _ (by omega)) (fun k => hc _ _ (by omega)) (fun k h1 h2 => hr _ _ (by omega)) (fun k h1 h2 => hr _ _ (by omega)) (fun k h1 h2 => hr _ _ (by omega)) (fun i hi => hr _ _ (by omega)), plLn.ext (by omega) hL1 (fun k => hc _ _ (by omega)) (fun k => hc _ _ (by omega)) (fun k => hc _ _ (by omega)) (fun k => hc _ _ (by omega)) (fun k h1 h2 => hr _ _ (by omega)) (fun k h1 h2 => hr _ _ (by omega)) (fun k h1 h2 => hr _ _ (by omega)) (fun i hi => hr _ _ (by omega)), hBk.ext (fun k => hc _ _ (by omega)) (fun k => hc _ _ (by omega)) (hr _ _ (by omega)) (fun k => hr _ _ (by omega)), hLb.ext (fun k hk => hc _ _ (by omega)) (fun k h1 h2 => hr _ _ (by omega)), hPtr.ext (fun k h1 h2 => hc _ _ (by omega)) (fun k h1 h2 => hr _ _ (by omega)), hStr.ext (fun k => hc _ _ (by omega)) (fun k => hc _ _ (by omega)) (fun k => hc _ _ (by omega)) (fun k => hc _ _ (by omega)) (fun k h1 h2 => hr _ _ (by omega)) (fun k => hr _ _ (by omega)) (fun k => hr _ _ (by omega))⟩, ?_⟩
      obtain ⟨h, w, o, f, q, x, a1, a2, a3, a4, a5, a6, b1, b2, b3, b4, b5, b6, b7, b8, b9, b10, b11, b12, b13, b14, b15⟩ := W
      exact ⟨h, w, m, f, q, x, a1, a2, m3, a4, a5, a6, by rw [hc _ _ (by omega)]; exact b1, by rw [hr _ _ (by omega)]; exact b2, by rw [hc _ _ (by omega)]; exact b3, by rw [hr _ _ (by omega)]; exact b4, by rw [hc1, plUp_ap, if_pos ⟨rfl, rfl⟩], by rw [hr1, plUp_ap, if_pos ⟨rfl, rfl⟩], by rw [hc _ _ (by omega)]; exact b7, by rw [hr _ _ (by omega)]; exact b8, by rw [hc _ _ (by omega)]; exact b9, by rw [hr _ _ (by omega)]; exact b10, by rw [hr _ _ (by omega)]; exact b11, fun z => by rw [hc _ _ (by omega)]; exact b12 z, b13, by rw [hc _ _ (by omega), hr _ _ (by omega)]; exact b14, by rw [hc _ _ (by omega)]; exact b15⟩
    · rw [if_neg z3, if_neg z3]
      exact ⟨rfl, n, by omega, ⟨hT, hRw, hSrc, hCon, hNa, hLa, hL0, hL1, hBk, hLb, hPtr, hStr⟩, W⟩
theorem plOweR : ∀ D, D < 17 → ((-8) - (nI D - 8)).toInt = -(D : Int) ∧ (8 - (nI D - 8)).toInt = 16 - (D : Int) := by decide +kernel
theorem plOweN : ∀ D, D < 17 → ∀ k, k < 33 → (nI D - 8) + (nI k - 16) < (-8) ∧ D + k < 16 ∨ ¬ (nI D - 8) + (nI k - 16) < (-8) ∧ ¬ D + k < 16 ∧ ((nI D - 8) + (nI k - 16) ≤ 8 ↔ D + k ≤ 32) := by decide +kernel
theorem plOweV : ∀ D, D < 17 → ∀ k, k < 33 → 16 ≤ D + k → D + k ≤ 32 → (nI D - 8) + (nI k - 16) = nI (D + k - 16) - 8 := by decide +kernel
theorem plOwe {c r : plS} (v : Int32) {D : Nat} (hD : D ≤ 16) (hc : c 5 4 = nI D - 8) (hr : r 0 14 = nI D - 8) : (K_NA_owe c v = (0, c) ∧ K_RM_drift r v = (0, r)) ∨ ∃ D', D' ≤ 16 ∧ K_NA_owe c v = (1, plUp c 5 4 (nI D' - 8)) ∧ K_RM_drift r v = (1, plUp r 0 14 (nI D' - 8)) := by
  obtain ⟨o1, o2⟩ := plOweR D (by omega)
  have l1 : v < (-8) - (nI D - 8) ↔ v.toInt < -(D : Int) := by rw [Int32.lt_iff_toInt_lt, o1]
  have l2 : v ≤ 8 - (nI D - 8) ↔ v.toInt ≤ 16 - (D : Int) := by rw [Int32.le_iff_toInt_le, o2]
  have l3 : v < (-16) ↔ v.toInt < -16 := by rw [Int32.lt_iff_toInt_lt, show ((-16) : Int32).toInt = -16 from rfl]
  have l4 : 16 < v ↔ 16 < v.toInt := by rw [Int32.lt_iff_toInt_lt, show (16 : Int32).toInt = 16 from rfl]
  have kc : K_NA_owe c v = if v < (-8) - (nI D - 8) then (0, c) else (if v ≤ 8 - (nI D - 8) then (1, plUp c 5 4 ((nI D - 8) + v)) else (0, c)) := by
    unfold K_NA_owe K_NA_owe_22
    rw [hc]
  have kr : K_RM_drift r v = if v < (-16) then (0, r) else (if 16 < v then (0, r) else (if (nI D - 8) + v < (-8) then (0, r) else (if (nI D - 8) + v ≤ 8 then (1, plUp r 0 14 ((nI D - 8) + v)) else (0, r)))) := by
    unfold K_RM_drift K_RM_drift_34
    rw [hr]
  by_cases z3 : v.toInt < -16
  · left
    rw [kc, kr, if_pos (l1.mpr (by omega)), if_pos (l3.mpr z3)]
    exact ⟨rfl, rfl⟩
  · by_cases z4 : 16 < v.toInt
    · left
      rw [kc, kr, if_neg (fun y => by have := l1.mp y; omega), if_neg (fun y => by have := l2.mp y; omega), if_neg (fun y => z3 (l3.mp y)), if_pos (l4.mpr z4)]
      exact ⟨rfl, rfl⟩
    · obtain ⟨k, hk, ek⟩ : ∃ k : Nat, k < 33 ∧ v = nI k - 16 := by
        refine ⟨(v.toInt + 16).toNat, by omega, ?_⟩
        apply Int32.toInt_inj.1
        rw [show (16 : Int32) = nI 16 from rfl, pk_sub_toInt (by omega) (by omega)]
        omega
      have tk : v.toInt = (k : Int) - 16 := by
        rw [ek, show (16 : Int32) = nI 16 from rfl, pk_sub_toInt (by omega) (by omega)]
        rfl
      rw [kc, kr, if_neg (fun y => z3 (l3.mp y)), if_neg (fun y => z4 (l4.mp y))]
      rcases plOweN D (by omega) k hk with ⟨y1, y2⟩ | ⟨y1, y2, y3⟩
      · left
        rw [← ek] at y1
        rw [if_pos (l1.mpr (by omega)), if_pos y1]
        exact ⟨rfl, rfl⟩
      · rw [← ek] at y1 y3
        rw [if_neg (fun y => by have := l1.mp y; omega), if_neg y1]
        by_cases y4 : D + k ≤ 32
        · right
          rw [if_pos (l2.mpr (by omega)), if_pos (y3.mpr y4)]
          have ev := plOweV D (by omega) k hk (by omega) y4
          rw [← ek] at ev
          exact ⟨D + k - 16, by omega, by rw [ev], by rw [ev]⟩
        · left
          rw [if_neg (fun y => by have := l2.mp y; omega), if_neg (fun y => y4 (y3.mp y))]
          exact ⟨rfl, rfl⟩
theorem plSim_drift : sim_drift plR := by
  intro c r t ht hR v
  obtain ⟨n, hn, ⟨hT, hRw, hSrc, hCon, hNa, hLa, hL0, hL1, hBk, hLb, hPtr, hStr⟩, W⟩ := hR
  have hNa' := hNa
  obtain ⟨p, q, D, a1, a2, a3, b1, b2, b3, b4, b5, b6⟩ := hNa'
  unfold P_PL_drift K_PL_drift P_PL_drift_8q K_PL_drift_8q
  rcases plOwe (c := c) (r := r) v a3 b3 b4 with ⟨k1, k2⟩ | ⟨D', hD, k1, k2⟩
  · rw [k1, k2]
    exact ⟨Or.inl rfl, rfl, n, by omega, ⟨hT, hRw, hSrc, hCon, hNa, hLa, hL0, hL1, hBk, hLb, hPtr, hStr⟩, W⟩
  · rw [k1, k2]
    refine ⟨Or.inr rfl, rfl, n, by omega, ?_⟩
    show plAll (plUp c 5 4 (nI D' - 8)) (plUp r 0 14 (nI D' - 8)) n n n n n n ∧ plSw (plUp c 5 4 (nI D' - 8)) (plUp r 0 14 (nI D' - 8)) n
    obtain ⟨c1, hc1⟩ : ∃ c1, c1 = plUp c 5 4 (nI D' - 8) := ⟨_, rfl⟩
    obtain ⟨r1, hr1⟩ : ∃ r1, r1 = plUp r 0 14 (nI D' - 8) := ⟨_, rfl⟩
    rw [← hc1, ← hr1]
    have hc : ∀ i k, ¬ (i = 5 ∧ k = 4) → c1 i k = c i k := fun i k h => by rw [hc1, plUp_ap, if_neg h]
    have hr : ∀ i k, ¬ (i = 0 ∧ k = 14) → r1 i k = r i k := fun i k h => by rw [hr1, plUp_ap, if_neg h]
    exact ⟨⟨by rw [hr _ _ (by omega)]; exact hT, hRw.ext (fun k => hr _ _ (by omega)), hSrc.ext (fun k => hc _ _ (by omega)) (fun k => hc _ _ (by omega)) (fun k => hc _ _ (by omega)) (fun k => hc _ _ (by omega)) (fun k hk => hr _ _ (by omega)) (fun k => hr _ _ (by omega)) (fun k => hr _ _ (by omega)), hCon.ext (fun k => hc _ _ (by omega)) (fun k hk => hr _ _ (by omega)), ⟨p, q, D', a1, a2, hD, by rw [hc _ _ (by omega)]; exact b1, by rw [hr _ _ (by omega)]; exact b2, by rw [hc1, plUp_ap, if_pos ⟨rfl, rfl⟩], by rw [hr1, plUp_ap, if_pos ⟨rfl, rfl⟩], by rw [hc _ _ (by omega)]; exact b5, by rw [hr _ _ (by omega)]; exact b6⟩, hLa.ext (fun k hk => hc _ _ (by omega)) (fun k h1 h2 => hr _ _ (by omega)), plLn.ext (by omega) hL0 (fun k => hc _ _ (by omega)) (fun k => hc _ _ (by omega)) (fun k => hc _ _ (by omega)) (fun k => hc _ _ (by omega)) (fun k h1 h2 => hr _ _ (by omega)) (fun k h1 h2 => hr _ _ (by omega)) (fun k h1 h2 => hr _ _ (by omega)) (fun i hi => hr _ _ (by omega)), plLn.ext (by omega) hL1 (fun k => hc _ _ (by omega)) (fun k => hc _ _ (by omega)) (fun k => hc _ _ (by omega)) (fun k => hc _ _ (by omega)) (fun k h1 h2 => hr _ _ (by omega)) (fun k h1 h2 => hr _ _ (by omega)) (fun k h1 h2 => hr _ _ (by omega)) (fun i hi => hr _ _ (by omega)), hBk.ext (fun k => hc _ _ (by omega)) (fun k => hc _ _ (by omega)) (hr _ _ (by omega)) (fun k => hr _ _ (by omega)), hLb.ext (fun k hk => hc _ _ (by omega)) (fun k h1 h2 => hr _ _ (by omega)), hPtr.ext (fun k h1 h2 => hc _ _ (by omega)) (fun k h1 h2 => hr _ _ (by omega)), hStr.ext (fun k => hc _ _ (by omega)) (fun k => hc _ _ (by omega)) (fun k => hc _ _ (by omega)) (fun k => hc _ _ (by omega)) (fun k h1 h2 => hr _ _ (by omega)) (fun k => hr _ _ (by omega)) (fun k => hr _ _ (by omega))⟩, W.ext (fun k => hc _ _ (by omega)) (fun k hk => hr _ _ (by omega))⟩
