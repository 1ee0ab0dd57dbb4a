/-! the questions -/
theorem plSim_waiting : sim_waiting plR := by
  intro c r t ht hR
  obtain ⟨n, hn, ⟨_, _, ⟨o, w, L, P, N, s, a1, a2, a3, a4, a5, _⟩, _⟩, _⟩ := hR
  unfold K_PL_waiting K_RM_waiting
  rw [a4, a5]
theorem plLate {a u h w l n p : Nat} {c r : plS} (H : plLn a u h w l c r n) (hl : l < 2) (hn : n < 2 ^ 20) (hp : p < 12) (n0 : ¬ n = 0) : vp_in (K_LN_slotOf (nI n - 1) + nI p) 96 ∧ vp_in (12 * (8 * nI l + (nI n &&& 7)) + nI p) 192 ∧ c u (plIx (K_LN_slotOf (nI n - 1) + nI p)) = r 4 (plIx (12 * (8 * nI l + (nI n &&& 7)) + nI p)) := by
  have e1 : K_LN_slotOf (nI n - 1) + nI p = nI (12 * ((n - 1) % 8) + p) := by
    rw [show (1 : Int32) = nI 1 from rfl, pk_sub (by omega), plSlot (by omega), nI_add]
  have e2 : 12 * (8 * nI l + (nI n &&& 7)) + nI p = nI (12 * (8 * l + n % 8) + p) := by
    rw [plAnd7 (by omega), show (8 : Int32) = nI 8 from rfl, show (12 : Int32) = nI 12 from rfl, pk_mul, nI_add, pk_mul, nI_add]
  rw [e1, e2, plIx_nI (by omega), plIx_nI (by omega)]
  exact ⟨vp_in_nI (by omega) (by omega), vp_in_nI (by omega) (by omega), (H.2.2.1 n (by omega) (by omega) (by omega) p hp).1⟩
theorem plSim_sent : sim_sent plR := by
  intro c r t ht hR v0 v1
  obtain ⟨n, hn, ⟨hT, _, _, _, _, _, hL0, hL1, _⟩, W⟩ := hR
  have a0 : c 9 2 = nI n := hL0.2.1
  have a1 : c 13 2 = nI n := hL1.2.1
  have z9 : c 9 2 = 0 ↔ n = 0 := by rw [a0, show (0 : Int32) = nI 0 from rfl, nI_eq (by omega) (by omega)]
  have z13 : c 13 2 = 0 ↔ n = 0 := by rw [a1, show (0 : Int32) = nI 0 from rfl, nI_eq (by omega) (by omega)]
  have zr : r 0 3 ≤ 0 ↔ n = 0 := by rw [hT, show (0 : Int32) = nI 0 from rfl, nI_leI (by omega) (by omega)]; omega
  obtain ⟨il0, il1, il2, il3⟩ := plIsL0
  obtain ⟨pl1, pl2⟩ := plIsL v0
  obtain ⟨pp1, pp2⟩ := plIsP v1
  unfold K_PL_sent K_RM_sent K_PL_sent_26 K_RM_sent_46 K_PL_sent_27 K_RM_sent_47 P_PL_sent P_RM_sent
  rcases plIsPn v1 with ⟨k1, k2⟩ | ⟨k1, k2, p, hp, rfl⟩
  · refine ⟨⟨pl1, fun _ => ⟨pp1, fun y => absurd k1 y⟩⟩, ⟨pl2, fun _ => ⟨pp2, fun y => absurd k2 y⟩⟩, ?_⟩
    rw [if_pos k1, if_pos k2, ite_self, ite_self]
  · rw [if_neg k1, if_neg k2]
    by_cases z0 : v0 = 0
    · subst z0
      rw [if_neg il0, if_neg il1, if_pos rfl]
      unfold P_LW_latestByte K_LW_latestByte K_LW_latestByte_27
      by_cases zn : n = 0
      · rw [if_pos (z9.mpr zn), if_pos (zr.mpr zn)]
        exact ⟨⟨pl1, fun _ => ⟨pp1, fun _ => ⟨fun _ y => absurd (z9.mpr zn) y, fun y => absurd rfl y⟩⟩⟩, ⟨pl2, fun _ => ⟨pp2, fun _ y => absurd (zr.mpr zn) y⟩⟩, rfl⟩
      · obtain ⟨b1, b2, b3⟩ := plLate hL0 (by omega) (by omega) hp zn
        rw [if_neg (fun y => zn (z9.mp y)), if_neg (fun y => zn (zr.mp y)), hT, a0]
        exact ⟨⟨pl1, fun _ => ⟨pp1, fun _ => ⟨fun _ _ => b1, fun y => absurd rfl y⟩⟩⟩, ⟨pl2, fun _ => ⟨pp2, fun _ _ => b2⟩⟩, b3⟩
    · by_cases z1 : v0 = 1
      · subst z1
        rw [if_neg il2, if_neg il3, if_neg z0]
        unfold P_LP_latestByte K_LP_latestByte K_LP_latestByte_27
        by_cases zn : n = 0
        · rw [if_pos (z13.mpr zn), if_pos (zr.mpr zn)]
          exact ⟨⟨pl1, fun _ => ⟨pp1, fun _ => ⟨fun y => absurd y z0, fun _ y => absurd (z13.mpr zn) y⟩⟩⟩, ⟨pl2, fun _ => ⟨pp2, fun _ y => absurd (zr.mpr zn) y⟩⟩, rfl⟩
        · obtain ⟨b1, b2, b3⟩ := plLate hL1 (by omega) (by omega) hp zn
          rw [if_neg (fun y => zn (z13.mp y)), if_neg (fun y => zn (zr.mp y)), hT, a1]
          exact ⟨⟨pl1, fun _ => ⟨pp1, fun _ => ⟨fun y => absurd y z0, fun _ _ => b1⟩⟩⟩, ⟨pl2, fun _ => ⟨pp2, fun _ _ => b2⟩⟩, b3⟩
      · obtain ⟨j1, j2⟩ := plIsLn z0 z1
        rw [if_pos j1, if_pos j2]
        exact ⟨⟨pl1, fun y => absurd j1 y⟩, ⟨pl2, fun y => absurd j2 y⟩, rfl⟩
theorem plSim_alignment : sim_alignment plR := by
  intro c r t ht hR v0
  obtain ⟨n, hn, ⟨hT, _, _, _, _, _, hL0, hL1, _⟩, W⟩ := hR
  obtain ⟨_, _, _, _, _, _, _, _, ⟨S0, _, s1, s2, _⟩, _⟩ := hL0
  obtain ⟨_, _, _, _, _, _, _, _, ⟨S1, _, s3, s4, _⟩, _⟩ := hL1
  obtain ⟨il0, il1, il2, il3⟩ := plIsL0
  obtain ⟨pl1, pl2⟩ := plIsL v0
  unfold K_PL_alignment K_RM_alignment K_PL_alignment_19 K_RM_alignment_17
  by_cases z0 : v0 = 0
  · subst z0
    rw [if_neg il0, if_neg il1, if_pos rfl, show plIx 0 = 0 from rfl, s1, s2]
    exact ⟨pl1, ⟨pl2, fun _ => vp_in_nI (n := 0) (by omega) (by omega)⟩, rfl⟩
  · by_cases z1 : v0 = 1
    · subst z1
      rw [if_neg il2, if_neg il3, if_neg z0, show plIx 1 = 1 from rfl, s3, s4]
      exact ⟨pl1, ⟨pl2, fun _ => vp_in_nI (n := 1) (by omega) (by omega)⟩, rfl⟩
    · obtain ⟨j1, j2⟩ := plIsLn z0 z1
      rw [if_pos j1, if_pos j2]
      exact ⟨pl1, ⟨pl2, fun y => absurd j2 y⟩, rfl⟩
theorem plSim_errors : sim_errors plR := by
  intro c r t ht hR v0
  obtain ⟨n, hn, ⟨hT, _, _, _, _, _, hL0, hL1, _⟩, W⟩ := hR
  obtain ⟨_, _, _, _, _, _, _, _, _, s1⟩ := hL0
  obtain ⟨_, _, _, _, _, _, _, _, _, s3⟩ := hL1
  obtain ⟨il0, il1, il2, il3⟩ := plIsL0
  obtain ⟨pl1, pl2⟩ := plIsL v0
  unfold K_PL_errors K_RM_errors K_PL_errors_19 K_RM_errors_17
  by_cases z0 : v0 = 0
  · subst z0
    rw [if_neg il0, if_neg il1, if_pos rfl, show plIx 0 = 0 from rfl, s1]
    exact ⟨pl1, ⟨pl2, fun _ => vp_in_nI (n := 0) (by omega) (by omega)⟩, rfl⟩
  · by_cases z1 : v0 = 1
    · subst z1
      rw [if_neg il2, if_neg il3, if_neg z0, show plIx 1 = 1 from rfl, s3]
      exact ⟨pl1, ⟨pl2, fun _ => vp_in_nI (n := 1) (by omega) (by omega)⟩, rfl⟩
    · obtain ⟨j1, j2⟩ := plIsLn z0 z1
      rw [if_pos j1, if_pos j2]
      exact ⟨pl1, ⟨pl2, fun y => absurd j2 y⟩, rfl⟩
theorem plSim_request : sim_request plR := by
  intro c r t ht hR
  obtain ⟨n, hn, _, h, w, o, f, q, x, _, _, _, _, _, _, _, _, _, _, _, _, _, _, b9, b10, _⟩ := hR
  unfold K_PL_request K_RM_request
  rw [b9, b10]
theorem plSim_selected : sim_selected plR := by
  intro c r t ht hR
  obtain ⟨n, hn, _, h, w, o, f, q, x, _, _, _, _, _, _, _, _, _, _, _, _, _, _, _, _, _, _, _, b14, _⟩ := hR
  exact b14
theorem plSim_bridged : sim_bridged plR := by
  intro c r t ht hR
  obtain ⟨n, hn, ⟨_, _, _, _, _, hLa, _⟩, _⟩ := hR
  obtain ⟨b1, b2, b3, _⟩ := plBridge hLa
  exact ⟨⟨b1, by rw [b2]; exact b3⟩, b3, b2⟩
theorem plSim_pointer : sim_pointer plR := by
  intro c r t ht hR
  obtain ⟨n, hn, ⟨_, _, _, _, _, _, _, _, _, _, ⟨v, Γ, Z, m, a1, a2, a3, _⟩, _⟩, _⟩ := hR
  unfold K_PL_pointer K_RM_pointer
  rw [a2, a3]
theorem plSim_pathErrors : sim_pathErrors plR := by
  intro c r t ht hR
  obtain ⟨n, hn, ⟨_, _, _, _, _, _, _, _, _, _, ⟨v, Γ, Z, m, a1, a2, a3, a4, a5, a6, a7, a8, a9, a10, a11, a12, a13, a14, a15, a16, a17, a18, a19⟩, _⟩, _⟩ := hR
  exact a19
theorem plSim_sync : sim_sync plR := by
  intro c r t ht hR
  obtain ⟨n, hn, ⟨_, _, _, _, _, _, _, _, _, _, _, ⟨S, L, D, G, a1, a2, a3, _⟩⟩, _⟩ := hR
  unfold K_PL_sync K_RM_sync
  rw [a2, a3]
theorem plSim_delivered : sim_delivered plR := by
  intro c r t ht hR
  obtain ⟨n, hn, ⟨_, _, _, _, _, _, _, _, _, _, _, ⟨S, L, D, G, a1, a2, a3, a4, a5, a6, a7, a8, a9, a10, a11, a12, a13, a14, a15, a16, a17, a18⟩⟩, _⟩ := hR
  unfold K_PL_delivered K_RM_delivered
  rw [a14, a15]
theorem plSim_dropped : sim_dropped plR := by
  intro c r t ht hR
  obtain ⟨n, hn, ⟨_, _, _, _, _, _, _, _, _, _, _, ⟨S, L, D, G, a1, a2, a3, a4, a5, a6, a7, a8, a9, a10, a11, a12, a13, a14, a15, a16, a17, a18⟩⟩, _⟩ := hR
  exact a17
theorem plSim_got : sim_got plR := by
  intro c r t ht hR v0 v1
  obtain ⟨n, hn, ⟨_, _, _, _, _, _, _, _, _, _, _, ⟨S, L, D, G, a1, a2, a3, a4, a5, a6, a7, a8, a9, a10, a11, a12, a13, a14, a15, a16, a17, a18⟩⟩, _⟩ := hR
  unfold P_PL_got P_RM_got K_PL_got K_RM_got P_SR_kept K_SR_kept K_SR_kept_18 K_SR_kept_70 K_SR_kept_71 K_RM_got_36
  by_cases z0 : v0 < 0
  · rw [if_pos z0, if_pos z0]; exact ⟨fun y => absurd z0 y, fun y => absurd z0 y, rfl⟩
  rw [if_neg z0, if_neg z0]
  obtain ⟨k, hk, rfl⟩ := nI_of z0
  have e8 : 8 ≤ nI k ↔ 8 ≤ k := by rw [show (8 : Int32) = nI 8 from rfl, nI_leI (by omega) (by omega)]
  have e7 : 7 < nI k ↔ 8 ≤ k := by rw [show (7 : Int32) = nI 7 from rfl, nI_ltI (by omega) (by omega)]; omega
  by_cases z8 : 8 ≤ k
  · rw [if_pos (e8.mpr z8), if_pos (e7.mpr z8)]
    exact ⟨fun _ y => absurd (e8.mpr z8) y, fun _ y => absurd (e7.mpr z8) y, rfl⟩
  have n8 : ¬ 8 ≤ nI k := fun y => z8 (e8.mp y)
  have n7 : ¬ 7 < nI k := fun y => z8 (e7.mp y)
  rw [if_neg n8, if_neg n7]
  have eG : nI k < c 21 8 ↔ k < G := by rw [a14, nI_ltI (by omega) (by omega)]
  have eH : r 0 56 ≤ nI k ↔ ¬ k < G := by rw [a15, nI_leI (by omega) (by omega)]; omega
  by_cases zG : k < G
  · have nH : ¬ r 0 56 ≤ nI k := fun y => eH.mp y zG
    rw [if_pos (eG.mpr zG), if_neg nH]
    obtain ⟨z, y1, y2, y3, y4, y5⟩ := a18 k (by omega) zG
    have es : K_SR_slotOf (c 21 8 - nI k) = nI ((G - k) % 8) := by
      unfold K_SR_slotOf
      rw [a14, pk_sub (by omega), plAnd7 (by omega)]
    have e7k : 7 * nI k = nI (7 * k) := by rw [show (7 : Int32) = nI 7 from rfl, pk_mul]
    have hs : vp_in (nI ((G - k) % 8)) 8 := vp_in_nI (by omega) (by omega)
    have h7 : vp_in (nI (7 * k)) 56 := vp_in_nI (by omega) (by omega)
    rw [es, e7k, plIx_nI (by omega), plIx_nI (n := 7 * k) (by omega), y3, y4]
    by_cases zm : v1 = -1
    · subst zm
      have ix : nI (7 * k) + 1 + (-1) = nI (7 * k) := by rw [nI_1, pk_m1]
      have l1 : ¬ (-1 : Int32) < -1 := by decide
      have l2 : (-1 : Int32) < nI z := by
        rw [Int32.lt_iff_toInt_lt, nI_toInt (by omega)]
        rw [show (-1 : Int32).toInt = -1 from rfl]
        omega
      rw [if_pos rfl, if_neg l1, if_pos l2, ix, plIx_nI (by omega), y4]
      exact ⟨fun _ _ _ => ⟨fun _ => hs, fun y => absurd rfl y⟩, fun _ _ _ _ => ⟨h7, fun _ => h7⟩, rfl⟩
    · rw [if_neg zm]
      by_cases zn : v1 < 0
      · have l1 : v1 < -1 := by
          rw [Int32.lt_iff_toInt_lt] at zn ⊢
          have : ¬ v1.toInt = (-1 : Int32).toInt := fun y => zm (Int32.toInt_inj.1 y)
          rw [show (-1 : Int32).toInt = -1 from rfl] at this ⊢
          rw [show (0 : Int32).toInt = 0 from rfl] at zn
          omega
        rw [if_pos zn, if_pos l1]
        exact ⟨fun _ _ _ => ⟨fun y => absurd y zm, fun _ y => absurd zn y⟩, fun _ _ _ y => absurd l1 y, rfl⟩
      · have l1 : ¬ v1 < -1 := fun y => zn (by
          rw [Int32.lt_iff_toInt_lt] at y ⊢
          rw [show (-1 : Int32).toInt = -1 from rfl] at y
          rw [show (0 : Int32).toInt = 0 from rfl]
          omega)
        rw [if_neg zn, if_neg l1]
        obtain ⟨i, hi, rfl⟩ := nI_of zn
        have ez : nI z ≤ nI i ↔ z ≤ i := nI_leI (by omega) (by omega)
        have er : nI i < nI z ↔ i < z := nI_ltI (by omega) (by omega)
        by_cases zz : z ≤ i
        · rw [if_pos (ez.mpr zz), if_neg (fun y => absurd (er.mp y) (by omega))]
          exact ⟨fun _ _ _ => ⟨fun y => absurd y zm, fun _ _ => ⟨hs, fun y => absurd (ez.mpr zz) y⟩⟩, fun _ _ _ _ => ⟨h7, fun y => absurd (er.mp y) (by omega)⟩, rfl⟩
        · have ea : nI ((G - k) % 8) * 6 + nI i = nI (6 * ((G - k) % 8) + i) := by
            rw [show (6 : Int32) = nI 6 from rfl, pk_mul, nI_add, Nat.mul_comm]
          have eb : nI (7 * k) + 1 + nI i = nI (7 * k + 1 + i) := by
            rw [show (1 : Int32) = nI 1 from rfl, nI_add, nI_add]
          rw [if_neg (fun y => zz (ez.mp y)), if_pos (er.mpr (by omega)), ea, eb, plIx_nI (by omega), plIx_nI (by omega), y5 i (by omega)]
          exact ⟨fun _ _ _ => ⟨fun y => absurd y zm, fun _ _ => ⟨hs, fun _ => vp_in_nI (by omega) (by omega)⟩⟩, fun _ _ _ _ => ⟨h7, fun _ => vp_in_nI (by omega) (by omega)⟩, rfl⟩
  · rw [if_neg (fun y => zG (eG.mp y)), if_pos (eH.mpr zG)]
    exact ⟨fun _ _ y => absurd (eG.mp y) zG, fun _ _ y => absurd (eH.mpr zG) y, rfl⟩
