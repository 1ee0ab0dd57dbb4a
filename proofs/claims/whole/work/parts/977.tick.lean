/-! one tick, step by step -/
theorem plRw.ext {r r' : plS} (h : plRw r) (g : ∀ k, r' 6 k = r 6 k) : plRw r' := ⟨by rw [g]; exact h.1, by rw [g]; exact h.2.1, fun p h1 h2 => by rw [g]; exact h.2.2 p h1 h2⟩
def plAll (c r : plS) (T nA n0 n1 nB nL : Nat) : Prop := r 0 3 = nI T ∧ plRw r ∧ plSrc c r ∧ plCon c r ∧ plNa c r ∧ plLa c r nA ∧ plLn 9 10 11 12 0 c r n0 ∧ plLn 13 14 15 16 1 c r n1 ∧ plBk c r nB ∧ plLb c r nL ∧ plPtr c r nB (7 * nB) ∧ plStr c r (7 * nB)
theorem plStep1 {c r : plS} {n : Nat} (hn : n < 2 ^ 20) (H : plAll c r n n n n n n) (W : plSw c r n) : P_BL_arriving c (c 13 4) ∧ P_RM_hear (plUp r 0 3 (nI (n + 1))) ∧ plAll (K_LA_hear c (K_BL_arriving c (c 13 4))) (K_RM_hear (plUp r 0 3 (nI (n + 1)))) (n + 1) (n + 1) n n n n ∧ plSw (K_LA_hear c (K_BL_arriving c (c 13 4))) (K_RM_hear (plUp r 0 3 (nI (n + 1)))) n := by
  obtain ⟨hT, hRw, hSrc, hCon, hNa, hLa, hL0, hL1, hBk, hLb, hPtr, hStr⟩ := H
  obtain ⟨r1, hr1⟩ : ∃ r1, r1 = plUp r 0 3 (nI (n + 1)) := ⟨_, rfl⟩
  rw [← hr1]
  have g1 : ∀ i k, ¬ (i = 0 ∧ k = 3) → r1 i k = r i k := fun i k h => by rw [hr1, plUp_ap, if_neg h]
  have hBk1 : plBk c r1 n := hBk.ext (fun _ => rfl) (fun _ => rfl) (g1 _ _ (by omega)) (fun k => g1 _ _ (by omega))
  have hLa1 : plLa c r1 n := hLa.ext (fun _ _ => rfl) (fun k h1 h2 => g1 _ _ (by omega))
  have hcut : c 13 4 = r1 8 1 := by rw [g1 _ _ (by omega)]; exact hL1.2.2.2.2.1.1
  obtain ⟨p1, p2, la⟩ := plHearA (by omega) hBk1 hcut hLa1 (by rw [hr1, plUp_ap, if_pos ⟨rfl, rfl⟩])
  obtain ⟨c1, hc1⟩ : ∃ c1, c1 = K_LA_hear c (K_BL_arriving c (c 13 4)) := ⟨_, rfl⟩
  obtain ⟨r2, hr2⟩ : ∃ r2, r2 = K_RM_hear r1 := ⟨_, rfl⟩
  rw [← hc1, ← hr2] at la ⊢
  have hc : ∀ i k, ¬ i = 7 → c1 i k = c i k := fun i k h => by rw [hc1]; apply fr_K_LA_hear <;> omega
  have hr' : ∀ i k, ¬ (i = 0 ∧ 16 ≤ k ∧ k ≤ 19) → r2 i k = r1 i k := fun i k h => by rw [hr2]; apply fr_K_RM_hear <;> omega
  have hr : ∀ i k, ¬ (i = 0 ∧ (k = 3 ∨ (16 ≤ k ∧ k ≤ 19))) → r2 i k = r i k := fun i k h => by rw [hr' i k (by omega), g1 i k (by omega)]
  refine ⟨p1, p2, ⟨?_, hRw.ext (fun k => hr _ _ (by omega)), hSrc.ext (fun k => hc _ _ (by omega)) (fun k => hc _ _ (by omega)) (fun k => hc _ _ (by omega)) (fun k => hc _ _ (by omega)) (fun k hk => hr _ _ (by omega)) (fun k => hr _ _ (by omega)) (fun k => hr _ _ (by omega)), hCon.ext (fun k => hc _ _ (by omega)) (fun k hk => hr _ _ (by omega)), hNa.ext (fun k => hc _ _ (by omega)) (fun k hk => hr _ _ (by omega)), la, plLn.ext (by omega) hL0 (fun k => hc _ _ (by omega)) (fun k => hc _ _ (by omega)) (fun k => hc _ _ (by omega)) (fun k => hc _ _ (by omega)) (fun k h1 h2 => hr _ _ (by omega)) (fun k h1 h2 => hr _ _ (by omega)) (fun k h1 h2 => hr _ _ (by omega)) (fun i hi => hr _ _ (by omega)), plLn.ext (by omega) hL1 (fun k => hc _ _ (by omega)) (fun k => hc _ _ (by omega)) (fun k => hc _ _ (by omega)) (fun k => hc _ _ (by omega)) (fun k h1 h2 => hr _ _ (by omega)) (fun k h1 h2 => hr _ _ (by omega)) (fun k h1 h2 => hr _ _ (by omega)) (fun i hi => hr _ _ (by omega)), hBk.ext (fun k => hc _ _ (by omega)) (fun k => hc _ _ (by omega)) (hr _ _ (by omega)) (fun k => hr _ _ (by omega)), hLb.ext (fun k hk => hc _ _ (by omega)) (fun k h1 h2 => hr _ _ (by omega)), hPtr.ext (fun k h1 h2 => hc _ _ (by omega)) (fun k h1 h2 => hr _ _ (by omega)), hStr.ext (fun k => hc _ _ (by omega)) (fun k => hc _ _ (by omega)) (fun k => hc _ _ (by omega)) (fun k => hc _ _ (by omega)) (fun k h1 h2 => hr _ _ (by omega)) (fun k => hr _ _ (by omega)) (fun k => hr _ _ (by omega))⟩, W.ext (fun k => hc _ _ (by omega)) (fun k hk => hr _ _ (by omega))⟩
  rw [hr' 0 3 (by omega), hr1, plUp_ap, if_pos ⟨rfl, rfl⟩]
theorem plBridge {c r : plS} {n : Nat} (h : plLa c r n) : P_NA_bridgeOn c ∧ K_NA_bridgeOn c = r 0 16 ∧ plB (r 0 16) ∧ ((c 7 0) / 16) * 16 = 16 * r 0 17 ∧ (∀ b : Int32, plB b → plBy (16 * r 0 17 + b)) := by
  obtain ⟨_, a, a1, a2, a3, a4⟩ := h
  have ed : c 7 0 / 16 = nI (a / 16) := by rw [a2, show (16 : Int32) = nI 16 from rfl, pk_div (by omega) (by omega) (by omega)]
  have g1 : nI (a / 16) < 1 ↔ ¬ 1 ≤ a / 16 := by rw [show (1 : Int32) = nI 1 from rfl, nI_ltI (by omega) (by omega)]; omega
  have g4 : 4 < nI (a / 16) ↔ ¬ a / 16 ≤ 4 := by rw [show (4 : Int32) = nI 4 from rfl, nI_ltI (by omega) (by omega)]; omega
  refine ⟨⟨fun _ => Or.inl rfl, fun _ => ⟨fun _ => Or.inl rfl, fun _ => Or.inr rfl⟩⟩, ?_, ?_, ?_, ?_⟩
  · unfold K_NA_bridgeOn K_NA_bridgeOn_25 K_NA_bridgeOn_26
    rw [ed, a4]
    by_cases v1 : 1 ≤ a / 16
    · rw [if_neg (fun w => g1.mp w v1)]
      by_cases v2 : a / 16 ≤ 4
      · rw [if_neg (fun w => g4.mp w v2), if_pos ⟨v1, v2⟩]
      · rw [if_pos (g4.mpr v2), if_neg (fun w => v2 w.2)]
    · rw [if_pos (g1.mpr v1), if_neg (fun w => v1 w.1)]
  · rw [a4]; split; exact Or.inr rfl; exact Or.inl rfl
  · rw [ed, a3, show (16 : Int32) = nI 16 from rfl, pk_mul, pk_mul, Nat.mul_comm]
  · intro b hb
    rw [a3, show (16 : Int32) = nI 16 from rfl, pk_mul]
    rcases hb with rfl | rfl
    · rw [show (0 : Int32) = nI 0 from rfl, nI_add]; exact plBy.lit (by omega)
    · rw [show (1 : Int32) = nI 1 from rfl, nI_add]; exact plBy.lit (by omega)
theorem plStep2 {c r : plS} {n : Nat} (hn : n < 2 ^ 20) (H : plAll c r (n + 1) (n + 1) n n n n) (W : plSw c r n) : P_NA_transmit_LW_LP c ∧ P_RM_build r ∧ plAll (K_NA_transmit_LW_LP c) (K_RM_build r) (n + 1) (n + 1) (n + 1) (n + 1) n n ∧ plSw (K_NA_transmit_LW_LP c) (K_RM_build r) n := by
  obtain ⟨hT, hRw, hSrc, hCon, hNa, hLa, hL0, hL1, hBk, hLb, hPtr, hStr⟩ := H
  obtain ⟨cF, rF, k1, p1, k2, p2, fSrc, fCon, fNa, f8, f70, f71, hcF0, hrF0⟩ := plFillBuild hSrc hCon hNa
  have hcF : ∀ i k, ¬ (i = 1 ∨ i = 4 ∨ i = 5 ∨ i = 6 ∨ i = 8) → cF i k = c i k := fun i k h => hcF0 i k (by omega) (by omega) (by omega) (by omega) (by omega)
  have hrF : ∀ i k, ¬ ((i = 0 ∧ (k = 4 ∨ (7 ≤ k ∧ k ≤ 15))) ∨ i = 2 ∨ i = 3 ∨ i = 7) → rF i k = r i k := fun i k h => hrF0 i k (by omega) (by omega) (by omega) (by omega)
  have tF : rF 0 3 = nI (n + 1) := by rw [hrF _ _ (by omega)]; exact hT
  have rwF : plRw rF := hRw.ext (fun k => hrF _ _ (by omega))
  have laF : plLa cF rF (n + 1) := hLa.ext (fun k hk => hcF _ _ (by omega)) (fun k h1 h2 => hrF _ _ (by omega))
  have l0F : plLn 9 10 11 12 0 cF rF n := plLn.ext (by omega) hL0 (fun k => hcF _ _ (by omega)) (fun k => hcF _ _ (by omega)) (fun k => hcF _ _ (by omega)) (fun k => hcF _ _ (by omega)) (fun k h1 h2 => hrF _ _ (by omega)) (fun k h1 h2 => hrF _ _ (by omega)) (fun k h1 h2 => hrF _ _ (by omega)) (fun i hi => hrF _ _ (by omega))
  have l1F : plLn 13 14 15 16 1 cF rF n := plLn.ext (by omega) hL1 (fun k => hcF _ _ (by omega)) (fun k => hcF _ _ (by omega)) (fun k => hcF _ _ (by omega)) (fun k => hcF _ _ (by omega)) (fun k h1 h2 => hrF _ _ (by omega)) (fun k h1 h2 => hrF _ _ (by omega)) (fun k h1 h2 => hrF _ _ (by omega)) (fun i hi => hrF _ _ (by omega))
  obtain ⟨q1, q2, l0⟩ := plPut_LW (by omega) l0F rwF tF f8 f70 f71
  obtain ⟨_, kp0⟩ := plPutR (r := rF) (l := 0) (n := n + 1) (by omega) (by omega) (by omega) tF
  rw [show nI 0 = 0 from rfl] at kp0
  obtain ⟨w1, w2⟩ := plPuts rF
  obtain ⟨c2, hc2⟩ : ∃ c2, c2 = K_LW_launch_NAc cF 0 := ⟨_, rfl⟩
  obtain ⟨r3, hr3⟩ : ∃ r3, r3 = K_RM_put rF 0 := ⟨_, rfl⟩
  rw [← hc2, ← hr3] at l0
  rw [← hr3] at kp0 w1 w2
  have e2 : ∀ i k, ¬ (i = 9 ∨ i = 10) → c2 i k = cF i k := fun i k h => by rw [hc2]; apply fr_K_LW_launch_NAc <;> omega
  have e3 : ∀ i k, ¬ (i = 4 ∧ k < 96) → r3 i k = rF i k := fun i k h => by rw [kp0, if_neg (by omega)]
  have rw3 : plRw r3 := rwF.ext (fun k => e3 _ _ (by omega))
  have la3 : plLa c2 r3 (n + 1) := laF.ext (fun k hk => e2 _ _ (by omega)) (fun k h1 h2 => e3 _ _ (by omega))
  have l13 : plLn 13 14 15 16 1 c2 r3 n := plLn.ext (by omega) l1F (fun k => e2 _ _ (by omega)) (fun k => e2 _ _ (by omega)) (fun k => e2 _ _ (by omega)) (fun k => e2 _ _ (by omega)) (fun k h1 h2 => e3 _ _ (by omega)) (fun k h1 h2 => e3 _ _ (by omega)) (fun k h1 h2 => e3 _ _ (by omega)) (fun i hi => e3 _ _ (by omega))
  have t3 : r3 0 3 = nI (n + 1) := by rw [e3 _ _ (by omega)]; exact tF
  obtain ⟨b1, b2, b3, b4, b5⟩ := plBridge la3
  obtain ⟨bF1, bF2, _, _, _⟩ := plBridge laF
  have e16 : rF 0 16 = r3 0 16 := (e3 _ _ (by omega)).symm
  obtain ⟨v1, hv1⟩ : ∃ v1 : Int32, v1 = 16 * r3 0 17 + (if r3 0 16 = 0 then 0 else 1) := ⟨_, rfl⟩
  have hv2 : plBy v1 := by rw [hv1]; exact b5 _ (by split; exact Or.inl rfl; exact Or.inr rfl)
  obtain ⟨z1, z2, z3⟩ := plPut_LP (v1 := v1) (by omega) l13 rw3 t3 hv1 hv2 (fun q hq => by rw [e2 _ _ (by omega), e3 _ _ (by omega)]; exact f8 q hq) (by rw [e3 _ _ (by omega)]; exact f70) (by rw [e3 _ _ (by omega)]; exact f71)
  obtain ⟨_, kp1⟩ := plPutR (r := r3) (l := 1) (n := n + 1) (by omega) (by omega) (by omega) t3
  rw [show nI 1 = 1 from rfl] at kp1
  obtain ⟨r4, hr4⟩ : ∃ r4, r4 = K_RM_put r3 1 := ⟨_, rfl⟩
  rw [← hr4] at z1 z2 kp1 w1
  have kb : K_RM_build r = r4 := by
    rw [k2, w1]
    rfl
  have hbr : K_NA_bridgeOn cF = r3 0 16 := by rw [bF2]; exact e16
  obtain ⟨c3, kc3, pc3, l1, e5⟩ : ∃ c3 : plS, K_NA_transmit_LW_LP c = c3 ∧ P_NA_transmit_LW_LP c ∧ plLn 13 14 15 16 1 c3 r4 (n + 1) ∧ ∀ i k, ¬ (i = 13 ∨ i = 14) → c3 i k = c2 i k := by
    rw [k1]
    unfold K_NA_transmit_LW_LP_8
    unfold P_NA_transmit_LW_LP_8 at p1
    rw [hbr, ← hc2] at p1 ⊢
    unfold K_NA_transmit_LW_LP_22 K_NA_transmit_LW_LP_44 K_NA_transmit_LW_LP_64 K_NA_transmit_LW_LP_64b
    unfold P_NA_transmit_LW_LP_22 P_NA_transmit_LW_LP_44 P_NA_transmit_LW_LP_64 P_NA_transmit_LW_LP_64b at p1
    rw [b4] at p1 ⊢
    by_cases y : r3 0 16 = 0
    · rw [if_pos y] at hv1
      rw [if_pos y, if_pos y, ← hv1]
      rw [← hv1] at p1
      exact ⟨_, rfl, p1 ⟨bF1, q1, fun _ => ⟨fun _ => (z2 y).1, fun w => absurd y w⟩, fun w => absurd y w⟩, (z2 y).2, fun i k h => by apply fr_K_LP_launch_EMPTY <;> omega⟩
    · rw [if_neg y] at hv1
      rw [if_neg y, if_neg y, ← hv1]
      rw [← hv1] at p1
      exact ⟨_, rfl, p1 ⟨bF1, q1, fun w => absurd w y, fun _ => ⟨fun w => absurd w y, fun _ => (z1 y).1⟩⟩, (z1 y).2, fun i k h => by apply fr_K_LP_launch_NAc <;> omega⟩
  have hcc : ∀ i k, ¬ (i = 9 ∨ i = 10 ∨ i = 13 ∨ i = 14) → c3 i k = cF i k := fun i k h => by rw [e5 i k (by omega), e2 i k (by omega)]
  have e4 : ∀ i k, ¬ (i = 4 ∧ 96 ≤ k) → r4 i k = r3 i k := fun i k h => by rw [kp1, if_neg (by omega)]
  have hrr : ∀ i k, ¬ i = 4 → r4 i k = rF i k := fun i k h => by rw [e4 i k (by omega), e3 i k (by omega)]
  have hc : ∀ i k, ¬ (i = 1 ∨ i = 4 ∨ i = 5 ∨ i = 6 ∨ i = 8 ∨ i = 9 ∨ i = 10 ∨ i = 13 ∨ i = 14) → c3 i k = c i k := fun i k h => by rw [hcc i k (by omega), hcF i k (by omega)]
  have hr : ∀ i k, ¬ ((i = 0 ∧ (k = 4 ∨ (7 ≤ k ∧ k ≤ 15))) ∨ i = 2 ∨ i = 3 ∨ i = 4 ∨ i = 7) → r4 i k = r i k := fun i k h => by rw [hrr i k (by omega), hrF i k (by omega)]
  refine ⟨pc3, p2 (w2 q2 z3), ?_⟩
  rw [kb, kc3]
  exact ⟨⟨by rw [hr _ _ (by omega)]; exact hT, hRw.ext (fun k => hr _ _ (by omega)), fSrc.ext (fun k => hcc _ _ (by omega)) (fun k => hcc _ _ (by omega)) (fun k => hcc _ _ (by omega)) (fun k => hcc _ _ (by omega)) (fun k hk => hrr _ _ (by omega)) (fun k => hrr _ _ (by omega)) (fun k => hrr _ _ (by omega)), fCon.ext (fun k => hcc _ _ (by omega)) (fun k hk => hrr _ _ (by omega)), fNa.ext (fun k => hcc _ _ (by omega)) (fun k hk => hrr _ _ (by omega)), hLa.ext (fun k hk => hc _ _ (by omega)) (fun k h1 h2 => hr _ _ (by omega)), plLn.ext (by omega) l0 (fun k => e5 _ _ (by omega)) (fun k => e5 _ _ (by omega)) (fun k => e5 _ _ (by omega)) (fun k => e5 _ _ (by omega)) (fun k h1 h2 => e4 _ _ (by omega)) (fun k h1 h2 => e4 _ _ (by omega)) (fun k h1 h2 => e4 _ _ (by omega)) (fun i hi => e4 _ _ (by omega)), l1, hBk.ext (fun k => hc _ _ (by omega)) (fun k => hc _ _ (by omega)) (hr _ _ (by omega)) (fun k => hr _ _ (by omega)), hLb.ext (fun k hk => hc _ _ (by omega)) (fun k h1 h2 => hr _ _ (by omega)), hPtr.ext (fun k h1 h2 => hc _ _ (by omega)) (fun k h1 h2 => hr _ _ (by omega)), hStr.ext (fun k => hc _ _ (by omega)) (fun k => hc _ _ (by omega)) (fun k => hc _ _ (by omega)) (fun k => hc _ _ (by omega)) (fun k h1 h2 => hr _ _ (by omega)) (fun k => hr _ _ (by omega)) (fun k => hr _ _ (by omega))⟩, W.ext (fun k => hc _ _ (by omega)) (fun k hk => hr _ _ (by omega))⟩
theorem plStep3 {c r : plS} {n : Nat} (hn : n < 2 ^ 20) (H : plAll c r (n + 1) (n + 1) (n + 1) (n + 1) n n) (W : plSw c r n) : P_LW_receive c ∧ P_LP_receive (K_LW_receive c) ∧ P_RM_arrive r ∧ plAll (K_LP_receive (K_LW_receive c)) (K_RM_arrive r) (n + 1) (n + 1) (n + 1) (n + 1) n n ∧ plSw (K_LP_receive (K_LW_receive c)) r n ∧ (∀ i k, ¬ ((i = 0 ∧ k = 33) ∨ (9 ≤ i ∧ i ≤ 16)) → K_RM_arrive r i k = r i k) ∧ ∃ S0, S0 ≤ 2 ∧ K_LP_receive (K_LW_receive c) 9 9 = nI S0 ∧ K_RM_arrive r 0 33 = if S0 = 2 then 0 else r 0 33 + 1 := by
  obtain ⟨hT, hRw, hSrc, hCon, hNa, hLa, hL0, hL1, hBk, hLb, hPtr, hStr⟩ := H
  obtain ⟨p1, p2, r5, k5, l0, f5⟩ := plRecv_LW (by omega) (by omega) hL0 hRw hT
  obtain ⟨c1, hc1⟩ : ∃ c1, c1 = K_LW_receive c := ⟨_, rfl⟩
  rw [← hc1] at l0 ⊢
  have e1 : ∀ i k, ¬ (i = 9 ∨ i = 11 ∨ i = 12) → c1 i k = c i k := fun i k h => by rw [hc1]; apply fr_K_LW_receive <;> omega
  have g5 : ∀ i k, ¬ (((i = 9 ∨ i = 10) ∧ k < 12) ∨ (11 ≤ i ∧ i ≤ 16 ∧ k = 0)) → r5 i k = r i k := fun i k h => f5 i k (by omega) (by omega)
  have rw5 : plRw r5 := hRw.ext (fun k => g5 _ _ (by omega))
  have l1' : plLn 13 14 15 16 1 c1 r5 (n + 1) := plLn.ext (by omega) hL1 (fun k => e1 _ _ (by omega)) (fun k => e1 _ _ (by omega)) (fun k => e1 _ _ (by omega)) (fun k => e1 _ _ (by omega)) (fun k h1 h2 => g5 _ _ (by omega)) (fun k h1 h2 => g5 _ _ (by omega)) (fun k h1 h2 => g5 _ _ (by omega)) (fun i hi => g5 _ _ (by omega))
  obtain ⟨p3, p4, r6, k6, l1, f6⟩ := plRecv_LP (by omega) (by omega) l1' rw5 (by rw [g5 _ _ (by omega)]; exact hT)
  obtain ⟨c2, hc2⟩ : ∃ c2, c2 = K_LP_receive c1 := ⟨_, rfl⟩
  rw [← hc2] at l1 ⊢
  have e2 : ∀ i k, ¬ (i = 13 ∨ i = 15 ∨ i = 16) → c2 i k = c1 i k := fun i k h => by rw [hc2]; apply fr_K_LP_receive <;> omega
  have g6 : ∀ i k, ¬ (((i = 9 ∨ i = 10) ∧ 12 ≤ k ∧ k < 24) ∨ (11 ≤ i ∧ i ≤ 16 ∧ k = 1)) → r6 i k = r5 i k := fun i k h => f6 i k (by omega) (by omega)
  have l0' : plLn 9 10 11 12 0 c2 r6 (n + 1) := plLn.ext (by omega) l0 (fun k => e2 _ _ (by omega)) (fun k => e2 _ _ (by omega)) (fun k => e2 _ _ (by omega)) (fun k => e2 _ _ (by omega)) (fun k h1 h2 => g6 _ _ (by omega)) (fun k h1 h2 => g6 _ _ (by omega)) (fun k h1 h2 => g6 _ _ (by omega)) (fun i hi => g6 _ _ (by omega))
  have F0 : F_RM_arrive_2 (r, 0) = (true, (r5, 1)) := k5
  have F1 : F_RM_arrive_2 (r5, 1) = (true, (r6, 2)) := k6
  have F2 : F_RM_arrive_2 (r6, 2) = (false, (r6, 2)) := by
    unfold F_RM_arrive_2 K_RM_arrive_2L
    rw [if_pos (show (2 : Int32) ≤ 2 by decide)]
  have kl : lpR F_RM_arrive_2 64 (r, 0) = (r6, 2) := lpR_3 _ F0 F1 F2 61
  have pl : P_RM_arrive r := lpP_3 _ _ F0 F1 F2 p2 p4 (fun y => absurd (show (2 : Int32) ≤ 2 by decide) y) 61
  obtain ⟨S0, s1, s2, s3, _⟩ := l0'.2.2.2.2.2.2.2.2.1
  have q2 : r6 14 0 = 2 ↔ S0 = 2 := by rw [s3, show (2 : Int32) = nI 2 from rfl, nI_eq (by omega) (by omega)]
  have e33 : r6 0 33 = r 0 33 := by rw [g6 _ _ (by omega), g5 _ _ (by omega)]
  have ka : K_RM_arrive r = plUp r6 0 33 (if S0 = 2 then 0 else r 0 33 + 1) := by
    unfold K_RM_arrive
    rw [kl]
    unfold K_RM_arrive_2X K_RM_arrive_279
    show (if r6 14 0 = 2 then plUp r6 0 33 0 else plUp r6 0 33 (r6 0 33 + 1)) = _
    by_cases y : S0 = 2
    · rw [if_pos (q2.mpr y), if_pos y]
    · rw [if_neg (fun w => y (q2.mp w)), if_neg y, e33]
  obtain ⟨r7, hr7⟩ : ∃ r7, r7 = plUp r6 0 33 (if S0 = 2 then 0 else r 0 33 + 1) := ⟨_, rfl⟩
  rw [ka, ← hr7]
  have g7 : ∀ i k, ¬ (i = 0 ∧ k = 33) → r7 i k = r6 i k := fun i k h => by rw [hr7, plUp_ap, if_neg h]
  have hc : ∀ i k, ¬ (i = 9 ∨ i = 11 ∨ i = 12 ∨ i = 13 ∨ i = 15 ∨ i = 16) → c2 i k = c i k := fun i k h => by rw [e2 i k (by omega), e1 i k (by omega)]
  have hr : ∀ i k, ¬ ((i = 0 ∧ k = 33) ∨ (9 ≤ i ∧ i ≤ 16)) → r7 i k = r i k := fun i k h => by rw [g7 i k (by omega), g6 i k (by omega), g5 i k (by omega)]
  have cc : ∀ i k : Nat, ¬ (i + 1 = 0) → c2 i k = c2 i k := fun _ _ _ => rfl
  refine ⟨p1, p3, pl, ⟨by rw [hr _ _ (by omega)]; exact hT, hRw.ext (fun k => hr _ _ (by omega)), hSrc.ext (fun k => hc _ _ (by omega)) (fun k => hc _ _ (by omega)) (fun k => hc _ _ (by omega)) (fun k => hc _ _ (by omega)) (fun k hk => hr _ _ (by omega)) (fun k => hr _ _ (by omega)) (fun k => hr _ _ (by omega)), hCon.ext (fun k => hc _ _ (by omega)) (fun k hk => hr _ _ (by omega)), hNa.ext (fun k => hc _ _ (by omega)) (fun k hk => hr _ _ (by omega)), hLa.ext (fun k hk => hc _ _ (by omega)) (fun k h1 h2 => hr _ _ (by omega)), plLn.ext (by omega) l0' (fun k => cc _ _ (by omega)) (fun k => cc _ _ (by omega)) (fun k => cc _ _ (by omega)) (fun k => cc _ _ (by omega)) (fun k h1 h2 => g7 _ _ (by omega)) (fun k h1 h2 => g7 _ _ (by omega)) (fun k h1 h2 => g7 _ _ (by omega)) (fun i hi => g7 _ _ (by omega)), plLn.ext (by omega) l1 (fun k => cc _ _ (by omega)) (fun k => cc _ _ (by omega)) (fun k => cc _ _ (by omega)) (fun k => cc _ _ (by omega)) (fun k h1 h2 => g7 _ _ (by omega)) (fun k h1 h2 => g7 _ _ (by omega)) (fun k h1 h2 => g7 _ _ (by omega)) (fun i hi => g7 _ _ (by omega)), hBk.ext (fun k => hc _ _ (by omega)) (fun k => hc _ _ (by omega)) (hr _ _ (by omega)) (fun k => hr _ _ (by omega)), hLb.ext (fun k hk => hc _ _ (by omega)) (fun k h1 h2 => hr _ _ (by omega)), hPtr.ext (fun k h1 h2 => hc _ _ (by omega)) (fun k h1 h2 => hr _ _ (by omega)), hStr.ext (fun k => hc _ _ (by omega)) (fun k => hc _ _ (by omega)) (fun k => hc _ _ (by omega)) (fun k => hc _ _ (by omega)) (fun k h1 h2 => hr _ _ (by omega)) (fun k => hr _ _ (by omega)) (fun k => hr _ _ (by omega))⟩, W.ext (fun k => hc _ _ (by omega)) (fun _ _ => rfl), hr, S0, s1, s2, by rw [hr7, plUp_ap, if_pos ⟨rfl, rfl⟩]⟩
