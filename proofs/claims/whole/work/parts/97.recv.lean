/-! what comes in on a line: class and reference -/
theorem plRecv_LW {c r : plS} {n : Nat} (hn1 : 1 ≤ n) (hn : n < 2 ^ 28) (H : plLn 9 10 11 12 0 c r n) (hR : plRw r) (hT : r 0 3 = nI n) : P_LW_receive c ∧ P_RM_arrive_2L r (nI 0) ∧ ∃ r', K_RM_arrive_2L r (nI 0) = (true, (r', nI (0 + 1))) ∧ plLn 9 10 11 12 0 (K_LW_receive c) r' n ∧ ∀ i k, ¬ ((i = 9 ∨ i = 10) ∧ 12 * 0 ≤ k ∧ k < 12 * 0 + 12) → ¬ (11 ≤ i ∧ i ≤ 16 ∧ k = 0) → r' i k = r i k := by
  obtain ⟨⟨d, q1, q2, q3, q4⟩, b2, b3, b4, ⟨b5, b5'⟩, b6, ⟨b7, b7'⟩, b8, ⟨S, s1, s2, s3, s4⟩, b10⟩ := H
  obtain ⟨b, hb⟩ : ∃ b, S = 2 → b ≤ 2 ∧ c 9 10 = nI b ∧ r 15 0 = nI b := by
    by_cases e : S = 2
    · obtain ⟨b, z⟩ := s4 e; exact ⟨b, fun _ => z⟩
    · exact ⟨0, fun z => absurd z e⟩
  obtain ⟨m, hm⟩ : ∃ m : Int32, m = if c 9 4 = 0 ∧ d < n then 1 else 0 := ⟨_, rfl⟩
  have hm' : m = if r 8 0 = 0 ∧ d < n then 1 else 0 := by rw [← b5]; exact hm
  have hmB : plB m := by rw [hm]; split; exact Or.inr rfl; exact Or.inl rfl
  have hm0 : ¬ m = 0 → d < n := fun y => by
    by_cases z : c 9 4 = 0 ∧ d < n
    · exact z.2
    · rw [if_neg z] at hm; exact absurd hm y
  obtain ⟨c3, ec, pc, kc⟩ := plRec_LW hn q1 q2 b2 q3 hm
  obtain ⟨r4, er, pr, kr⟩ := plArrR (l := 0) (by omega) hn hT q1 q2 q4 (by rw [← b7]; exact b7') hm'
  have xl : plIx (nI 0) = 0 := rfl
  have vl : vp_in (nI 0) 2 := vp_in_nI (by omega) (by omega)
  have cr : ¬ m = 0 → ∀ p, p < 12 → c3 12 p = r4 10 (12 * 0 + p) ∧ plBy (c3 12 p) ∧ c3 12 p = c 10 (12 * ((n - 1 - d) % 8) + p) ^^^ c 11 p := fun y p hp => by
    have hdn := hm0 y
    obtain ⟨j1, j2⟩ := b3 (n - d) (by omega) (by omega) (by omega) p hp
    obtain ⟨j3, j4⟩ := b6 p hp
    have e1 : c3 12 p = c 10 (12 * ((n - 1 - d) % 8) + p) ^^^ c 11 p := by rw [ec, if_neg (by omega), if_neg (by omega), if_pos ⟨y, rfl, hp⟩]
    have e2 : r4 10 (12 * 0 + p) = c 10 (12 * ((n - 1 - d) % 8) + p) ^^^ c 11 p := by
      rw [er, if_pos ⟨rfl, by omega, by omega⟩, if_neg y, show 12 * 0 + p - 12 * 0 = p by omega, ← j1, ← j3, show n - d - 1 = n - 1 - d by omega]
    refine ⟨by rw [e1, e2], ?_, e1⟩
    rw [e1]
    rw [show n - d - 1 = n - 1 - d by omega] at j1
    rw [j1]
    exact j2.xor j4
  obtain ⟨gd, hgd⟩ : ∃ gd : Prop, gd ↔ (¬ m = 0 ∧ r4 10 (12 * 0) = 246 ∧ r4 10 (12 * 0 + 1) = 40) := ⟨_, Iff.rfl⟩
  have gd2 : gd ↔ (¬ m = 0 ∧ c3 12 0 = 246 ∧ c3 12 1 = 40) := by
    rw [hgd]
    refine ⟨fun z => ⟨z.1, ?_, ?_⟩, fun z => ⟨z.1, ?_, ?_⟩⟩
    · rw [(cr z.1 0 (by omega)).1]; exact z.2.1
    · rw [(cr z.1 1 (by omega)).1]; exact z.2.2
    · rw [← show c3 12 0 = r4 10 (12 * 0) from (cr z.1 0 (by omega)).1]; exact z.2.1
    · rw [← (cr z.1 1 (by omega)).1]; exact z.2.2
  have c37 : c3 9 7 = m := by rw [ec, if_neg (by omega), if_neg (by omega), if_neg (by omega), if_pos ⟨rfl, rfl⟩]
  have c3o : ∀ k, ¬ k = 7 → ¬ k = 8 → c3 9 k = c 9 k := fun k k7 k8 => by rw [ec, if_neg (by omega), if_neg (by omega), if_neg (by omega), if_neg (by omega)]
  have r4o : ∀ i k, ¬ ((i = 9 ∨ i = 10) ∧ 12 * 0 ≤ k ∧ k < 12 * 0 + 12) → ¬ (11 ≤ i ∧ i ≤ 13 ∧ k = 0) → r4 i k = r i k := fun i k z1 z2 => by
    rw [er, if_neg (by omega), if_neg (by omega), if_neg (by omega), if_neg (by omega), if_neg (by omega)]
  obtain ⟨g, hg, hg0⟩ : ∃ g : Int32, K_LW_receive_70 c3 (c 9 7) (c 9 8) = K_LW_receive_109 (K_LW_align c3 g) (c 9 7) (c 9 8) ∧ (¬ g = 0 ↔ gd) := by
    unfold K_LW_receive_70 K_LW_receive_105 K_LW_receive_106
    rw [c37, show plIx 0 = 0 from rfl, show plIx 1 = 1 from rfl]
    by_cases y : m = 0
    · exact ⟨0, by rw [if_pos y], fun z => absurd rfl z, fun z => absurd y (gd2.mp z).1⟩
    · by_cases y2 : c3 12 0 = 246
      · by_cases y3 : c3 12 1 = 40
        · exact ⟨1, by rw [if_neg y, if_pos y2, if_pos y3], fun _ => gd2.mpr ⟨y, y2, y3⟩, fun _ => by decide⟩
        · exact ⟨0, by rw [if_neg y, if_pos y2, if_neg y3], fun z => absurd rfl z, fun z => absurd (gd2.mp z).2.2 y3⟩
      · exact ⟨0, by rw [if_neg y, if_neg y2], fun z => absurd rfl z, fun z => absurd (gd2.mp z).2.1 y2⟩
  have ac := plAlign_LW (c := c3) (S := S) (b := b) s1 (by rw [c3o 9 (by omega) (by omega)]; exact s2) (fun e => ⟨(hb e).1, by rw [c3o 10 (by omega) (by omega)]; exact (hb e).2.1⟩) g
  obtain ⟨pa, ar⟩ := plAlignR (r := r4) (l := 0) (S := S) (b := b) (m := m) (by omega) s1 (by rw [r4o 14 _ (by omega) (by omega)]; exact s3) (fun e => ⟨(hb e).1, by rw [r4o 15 _ (by omega) (by omega)]; exact (hb e).2.2⟩) (by rw [er, if_neg (by omega), if_neg (by omega), if_pos ⟨rfl, rfl⟩])
  obtain ⟨S', hS'⟩ : ∃ S' : Nat, (gd → S' = if S = 0 then 1 else 2) ∧ (¬ gd → S' = if S = 2 ∧ b < 2 then 2 else 0) := by
    by_cases y : gd
    · exact ⟨_, fun _ => rfl, fun z => absurd y z⟩
    · exact ⟨_, fun z => absurd z y, fun _ => rfl⟩
  have hS2 : S' ≤ 2 := by
    by_cases y : gd
    · rw [hS'.1 y]; split <;> omega
    · rw [hS'.2 y]; split <;> omega
  obtain ⟨c5, hc5⟩ : ∃ c5, c5 = K_LW_align c3 g := ⟨_, rfl⟩
  obtain ⟨r5, hr5⟩ : ∃ r5, r5 = K_RM_align r4 (nI 0) := ⟨_, rfl⟩
  rw [← hc5] at ac hg
  rw [← hr5] at ar kr pr
  have c59 : c5 9 9 = nI S' := by
    rw [ac, if_pos ⟨rfl, rfl⟩]
    by_cases y : gd
    · rw [if_pos (hg0.mpr y), hS'.1 y]
    · rw [if_neg (fun w => y (hg0.mp w)), hS'.2 y]
  have r514 : r5 14 0 = nI S' := by
    rw [ar, if_pos ⟨rfl, rfl⟩]
    by_cases y : gd
    · rw [if_pos (hgd.mp y), hS'.1 y]
    · rw [if_neg (fun w => y (hgd.mpr w)), hS'.2 y]
  have c5o : ∀ i k, ¬ (i = 9 ∧ (k = 9 ∨ k = 10)) → c5 i k = c3 i k := fun i k z => by rw [ac, if_neg (by omega), if_neg (by omega)]
  have r5o : ∀ i k, ¬ ((i = 14 ∨ i = 15) ∧ k = 0) → r5 i k = r4 i k := fun i k z => by rw [ar, if_neg (by omega), if_neg (by omega)]
  have hbad : S' = 2 → ∃ b', b' ≤ 2 ∧ c5 9 10 = nI b' ∧ r5 15 0 = nI b' := fun e => by
    have x1 : c5 9 10 = if ¬ g = 0 then 0 else c3 9 10 + 1 := by rw [ac, if_neg (by omega), if_pos ⟨rfl, rfl⟩]
    have x2 : r5 15 0 = if S = 2 ∧ ¬ (¬ m = 0 ∧ r4 10 (12 * 0) = 246 ∧ r4 10 (12 * 0 + 1) = 40) then nI (b + 1) else 0 := by rw [ar, if_neg (by omega), if_pos ⟨rfl, rfl⟩]
    rw [x1, x2]
    by_cases y : gd
    · exact ⟨0, by omega, by rw [if_pos (hg0.mpr y)]; rfl, by rw [if_neg (fun w => w.2 (hgd.mp y))]; rfl⟩
    · have e2 := hS'.2 y
      by_cases y2 : S = 2 ∧ b < 2
      · exact ⟨b + 1, by omega, by rw [if_neg (fun w => y (hg0.mp w)), c3o 10 (by omega) (by omega), (hb y2.1).2.1, nI_1], by rw [if_pos ⟨y2.1, fun w => y (hgd.mpr w)⟩]⟩
      · rw [if_neg y2] at e2; omega
  have c57 : c5 9 7 = m := by rw [c5o _ _ (by omega)]; exact c37
  have qS : nI S' = 2 ↔ S' = 2 := by rw [show (2 : Int32) = nI 2 from rfl, nI_eq (by omega) (by omega)]
  have r511 : r5 11 0 = m := by rw [r5o _ _ (by omega), er, if_neg (by omega), if_neg (by omega), if_pos ⟨rfl, rfl⟩]
  have r512 : r5 12 0 = c 9 7 := by rw [r5o _ _ (by omega), er, if_neg (by omega), if_neg (by omega), if_neg (by omega), if_neg (by omega), if_pos ⟨rfl, rfl⟩]; exact b7.symm
  have r513 : r5 13 0 = plXor (fun p => r 10 (12 * 0 + p)) 12 := by rw [r5o _ _ (by omega), er, if_neg (by omega), if_neg (by omega), if_neg (by omega), if_pos ⟨rfl, rfl⟩]
  obtain ⟨x, hx⟩ : ∃ x : Int32, x = K_JI_bitCount (K_LW_plainAt c5 2 ^^^ c 9 8) := ⟨_, rfl⟩
  have kc2 : K_LW_receive c = if S' = 2 ∧ ¬ m = 0 ∧ ¬ c 9 7 = 0 then plUp c5 9 11 (c5 9 11 + x) else c5 := by
    rw [kc, hg]
    unfold K_LW_receive_109 K_LW_receive_139 K_LW_readable K_LW_readable_19 K_LW_readable_20
    rw [c59, c57, ← hx]
    simp only [qS]
    by_cases y1 : S' = 2
    · simp only [if_pos y1]
      by_cases y2 : m = 0
      · rw [if_pos y2, if_pos rfl, if_neg (fun w => w.2.1 y2)]
      · rw [if_neg y2, if_neg (show ¬ (1 : Int32) = 0 by decide)]
        by_cases y3 : c 9 7 = 0
        · rw [if_pos y3, if_neg (fun w => w.2.2 y3)]
        · rw [if_neg y3, if_pos ⟨y1, y2, y3⟩]
    · simp only [if_neg y1]
      rw [if_pos trivial, if_neg (fun w => y1 w.1)]
  have hx2 : ¬ m = 0 → ¬ c 9 7 = 0 → K_RM_ones ((r5 10 (plIx (12 * nI 0 + 2)) ^^^ r5 6 (plIx 2)) ^^^ r5 13 (plIx (nI 0))) = x := fun y1 y2 => by
    obtain ⟨z1, z2⟩ := b8 y2
    obtain ⟨w1, w2, w3⟩ := cr y1 2 (by omega)
    have e1 : r5 10 (plIx (12 * nI 0 + 2)) = c3 12 2 := by
      rw [show plIx (12 * nI 0 + 2) = 12 * 0 + 2 from rfl, r5o _ _ (by omega), w1]
    have e2 : r5 6 (plIx 2) = plROW 0 := by
      rw [show plIx 2 = 2 from rfl, r5o _ _ (by omega), r4o _ _ (by omega) (by omega), hR.2.2 2 (by omega) (by omega)]
    have e3 : K_LW_plainAt c5 2 = c3 12 2 ^^^ plROW 0 := by
      show c5 12 2 ^^^ plROW 0 = _
      rw [c5o _ _ (by omega)]
    rw [e1, e2, xl, r513, ← z2, hx, e3]
    refine plOnes_by ((w2.xor (plBy.row 0)).xor ?_)
    rw [z2]
    exact plXor_by 12 (fun p hp => by rw [← (z1 p hp).1]; exact (z1 p hp).2)
  have kr2 : K_RM_arrive_2L r (nI 0) = (true, ((if S' = 2 ∧ ¬ m = 0 ∧ ¬ c 9 7 = 0 then plUp r5 16 0 (r5 16 0 + x) else r5), nI (0 + 1))) := by
    rw [kr]
    unfold K_RM_arrive_2L183 K_RM_arrive_2L252
    rw [nI_1]
    simp only [xl, r514, r511, r512, qS]
    by_cases y1 : S' = 2
    · rw [if_pos y1]
      by_cases y2 : m = 0
      · rw [if_pos y2, if_neg (fun w => w.2.1 y2)]
      · rw [if_neg y2]
        by_cases y3 : c 9 7 = 0
        · rw [if_pos y3, if_neg (fun w => w.2.2 y3)]
        · rw [if_neg y3, if_pos ⟨y1, y2, y3⟩]
          have e := hx2 y2 y3
          rw [xl] at e
          rw [e]
    · rw [if_neg y1, if_neg (fun w => y1 w.1)]
  have p109 : ∀ st v w, P_LW_receive_109 st v w := fun st v w => ⟨⟨fun _ => ⟨fun _ => Or.inl rfl, fun _ => Or.inr rfl⟩, fun _ => Or.inl rfl⟩, fun _ _ => ⟨vp_in_nI (n := 2) (by omega) (by omega), vp_in_nI (n := 0) (by omega) (by omega)⟩⟩
  refine ⟨pc ⟨fun _ => p109 _ (c 9 7) (c 9 8), fun _ => ⟨fun _ => ⟨fun _ => p109 _ (c 9 7) (c 9 8), fun _ => p109 _ (c 9 7) (c 9 8)⟩, fun _ => p109 _ (c 9 7) (c 9 8)⟩⟩, pr ⟨pa, vl, fun _ => ⟨vl, fun _ => ⟨vl, fun _ => ⟨vl, vp_in_nI (n := 12 * 0 + 2) (by omega) (by omega), vl, plOnes_P _, vl⟩⟩⟩⟩, _, kr2, ?_, ?_⟩
  · rw [kc2]
    obtain ⟨c', hc'⟩ : ∃ c', c' = if S' = 2 ∧ ¬ m = 0 ∧ ¬ c 9 7 = 0 then plUp c5 9 11 (c5 9 11 + x) else c5 := ⟨_, rfl⟩
    obtain ⟨r', hr'⟩ : ∃ r', r' = if S' = 2 ∧ ¬ m = 0 ∧ ¬ c 9 7 = 0 then plUp r5 16 0 (r5 16 0 + x) else r5 := ⟨_, rfl⟩
    rw [← hc', ← hr']
    have fc : ∀ i k, ¬ (i = 9 ∧ k = 11) → c' i k = c5 i k := fun i k z => by
      rw [hc']; split
      · rw [plUp_ap, if_neg z]
      · rfl
    have fr : ∀ i k, ¬ (i = 16 ∧ k = 0) → r' i k = r5 i k := fun i k z => by
      rw [hr']; split
      · rw [plUp_ap, if_neg z]
      · rfl
    have fo : ∀ k, k = 0 ∨ k = 2 ∨ k = 3 ∨ k = 4 → c' 9 k = c 9 k := fun k hk => by rw [fc _ _ (by omega), c5o _ _ (by omega), c3o k (by omega) (by omega)]
    have fr2 : ∀ i k, ¬ ((i = 9 ∨ i = 10) ∧ 12 * 0 ≤ k ∧ k < 12 * 0 + 12) → ¬ (11 ≤ i ∧ i ≤ 16 ∧ k = 0) → r' i k = r i k := fun i k z1 z2 => by
      rw [fr _ _ (by omega), r5o _ _ (by omega), r4o _ _ z1 (by omega)]
    have f7 : c' 9 7 = m := by rw [fc _ _ (by omega)]; exact c57
    refine ⟨⟨d, q1, q2, by rw [fo 0 (by omega)]; exact q3, by rw [fr2 1 _ (by omega) (by omega)]; exact q4⟩, by rw [fo 2 (by omega)]; exact b2, fun j j1 j2 j3 p hp => ?_, ?_, ⟨by rw [fo 4 (by omega), fr2 8 _ (by omega) (by omega)]; exact b5, by rw [fo 4 (by omega)]; exact b5'⟩, fun p hp => ?_, ⟨?_, by rw [f7]; exact hmB⟩, fun hz => ?_, ⟨S', hS2, by rw [fc _ _ (by omega)]; exact c59, by rw [fr _ _ (by omega)]; exact r514, fun e => ?_⟩, ?_⟩
    · rw [fc _ _ (by omega), c5o _ _ (by omega), ec, if_neg (by omega), if_neg (by omega), if_neg (by omega), if_neg (by omega), fr2 4 _ (by omega) (by omega)]
      exact b3 j j1 j2 j3 p hp
    · rw [fo 3 (by omega), b4, if_neg (by omega), if_neg (by omega)]
      exact plXor_ext 12 (fun p hp => (fr2 4 _ (by omega) (by omega)).symm)
    · rw [fc _ _ (by omega), c5o _ _ (by omega), ec, if_pos ⟨rfl, hp⟩, fr _ _ (by omega), r5o _ _ (by omega), er, if_neg (by omega), if_pos ⟨rfl, by omega, by omega⟩]
      exact ⟨rfl, ⟨0, by omega, rfl⟩⟩
    · rw [f7, fr _ _ (by omega), r511]
    · rw [f7] at hz
      refine ⟨fun p hp => ?_, ?_⟩
      · rw [fc _ _ (by omega), c5o _ _ (by omega), fr _ _ (by omega), r5o _ _ (by omega)]
        exact ⟨(cr hz p hp).1, (cr hz p hp).2.1⟩
      · rw [fc _ _ (by omega), c5o _ _ (by omega), ec, if_neg (by omega), if_pos ⟨hz, rfl, rfl⟩]
        exact plXor_ext 12 (fun p hp => by
          show c 10 (12 * ((n - 1 - d) % 8) + p) ^^^ c 11 p = r' 10 (12 * 0 + p)
          rw [fr _ _ (by omega), r5o _ _ (by omega), ← (cr hz p hp).1, (cr hz p hp).2.2])
    · obtain ⟨b', z1, z2, z3⟩ := hbad e
      exact ⟨b', z1, by rw [fc _ _ (by omega)]; exact z2, by rw [fr _ _ (by omega)]; exact z3⟩
    · have e11 : c5 9 11 = r5 16 0 := by rw [c5o _ _ (by omega), c3o 11 (by omega) (by omega), r5o _ _ (by omega), r4o _ _ (by omega) (by omega)]; exact b10
      rw [hc', hr']
      split
      · rw [plUp_ap, if_pos ⟨rfl, rfl⟩, plUp_ap, if_pos ⟨rfl, rfl⟩, e11]
      · exact e11
  · intro i k z1 z2
    have fr : ∀ i k, ¬ (i = 16 ∧ k = 0) → (if S' = 2 ∧ ¬ m = 0 ∧ ¬ c 9 7 = 0 then plUp r5 16 0 (r5 16 0 + x) else r5) i k = r5 i k := fun i k z => by
      split
      · rw [plUp_ap, if_neg z]
      · rfl
    rw [fr _ _ (by omega), r5o _ _ (by omega), r4o _ _ z1 (by omega)]
theorem plRecv_LP {c r : plS} {n : Nat} (hn1 : 1 ≤ n) (hn : n < 2 ^ 28) (H : plLn 13 14 15 16 1 c r n) (hR : plRw r) (hT : r 0 3 = nI n) : P_LP_receive c ∧ P_RM_arrive_2L r (nI 1) ∧ ∃ r', K_RM_arrive_2L r (nI 1) = (true, (r', nI (1 + 1))) ∧ plLn 13 14 15 16 1 (K_LP_receive c) r' n ∧ ∀ i k, ¬ ((i = 9 ∨ i = 10) ∧ 12 * 1 ≤ k ∧ k < 12 * 1 + 12) → ¬ (11 ≤ i ∧ i ≤ 16 ∧ k = 1) → r' i k = r i k := by
  obtain ⟨⟨d, q1, q2, q3, q4⟩, b2, b3, b4, ⟨b5, b5'⟩, b6, ⟨b7, b7'⟩, b8, ⟨S, s1, s2, s3, s4⟩, b10⟩ := H
  obtain ⟨b, hb⟩ : ∃ b, S = 2 → b ≤ 2 ∧ c 13 10 = nI b ∧ r 15 1 = nI b := by
    by_cases e : S = 2
    · obtain ⟨b, z⟩ := s4 e; exact ⟨b, fun _ => z⟩
    · exact ⟨0, fun z => absurd z e⟩
  obtain ⟨m, hm⟩ : ∃ m : Int32, m = if c 13 4 = 0 ∧ d < n then 1 else 0 := ⟨_, rfl⟩
  have hm' : m = if r 8 1 = 0 ∧ d < n then 1 else 0 := by rw [← b5]; exact hm
  have hmB : plB m := by rw [hm]; split; exact Or.inr rfl; exact Or.inl rfl
  have hm0 : ¬ m = 0 → d < n := fun y => by
    by_cases z : c 13 4 = 0 ∧ d < n
    · exact z.2
    · rw [if_neg z] at hm; exact absurd hm y
  obtain ⟨c3, ec, pc, kc⟩ := plRec_LP hn q1 q2 b2 q3 hm
  obtain ⟨r4, er, pr, kr⟩ := plArrR (l := 1) (by omega) hn hT q1 q2 q4 (by rw [← b7]; exact b7') hm'
  have xl : plIx (nI 1) = 1 := rfl
  have vl : vp_in (nI 1) 2 := vp_in_nI (by omega) (by omega)
  have cr : ¬ m = 0 → ∀ p, p < 12 → c3 16 p = r4 10 (12 * 1 + p) ∧ plBy (c3 16 p) ∧ c3 16 p = c 14 (12 * ((n - 1 - d) % 8) + p) ^^^ c 15 p := fun y p hp => by
    have hdn := hm0 y
    obtain ⟨j1, j2⟩ := b3 (n - d) (by omega) (by omega) (by omega) p hp
    obtain ⟨j3, j4⟩ := b6 p hp
    have e1 : c3 16 p = c 14 (12 * ((n - 1 - d) % 8) + p) ^^^ c 15 p := by rw [ec, if_neg (by omega), if_neg (by omega), if_pos ⟨y, rfl, hp⟩]
    have e2 : r4 10 (12 * 1 + p) = c 14 (12 * ((n - 1 - d) % 8) + p) ^^^ c 15 p := by
      rw [er, if_pos ⟨rfl, by omega, by omega⟩, if_neg y, show 12 * 1 + p - 12 * 1 = p by omega, ← j1, ← j3, show n - d - 1 = n - 1 - d by omega]
    refine ⟨by rw [e1, e2], ?_, e1⟩
    rw [e1]
    rw [show n - d - 1 = n - 1 - d by omega] at j1
    rw [j1]
    exact j2.xor j4
  obtain ⟨gd, hgd⟩ : ∃ gd : Prop, gd ↔ (¬ m = 0 ∧ r4 10 (12 * 1) = 246 ∧ r4 10 (12 * 1 + 1) = 40) := ⟨_, Iff.rfl⟩
  have gd2 : gd ↔ (¬ m = 0 ∧ c3 16 0 = 246 ∧ c3 16 1 = 40) := by
    rw [hgd]
    refine ⟨fun z => ⟨z.1, ?_, ?_⟩, fun z => ⟨z.1, ?_, ?_⟩⟩
    · rw [(cr z.1 0 (by omega)).1]; exact z.2.1
    · rw [(cr z.1 1 (by omega)).1]; exact z.2.2
    · rw [← show c3 16 0 = r4 10 (12 * 1) from (cr z.1 0 (by omega)).1]; exact z.2.1
    · rw [← (cr z.1 1 (by omega)).1]; exact z.2.2
  have c37 : c3 13 7 = m := by rw [ec, if_neg (by omega), if_neg (by omega), if_neg (by omega), if_pos ⟨rfl, rfl⟩]
  have c3o : ∀ k, ¬ k = 7 → ¬ k = 8 → c3 13 k = c 13 k := fun k k7 k8 => by rw [ec, if_neg (by omega), if_neg (by omega), if_neg (by omega), if_neg (by omega)]
  have r4o : ∀ i k, ¬ ((i = 9 ∨ i = 10) ∧ 12 * 1 ≤ k ∧ k < 12 * 1 + 12) → ¬ (11 ≤ i ∧ i ≤ 13 ∧ k = 1) → r4 i k = r i k := fun i k z1 z2 => by
    rw [er, if_neg (by omega), if_neg (by omega), if_neg (by omega), if_neg (by omega), if_neg (by omega)]
  obtain ⟨g, hg, hg0⟩ : ∃ g : Int32, K_LP_receive_70 c3 (c 13 7) (c 13 8) = K_LP_receive_109 (K_LP_align c3 g) (c 13 7) (c 13 8) ∧ (¬ g = 0 ↔ gd) := by
    unfold K_LP_receive_70 K_LP_receive_105 K_LP_receive_106
    rw [c37, show plIx 0 = 0 from rfl, show plIx 1 = 1 from rfl]
    by_cases y : m = 0
    · exact ⟨0, by rw [if_pos y], fun z => absurd rfl z, fun z => absurd y (gd2.mp z).1⟩
    · by_cases y2 : c3 16 0 = 246
      · by_cases y3 : c3 16 1 = 40
        · exact ⟨1, by rw [if_neg y, if_pos y2, if_pos y3], fun _ => gd2.mpr ⟨y, y2, y3⟩, fun _ => by decide⟩
        · exact ⟨0, by rw [if_neg y, if_pos y2, if_neg y3], fun z => absurd rfl z, fun z => absurd (gd2.mp z).2.2 y3⟩
      · exact ⟨0, by rw [if_neg y, if_neg y2], fun z => absurd rfl z, fun z => absurd (gd2.mp z).2.1 y2⟩
  have ac := plAlign_LP (c := c3) (S := S) (b := b) s1 (by rw [c3o 9 (by omega) (by omega)]; exact s2) (fun e => ⟨(hb e).1, by rw [c3o 10 (by omega) (by omega)]; exact (hb e).2.1⟩) g
  obtain ⟨pa, ar⟩ := plAlignR (r := r4) (l := 1) (S := S) (b := b) (m := m) (by omega) s1 (by rw [r4o 14 _ (by omega) (by omega)]; exact s3) (fun e => ⟨(hb e).1, by rw [r4o 15 _ (by omega) (by omega)]; exact (hb e).2.2⟩) (by rw [er, if_neg (by omega), if_neg (by omega), if_pos ⟨rfl, rfl⟩])
  obtain ⟨S', hS'⟩ : ∃ S' : Nat, (gd → S' = if S = 0 then 1 else 2) ∧ (¬ gd → S' = if S = 2 ∧ b < 2 then 2 else 0) := by
    by_cases y : gd
    · exact ⟨_, fun _ => rfl, fun z => absurd y z⟩
    · exact ⟨_, fun z => absurd z y, fun _ => rfl⟩
  have hS2 : S' ≤ 2 := by
    by_cases y : gd
    · rw [hS'.1 y]; split <;> omega
    · rw [hS'.2 y]; split <;> omega
  obtain ⟨c5, hc5⟩ : ∃ c5, c5 = K_LP_align c3 g := ⟨_, rfl⟩
  obtain ⟨r5, hr5⟩ : ∃ r5, r5 = K_RM_align r4 (nI 1) := ⟨_, rfl⟩
  rw [← hc5] at ac hg
  rw [← hr5] at ar kr pr
  have c59 : c5 13 9 = nI S' := by
    rw [ac, if_pos ⟨rfl, rfl⟩]
    by_cases y : gd
    · rw [if_pos (hg0.mpr y), hS'.1 y]
    · rw [if_neg (fun w => y (hg0.mp w)), hS'.2 y]
  have r514 : r5 14 1 = nI S' := by
    rw [ar, if_pos ⟨rfl, rfl⟩]
    by_cases y : gd
    · rw [if_pos (hgd.mp y), hS'.1 y]
    · rw [if_neg (fun w => y (hgd.mpr w)), hS'.2 y]
  have c5o : ∀ i k, ¬ (i = 13 ∧ (k = 9 ∨ k = 10)) → c5 i k = c3 i k := fun i k z => by rw [ac, if_neg (by omega), if_neg (by omega)]
  have r5o : ∀ i k, ¬ ((i = 14 ∨ i = 15) ∧ k = 1) → r5 i k = r4 i k := fun i k z => by rw [ar, if_neg (by omega), if_neg (by omega)]
  have hbad : S' = 2 → ∃ b', b' ≤ 2 ∧ c5 13 10 = nI b' ∧ r5 15 1 = nI b' := fun e => by
    have x1 : c5 13 10 = if ¬ g = 0 then 0 else c3 13 10 + 1 := by rw [ac, if_neg (by omega), if_pos ⟨rfl, rfl⟩]
    have x2 : r5 15 1 = if S = 2 ∧ ¬ (¬ m = 0 ∧ r4 10 (12 * 1) = 246 ∧ r4 10 (12 * 1 + 1) = 40) then nI (b + 1) else 0 := by rw [ar, if_neg (by omega), if_pos ⟨rfl, rfl⟩]
    rw [x1, x2]
    by_cases y : gd
    · exact ⟨0, by omega, by rw [if_pos (hg0.mpr y)]; rfl, by rw [if_neg (fun w => w.2 (hgd.mp y))]; rfl⟩
    · have e2 := hS'.2 y
      by_cases y2 : S = 2 ∧ b < 2
      · exact ⟨b + 1, by omega, by rw [if_neg (fun w => y (hg0.mp w)), c3o 10 (by omega) (by omega), (hb y2.1).2.1, nI_1], by rw [if_pos ⟨y2.1, fun w => y (hgd.mpr w)⟩]⟩
      · rw [if_neg y2] at e2; omega
  have c57 : c5 13 7 = m := by rw [c5o _ _ (by omega)]; exact c37
  have qS : nI S' = 2 ↔ S' = 2 := by rw [show (2 : Int32) = nI 2 from rfl, nI_eq (by omega) (by omega)]
  have r511 : r5 11 1 = m := by rw [r5o _ _ (by omega), er, if_neg (by omega), if_neg (by omega), if_pos ⟨rfl, rfl⟩]
  have r512 : r5 12 1 = c 13 7 := by rw [r5o _ _ (by omega), er, if_neg (by omega), if_neg (by omega), if_neg (by omega), if_neg (by omega), if_pos ⟨rfl, rfl⟩]; exact b7.symm
  have r513 : r5 13 1 = plXor (fun p => r 10 (12 * 1 + p)) 12 := by rw [r5o _ _ (by omega), er, if_neg (by omega), if_neg (by omega), if_neg (by omega), if_pos ⟨rfl, rfl⟩]
  obtain ⟨x, hx⟩ : ∃ x : Int32, x = K_JI_bitCount (K_LP_plainAt c5 2 ^^^ c 13 8) := ⟨_, rfl⟩
  have kc2 : K_LP_receive c = if S' = 2 ∧ ¬ m = 0 ∧ ¬ c 13 7 = 0 then plUp c5 13 11 (c5 13 11 + x) else c5 := by
    rw [kc, hg]
    unfold K_LP_receive_109 K_LP_receive_139 K_LP_readable K_LP_readable_19 K_LP_readable_20
    rw [c59, c57, ← hx]
    simp only [qS]
    by_cases y1 : S' = 2
    · simp only [if_pos y1]
      by_cases y2 : m = 0
      · rw [if_pos y2, if_pos rfl, if_neg (fun w => w.2.1 y2)]
      · rw [if_neg y2, if_neg (show ¬ (1 : Int32) = 0 by decide)]
        by_cases y3 : c 13 7 = 0
        · rw [if_pos y3, if_neg (fun w => w.2.2 y3)]
        · rw [if_neg y3, if_pos ⟨y1, y2, y3⟩]
    · simp only [if_neg y1]
      rw [if_pos trivial, if_neg (fun w => y1 w.1)]
  have hx2 : ¬ m = 0 → ¬ c 13 7 = 0 → K_RM_ones ((r5 10 (plIx (12 * nI 1 + 2)) ^^^ r5 6 (plIx 2)) ^^^ r5 13 (plIx (nI 1))) = x := fun y1 y2 => by
    obtain ⟨z1, z2⟩ := b8 y2
    obtain ⟨w1, w2, w3⟩ := cr y1 2 (by omega)
    have e1 : r5 10 (plIx (12 * nI 1 + 2)) = c3 16 2 := by
      rw [show plIx (12 * nI 1 + 2) = 12 * 1 + 2 from rfl, r5o _ _ (by omega), w1]
    have e2 : r5 6 (plIx 2) = plROW 0 := by
      rw [show plIx 2 = 2 from rfl, r5o _ _ (by omega), r4o _ _ (by omega) (by omega), hR.2.2 2 (by omega) (by omega)]
    have e3 : K_LP_plainAt c5 2 = c3 16 2 ^^^ plROW 0 := by
      show c5 16 2 ^^^ plROW 0 = _
      rw [c5o _ _ (by omega)]
    rw [e1, e2, xl, r513, ← z2, hx, e3]
    refine plOnes_by ((w2.xor (plBy.row 0)).xor ?_)
    rw [z2]
    exact plXor_by 12 (fun p hp => by rw [← (z1 p hp).1]; exact (z1 p hp).2)
  have kr2 : K_RM_arrive_2L r (nI 1) = (true, ((if S' = 2 ∧ ¬ m = 0 ∧ ¬ c 13 7 = 0 then plUp r5 16 1 (r5 16 1 + x) else r5), nI (1 + 1))) := by
    rw [kr]
    unfold K_RM_arrive_2L183 K_RM_arrive_2L252
    rw [nI_1]
    simp only [xl, r514, r511, r512, qS]
    by_cases y1 : S' = 2
    · rw [if_pos y1]
      by_cases y2 : m = 0
      · rw [if_pos y2, if_neg (fun w => w.2.1 y2)]
      · rw [if_neg y2]
        by_cases y3 : c 13 7 = 0
        · rw [if_pos y3, if_neg (fun w => w.2.2 y3)]
        · rw [if_neg y3, if_pos ⟨y1, y2, y3⟩]
          have e := hx2 y2 y3
          rw [xl] at e
          rw [e]
    · rw [if_neg y1, if_neg (fun w => y1 w.1)]
  have p109 : ∀ st v w, P_LP_receive_109 st v w := fun st v w => ⟨⟨fun _ => ⟨fun _ => Or.inl rfl, fun _ => Or.inr rfl⟩, fun _ => Or.inl rfl⟩, fun _ _ => ⟨vp_in_nI (n := 2) (by omega) (by omega), vp_in_nI (n := 0) (by omega) (by omega)⟩⟩
  refine ⟨pc ⟨fun _ => p109 _ (c 13 7) (c 13 8), fun _ => ⟨fun _ => ⟨fun _ => p109 _ (c 13 7) (c 13 8), fun _ => p109 _ (c 13 7) (c 13 8)⟩, fun _ => p109 _ (c 13 7) (c 13 8)⟩⟩, pr ⟨pa, vl, fun _ => ⟨vl, fun _ => ⟨vl, fun _ => ⟨vl, vp_in_nI (n := 12 * 1 + 2) (by omega) (by omega), vl, plOnes_P _, vl⟩⟩⟩⟩, _, kr2, ?_, ?_⟩
  · rw [kc2]
    obtain ⟨c', hc'⟩ : ∃ c', c' = if S' = 2 ∧ ¬ m = 0 ∧ ¬ c 13 7 = 0 then plUp c5 13 11 (c5 13 11 + x) else c5 := ⟨_, rfl⟩
    obtain ⟨r', hr'⟩ : ∃ r', r' = if S' = 2 ∧ ¬ m = 0 ∧ ¬ c 13 7 = 0 then plUp r5 16 1 (r5 16 1 + x) else r5 := ⟨_, rfl⟩
    rw [← hc', ← hr']
    have fc : ∀ i k, ¬ (i = 13 ∧ k = 11) → c' i k = c5 i k := fun i k z => by
      rw [hc']; split
      · rw [plUp_ap, if_neg z]
      · rfl
    have fr : ∀ i k, ¬ (i = 16 ∧ k = 1) → r' i k = r5 i k := fun i k z => by
      rw [hr']; split
      · rw [plUp_ap, if_neg z]
      · rfl
    have fo : ∀ k, k = 0 ∨ k = 2 ∨ k = 3 ∨ k = 4 → c' 13 k = c 13 k := fun k hk => by rw [fc _ _ (by omega), c5o _ _ (by omega), c3o k (by omega) (by omega)]
    have fr2 : ∀ i k, ¬ ((i = 9 ∨ i = 10) ∧ 12 * 1 ≤ k ∧ k < 12 * 1 + 12) → ¬ (11 ≤ i ∧ i ≤ 16 ∧ k = 1) → r' i k = r i k := fun i k z1 z2 => by
      rw [fr _ _ (by omega), r5o _ _ (by omega), r4o _ _ z1 (by omega)]
    have f7 : c' 13 7 = m := by rw [fc _ _ (by omega)]; exact c57
    refine ⟨⟨d, q1, q2, by rw [fo 0 (by omega)]; exact q3, by rw [fr2 1 _ (by omega) (by omega)]; exact q4⟩, by rw [fo 2 (by omega)]; exact b2, fun j j1 j2 j3 p hp => ?_, ?_, ⟨by rw [fo 4 (by omega), fr2 8 _ (by omega) (by omega)]; exact b5, by rw [fo 4 (by omega)]; exact b5'⟩, fun p hp => ?_, ⟨?_, by rw [f7]; exact hmB⟩, fun hz => ?_, ⟨S', hS2, by rw [fc _ _ (by omega)]; exact c59, by rw [fr _ _ (by omega)]; exact r514, fun e => ?_⟩, ?_⟩
    · rw [fc _ _ (by omega), c5o _ _ (by omega), ec, if_neg (by omega), if_neg (by omega), if_neg (by omega), if_neg (by omega), fr2 4 _ (by omega) (by omega)]
      exact b3 j j1 j2 j3 p hp
    · rw [fo 3 (by omega), b4, if_neg (by omega), if_neg (by omega)]
      exact plXor_ext 12 (fun p hp => (fr2 4 _ (by omega) (by omega)).symm)
    · rw [fc _ _ (by omega), c5o _ _ (by omega), ec, if_pos ⟨rfl, hp⟩, fr _ _ (by omega), r5o _ _ (by omega), er, if_neg (by omega), if_pos ⟨rfl, by omega, by omega⟩]
      exact ⟨rfl, ⟨0, by omega, rfl⟩⟩
    · rw [f7, fr _ _ (by omega), r511]
    · rw [f7] at hz
      refine ⟨fun p hp => ?_, ?_⟩
      · rw [fc _ _ (by omega), c5o _ _ (by omega), fr _ _ (by omega), r5o _ _ (by omega)]
        exact ⟨(cr hz p hp).1, (cr hz p hp).2.1⟩
      · rw [fc _ _ (by omega), c5o _ _ (by omega), ec, if_neg (by omega), if_pos ⟨hz, rfl, rfl⟩]
        exact plXor_ext 12 (fun p hp => by
          show c 14 (12 * ((n - 1 - d) % 8) + p) ^^^ c 15 p = r' 10 (12 * 1 + p)
          rw [fr _ _ (by omega), r5o _ _ (by omega), ← (cr hz p hp).1, (cr hz p hp).2.2])
    · obtain ⟨b', z1, z2, z3⟩ := hbad e
      exact ⟨b', z1, by rw [fc _ _ (by omega)]; exact z2, by rw [fr _ _ (by omega)]; exact z3⟩
    · have e11 : c5 13 11 = r5 16 1 := by rw [c5o _ _ (by omega), c3o 11 (by omega) (by omega), r5o _ _ (by omega), r4o _ _ (by omega) (by omega)]; exact b10
      rw [hc', hr']
      split
      · rw [plUp_ap, if_pos ⟨rfl, rfl⟩, plUp_ap, if_pos ⟨rfl, rfl⟩, e11]
      · exact e11
  · intro i k z1 z2
    have fr : ∀ i k, ¬ (i = 16 ∧ k = 1) → (if S' = 2 ∧ ¬ m = 0 ∧ ¬ c 13 7 = 0 then plUp r5 16 1 (r5 16 1 + x) else r5) i k = r5 i k := fun i k z => by
      split
      · rw [plUp_ap, if_neg z]
      · rfl
    rw [fr _ _ (by omega), r5o _ _ (by omega), r4o _ _ z1 (by omega)]
