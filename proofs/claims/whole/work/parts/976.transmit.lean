/-! node A sends: both lines -/
theorem plPtrB : ∀ p, p < 6 → ∀ s, s < 3 → (K_CO_pointerByte (nI p) ^^^ plTn s = 64 + ((9 * nI p) ^^^ plTn s) ∧ (K_CO_pointerByte (nI p) ^^^ plTn s) &&& 255 = K_CO_pointerByte (nI p) ^^^ plTn s) := by decide +kernel
theorem plTnF : ∀ s, s < 3 → (s = 1 ↔ nI s - 1 = 0) ∧ (s ≤ 1 ↔ nI s - 1 ≤ 0) := by decide +kernel
theorem plFillBuild {c r : plS} (hsrc : plSrc c r) (hcon : plCon c r) (hna : plNa c r) : ∃ cF rF : plS, K_NA_transmit_LW_LP c = K_NA_transmit_LW_LP_8 cF ∧ (P_NA_transmit_LW_LP_8 cF → P_NA_transmit_LW_LP c) ∧ K_RM_build r = K_RM_build_196X (lpR F_RM_build_196 64 (rF, 0)) ∧ (lpP G_RM_build_196 F_RM_build_196 64 (rF, 0) → P_RM_build r) ∧ plSrc cF rF ∧ plCon cF rF ∧ plNa cF rF ∧ (∀ q, q < 8 → cF 8 q = rF 7 (4 + q) ∧ plBy (cF 8 q)) ∧ rF 7 0 = 246 ∧ rF 7 1 = 40 ∧ (∀ i k, ¬ i = 1 → ¬ i = 4 → ¬ i = 5 → ¬ i = 6 → ¬ i = 8 → cF i k = c i k) ∧ ∀ i k, ¬ (i = 0 ∧ (k = 4 ∨ (7 ≤ k ∧ k ≤ 15))) → ¬ i = 2 → ¬ i = 3 → ¬ i = 7 → rF i k = r i k := by
  obtain ⟨p, q, D, a1, a2, a3, b1, b2, b3, b4, b5, b6⟩ := hna
  obtain ⟨s, D', q', v1, c1, hs, hD, hq, j1, j2, j3, j4, j5, j6⟩ := plJust (p := p) a2 a3 b3 b4 b5 b6
  obtain ⟨y1, y2⟩ := plPtrB p a1 s hs
  obtain ⟨t1, t2⟩ := plTnF s hs
  obtain ⟨X, hX⟩ : ∃ X, X = K_CO_pointerByte (nI p) ^^^ plTn s := ⟨_, rfl⟩
  have hXb : plBy X := by rw [hX, ← y2]; exact plBy.and _
  have c13 : c1 5 3 = nI p := by rw [j2, if_neg (by omega), if_neg (by omega)]; exact b1
  obtain ⟨cA, hcA⟩ : ∃ cA, cA = plUp (plUp (plUp c1 8 0 X) 8 1 0) 8 2 0 := ⟨_, rfl⟩
  obtain ⟨rA, hrA⟩ : ∃ rA, rA = plUp (plUp (plUp r 7 0 246) 7 1 40) 7 4 X := ⟨_, rfl⟩
  have eA : ∀ i k, ¬ i = 8 → cA i k = c1 i k := fun i k h => by rw [hcA, plUp_ap, if_neg (by omega), plUp_ap, if_neg (by omega), plUp_ap, if_neg (by omega)]
  have fA : ∀ i k, ¬ i = 7 → rA i k = r i k := fun i k h => by rw [hrA, plUp_ap, if_neg (by omega), plUp_ap, if_neg (by omega), plUp_ap, if_neg (by omega)]
  have e1 : ∀ i k, ¬ i = 5 → c1 i k = c i k := fun i k h => by rw [j2, if_neg (by omega), if_neg (by omega)]
  have src2 : plSrc cA rA := hsrc.ext (fun k => by rw [eA _ _ (by omega), e1 _ _ (by omega)]) (fun k => by rw [eA _ _ (by omega), e1 _ _ (by omega)]) (fun k => by rw [eA _ _ (by omega), e1 _ _ (by omega)]) (fun k => by rw [eA _ _ (by omega), e1 _ _ (by omega)]) (fun k _ => fA _ _ (by omega)) (fun k => fA _ _ (by omega)) (fun k => fA _ _ (by omega))
  have con2 : plCon cA rA := hcon.ext (fun k => by rw [eA _ _ (by omega), e1 _ _ (by omega)]) (fun k _ => fA _ _ (by omega))
  obtain ⟨l1, l2, c', r', k1, k2, i1, i2, i3, i4⟩ := plFillLoop (v1 := v1) hs src2 con2 (fun q hq => by
    rw [hcA, hrA]
    rcases (show q = 0 ∨ q = 1 ∨ q = 2 by omega) with rfl | rfl | rfl
    · exact ⟨by simp [plUp_ap], by simp [plUp_ap]; exact hXb⟩
    · exact ⟨by simp [plUp_ap], by simp [plUp_ap]; exact ⟨0, by omega, rfl⟩⟩
    · exact ⟨by simp [plUp_ap], by simp [plUp_ap]; exact ⟨0, by omega, rfl⟩⟩)
  obtain ⟨u, hu, eu⟩ := plOff_v p s a1 hs
  have fc : ∀ i k, ¬ i = 1 → ¬ i = 4 → ¬ i = 6 → ¬ i = 8 → c' i k = cA i k := fun i k z1 z4 z6 z8 => by
    have h := frL_F_NA_fill_53 (nI s - 1) 64 (cA, nI (1 + s)) i k (by omega) (by omega) (by omega) (by omega) (by omega) (by omega) (by omega) (by omega)
    rw [k1] at h
    exact h
  have fr : ∀ i k, ¬ (i = 0 ∧ (k = 4 ∨ (7 ≤ k ∧ k ≤ 12))) → ¬ i = 2 → ¬ i = 3 → ¬ i = 7 → r' i k = rA i k := fun i k z0 z2 z3 z7 => by
    have h := frL_F_RM_build_100 v1 (nI s - 1) 64 (rA, nI 5) i k (by omega) (by omega) (by omega) (by omega) (by omega) (by omega) (by omega) (by omega) (by omega) (by omega)
    rw [k2] at h
    exact h
  have c'3 : c' 5 3 = nI p := by rw [fc 5 3 (by omega) (by omega) (by omega) (by omega), eA _ _ (by omega)]; exact c13
  have kfill : K_NA_fill c1 (nI s - 1) = plUp c' 5 3 (nI u) := by
    have h19 : K_NA_fill_19 c1 (nI s - 1) (plTn s) = plUp c' 5 3 (nI u) := by
      unfold K_NA_fill_19 K_NA_fill_35 K_NA_fill_42
      rw [c13, ← hX, show plIx 0 = 0 from rfl, show plIx 1 = 1 from rfl, show plIx 2 = 2 from rfl, ← hcA, (plOff6 s hs).2, k1]
      unfold K_NA_fill_53X
      show plUp c' 5 3 ((c' 5 3 + (nI s - 1) + 6) - (c' 5 3 + (nI s - 1) + 6) / 6 * 6) = _
      rw [c'3, eu]
    unfold K_NA_fill
    by_cases z1 : s = 1
    · rw [if_pos (t1.mp z1), ← h19, z1]; rfl
    · rw [if_neg (fun w => z1 (t1.mpr w))]
      by_cases z0 : s ≤ 1
      · rw [if_pos (t2.mp z0), ← h19, show s = 0 by omega]; rfl
      · rw [if_neg (fun w => z0 (t2.mpr w)), ← h19, show s = 2 by omega]; rfl
  have pfill : P_NA_fill c1 (nI s - 1) := by
    have h19 : ∀ fl, P_NA_fill_19 c1 (nI s - 1) (plTn s) → fl = plTn s → P_NA_fill_19 c1 (nI s - 1) fl := fun fl h e => by rw [e]; exact h
    have h0 : P_NA_fill_19 c1 (nI s - 1) (plTn s) := by
      unfold P_NA_fill_19 P_NA_fill_35 P_NA_fill_42
      rw [c13, ← hX, show plIx 0 = 0 from rfl, show plIx 1 = 1 from rfl, show plIx 2 = 2 from rfl, ← hcA, (plOff6 s hs).2]
      exact l1
    refine ⟨fun z => h19 _ h0 (by rw [t1.mpr z]; rfl), fun z => ⟨fun z2 => h19 _ h0 ?_, fun z2 => h19 _ h0 ?_⟩⟩
    · have w2 := t2.mpr z2
      have w1 : ¬ s = 1 := fun w => z (t1.mp w)
      rw [show s = 0 by omega]; rfl
    · have w2 : ¬ s ≤ 1 := fun w => z2 (t2.mp w)
      rw [show s = 2 by omega]; rfl
  obtain ⟨rF, hrF⟩ : ∃ rF, rF = plUp (plUp (plUp r' 0 13 (nI u)) 0 14 (nI D' - 8)) 0 15 (nI q') := ⟨_, rfl⟩
  have eF : ∀ i k, rF i k = if i = 0 ∧ k = 15 then nI q' else if i = 0 ∧ k = 14 then nI D' - 8 else if i = 0 ∧ k = 13 then nI u else r' i k := fun i k => by rw [hrF, plUp_ap, plUp_ap, plUp_ap]
  have r'13 : r' 0 13 = nI p := by rw [fr 0 13 (by omega) (by omega) (by omega) (by omega), fA _ _ (by omega)]; exact b2
  have r'14 : plUp r' 0 13 (nI u) 0 14 = nI D - 8 := by rw [plUp_ap, if_neg (by omega), fr 0 14 (by omega) (by omega) (by omega) (by omega), fA _ _ (by omega)]; exact b4
  have r'15 : plUp (plUp r' 0 13 (nI u)) 0 14 (nI D' - 8) 0 15 = nI q := by rw [plUp_ap, if_neg (by omega), plUp_ap, if_neg (by omega), fr 0 15 (by omega) (by omega) (by omega) (by omega), fA _ _ (by omega)]; exact b6
  obtain ⟨w1, w2⟩ := j6 _ r'15
  have m13 : plUp (plUp r 7 0 246) 7 1 40 0 13 = nI p := by simp [plUp_ap]; exact b2
  have k61 : K_RM_build_61 r v1 (nI s - 1) (plTn s) = K_RM_build_196X (lpR F_RM_build_196 64 (rF, 0)) := by
    unfold K_RM_build_61 K_RM_build_71 K_RM_build_79
    rw [show plIx 0 = 0 from rfl, show plIx 1 = 1 from rfl, show plIx 4 = 4 from rfl, m13, ← y1, ← hX, ← hrA, show lpR (F_RM_build_100 v1 (nI s - 1)) 64 (rA, 5) = (r', nI 12) from k2]
    unfold K_RM_build_100X
    show K_RM_build_153 (plUp r' 0 13 ((r' 0 13 + (nI s - 1) + 6) - (r' 0 13 + (nI s - 1) + 6) / 6 * 6)) v1 (nI s - 1) = _
    rw [r'13, eu]
    unfold K_RM_build_153
    rw [r'14, j5, w1]
    unfold K_RM_build_190
    rw [← hrF]
  have p61 : lpP G_RM_build_196 F_RM_build_196 64 (rF, 0) → P_RM_build_61 r v1 (nI s - 1) (plTn s) := fun h => by
    unfold P_RM_build_61 P_RM_build_71 P_RM_build_79
    rw [show plIx 0 = 0 from rfl, show plIx 1 = 1 from rfl, show plIx 4 = 4 from rfl, m13, ← y1, ← hX, ← hrA, show lpR (F_RM_build_100 v1 (nI s - 1)) 64 (rA, 5) = (r', nI 12) from k2]
    refine ⟨l2, ?_⟩
    unfold P_RM_build_100X
    show P_RM_build_153 (plUp r' 0 13 ((r' 0 13 + (nI s - 1) + 6) - (r' 0 13 + (nI s - 1) + 6) / 6 * 6)) v1 (nI s - 1)
    rw [r'13, eu]
    unfold P_RM_build_153
    rw [r'14, j5]
    apply w2
    unfold P_RM_build_190
    rw [← hrF]
    exact h
  refine ⟨plUp c' 5 3 (nI u), rF, ?_, fun h => ?_, by rw [j3, k61], fun h => j4 (p61 h), ?_, ?_, ?_, fun q hq => ?_, ?_, ?_, fun i k z1 z4 z5 z6 z8 => ?_, fun i k z0 z2 z3 z7 => ?_⟩
  · unfold K_NA_transmit_LW_LP K_NA_transmit_LW_LP_5q
    rw [j1]
    show K_NA_transmit_LW_LP_8 (K_NA_fill c1 (nI s - 1)) = _
    rw [kfill]
  · unfold P_NA_transmit_LW_LP P_NA_transmit_LW_LP_5q
    rw [j1]
    show P_NA_fill c1 (nI s - 1) ∧ P_NA_transmit_LW_LP_8 (K_NA_fill c1 (nI s - 1))
    rw [kfill]
    exact ⟨pfill, h⟩
  · exact i1.ext (fun k => by simp [plUp_ap]) (fun k => by simp [plUp_ap]) (fun k => by simp [plUp_ap]) (fun k => by simp [plUp_ap]) (fun k hk => by rw [eF, if_neg (by omega), if_neg (by omega), if_neg (by omega)]) (fun k => by rw [eF, if_neg (by omega), if_neg (by omega), if_neg (by omega)]) (fun k => by rw [eF, if_neg (by omega), if_neg (by omega), if_neg (by omega)])
  · exact i2.ext (fun k => by simp [plUp_ap]) (fun k hk => by rw [eF, if_neg (by omega), if_neg (by omega), if_neg (by omega)])
  · refine ⟨u, q', D', hu, hq, hD, by rw [plUp_ap, if_pos ⟨rfl, rfl⟩], by rw [eF, if_neg (by omega), if_neg (by omega), if_pos ⟨rfl, rfl⟩], ?_, by rw [eF, if_neg (by omega), if_pos ⟨rfl, rfl⟩], ?_, by rw [eF, if_pos ⟨rfl, rfl⟩]⟩
    · rw [plUp_ap, if_neg (by omega), fc 5 4 (by omega) (by omega) (by omega) (by omega), eA _ _ (by omega), j2, if_pos ⟨rfl, rfl⟩]
    · rw [plUp_ap, if_neg (by omega), fc 5 5 (by omega) (by omega) (by omega) (by omega), eA _ _ (by omega), j2, if_neg (by omega), if_pos ⟨rfl, rfl⟩]
  · rw [plUp_ap, if_neg (by omega), eF, if_neg (by omega), if_neg (by omega), if_neg (by omega)]; exact i3 q hq
  · rw [eF, if_neg (by omega), if_neg (by omega), if_neg (by omega), i4 0 (by omega), hrA]; simp [plUp_ap]
  · rw [eF, if_neg (by omega), if_neg (by omega), if_neg (by omega), i4 1 (by omega), hrA]; simp [plUp_ap]
  · rw [plUp_ap, if_neg (by omega), fc i k z1 z4 z6 z8, eA _ _ z8, e1 _ _ z5]
  · rw [eF, if_neg (by omega), if_neg (by omega), if_neg (by omega), fr i k (by omega) z2 z3 z7, fA _ _ z7]
theorem lpR_3 {C : Type} (f : C → Bool × C) {a b d e : C} (h1 : f a = (true, b)) (h2 : f b = (true, d)) (h3 : f d = (false, e)) (n : Nat) : lpR f (n + 3) a = e := by
  unfold lpR
  rw [h1, if_pos rfl]
  unfold lpR
  rw [h2, if_pos rfl]
  unfold lpR
  rw [h3, if_neg Bool.false_ne_true]
theorem lpP_3 {C : Type} (p : C → Prop) (f : C → Bool × C) {a b d e : C} (h1 : f a = (true, b)) (h2 : f b = (true, d)) (h3 : f d = (false, e)) (p1 : p a) (p2 : p b) (p3 : p d) (n : Nat) : lpP p f (n + 3) a := by
  unfold lpP
  refine ⟨p1, fun _ => ?_⟩
  rw [h1]
  unfold lpP
  refine ⟨p2, fun _ => ?_⟩
  rw [h2]
  unfold lpP
  refine ⟨p3, fun y => ?_⟩
  rw [h3] at y
  cases y
/-- the two puts of the reference -/
theorem plPuts (rF : plS) : lpR F_RM_build_196 64 (rF, 0) = (K_RM_put (K_RM_put rF 0) 1, 2) ∧ (P_RM_put rF 0 → P_RM_put (K_RM_put rF 0) 1 → lpP G_RM_build_196 F_RM_build_196 64 (rF, 0)) := by
  have f0 : ∀ r : plS, F_RM_build_196 (r, 0) = (true, (K_RM_put r 0, 1)) := fun r => by
    unfold F_RM_build_196 K_RM_build_196L
    rw [if_neg (show ¬ (2 : Int32) ≤ 0 by decide), show (0 : Int32) + 1 = 1 by decide]
  have f1 : ∀ r : plS, F_RM_build_196 (r, 1) = (true, (K_RM_put r 1, 2)) := fun r => by
    unfold F_RM_build_196 K_RM_build_196L
    rw [if_neg (show ¬ (2 : Int32) ≤ 1 by decide), show (1 : Int32) + 1 = 2 by decide]
  have f2 : ∀ r : plS, F_RM_build_196 (r, 2) = (false, (r, 2)) := fun r => by
    unfold F_RM_build_196 K_RM_build_196L
    rw [if_pos (show (2 : Int32) ≤ 2 by decide)]
  have g0 : ∀ r : plS, P_RM_put r 0 → G_RM_build_196 (r, 0) := fun r h => by
    unfold G_RM_build_196 P_RM_build_196L
    exact fun _ => h
  have g1 : ∀ r : plS, P_RM_put r 1 → G_RM_build_196 (r, 1) := fun r h => by
    unfold G_RM_build_196 P_RM_build_196L
    exact fun _ => h
  have g2 : ∀ r : plS, G_RM_build_196 (r, 2) := fun r => by
    unfold G_RM_build_196 P_RM_build_196L
    exact fun y => absurd (show (2 : Int32) ≤ 2 by decide) y
  exact ⟨lpR_3 _ (f0 rF) (f1 _) (f2 _) 61, fun p0 p1 => lpP_3 _ _ (f0 rF) (f1 _) (f2 _) (g0 _ p0) (g1 _ p1) (g2 _) 61⟩
