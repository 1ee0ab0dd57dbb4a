/-! cut and damage -/
theorem plLn_cut {a u h w l n : Nat} {c r : plS} {v : Int32} (d1 : ¬ u = a) (d2 : ¬ h = a) (d3 : ¬ w = a) (H : plLn a u h w l c r n) (hv : plB v) : plLn a u h w l (plUp c a 4 v) (plUp r 8 l v) n := by
  obtain ⟨⟨d, q1, q2, q3, q4⟩, b2, b3, b4, ⟨b5, b5'⟩, b6, ⟨b7, b7'⟩, b8, ⟨S, s1, s2, s3, s4⟩, b10⟩ := H
  have ec : ∀ i k, ¬ (i = a ∧ k = 4) → plUp c a 4 v i k = c i k := fun i k z => by rw [plUp_ap, if_neg z]
  have er : ∀ i k, ¬ i = 8 → plUp r 8 l v i k = r i k := fun i k z => by rw [plUp_ap, if_neg (fun y => z y.1)]
  have ea : ∀ k, ¬ k = 4 → plUp c a 4 v a k = c a k := fun k z => ec a k (fun y => z y.2)
  refine ⟨⟨d, q1, q2, by rw [ea 0 (by decide)]; exact q3, by rw [er 1 _ (by decide)]; exact q4⟩, by rw [ea 2 (by decide)]; exact b2, fun j j1 j2 j3 p hp => ?_, ?_, ⟨by rw [plUp_ap, if_pos ⟨rfl, rfl⟩, plUp_ap, if_pos ⟨rfl, rfl⟩], by rw [plUp_ap, if_pos ⟨rfl, rfl⟩]; exact hv⟩, fun p hp => ?_, ⟨by rw [ea 7 (by decide), er 11 _ (by decide)]; exact b7, by rw [ea 7 (by decide)]; exact b7'⟩, fun z => ?_, ⟨S, s1, by rw [ea 9 (by decide)]; exact s2, by rw [er 14 _ (by decide)]; exact s3, fun e => by rw [ea 10 (by decide), er 15 _ (by decide)]; exact s4 e⟩, by rw [ea 11 (by decide), er 16 _ (by decide)]; exact b10⟩
  · rw [ec u _ (fun y => d1 y.1), er 4 _ (by decide)]; exact b3 j j1 j2 j3 p hp
  · rw [ea 3 (by decide), b4]
    by_cases z : n = 0
    · rw [if_pos z, if_pos z]
    · rw [if_neg z, if_neg z]
      exact plXor_ext 12 (fun p hp => (er 4 _ (by decide)).symm)
  · rw [ec h _ (fun y => d2 y.1), er 9 _ (by decide)]; exact b6 p hp
  · rw [ea 7 (by decide)] at z
    obtain ⟨z1, z2⟩ := b8 z
    refine ⟨fun p hp => ?_, ?_⟩
    · rw [ec w _ (fun y => d3 y.1), er 10 _ (by decide)]; exact z1 p hp
    · rw [ea 8 (by decide), z2]
      exact plXor_ext 12 (fun p hp => (er 10 _ (by decide)).symm)
theorem plLn_harm {a u h w l n b : Nat} {c r : plS} {v : Int32} (d1 : ¬ a = h) (d2 : ¬ u = h) (d3 : ¬ w = h) (hb : b < 12) (H : plLn a u h w l c r n) (hv : plBy v) : plLn a u h w l (plUp c h b (c h b ^^^ v)) (plUp r 9 (12 * l + b) (r 9 (12 * l + b) ^^^ v)) n := by
  obtain ⟨⟨d, q1, q2, q3, q4⟩, b2, b3, b4, ⟨b5, b5'⟩, b6, ⟨b7, b7'⟩, b8, ⟨S, s1, s2, s3, s4⟩, b10⟩ := H
  have ec : ∀ i k, ¬ i = h → plUp c h b (c h b ^^^ v) i k = c i k := fun i k z => by rw [plUp_ap, if_neg (fun y => z y.1)]
  have er : ∀ i k, ¬ i = 9 → plUp r 9 (12 * l + b) (r 9 (12 * l + b) ^^^ v) i k = r i k := fun i k z => by rw [plUp_ap, if_neg (fun y => z y.1)]
  refine ⟨⟨d, q1, q2, by rw [ec a _ d1]; exact q3, by rw [er 1 _ (by decide)]; exact q4⟩, by rw [ec a _ d1]; exact b2, fun j j1 j2 j3 p hp => ?_, ?_, ⟨by rw [ec a _ d1, er 8 _ (by decide)]; exact b5, by rw [ec a _ d1]; exact b5'⟩, fun p hp => ?_, ⟨by rw [ec a _ d1, er 11 _ (by decide)]; exact b7, by rw [ec a _ d1]; exact b7'⟩, fun z => ?_, ⟨S, s1, by rw [ec a _ d1]; exact s2, by rw [er 14 _ (by decide)]; exact s3, fun e => by rw [ec a _ d1, er 15 _ (by decide)]; exact s4 e⟩, by rw [ec a _ d1, er 16 _ (by decide)]; exact b10⟩
  · rw [ec u _ d2, er 4 _ (by decide)]; exact b3 j j1 j2 j3 p hp
  · rw [ec a _ d1, b4]
    by_cases z : n = 0
    · rw [if_pos z, if_pos z]
    · rw [if_neg z, if_neg z]
      exact plXor_ext 12 (fun p hp => (er 4 _ (by decide)).symm)
  · rw [plUp_ap, plUp_ap]
    obtain ⟨y1, y2⟩ := b6 p hp
    by_cases e : p = b
    · rw [if_pos ⟨rfl, e⟩, if_pos ⟨rfl, by rw [e]⟩, ← e, y1]
      rw [y1] at y2
      exact ⟨rfl, y2.xor hv⟩
    · rw [if_neg (fun y => e y.2), if_neg (fun y => e (by have := y.2; omega))]
      exact ⟨y1, y2⟩
  · rw [ec a _ d1] at z
    obtain ⟨z1, z2⟩ := b8 z
    refine ⟨fun p hp => ?_, ?_⟩
    · rw [ec w _ d3, er 10 _ (by decide)]; exact z1 p hp
    · rw [ec a _ d1, z2]
      exact plXor_ext 12 (fun p hp => (er 10 _ (by decide)).symm)
theorem plIsL (v : Int32) : P_PL_isLine v ∧ P_RM_isLine v := ⟨⟨fun _ => Or.inr rfl, fun _ => ⟨fun _ => Or.inr rfl, fun _ => Or.inl rfl⟩⟩, ⟨fun _ => Or.inr rfl, fun _ => ⟨fun _ => Or.inr rfl, fun _ => Or.inl rfl⟩⟩⟩
theorem plIsL0 : ¬ K_PL_isLine 0 = 0 ∧ ¬ K_RM_isLine 0 = 0 ∧ ¬ K_PL_isLine 1 = 0 ∧ ¬ K_RM_isLine 1 = 0 := by decide
theorem plIsLn {v : Int32} (h0 : ¬ v = 0) (h1 : ¬ v = 1) : K_PL_isLine v = 0 ∧ K_RM_isLine v = 0 := by
  unfold K_PL_isLine K_RM_isLine
  rw [if_neg h0, if_neg h1, if_neg h0, if_neg h1]
  exact ⟨rfl, rfl⟩
theorem plIsP (v : Int32) : P_PL_isPlace v ∧ P_RM_isPlace v := ⟨⟨fun _ => Or.inl rfl, fun _ => ⟨fun _ => Or.inl rfl, fun _ => Or.inr rfl⟩⟩, ⟨fun _ => Or.inl rfl, fun _ => ⟨fun _ => Or.inl rfl, fun _ => Or.inr rfl⟩⟩⟩
theorem plIsPn (v : Int32) : (K_PL_isPlace v = 0 ∧ K_RM_isPlace v = 0) ∨ (¬ K_PL_isPlace v = 0 ∧ ¬ K_RM_isPlace v = 0 ∧ ∃ p, p < 12 ∧ v = nI p) := by
  unfold K_PL_isPlace K_RM_isPlace K_PL_isPlace_14 K_RM_isPlace_14 K_PL_isPlace_15 K_RM_isPlace_15
  by_cases z0 : v < 0
  · rw [if_pos z0, if_pos z0]; exact Or.inl ⟨rfl, rfl⟩
  · rw [if_neg z0, if_neg z0]
    obtain ⟨p, hp, rfl⟩ := nI_of z0
    have e1 : 12 ≤ nI p ↔ 12 ≤ p := by rw [show (12 : Int32) = nI 12 from rfl, nI_leI (by omega) (by omega)]
    have e2 : 11 < nI p ↔ 12 ≤ p := by rw [show (11 : Int32) = nI 11 from rfl, nI_ltI (by omega) (by omega)]; omega
    by_cases z : 12 ≤ p
    · rw [if_pos (e1.mpr z), if_pos (e2.mpr z)]; exact Or.inl ⟨rfl, rfl⟩
    · rw [if_neg (fun y => z (e1.mp y)), if_neg (fun y => z (e2.mp y))]
      exact Or.inr ⟨by decide, by decide, p, by omega, rfl⟩
theorem plCut0 {c r : plS} {n : Nat} {v : Int32} (H : plAll c r n n n n n n) (W : plSw c r n) (hv : plB v) : plAll (plUp c 9 4 v) (plUp r 8 0 v) n n n n n n ∧ plSw (plUp c 9 4 v) (plUp r 8 0 v) n := by
  obtain ⟨hT, hRw, hSrc, hCon, hNa, hLa, hL0, hL1, hBk, hLb, hPtr, hStr⟩ := H
  have new := plLn_cut (by decide) (by decide) (by decide) hL0 hv
  obtain ⟨c1, hc1⟩ : ∃ c1, c1 = plUp c 9 4 v := ⟨_, rfl⟩
  obtain ⟨r1, hr1⟩ : ∃ r1, r1 = plUp r 8 0 v := ⟨_, rfl⟩
  rw [← hc1, ← hr1] at new ⊢
  have hc : ∀ i k, ¬ i = 9 → c1 i k = c i k := fun i k h => by rw [hc1, plUp_ap, if_neg (fun y => h y.1)]
  have hr : ∀ i k, ¬ (i = 8 ∧ k = 0) → r1 i k = r i k := fun i k h => by rw [hr1, plUp_ap, if_neg h]
  exact ⟨⟨by rw [hr _ _ (by omega)]; exact hT, hRw.ext (fun k => hr _ _ (by omega)), hSrc.ext (fun k => hc _ _ (by omega)) (fun k => hc _ _ (by omega)) (fun k => hc _ _ (by omega)) (fun k => hc _ _ (by omega)) (fun k hk => hr _ _ (by omega)) (fun k => hr _ _ (by omega)) (fun k => hr _ _ (by omega)), hCon.ext (fun k => hc _ _ (by omega)) (fun k hk => hr _ _ (by omega)), hNa.ext (fun k => hc _ _ (by omega)) (fun k hk => hr _ _ (by omega)), hLa.ext (fun k hk => hc _ _ (by omega)) (fun k h1 h2 => hr _ _ (by omega)), new, plLn.ext (by omega) hL1 (fun k => hc _ _ (by omega)) (fun k => hc _ _ (by omega)) (fun k => hc _ _ (by omega)) (fun k => hc _ _ (by omega)) (fun k h1 h2 => hr _ _ (by omega)) (fun k h1 h2 => hr _ _ (by omega)) (fun k h1 h2 => hr _ _ (by omega)) (fun i hi => hr _ _ (by omega)), hBk.ext (fun k => hc _ _ (by omega)) (fun k => hc _ _ (by omega)) (hr _ _ (by omega)) (fun k => hr _ _ (by omega)), hLb.ext (fun k hk => hc _ _ (by omega)) (fun k h1 h2 => hr _ _ (by omega)), hPtr.ext (fun k h1 h2 => hc _ _ (by omega)) (fun k h1 h2 => hr _ _ (by omega)), hStr.ext (fun k => hc _ _ (by omega)) (fun k => hc _ _ (by omega)) (fun k => hc _ _ (by omega)) (fun k => hc _ _ (by omega)) (fun k h1 h2 => hr _ _ (by omega)) (fun k => hr _ _ (by omega)) (fun k => hr _ _ (by omega))⟩, W.ext (fun k => hc _ _ (by omega)) (fun k hk => hr _ _ (by omega))⟩
theorem plHarm0 {c r : plS} {n p : Nat} {v : Int32} (H : plAll c r n n n n n n) (W : plSw c r n) (hp : p < 12) (hv : plBy v) : plAll (plUp c 11 p (c 11 p ^^^ v)) (plUp r 9 (12 * 0 + p) (r 9 (12 * 0 + p) ^^^ v)) n n n n n n ∧ plSw (plUp c 11 p (c 11 p ^^^ v)) (plUp r 9 (12 * 0 + p) (r 9 (12 * 0 + p) ^^^ v)) n := by
  obtain ⟨hT, hRw, hSrc, hCon, hNa, hLa, hL0, hL1, hBk, hLb, hPtr, hStr⟩ := H
  have new := plLn_harm (by decide) (by decide) (by decide) hp hL0 hv
  obtain ⟨c1, hc1⟩ : ∃ c1, c1 = plUp c 11 p (c 11 p ^^^ v) := ⟨_, rfl⟩
  obtain ⟨r1, hr1⟩ : ∃ r1, r1 = plUp r 9 (12 * 0 + p) (r 9 (12 * 0 + p) ^^^ v) := ⟨_, rfl⟩
  rw [← hc1, ← hr1] at new ⊢
  have hc : ∀ i k, ¬ i = 11 → c1 i k = c i k := fun i k h => by rw [hc1, plUp_ap, if_neg (fun y => h y.1)]
  have hr : ∀ i k, ¬ (i = 9 ∧ k = 12 * 0 + p) → r1 i k = r i k := fun i k h => by rw [hr1, plUp_ap, if_neg h]
  exact ⟨⟨by rw [hr _ _ (by omega)]; exact hT, hRw.ext (fun k => hr _ _ (by omega)), hSrc.ext (fun k => hc _ _ (by omega)) (fun k => hc _ _ (by omega)) (fun k => hc _ _ (by omega)) (fun k => hc _ _ (by omega)) (fun k hk => hr _ _ (by omega)) (fun k => hr _ _ (by omega)) (fun k => hr _ _ (by omega)), hCon.ext (fun k => hc _ _ (by omega)) (fun k hk => hr _ _ (by omega)), hNa.ext (fun k => hc _ _ (by omega)) (fun k hk => hr _ _ (by omega)), hLa.ext (fun k hk => hc _ _ (by omega)) (fun k h1 h2 => hr _ _ (by omega)), new, plLn.ext (by omega) hL1 (fun k => hc _ _ (by omega)) (fun k => hc _ _ (by omega)) (fun k => hc _ _ (by omega)) (fun k => hc _ _ (by omega)) (fun k h1 h2 => hr _ _ (by omega)) (fun k h1 h2 => hr _ _ (by omega)) (fun k h1 h2 => hr _ _ (by omega)) (fun i hi => hr _ _ (by omega)), hBk.ext (fun k => hc _ _ (by omega)) (fun k => hc _ _ (by omega)) (hr _ _ (by omega)) (fun k => hr _ _ (by omega)), hLb.ext (fun k hk => hc _ _ (by omega)) (fun k h1 h2 => hr _ _ (by omega)), hPtr.ext (fun k h1 h2 => hc _ _ (by omega)) (fun k h1 h2 => hr _ _ (by omega)), hStr.ext (fun k => hc _ _ (by omega)) (fun k => hc _ _ (by omega)) (fun k => hc _ _ (by omega)) (fun k => hc _ _ (by omega)) (fun k h1 h2 => hr _ _ (by omega)) (fun k => hr _ _ (by omega)) (fun k => hr _ _ (by omega))⟩, W.ext (fun k => hc _ _ (by omega)) (fun k hk => hr _ _ (by omega))⟩
theorem plCut1 {c r : plS} {n : Nat} {v : Int32} (H : plAll c r n n n n n n) (W : plSw c r n) (hv : plB v) : plAll (plUp c 13 4 v) (plUp r 8 1 v) n n n n n n ∧ plSw (plUp c 13 4 v) (plUp r 8 1 v) n := by
  obtain ⟨hT, hRw, hSrc, hCon, hNa, hLa, hL0, hL1, hBk, hLb, hPtr, hStr⟩ := H
  have new := plLn_cut (by decide) (by decide) (by decide) hL1 hv
  obtain ⟨c1, hc1⟩ : ∃ c1, c1 = plUp c 13 4 v := ⟨_, rfl⟩
  obtain ⟨r1, hr1⟩ : ∃ r1, r1 = plUp r 8 1 v := ⟨_, rfl⟩
  rw [← hc1, ← hr1] at new ⊢
  have hc : ∀ i k, ¬ i = 13 → c1 i k = c i k := fun i k h => by rw [hc1, plUp_ap, if_neg (fun y => h y.1)]
  have hr : ∀ i k, ¬ (i = 8 ∧ k = 1) → r1 i k = r i k := fun i k h => by rw [hr1, plUp_ap, if_neg h]
  exact ⟨⟨by rw [hr _ _ (by omega)]; exact hT, hRw.ext (fun k => hr _ _ (by omega)), hSrc.ext (fun k => hc _ _ (by omega)) (fun k => hc _ _ (by omega)) (fun k => hc _ _ (by omega)) (fun k => hc _ _ (by omega)) (fun k hk => hr _ _ (by omega)) (fun k => hr _ _ (by omega)) (fun k => hr _ _ (by omega)), hCon.ext (fun k => hc _ _ (by omega)) (fun k hk => hr _ _ (by omega)), hNa.ext (fun k => hc _ _ (by omega)) (fun k hk => hr _ _ (by omega)), hLa.ext (fun k hk => hc _ _ (by omega)) (fun k h1 h2 => hr _ _ (by omega)), plLn.ext (by omega) hL0 (fun k => hc _ _ (by omega)) (fun k => hc _ _ (by omega)) (fun k => hc _ _ (by omega)) (fun k => hc _ _ (by omega)) (fun k h1 h2 => hr _ _ (by omega)) (fun k h1 h2 => hr _ _ (by omega)) (fun k h1 h2 => hr _ _ (by omega)) (fun i hi => hr _ _ (by omega)), new, hBk.ext (fun k => hc _ _ (by omega)) (fun k => hc _ _ (by omega)) (hr _ _ (by omega)) (fun k => hr _ _ (by omega)), hLb.ext (fun k hk => hc _ _ (by omega)) (fun k h1 h2 => hr _ _ (by omega)), hPtr.ext (fun k h1 h2 => hc _ _ (by omega)) (fun k h1 h2 => hr _ _ (by omega)), hStr.ext (fun k => hc _ _ (by omega)) (fun k => hc _ _ (by omega)) (fun k => hc _ _ (by omega)) (fun k => hc _ _ (by omega)) (fun k h1 h2 => hr _ _ (by omega)) (fun k => hr _ _ (by omega)) (fun k => hr _ _ (by omega))⟩, W.ext (fun k => hc _ _ (by omega)) (fun k hk => hr _ _ (by omega))⟩
theorem plHarm1 {c r : plS} {n p : Nat} {v : Int32} (H : plAll c r n n n n n n) (W : plSw c r n) (hp : p < 12) (hv : plBy v) : plAll (plUp c 15 p (c 15 p ^^^ v)) (plUp r 9 (12 * 1 + p) (r 9 (12 * 1 + p) ^^^ v)) n n n n n n ∧ plSw (plUp c 15 p (c 15 p ^^^ v)) (plUp r 9 (12 * 1 + p) (r 9 (12 * 1 + p) ^^^ v)) n := by
  obtain ⟨hT, hRw, hSrc, hCon, hNa, hLa, hL0, hL1, hBk, hLb, hPtr, hStr⟩ := H
  have new := plLn_harm (by decide) (by decide) (by decide) hp hL1 hv
  obtain ⟨c1, hc1⟩ : ∃ c1, c1 = plUp c 15 p (c 15 p ^^^ v) := ⟨_, rfl⟩
  obtain ⟨r1, hr1⟩ : ∃ r1, r1 = plUp r 9 (12 * 1 + p) (r 9 (12 * 1 + p) ^^^ v) := ⟨_, rfl⟩
  rw [← hc1, ← hr1] at new ⊢
  have hc : ∀ i k, ¬ i = 15 → c1 i k = c i k := fun i k h => by rw [hc1, plUp_ap, if_neg (fun y => h y.1)]
  have hr : ∀ i k, ¬ (i = 9 ∧ k = 12 * 1 + p) → r1 i k = r i k := fun i k h => by rw [hr1, plUp_ap, if_neg h]
  exact ⟨⟨by rw [hr _ _ (by omega)]; exact hT, hRw.ext (fun k => hr _ _ (by omega)), hSrc.ext (fun k => hc _ _ (by omega)) (fun k => hc _ _ (by omega)) (fun k => hc _ _ (by omega)) (fun k => hc _ _ (by omega)) (fun k hk => hr _ _ (by omega)) (fun k => hr _ _ (by omega)) (fun k => hr _ _ (by omega)), hCon.ext (fun k => hc _ _ (by omega)) (fun k hk => hr _ _ (by omega)), hNa.ext (fun k => hc _ _ (by omega)) (fun k hk => hr _ _ (by omega)), hLa.ext (fun k hk => hc _ _ (by omega)) (fun k h1 h2 => hr _ _ (by omega)), plLn.ext (by omega) hL0 (fun k => hc _ _ (by omega)) (fun k => hc _ _ (by omega)) (fun k => hc _ _ (by omega)) (fun k => hc _ _ (by omega)) (fun k h1 h2 => hr _ _ (by omega)) (fun k h1 h2 => hr _ _ (by omega)) (fun k h1 h2 => hr _ _ (by omega)) (fun i hi => hr _ _ (by omega)), new, hBk.ext (fun k => hc _ _ (by omega)) (fun k => hc _ _ (by omega)) (hr _ _ (by omega)) (fun k => hr _ _ (by omega)), hLb.ext (fun k hk => hc _ _ (by omega)) (fun k h1 h2 => hr _ _ (by omega)), hPtr.ext (fun k h1 h2 => hc _ _ (by omega)) (fun k h1 h2 => hr _ _ (by omega)), hStr.ext (fun k => hc _ _ (by omega)) (fun k => hc _ _ (by omega)) (fun k => hc _ _ (by omega)) (fun k => hc _ _ (by omega)) (fun k h1 h2 => hr _ _ (by omega)) (fun k => hr _ _ (by omega)) (fun k => hr _ _ (by omega))⟩, W.ext (fun k => hc _ _ (by omega)) (fun k hk => hr _ _ (by omega))⟩
theorem plSim_cut : sim_cut plR := by
  intro c r t ht hR v0 v1 hv
  obtain ⟨n, hn, H, W⟩ := hR
  obtain ⟨il0, il1, il2, il3⟩ := plIsL0
  obtain ⟨pl1, pl2⟩ := plIsL v0
  have e0 : c 9 4 = r 8 0 := H.2.2.2.2.2.2.1.2.2.2.2.1.1
  have e1 : c 13 4 = r 8 1 := H.2.2.2.2.2.2.2.1.2.2.2.2.1.1
  refine ⟨⟨pl1, fun _ => ⟨fun _ _ => ⟨fun _ => hv, fun _ => hv⟩, fun _ _ => ⟨fun _ => hv, fun _ => hv⟩⟩⟩, ⟨pl2, fun y => ?_⟩, ?_⟩
  · have hin : vp_in v0 2 := by
      by_cases z0 : v0 = 0
      · rw [z0]; exact vp_in_nI (n := 0) (by omega) (by omega)
      · by_cases z1 : v0 = 1
        · rw [z1]; exact vp_in_nI (n := 1) (by omega) (by omega)
        · exact absurd (plIsLn z0 z1).2 y
    exact ⟨hin, fun _ => ⟨hv, hin⟩⟩
  · unfold K_PL_cut K_RM_cut K_PL_cut_19 K_RM_cut_17
    by_cases z0 : v0 = 0
    · subst z0
      rw [if_neg il0, if_neg il1, if_pos rfl, if_pos rfl, show plIx 0 = 0 from rfl, e0]
      by_cases y : r 8 0 = v1
      · rw [if_pos y, if_pos y]; exact ⟨rfl, n, by omega, H, W⟩
      · rw [if_neg y, if_neg y]
        exact ⟨rfl, n, by omega, plCut0 H W hv⟩
    · by_cases z1 : v0 = 1
      · subst z1
        rw [if_neg il2, if_neg il3, if_neg z0, if_neg z0, show plIx 1 = 1 from rfl, e1]
        by_cases y : r 8 1 = v1
        · rw [if_pos y, if_pos y]; exact ⟨rfl, n, by omega, H, W⟩
        · rw [if_neg y, if_neg y]
          exact ⟨rfl, n, by omega, plCut1 H W hv⟩
      · obtain ⟨k1, k2⟩ := plIsLn z0 z1
        rw [if_pos k1, if_pos k2]
        exact ⟨rfl, n, by omega, H, W⟩
theorem plSim_damage : sim_damage plR := by
  intro c r t ht hR v0 v1 v2
  obtain ⟨n, hn, H, W⟩ := hR
  obtain ⟨il0, il1, il2, il3⟩ := plIsL0
  obtain ⟨pl1, pl2⟩ := plIsL v0
  obtain ⟨pp1, pp2⟩ := plIsP v1
  have keep : plR c r (t + 1) := ⟨n, by omega, H, W⟩
  rcases plIsPn v1 with ⟨k1, k2⟩ | ⟨k1, k2, p, hp, rfl⟩
  · refine ⟨⟨pl1, fun _ => ⟨pp1, fun y => absurd k1 y⟩⟩, ⟨pl2, fun _ => ⟨pp2, fun y => absurd k2 y⟩⟩, ?_⟩
    unfold K_PL_damage K_RM_damage K_PL_damage_25 K_RM_damage_25
    rw [if_pos k1, if_pos k2]
    by_cases z0 : v0 = 0
    · subst z0; rw [if_neg il0, if_neg il1]; exact ⟨rfl, keep⟩
    · by_cases z1 : v0 = 1
      · subst z1; rw [if_neg il2, if_neg il3]; exact ⟨rfl, keep⟩
      · obtain ⟨j1, j2⟩ := plIsLn z0 z1
        rw [if_pos j1, if_pos j2]; exact ⟨rfl, keep⟩
  · have vp : vp_in (nI p) 12 := vp_in_nI hp (by omega)
    have x0 : 12 * (0 : Int32) + nI p = nI (12 * 0 + p) := by rw [show (12 : Int32) * 0 = nI (12 * 0) from rfl, nI_add]
    have x1 : 12 * (1 : Int32) + nI p = nI (12 * 1 + p) := by rw [show (12 : Int32) * 1 = nI (12 * 1) from rfl, nI_add]
    refine ⟨⟨pl1, fun _ => ⟨pp1, fun _ _ _ => ⟨fun _ => ⟨vp, vp⟩, fun _ => ⟨vp, vp⟩⟩⟩⟩, ⟨pl2, fun y => ⟨pp2, fun _ _ _ => ?_⟩⟩, ?_⟩
    · by_cases z0 : v0 = 0
      · subst z0; rw [x0]; exact ⟨vp_in_nI (by omega) (by omega), vp_in_nI (by omega) (by omega)⟩
      · by_cases z1 : v0 = 1
        · subst z1; rw [x1]; exact ⟨vp_in_nI (by omega) (by omega), vp_in_nI (by omega) (by omega)⟩
        · exact absurd (plIsLn z0 z1).2 y
    · unfold K_PL_damage K_RM_damage K_PL_damage_25 K_RM_damage_25
      rw [if_neg k1, if_neg k2, plIx_nI (by omega)]
      by_cases zn : v2 < 0
      · rw [if_pos zn, if_pos zn]
        by_cases z0 : v0 = 0
        · subst z0; rw [if_neg il0, if_neg il1]; exact ⟨rfl, keep⟩
        · by_cases z1 : v0 = 1
          · subst z1; rw [if_neg il2, if_neg il3]; exact ⟨rfl, keep⟩
          · obtain ⟨j1, j2⟩ := plIsLn z0 z1
            rw [if_pos j1, if_pos j2]; exact ⟨rfl, keep⟩
      · rw [if_neg zn, if_neg zn]
        by_cases zb : v2 ≤ 255
        · rw [if_pos zb, if_pos zb]
          have hb : plBy v2 := by
            obtain ⟨m, hm, rfl⟩ := nI_of zn
            rw [show (255 : Int32) = nI 255 from rfl, nI_leI (by omega) (by omega)] at zb
            exact plBy.lit (by omega)
          by_cases z0 : v0 = 0
          · subst z0
            rw [if_neg il0, if_neg il1, if_pos rfl, x0, plIx_nI (by omega)]
            exact ⟨rfl, n, by omega, plHarm0 H W hp hb⟩
          · by_cases z1 : v0 = 1
            · subst z1
              rw [if_neg il2, if_neg il3, if_neg z0, x1, plIx_nI (by omega)]
              exact ⟨rfl, n, by omega, plHarm1 H W hp hb⟩
            · obtain ⟨j1, j2⟩ := plIsLn z0 z1
              rw [if_pos j1, if_pos j2]; exact ⟨rfl, keep⟩
        · rw [if_neg zb, if_neg zb]
          by_cases z0 : v0 = 0
          · subst z0; rw [if_neg il0, if_neg il1]; exact ⟨rfl, keep⟩
          · by_cases z1 : v0 = 1
            · subst z1; rw [if_neg il2, if_neg il3]; exact ⟨rfl, keep⟩
            · obtain ⟨j1, j2⟩ := plIsLn z0 z1
              rw [if_pos j1, if_pos j2]; exact ⟨rfl, keep⟩
