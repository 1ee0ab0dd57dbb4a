/-! listeners and the back line -/
def plHear (a x y : Nat) (c r : plS) (n : Nat) : Prop := ∃ s, s ≤ n ∧ r 0 x = nI s ∧ (s = 0 → c a 1 = -1) ∧ (1 ≤ s → plBy (c a 1) ∧ r 0 y = c a 1 ∧ c a 2 = nI s)
def plLa (c r : plS) (n : Nat) : Prop := plHear 7 18 19 c r n ∧ ∃ a, a < 256 ∧ c 7 0 = nI a ∧ r 0 17 = nI (a / 16) ∧ r 0 16 = (if 1 ≤ a / 16 ∧ a / 16 ≤ 4 then 1 else 0)
def plLb (c r : plS) (n : Nat) : Prop := plHear 20 35 36 c r n ∧ ((c 20 0 = 0 ∧ r 0 34 = -1) ∨ (plBy (c 20 0) ∧ r 0 34 = c 20 0))
def plBk (c r : plS) (n : Nat) : Prop := (∃ d, 1 ≤ d ∧ d ≤ 4 ∧ c 17 0 = nI d ∧ r 1 1 = nI d) ∧ c 17 2 = nI n ∧ ∀ j, 1 ≤ j → j ≤ n → n < j + 8 → c 18 ((j - 1) % 8) = r 5 (j % 8) ∧ plBy (c 18 ((j - 1) % 8))
theorem plHear.ext {a x y n : Nat} {c c' r r' : plS} (h : plHear a x y c r n) (e1 : c' a 1 = c a 1) (e2 : c' a 2 = c a 2) (g1 : r' 0 x = r 0 x) (g2 : r' 0 y = r 0 y) : plHear a x y c' r' n := by
  obtain ⟨s, h1, h2, h3, h4⟩ := h
  exact ⟨s, h1, by rw [g1]; exact h2, fun e => by rw [e1]; exact h3 e, fun e => by rw [e1, e2, g2]; exact h4 e⟩
theorem plLa.ext {n : Nat} {c c' r r' : plS} (h : plLa c r n) (e : ∀ k, k ≤ 2 → c' 7 k = c 7 k) (g : ∀ k, 16 ≤ k → k ≤ 19 → r' 0 k = r 0 k) : plLa c' r' n := by
  obtain ⟨h1, a, h2, h3, h4, h5⟩ := h
  exact ⟨h1.ext (e 1 (by omega)) (e 2 (by omega)) (g 18 (by omega) (by omega)) (g 19 (by omega) (by omega)), a, h2, by rw [e 0 (by omega)]; exact h3, by rw [g 17 (by omega) (by omega)]; exact h4, by rw [g 16 (by omega) (by omega)]; exact h5⟩
theorem plLb.ext {n : Nat} {c c' r r' : plS} (h : plLb c r n) (e : ∀ k, k ≤ 2 → c' 20 k = c 20 k) (g : ∀ k, 34 ≤ k → k ≤ 36 → r' 0 k = r 0 k) : plLb c' r' n := by
  obtain ⟨h1, h2⟩ := h
  exact ⟨h1.ext (e 1 (by omega)) (e 2 (by omega)) (g 35 (by omega) (by omega)) (g 36 (by omega) (by omega)), by rw [e 0 (by omega), g 34 (by omega) (by omega)]; exact h2⟩
theorem plBk.ext {n : Nat} {c c' r r' : plS} (h : plBk c r n) (e1 : ∀ k, c' 17 k = c 17 k) (e2 : ∀ k, c' 18 k = c 18 k) (g1 : r' 1 1 = r 1 1) (g2 : ∀ k, r' 5 k = r 5 k) : plBk c' r' n := by
  obtain ⟨⟨d, h1, h2, h3, h4⟩, h5, h6⟩ := h
  exact ⟨⟨d, h1, h2, by rw [e1]; exact h3, by rw [g1]; exact h4⟩, by rw [e1]; exact h5, fun j j1 j2 j3 => by rw [e2, g2]; exact h6 j j1 j2 j3⟩
theorem plHear.mono {a x y n n' : Nat} {c r : plS} (h : plHear a x y c r n) (hn : n ≤ n') : plHear a x y c r n' := by
  obtain ⟨s, h1, h2⟩ := h
  exact ⟨s, by omega, h2⟩
theorem plHearC_LA (c : plS) (k : Int32) (i j : Nat) : K_LA_hear c k i j = if i = 7 ∧ j = 1 then k else if i = 7 ∧ j = 2 then (if k = c 7 1 then c 7 2 + 1 else 1) else if i = 7 ∧ j = 0 then (if ¬ (if k = c 7 1 then c 7 2 + 1 else 1) < 3 ∧ ¬ k = -1 then k else c 7 0) else c i j := by
  have h19 : ∀ x, K_LA_hear_19 c k x i j = if i = 7 ∧ j = 1 then k else if i = 7 ∧ j = 2 then x else if i = 7 ∧ j = 0 then (if ¬ x < 3 ∧ ¬ k = -1 then k else c 7 0) else c i j := by
    intro x
    unfold K_LA_hear_19 K_LA_hear_22 K_LA_hear_27 K_LA_hear_45
    rw [show plUp (plUp c 7 2 x) 7 1 k 7 2 = x by simp [plUp_ap]]
    have base : plUp (plUp c 7 2 x) 7 1 k i j = if i = 7 ∧ j = 1 then k else if i = 7 ∧ j = 2 then x else c i j := by rw [plUp_ap, plUp_ap]
    by_cases z1 : x < 3
    · rw [if_pos z1, base, if_neg (fun (w : ¬ x < 3 ∧ ¬ k = -1) => w.1 z1)]
      by_cases z : i = 7 ∧ j = 0
      · rw [if_pos z]; obtain ⟨rfl, rfl⟩ := z; simp
      · rw [if_neg z]
    · rw [if_neg z1]
      by_cases z2 : k = -1
      · rw [if_pos z2, base, if_neg (fun (w : ¬ x < 3 ∧ ¬ k = -1) => w.2 z2)]
        by_cases z : i = 7 ∧ j = 0
        · rw [if_pos z]; obtain ⟨rfl, rfl⟩ := z; simp
        · rw [if_neg z]
      · rw [if_neg z2, plUp_ap, base, if_pos (show ¬ x < 3 ∧ ¬ k = -1 from ⟨z1, z2⟩)]
        by_cases z : i = 7 ∧ j = 0
        · rw [if_pos z, if_neg (by omega), if_neg (by omega), if_pos z]
        · rw [if_neg z, if_neg z]
  unfold K_LA_hear
  by_cases z : k = c 7 1
  · rw [if_pos z, h19, if_pos z]
  · rw [if_neg z, h19, if_neg z]
/-- one byte heard, or none -/
theorem plHearS_LA {x y n : Nat} {c r : plS} (hn : n < 2 ^ 28) (h : plHear 7 x y c r n) : (∀ r' : plS, r' 0 x = 0 → plHear 7 x y (K_LA_hear c (-1)) r' (n + 1) ∧ K_LA_hear c (-1) 7 0 = c 7 0) ∧ (∀ k, plBy k → ∃ s', s' ≤ n + 1 ∧ 1 ≤ s' ∧ (r 0 x ≤ 0 → s' = 1) ∧ (¬ r 0 x ≤ 0 → k = r 0 y → r 0 x + 1 = nI s') ∧ (¬ k = r 0 y → s' = 1) ∧ (∀ r' : plS, r' 0 x = nI s' → r' 0 y = k → plHear 7 x y (K_LA_hear c k) r' (n + 1)) ∧ K_LA_hear c k 7 0 = if s' < 3 then c 7 0 else k) := by
  obtain ⟨s, h1, h2, h3, h4⟩ := h
  refine ⟨fun r' e => ⟨⟨0, by omega, e, fun _ => ?_, fun z => by omega⟩, ?_⟩, fun k hk => ?_⟩
  · rw [plHearC_LA, if_pos ⟨rfl, rfl⟩]
  · rw [plHearC_LA, if_neg (by omega), if_neg (by omega), if_pos ⟨rfl, rfl⟩, if_neg (fun w => w.2 rfl)]
  · have q0 : r 0 x ≤ 0 ↔ s = 0 := by rw [h2, show (0 : Int32) = nI 0 from rfl, nI_leI (by omega) (by omega)]; omega
    obtain ⟨s', hs'⟩ : ∃ s', s' = if 1 ≤ s ∧ k = c 7 1 then s + 1 else 1 := ⟨_, rfl⟩
    have hrow : (if k = c 7 1 then c 7 2 + 1 else 1) = nI s' := by
      by_cases z : k = c 7 1
      · by_cases zs : 1 ≤ s
        · rw [if_pos z, hs', if_pos ⟨zs, z⟩, (h4 zs).2.2, nI_1]
        · exact absurd (z.trans (h3 (by omega))) hk.nm
      · rw [if_neg z, hs', if_neg (fun w => z w.2)]; rfl
    have s1 : s' ≤ n + 1 ∧ 1 ≤ s' := by rw [hs']; split <;> omega
    have q3 : nI s' < 3 ↔ s' < 3 := by rw [show (3 : Int32) = nI 3 from rfl, nI_ltI (by omega) (by omega)]
    refine ⟨s', s1.1, s1.2, fun z => ?_, fun z e => ?_, fun e => ?_, fun r' e1 e2 => ⟨s', s1.1, e1, fun z => by omega, fun _ => ⟨?_, ?_, ?_⟩⟩, ?_⟩
    · rw [hs', if_neg (fun w => by have := q0.mp z; omega)]
    · have zs : 1 ≤ s := by
        by_cases y : s = 0
        · exact absurd (q0.mpr y) z
        · omega
      rw [hs', if_pos ⟨zs, by rw [e]; exact (h4 zs).2.1⟩, h2, nI_1]
    · rw [hs', if_neg (fun w => e (by rw [(h4 w.1).2.1]; exact w.2))]
    · rw [plHearC_LA, if_pos ⟨rfl, rfl⟩]; exact hk
    · rw [plHearC_LA, if_pos ⟨rfl, rfl⟩]; exact e2
    · rw [plHearC_LA, if_neg (by omega), if_pos ⟨rfl, rfl⟩]; exact hrow
    · rw [plHearC_LA, if_neg (by omega), if_neg (by omega), if_pos ⟨rfl, rfl⟩, hrow]
      by_cases z : s' < 3
      · rw [if_pos z, if_neg (fun w => w.1 (q3.mpr z))]
      · rw [if_neg z, if_pos ⟨fun w => z (q3.mp w), hk.nm⟩]
theorem plHearC_LB (c : plS) (k : Int32) (i j : Nat) : K_LB_hear c k i j = if i = 20 ∧ j = 1 then k else if i = 20 ∧ j = 2 then (if k = c 20 1 then c 20 2 + 1 else 1) else if i = 20 ∧ j = 0 then (if ¬ (if k = c 20 1 then c 20 2 + 1 else 1) < 3 ∧ ¬ k = -1 then k else c 20 0) else c i j := by
  have h19 : ∀ x, K_LB_hear_19 c k x i j = if i = 20 ∧ j = 1 then k else if i = 20 ∧ j = 2 then x else if i = 20 ∧ j = 0 then (if ¬ x < 3 ∧ ¬ k = -1 then k else c 20 0) else c i j := by
    intro x
    unfold K_LB_hear_19 K_LB_hear_22 K_LB_hear_27 K_LB_hear_45
    rw [show plUp (plUp c 20 2 x) 20 1 k 20 2 = x by simp [plUp_ap]]
    have base : plUp (plUp c 20 2 x) 20 1 k i j = if i = 20 ∧ j = 1 then k else if i = 20 ∧ j = 2 then x else c i j := by rw [plUp_ap, plUp_ap]
    by_cases z1 : x < 3
    · rw [if_pos z1, base, if_neg (fun (w : ¬ x < 3 ∧ ¬ k = -1) => w.1 z1)]
      by_cases z : i = 20 ∧ j = 0
      · rw [if_pos z]; obtain ⟨rfl, rfl⟩ := z; simp
      · rw [if_neg z]
    · rw [if_neg z1]
      by_cases z2 : k = -1
      · rw [if_pos z2, base, if_neg (fun (w : ¬ x < 3 ∧ ¬ k = -1) => w.2 z2)]
        by_cases z : i = 20 ∧ j = 0
        · rw [if_pos z]; obtain ⟨rfl, rfl⟩ := z; simp
        · rw [if_neg z]
      · rw [if_neg z2, plUp_ap, base, if_pos (show ¬ x < 3 ∧ ¬ k = -1 from ⟨z1, z2⟩)]
        by_cases z : i = 20 ∧ j = 0
        · rw [if_pos z, if_neg (by omega), if_neg (by omega), if_pos z]
        · rw [if_neg z, if_neg z]
  unfold K_LB_hear
  by_cases z : k = c 20 1
  · rw [if_pos z, h19, if_pos z]
  · rw [if_neg z, h19, if_neg z]
/-- one byte heard, or none -/
theorem plHearS_LB {x y n : Nat} {c r : plS} (hn : n < 2 ^ 28) (h : plHear 20 x y c r n) : (∀ r' : plS, r' 0 x = 0 → plHear 20 x y (K_LB_hear c (-1)) r' (n + 1) ∧ K_LB_hear c (-1) 20 0 = c 20 0) ∧ (∀ k, plBy k → ∃ s', s' ≤ n + 1 ∧ 1 ≤ s' ∧ (r 0 x ≤ 0 → s' = 1) ∧ (¬ r 0 x ≤ 0 → k = r 0 y → r 0 x + 1 = nI s') ∧ (¬ k = r 0 y → s' = 1) ∧ (∀ r' : plS, r' 0 x = nI s' → r' 0 y = k → plHear 20 x y (K_LB_hear c k) r' (n + 1)) ∧ K_LB_hear c k 20 0 = if s' < 3 then c 20 0 else k) := by
  obtain ⟨s, h1, h2, h3, h4⟩ := h
  refine ⟨fun r' e => ⟨⟨0, by omega, e, fun _ => ?_, fun z => by omega⟩, ?_⟩, fun k hk => ?_⟩
  · rw [plHearC_LB, if_pos ⟨rfl, rfl⟩]
  · rw [plHearC_LB, if_neg (by omega), if_neg (by omega), if_pos ⟨rfl, rfl⟩, if_neg (fun w => w.2 rfl)]
  · have q0 : r 0 x ≤ 0 ↔ s = 0 := by rw [h2, show (0 : Int32) = nI 0 from rfl, nI_leI (by omega) (by omega)]; omega
    obtain ⟨s', hs'⟩ : ∃ s', s' = if 1 ≤ s ∧ k = c 20 1 then s + 1 else 1 := ⟨_, rfl⟩
    have hrow : (if k = c 20 1 then c 20 2 + 1 else 1) = nI s' := by
      by_cases z : k = c 20 1
      · by_cases zs : 1 ≤ s
        · rw [if_pos z, hs', if_pos ⟨zs, z⟩, (h4 zs).2.2, nI_1]
        · exact absurd (z.trans (h3 (by omega))) hk.nm
      · rw [if_neg z, hs', if_neg (fun w => z w.2)]; rfl
    have s1 : s' ≤ n + 1 ∧ 1 ≤ s' := by rw [hs']; split <;> omega
    have q3 : nI s' < 3 ↔ s' < 3 := by rw [show (3 : Int32) = nI 3 from rfl, nI_ltI (by omega) (by omega)]
    refine ⟨s', s1.1, s1.2, fun z => ?_, fun z e => ?_, fun e => ?_, fun r' e1 e2 => ⟨s', s1.1, e1, fun z => by omega, fun _ => ⟨?_, ?_, ?_⟩⟩, ?_⟩
    · rw [hs', if_neg (fun w => by have := q0.mp z; omega)]
    · have zs : 1 ≤ s := by
        by_cases y : s = 0
        · exact absurd (q0.mpr y) z
        · omega
      rw [hs', if_pos ⟨zs, by rw [e]; exact (h4 zs).2.1⟩, h2, nI_1]
    · rw [hs', if_neg (fun w => e (by rw [(h4 w.1).2.1]; exact w.2))]
    · rw [plHearC_LB, if_pos ⟨rfl, rfl⟩]; exact hk
    · rw [plHearC_LB, if_pos ⟨rfl, rfl⟩]; exact e2
    · rw [plHearC_LB, if_neg (by omega), if_pos ⟨rfl, rfl⟩]; exact hrow
    · rw [plHearC_LB, if_neg (by omega), if_neg (by omega), if_pos ⟨rfl, rfl⟩, hrow]
      by_cases z : s' < 3
      · rw [if_pos z, if_neg (fun w => w.1 (q3.mpr z))]
      · rw [if_neg z, if_pos ⟨fun w => z (q3.mp w), hk.nm⟩]
theorem plShr4 : ∀ n, n < 256 → (nI n >>> ((4 : Int32) &&& 31)) = nI (n / 16) := by decide +kernel
theorem plHearA {c r : plS} {n : Nat} (hn : n < 2 ^ 27) (hB : plBk c r n) (hcut : c 13 4 = r 8 1) (hL : plLa c r n) (hT : r 0 3 = nI (n + 1)) : P_BL_arriving c (c 13 4) ∧ P_RM_hear r ∧ plLa (K_LA_hear c (K_BL_arriving c (c 13 4))) (K_RM_hear r) (n + 1) := by
  obtain ⟨⟨d, d1, d2, d3, d4⟩, b2, b3⟩ := hB
  obtain ⟨hh, a, a1, a2, a3, a4⟩ := hL
  obtain ⟨hnone, hsome⟩ := plHearS_LA (by omega) hh
  have q1 : c 17 0 ≤ c 17 2 ↔ d ≤ n := by rw [d3, b2, nI_leI (by omega) (by omega)]
  have q2 : 1 ≤ r 0 3 - r 1 (plIx 1) ↔ d ≤ n := by
    rw [show plIx 1 = 1 from rfl, hT, d4, Int32.le_iff_toInt_le, pk_sub_toInt (by omega) (by omega), show (1 : Int32).toInt = 1 from rfl]
    omega
  have ic : d ≤ n → (c 17 2 - c 17 0) &&& 7 = nI ((n - d) % 8) := fun z => by rw [d3, b2, pk_sub z, plAnd7 (by omega)]
  have ir : d ≤ n → (r 0 3 - r 1 (plIx 1)) &&& 7 = nI ((n + 1 - d) % 8) := fun z => by rw [show plIx 1 = 1 from rfl, hT, d4, pk_sub (by omega), plAnd7 (by omega)]
  have p1 : P_BL_arriving c (c 13 4) := fun _ z => by rw [ic (q1.mp z)]; exact vp_in_nI (by omega) (by omega)
  have p100 : ∀ st, P_RM_hear_100 st := fun st => ⟨fun _ => Or.inl rfl, fun _ => ⟨fun _ => Or.inl rfl, fun _ => Or.inr rfl⟩⟩
  have p2 : P_RM_hear r := fun _ z => ⟨by rw [ir (q2.mp z)]; exact vp_in_nI (by omega) (by omega), fun _ _ => p100 _, fun _ => ⟨fun _ _ => p100 _, fun _ _ => p100 _⟩⟩
  refine ⟨p1, p2, ?_⟩
  by_cases z : c 13 4 = 0 ∧ d ≤ n
  · obtain ⟨z1, z2⟩ := z
    obtain ⟨k, hk⟩ : ∃ k, k = c 18 ((n + 1 - d - 1) % 8) := ⟨_, rfl⟩
    obtain ⟨j1, j2⟩ := b3 (n + 1 - d) (by omega) (by omega) (by omega)
    rw [← hk] at j1 j2
    have kc : K_BL_arriving c (c 13 4) = k := by
      unfold K_BL_arriving K_BL_arriving_36
      rw [if_pos z1, if_pos (q1.mpr z2), ic z2, plIx_nI (by omega), hk, show n + 1 - d - 1 = n - d by omega]
    obtain ⟨s', t1, t2, t3, t4, t5, t6, t7⟩ := hsome k j2
    have kr : K_RM_hear r = K_RM_hear_76 r k (nI s') := by
      unfold K_RM_hear K_RM_hear_75
      rw [if_pos (show r 8 (plIx 1) = 0 by rw [show plIx 1 = 1 from rfl, ← hcut]; exact z1), if_pos (q2.mpr z2), ir z2, plIx_nI (by omega), ← j1]
      by_cases y1 : r 0 18 ≤ 0
      · rw [if_pos y1, t3 y1]; rfl
      · rw [if_neg y1]
        by_cases y2 : k = r 0 19
        · rw [if_pos y2, t4 y1 y2]
        · rw [if_neg y2, t5 y2]; rfl
    rw [kc, kr]
    have q3 : 3 ≤ nI s' ↔ ¬ s' < 3 := by rw [show (3 : Int32) = nI 3 from rfl, nI_leI (by omega) (by omega)]; omega
    obtain ⟨nk, hnk, enk⟩ := j2
    have kk : ∀ i j, K_RM_hear_76 r k (nI s') i j = if i = 0 ∧ j = 18 then nI s' else if i = 0 ∧ j = 19 then k else if i = 0 ∧ j = 17 then (if s' < 3 then r 0 17 else nI (nk / 16)) else if i = 0 ∧ j = 16 then (if s' < 3 then r 0 16 else (if 1 ≤ nk / 16 ∧ nk / 16 ≤ 4 then 1 else 0)) else r i j := by
      intro i j
      unfold K_RM_hear_76 K_RM_hear_79 K_RM_hear_84
      rw [show plUp (plUp r 0 18 (nI s')) 0 19 k 0 18 = nI s' by simp [plUp_ap]]
      by_cases y : s' < 3
      · rw [if_neg (fun w => q3.mp w y), if_pos y, if_pos y, plUp_ap, plUp_ap]
        by_cases e18 : i = 0 ∧ j = 18
        · rw [if_neg (by omega), if_pos e18, if_pos e18]
        · rw [if_neg e18, if_neg e18]
          by_cases e19 : i = 0 ∧ j = 19
          · rw [if_pos e19, if_pos e19]
          · rw [if_neg e19, if_neg e19]
            by_cases e17 : i = 0 ∧ j = 17
            · rw [if_pos e17, e17.1, e17.2]
            · rw [if_neg e17]
              by_cases e16 : i = 0 ∧ j = 16
              · rw [if_pos e16, e16.1, e16.2]
              · rw [if_neg e16]
      · rw [if_pos (q3.mpr y), if_neg y, if_neg y, enk, plShr4 nk hnk]
        have w17 : plUp (plUp (plUp r 0 18 (nI s')) 0 19 (nI nk)) 0 17 (nI (nk / 16)) 0 17 = nI (nk / 16) := by simp [plUp_ap]
        have g1 : nI (nk / 16) < 1 ↔ ¬ 1 ≤ nk / 16 := by rw [show (1 : Int32) = nI 1 from rfl, nI_ltI (by omega) (by omega)]; omega
        have g4 : 4 < nI (nk / 16) ↔ ¬ nk / 16 ≤ 4 := by rw [show (4 : Int32) = nI 4 from rfl, nI_ltI (by omega) (by omega)]; omega
        have k100 : K_RM_hear_100 (plUp (plUp (plUp r 0 18 (nI s')) 0 19 (nI nk)) 0 17 (nI (nk / 16))) = plUp (plUp (plUp (plUp r 0 18 (nI s')) 0 19 (nI nk)) 0 17 (nI (nk / 16))) 0 16 (if 1 ≤ nk / 16 ∧ nk / 16 ≤ 4 then 1 else 0) := by
          unfold K_RM_hear_100 K_RM_hear_121 K_RM_hear_122
          rw [w17]
          by_cases v1 : 1 ≤ nk / 16
          · rw [if_neg (fun w => g1.mp w v1)]
            by_cases v2 : nk / 16 ≤ 4
            · rw [if_neg (fun w => g4.mp w v2), if_pos ⟨v1, v2⟩]
            · rw [if_pos (g4.mpr v2), if_neg (fun w => v2 w.2)]
          · rw [if_pos (g1.mpr v1), if_neg (fun w => v1 w.1)]
        rw [k100, plUp_ap, plUp_ap, plUp_ap, plUp_ap]
        by_cases e18 : i = 0 ∧ j = 18
        · rw [if_neg (by omega), if_neg (by omega), if_neg (by omega), if_pos e18, if_pos e18]
        · rw [if_neg e18, if_neg e18]
          by_cases e19 : i = 0 ∧ j = 19
          · rw [if_neg (by omega), if_neg (by omega), if_pos e19, if_pos e19]
          · rw [if_neg e19, if_neg e19]
            by_cases e17 : i = 0 ∧ j = 17
            · rw [if_neg (by omega), if_pos e17, if_pos e17]
            · rw [if_neg e17, if_neg e17]
    refine ⟨t6 _ (by rw [kk, if_pos ⟨rfl, rfl⟩]) (by rw [kk, if_neg (by omega), if_pos ⟨rfl, rfl⟩]), if s' < 3 then a else nk, ?_, ?_, ?_, ?_⟩
    · split <;> omega
    · rw [t7, a2]
      by_cases y : s' < 3
      · rw [if_pos y, if_pos y]
      · rw [if_neg y, if_neg y, enk]
    · rw [kk, if_neg (by omega), if_neg (by omega), if_pos ⟨rfl, rfl⟩, a3]
      by_cases y : s' < 3
      · rw [if_pos y, if_pos y]
      · rw [if_neg y, if_neg y]
    · rw [kk, if_neg (by omega), if_neg (by omega), if_neg (by omega), if_pos ⟨rfl, rfl⟩, a4]
      by_cases y : s' < 3
      · rw [if_pos y, if_pos y]
      · rw [if_neg y, if_neg y]
  · have kc : K_BL_arriving c (c 13 4) = -1 := by
      unfold K_BL_arriving K_BL_arriving_15 K_BL_arriving_36
      by_cases y1 : c 13 4 = 0
      · rw [if_pos y1, if_neg (fun w => z ⟨y1, q1.mp w⟩)]
      · rw [if_neg y1]
    have kr : K_RM_hear r = plUp r 0 18 0 := by
      unfold K_RM_hear K_RM_hear_24
      by_cases y1 : r 8 1 = 0
      · rw [if_pos (show r 8 (plIx 1) = 0 from y1), if_neg (fun w => z ⟨by rw [hcut]; exact y1, q2.mp w⟩)]
      · rw [if_neg (show ¬ r 8 (plIx 1) = 0 from y1)]
    rw [kc, kr]
    obtain ⟨u1, u2⟩ := hnone (plUp r 0 18 0) (by simp [plUp_ap])
    exact ⟨u1, a, a1, by rw [u2]; exact a2, by simp [plUp_ap]; exact a3, by simp [plUp_ap]; exact a4⟩
/-- node B listens: k = none when the protection line can't be read -/
theorem plHearB {c r : plS} {n : Nat} {k : Int32} (hn : n < 2 ^ 28) (hL : plLb c r n) (hrd : (r 14 1 = 2 ∧ ¬ r 11 1 = 0) → plBy k ∧ k = r 10 15 ^^^ r 6 3) (hno : ¬ (r 14 1 = 2 ∧ ¬ r 11 1 = 0) → k = -1) : plLb (K_LB_hear c k) (K_RM_listen r) (n + 1) := by
  obtain ⟨hh, ha⟩ := hL
  obtain ⟨hnone, hsome⟩ := plHearS_LB hn hh
  by_cases z : r 14 1 = 2 ∧ ¬ r 11 1 = 0
  · obtain ⟨hk, ek⟩ := hrd z
    obtain ⟨s', t1, t2, t3, t4, t5, t6, t7⟩ := hsome k hk
    have kr : K_RM_listen r = K_RM_listen_66 r k (nI s') := by
      unfold K_RM_listen K_RM_listen_65
      rw [show plIx 1 = 1 from rfl, show plIx 15 = 15 from rfl, show plIx 3 = 3 from rfl, if_pos z.1, if_neg z.2, ← ek]
      by_cases y1 : r 0 35 ≤ 0
      · rw [if_pos y1, t3 y1]; rfl
      · rw [if_neg y1]
        by_cases y2 : k = r 0 36
        · rw [if_pos y2, t4 y1 y2]
        · rw [if_neg y2, t5 y2]; rfl
    have q3 : nI s' < 3 ↔ s' < 3 := by rw [show (3 : Int32) = nI 3 from rfl, nI_ltI (by omega) (by omega)]
    have kk : K_RM_listen_66 r k (nI s') = plUp (plUp (plUp r 0 35 (nI s')) 0 36 k) 0 34 (if s' < 3 then r 0 34 else k) := by
      unfold K_RM_listen_66 K_RM_listen_69 K_RM_listen_74 K_RM_listen_91
      rw [show plUp (plUp r 0 35 (nI s')) 0 36 k 0 35 = nI s' by simp [plUp_ap], show plUp (plUp r 0 35 (nI s')) 0 36 k 0 34 = r 0 34 by simp [plUp_ap]]
      by_cases y : s' < 3
      · rw [if_pos (q3.mpr y), if_pos y]
      · rw [if_neg (fun w => y (q3.mp w)), if_neg y]
    rw [kr, kk]
    refine ⟨t6 _ (by simp [plUp_ap]) (by simp [plUp_ap]), ?_⟩
    rw [t7, show plUp (plUp (plUp r 0 35 (nI s')) 0 36 k) 0 34 (if s' < 3 then r 0 34 else k) 0 34 = (if s' < 3 then r 0 34 else k) by simp [plUp_ap]]
    by_cases y : s' < 3
    · rw [if_pos y, if_pos y]; exact ha
    · rw [if_neg y, if_neg y]; exact Or.inr ⟨hk, rfl⟩
  · have kr : K_RM_listen r = plUp r 0 35 0 := by
      unfold K_RM_listen K_RM_listen_19
      rw [show plIx 1 = 1 from rfl]
      by_cases y1 : r 14 1 = 2
      · rw [if_pos y1, if_pos (Classical.byContradiction (fun w => z ⟨y1, w⟩))]
      · rw [if_neg y1]
    rw [kr, hno z]
    obtain ⟨u1, u2⟩ := hnone (plUp r 0 35 0) (by simp [plUp_ap])
    refine ⟨u1, ?_⟩
    rw [u2]
    simpa [plUp_ap] using ha
theorem plBackL {c r : plS} {n : Nat} {k : Int32} (hn : n < 2 ^ 28) (hB : plBk c r n) (hk : plBy k) : P_BL_launch c k ∧ plBk (K_BL_launch c k) (plUp r 5 ((n + 1) % 8) k) (n + 1) := by
  obtain ⟨⟨d, d1, d2, d3, d4⟩, b2, b3⟩ := hB
  have e : (c 17 2) &&& 7 = nI (n % 8) := by rw [b2, plAnd7 (by omega)]
  have kc : ∀ i j, K_BL_launch c k i j = if i = 17 ∧ j = 2 then nI (n + 1) else if i = 18 ∧ j = n % 8 then k else c i j := by
    intro i j
    unfold K_BL_launch K_BL_launch_13
    rw [e, plIx_nI (by omega), show plUp c 18 (n % 8) k 17 2 = c 17 2 by rw [plUp_ap, if_neg (by omega)], b2, nI_1, plUp_ap, plUp_ap]
  refine ⟨by show vp_in _ 8; rw [e]; exact vp_in_nI (by omega) (by omega), ⟨d, d1, d2, by rw [kc, if_neg (by omega), if_neg (by omega)]; exact d3, by rw [plUp_ap, if_neg (by omega)]; exact d4⟩, by rw [kc, if_pos ⟨rfl, rfl⟩], fun j j1 j2 j3 => ?_⟩
  rw [kc, if_neg (by omega), plUp_ap]
  by_cases y : j = n + 1
  · rw [if_pos ⟨rfl, by omega⟩, if_pos ⟨rfl, by omega⟩]; exact ⟨rfl, hk⟩
  · rw [if_neg (by omega), if_neg (by omega)]
    exact b3 j j1 (by omega) (by omega)
