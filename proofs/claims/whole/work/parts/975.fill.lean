/-! node A fills a frame -/
theorem plL2f {C D : Type} (p : C → Prop) (f : C → Bool × C) (q : D → Prop) (g : D → Bool × D) (I : Nat → C → D → Prop) (N : Nat) (hgo : ∀ k c d, k < N → I k c d → p c ∧ q d ∧ (f c).1 = true ∧ (g d).1 = true ∧ I (k + 1) (f c).2 (g d).2) (hend : ∀ c d, I N c d → p c ∧ q d ∧ f c = (false, c) ∧ g d = (false, d)) : ∀ fuel fuel2 k c d, k ≤ N → N - k < fuel → N - k < fuel2 → I k c d → lpP p f fuel c ∧ lpP q g fuel2 d ∧ I N (lpR f fuel c) (lpR g fuel2 d) := by
  intro fuel
  induction fuel with
  | zero => intro _ k c d _ h; omega
  | succ n ih =>
    intro fuel2 k c d hk hf hf2 hI
    cases fuel2 with
    | zero => omega
    | succ n2 =>
      unfold lpP lpR
      by_cases e : k = N
      · subst e
        obtain ⟨h1, h2, h3, h4⟩ := hend c d hI
        rw [h3, h4]
        exact ⟨⟨h1, fun h => by cases h⟩, ⟨h2, fun h => by cases h⟩, hI⟩
      · obtain ⟨h1, h2, h3, h4, h5⟩ := hgo k c d (by omega) hI
        obtain ⟨h6, h7, h8⟩ := ih n2 (k + 1) (f c).2 (g d).2 (by omega) (by omega) (by omega) h5
        exact ⟨⟨h1, fun _ => h6⟩, ⟨h2, fun _ => h7⟩, by rw [if_pos h3, if_pos h4]; exact h8⟩
theorem plOff6 : ∀ s, s < 3 → 6 + (nI s - 1) = nI (5 + s) ∧ 2 + (nI s - 1) = nI (1 + s) := by decide +kernel
theorem plZeros {r : plS} {v1 : Int32} {s : Nat} (hs : s < 3) : ∀ z, z ≤ s → ∃ rz : plS, (∀ i k, rz i k = if i = 7 ∧ 5 ≤ k ∧ k < 5 + z then 0 else r i k) ∧ lpR (F_RM_build_100 v1 (nI s - 1)) 64 (r, nI 5) = lpR (F_RM_build_100 v1 (nI s - 1)) (64 - z) (rz, nI (5 + z)) ∧ (lpP (G_RM_build_100 v1 (nI s - 1)) (F_RM_build_100 v1 (nI s - 1)) (64 - z) (rz, nI (5 + z)) → lpP (G_RM_build_100 v1 (nI s - 1)) (F_RM_build_100 v1 (nI s - 1)) 64 (r, nI 5)) := by
  intro z
  induction z with
  | zero => exact fun _ => ⟨r, fun i k => by rw [if_neg (by omega)], rfl, fun p => p⟩
  | succ z ih =>
    intro hz
    obtain ⟨rz, e1, e2, e3⟩ := ih (by omega)
    have lt : nI (5 + z) < 6 + (nI s - 1) := by rw [(plOff6 s hs).1, nI_ltI (by omega) (by omega)]; omega
    have kf : F_RM_build_100 v1 (nI s - 1) (rz, nI (5 + z)) = (true, (plUp rz 7 (5 + z) 0, nI (5 + (z + 1)))) := by
      show K_RM_build_100L rz v1 (nI s - 1) (nI (5 + z)) = _
      unfold K_RM_build_100L K_RM_build_100L130
      rw [if_neg (plN12 (by omega)), if_pos lt, plIx_nI (by omega), nI_1]
      rfl
    refine ⟨plUp rz 7 (5 + z) 0, fun i k => ?_, ?_, fun p => e3 ?_⟩
    · rw [plUp_ap, e1]
      by_cases y : i = 7 ∧ k = 5 + z
      · rw [if_pos y, if_pos (by omega)]
      · rw [if_neg y]
        by_cases y2 : i = 7 ∧ 5 ≤ k ∧ k < 5 + z
        · rw [if_pos y2, if_pos (by omega)]
        · rw [if_neg y2, if_neg (by omega)]
    · rw [e2, show 64 - z = (64 - (z + 1)) + 1 by omega]
      show (if (F_RM_build_100 v1 (nI s - 1) (rz, nI (5 + z))).1 = true then _ else _) = _
      rw [kf, if_pos rfl]
    · rw [show 64 - z = (64 - (z + 1)) + 1 by omega]
      show G_RM_build_100 v1 (nI s - 1) (rz, nI (5 + z)) ∧ _
      refine ⟨fun _ => ⟨fun _ => vp_in_nI (by omega) (by omega), fun y => absurd lt y⟩, fun _ => ?_⟩
      rw [kf]; exact p
theorem plFillLoop {c r : plS} {v1 : Int32} {s : Nat} (hs : s < 3) (hsrc : plSrc c r) (hcon : plCon c r) (h8 : ∀ q, q < 1 + s → c 8 q = (if q = 0 then r 7 4 else 0) ∧ plBy (c 8 q)) : lpP (G_NA_fill_53 (nI s - 1)) (F_NA_fill_53 (nI s - 1)) 64 (c, nI (1 + s)) ∧ lpP (G_RM_build_100 v1 (nI s - 1)) (F_RM_build_100 v1 (nI s - 1)) 64 (r, nI 5) ∧ ∃ c' r', lpR (F_NA_fill_53 (nI s - 1)) 64 (c, nI (1 + s)) = (c', nI 8) ∧ lpR (F_RM_build_100 v1 (nI s - 1)) 64 (r, nI 5) = (r', nI 12) ∧ plSrc c' r' ∧ plCon c' r' ∧ (∀ q, q < 8 → c' 8 q = r' 7 (4 + q) ∧ plBy (c' 8 q)) ∧ ∀ q, q < 4 → r' 7 q = r 7 q := by
  obtain ⟨rz, e1, e2, e3⟩ := plZeros (r := r) (v1 := v1) hs s (by omega)
  have hsrc2 : plSrc c rz := hsrc.ext (fun _ => rfl) (fun _ => rfl) (fun _ => rfl) (fun _ => rfl) (fun k _ => by rw [e1, if_neg (by omega)]) (fun k => by rw [e1, if_neg (by omega)]) (fun k => by rw [e1, if_neg (by omega)])
  have h0 : ∀ q, q < 1 + s + 0 → c 8 q = rz 7 (4 + q) ∧ plBy (c 8 q) := fun q hq => by
    obtain ⟨y1, y2⟩ := h8 q (by omega)
    refine ⟨?_, y2⟩
    rw [y1, e1]
    by_cases y : q = 0
    · rw [if_pos y, if_neg (by omega), y]
    · rw [if_neg y, if_pos (by omega)]
  have h1 : ∀ q, q < 4 → rz 7 q = r 7 q := fun q hq => by rw [e1, if_neg (by omega)]
  have hcon2 : plCon c rz := hcon.ext (fun _ => rfl) (fun k _ => by rw [e1, if_neg (by omega)])
  obtain ⟨l1, l2, c', r', k1, k2, i1, i2, i3, i4⟩ := plL2f (G_NA_fill_53 (nI s - 1)) (F_NA_fill_53 (nI s - 1)) (G_RM_build_100 v1 (nI s - 1)) (F_RM_build_100 v1 (nI s - 1)) (fun k x y => ∃ c' r', x = (c', nI (1 + s + k)) ∧ y = (r', nI (5 + s + k)) ∧ plSrc c' r' ∧ plCon c' r' ∧ (∀ q, q < 1 + s + k → c' 8 q = r' 7 (4 + q) ∧ plBy (c' 8 q)) ∧ ∀ q, q < 4 → r' 7 q = r 7 q) (7 - s) (by
    rintro k _ _ hk ⟨c', r', rfl, rfl, i1, i2, i3, i4⟩
    have n8 : ¬ 8 ≤ nI (1 + s + k) := by rw [show (8 : Int32) = nI 8 from rfl, nI_leI (by omega) (by omega)]; omega
    have n12 : ¬ 12 ≤ nI (5 + s + k) := plN12 (by omega)
    have nlt : ¬ nI (5 + s + k) < 6 + (nI s - 1) := by rw [(plOff6 s hs).1, nI_ltI (by omega) (by omega)]; omega
    obtain ⟨p1, p2, p3, p4, p5, p6⟩ := plContained i1 i2
    obtain ⟨b, hb⟩ : ∃ b, b = (K_CS_nextByte c').1 := ⟨_, rfl⟩
    obtain ⟨c2, hc2⟩ : ∃ c2, c2 = (K_CS_nextByte c').2 := ⟨_, rfl⟩
    obtain ⟨r2, hr2⟩ : ∃ r2, r2 = (K_RM_contained r').2 := ⟨_, rfl⟩
    rw [← hb] at p3 p4
    rw [← hc2, ← hr2] at p5 p6
    have kf : F_NA_fill_53 (nI s - 1) (c', nI (1 + s + k)) = (true, (plUp c2 8 (1 + s + k) b, nI (1 + s + (k + 1)))) := by
      show K_NA_fill_53L c' (nI s - 1) (nI (1 + s + k)) = _
      unfold K_NA_fill_53L K_NA_fill_53L74q
      rw [if_neg n8, plIx_nI (by omega), nI_1, ← hb, ← hc2]
      rfl
    have kg : F_RM_build_100 v1 (nI s - 1) (r', nI (5 + s + k)) = (true, (plUp r2 7 (5 + s + k) b, nI (5 + s + (k + 1)))) := by
      show K_RM_build_100L r' v1 (nI s - 1) (nI (5 + s + k)) = _
      unfold K_RM_build_100L K_RM_build_100L126q K_RM_build_100L130
      rw [if_neg n12, if_neg nlt, plIx_nI (by omega), nI_1, ← p3, ← hr2]
      rfl
    have f8 : ∀ q, c2 8 q = c' 8 q := fun q => by rw [hc2]; apply fr_K_CS_nextByte <;> omega
    have f7 : ∀ q, r2 7 q = r' 7 q := fun q => by rw [hr2]; apply fr_K_RM_contained <;> omega
    refine ⟨fun _ => ⟨p1, vp_in_nI (by omega) (by omega)⟩, fun _ => ⟨fun y => absurd y nlt, fun _ => ⟨p2, vp_in_nI (by omega) (by omega)⟩⟩, by rw [kf], by rw [kg], _, _, by rw [kf], by rw [kg], ?_, ?_, fun q hq => ?_, fun q hq => ?_⟩
    · exact p5.ext (fun _ => by simp [plUp_ap]) (fun _ => by simp [plUp_ap]) (fun _ => by simp [plUp_ap]) (fun _ => by simp [plUp_ap]) (fun _ _ => by simp [plUp_ap]) (fun _ => by simp [plUp_ap]) (fun _ => by simp [plUp_ap])
    · exact p6.ext (fun _ => by simp [plUp_ap]) (fun _ _ => by simp [plUp_ap])
    · rw [plUp_ap, plUp_ap]
      by_cases y : q = 1 + s + k
      · rw [if_pos ⟨rfl, y⟩, if_pos ⟨rfl, by omega⟩]; exact ⟨rfl, p4⟩
      · rw [if_neg (by omega), if_neg (by omega), f8, f7]; exact i3 q (by omega)
    · rw [plUp_ap, if_neg (by omega), f7]; exact i4 q hq) (by
    rintro _ _ ⟨c', r', rfl, rfl, i1, i2, i3, i4⟩
    have n8 : 8 ≤ nI (1 + s + (7 - s)) := by rw [show (8 : Int32) = nI 8 from rfl, nI_leI (by omega) (by omega)]; omega
    have n12 : 12 ≤ nI (5 + s + (7 - s)) := by rw [show (12 : Int32) = nI 12 from rfl, nI_leI (by omega) (by omega)]; omega
    refine ⟨fun y => absurd n8 y, fun y => absurd n12 y, ?_, ?_⟩
    · show K_NA_fill_53L c' (nI s - 1) (nI (1 + s + (7 - s))) = _
      unfold K_NA_fill_53L
      rw [if_pos n8]
    · show K_RM_build_100L r' v1 (nI s - 1) (nI (5 + s + (7 - s))) = _
      unfold K_RM_build_100L
      rw [if_pos n12]) 64 (64 - s) 0 (c, nI (1 + s)) (rz, nI (5 + s)) (by omega) (by omega) (by omega) ⟨c, rz, rfl, rfl, hsrc2, hcon2, h0, h1⟩
  rw [show 1 + s + (7 - s) = 8 by omega] at k1 i3
  rw [show 5 + s + (7 - s) = 12 by omega] at k2
  exact ⟨l1, e3 l2, c', r', k1, by rw [e2]; exact k2, i1, i2, i3, i4⟩
/-! the pointer and the debt -/
def plNa (c r : plS) : Prop := ∃ p q D : Nat, p < 6 ∧ q ≤ 3 ∧ D ≤ 16 ∧ c 5 3 = nI p ∧ r 0 13 = nI p ∧ c 5 4 = nI D - 8 ∧ r 0 14 = nI D - 8 ∧ c 5 5 = nI (3 - q) ∧ r 0 15 = nI q
theorem plNa.ext {c c' r r' : plS} (h : plNa c r) (e : ∀ k, c' 5 k = c 5 k) (g : ∀ k, k = 13 ∨ k = 14 ∨ k = 15 → r' 0 k = r 0 k) : plNa c' r' := by
  obtain ⟨p, q, D, a1, a2, a3, b1, b2, b3, b4, b5, b6⟩ := h
  exact ⟨p, q, D, a1, a2, a3, by rw [e]; exact b1, by rw [g 13 (by omega)]; exact b2, by rw [e]; exact b3, by rw [g 14 (by omega)]; exact b4, by rw [e]; exact b5, by rw [g 15 (by omega)]; exact b6⟩
theorem plDebt : ∀ D, D < 17 → ((nI D - 8 = 0 ↔ D = 8) ∧ (nI D - 8 ≤ 0 ↔ D ≤ 8) ∧ (8 < D → nI D - 8 - 1 = nI (D - 1) - 8) ∧ (D < 8 → nI D - 8 - (-1) = nI (D + 1) - 8) ∧ nI D - 8 - 0 = nI D - 8) := by decide +kernel
def plTn (s : Nat) : Int32 := if s = 0 then 42 else if s = 1 then 0 else 21
theorem plJust {c r : plS} {p q D : Nat} (a2 : q ≤ 3) (a3 : D ≤ 16) (b3 : c 5 4 = nI D - 8) (b4 : r 0 14 = nI D - 8) (b5 : c 5 5 = nI (3 - q)) (b6 : r 0 15 = nI q) : ∃ (s D' q' : Nat) (v1 : Int32) (c1 : plS), s < 3 ∧ D' ≤ 16 ∧ q' ≤ 3 ∧ K_NA_justification c = (nI s - 1, c1) ∧ (∀ i k, c1 i k = if i = 5 ∧ k = 4 then nI D' - 8 else if i = 5 ∧ k = 5 then nI (3 - q') else c i k) ∧ K_RM_build r = K_RM_build_61 r v1 (nI s - 1) (plTn s) ∧ (P_RM_build_61 r v1 (nI s - 1) (plTn s) → P_RM_build r) ∧ nI D - 8 - (nI s - 1) = nI D' - 8 ∧ (∀ st : plS, st 0 15 = nI q → K_RM_build_163 st v1 = K_RM_build_190 st (nI q') ∧ (P_RM_build_190 st (nI q') → P_RM_build_163 st v1)) := by
  obtain ⟨d1, d2, d3, d4, d5⟩ := plDebt D (by omega)
  have qc : c 5 5 ≤ 0 ↔ q = 3 := by rw [b5, show (0 : Int32) = nI 0 from rfl, nI_leI (by omega) (by omega)]; omega
  have qr : r 0 15 < 3 ↔ ¬ q = 3 := by rw [b6, show (3 : Int32) = nI 3 from rfl, nI_ltI (by omega) (by omega)]; omega
  have le0 : (0 : Int32) ≤ 0 := by decide
  have n1 : ¬ (1 : Int32) = 0 := by decide
  have k19 : K_RM_build_19 r = K_RM_build_61 r 0 (nI 1 - 1) (plTn 1) := by
    unfold K_RM_build_19 K_RM_build_20 K_RM_build_41
    rw [if_pos rfl, if_pos le0, if_pos le0]
    rfl
  have p19 : P_RM_build_61 r 0 (nI 1 - 1) (plTn 1) → P_RM_build_19 r := fun p => ⟨fun _ => ⟨fun _ => ⟨fun _ => p, fun y => absurd le0 y⟩, fun y => absurd le0 y⟩, fun y => absurd rfl y⟩
  by_cases z : q = 3
  · by_cases z8 : D = 8
    · refine ⟨1, D, q, 0, c, by omega, a3, a2, ?_, fun i k => ?_, ?_, fun p => ⟨fun _ => p19 p, fun y => absurd (by rw [b4]; exact d1.mpr z8) y⟩, ?_, fun st hst => ?_⟩
      · unfold K_NA_justification
        rw [if_pos (qc.mpr z), b3, if_pos (d1.mpr z8)]
        rfl
      · by_cases y4 : i = 5 ∧ k = 4
        · rw [if_pos y4, y4.1, y4.2]; exact b3
        · rw [if_neg y4]
          by_cases y5 : i = 5 ∧ k = 5
          · rw [if_pos y5, y5.1, y5.2]; exact b5
          · rw [if_neg y5]
      · unfold K_RM_build
        rw [b4, if_pos (d1.mpr z8), k19]
      · show nI D - 8 - 0 = _
        exact d5
      · have le3 : 3 ≤ st 0 15 := by rw [hst, z]; decide
        unfold K_RM_build_163 P_RM_build_163
        rw [if_pos rfl, if_pos le3, z]
        exact ⟨rfl, fun p => ⟨fun _ => ⟨fun _ => p, fun y => absurd le3 y⟩, fun y => absurd rfl y⟩⟩
    · have nz : ¬ nI D - 8 = 0 := fun y => z8 (d1.mp y)
      have nq : ¬ r 0 15 < 3 := fun y => qr.mp y z
      have e20 : K_RM_build r = K_RM_build_20 r 1 := by
        unfold K_RM_build
        rw [b4, if_neg nz, if_neg nq]
      have p20 : P_RM_build_20 r 1 → P_RM_build r := fun p => ⟨fun y => absurd (by rw [← b4]; exact y) nz, fun _ => ⟨fun y => absurd y nq, fun _ => p⟩⟩
      have k163 : ∀ st : plS, st 0 15 = nI q → K_RM_build_163 st 1 = K_RM_build_190 st (nI 0) ∧ (P_RM_build_190 st (nI 0) → P_RM_build_163 st 1) := fun st _ => by
        unfold K_RM_build_163 P_RM_build_163
        rw [if_neg n1]
        exact ⟨rfl, fun p => ⟨fun y => absurd y n1, fun _ => p⟩⟩
      by_cases z9 : D ≤ 8
      · have l0 : nI D - 8 ≤ 0 := d2.mpr z9
        refine ⟨0, D + 1, 0, 1, plUp (plUp c 5 4 (nI (D + 1) - 8)) 5 5 3, by omega, by omega, by omega, ?_, fun i k => ?_, ?_, fun p => p20 ⟨fun y => absurd y n1, fun _ => ⟨fun _ => ⟨fun _ => ⟨fun y => absurd y (by decide), fun _ => p⟩, fun y => absurd (by decide) y⟩, fun y => absurd (by rw [b4]; exact l0) y⟩⟩, d4 (by omega), k163⟩
        · unfold K_NA_justification
          rw [if_pos (qc.mpr z), b3, if_neg nz, if_pos l0]
          unfold K_NA_justification_40 K_NA_justification_51
          rw [b3, d4 (by omega)]
          rfl
        · rw [plUp_ap, plUp_ap]
          by_cases y4 : i = 5 ∧ k = 4
          · rw [if_neg (by omega), if_pos y4, if_pos y4]
          · rw [if_neg y4, if_neg y4]; rfl
        · rw [e20]
          unfold K_RM_build_20 K_RM_build_41
          rw [if_neg n1, b4, if_pos l0, if_pos (show (-1 : Int32) ≤ 0 by decide), if_neg (show ¬ (0 : Int32) ≤ -1 by decide)]
          rfl
      · have l0 : ¬ nI D - 8 ≤ 0 := fun y => z9 (d2.mp y)
        refine ⟨2, D - 1, 0, 1, plUp (plUp c 5 4 (nI (D - 1) - 8)) 5 5 3, by omega, by omega, by omega, ?_, fun i k => ?_, ?_, fun p => p20 ⟨fun y => absurd y n1, fun _ => ⟨fun y => absurd (by rw [← b4]; exact y) l0, fun _ => ⟨fun y => absurd y (by decide), fun _ => p⟩⟩⟩, d3 (by omega), k163⟩
        · unfold K_NA_justification
          rw [if_pos (qc.mpr z), b3, if_neg nz, if_neg l0]
          unfold K_NA_justification_40 K_NA_justification_51
          rw [b3, d3 (by omega)]
          rfl
        · rw [plUp_ap, plUp_ap]
          by_cases y4 : i = 5 ∧ k = 4
          · rw [if_neg (by omega), if_pos y4, if_pos y4]
          · rw [if_neg y4, if_neg y4]; rfl
        · rw [e20]
          unfold K_RM_build_20 K_RM_build_41
          rw [if_neg n1, b4, if_neg l0, if_neg (show ¬ (1 : Int32) ≤ 0 by decide)]
          rfl
  · have lt : r 0 15 < 3 := qr.mpr z
    refine ⟨1, D, q + 1, 0, plUp c 5 5 (nI (3 - (q + 1))), by omega, a3, by omega, ?_, fun i k => ?_, ?_, fun p => ⟨fun _ => p19 p, fun _ => ⟨fun _ => p19 p, fun y => absurd lt y⟩⟩, ?_, fun st hst => ?_⟩
    · unfold K_NA_justification
      rw [if_neg (fun y => z (qc.mp y)), b5, show nI (3 - q) - 1 = nI (3 - (q + 1)) by rw [show (1 : Int32) = nI 1 from rfl, pk_sub (by omega)]; rfl]
      rfl
    · rw [plUp_ap]
      by_cases y4 : i = 5 ∧ k = 4
      · rw [if_neg (by omega), if_pos y4, y4.1, y4.2]; exact b3
      · rw [if_neg y4]
    · unfold K_RM_build
      rw [if_pos lt, k19]
      split <;> rfl
    · show nI D - 8 - 0 = _
      exact d5
    · have le3 : ¬ 3 ≤ st 0 15 := by rw [hst, show (3 : Int32) = nI 3 from rfl, nI_leI (by omega) (by omega)]; omega
      unfold K_RM_build_163 P_RM_build_163
      rw [if_pos rfl, if_neg le3, hst, nI_1]
      exact ⟨rfl, fun p => ⟨fun _ => ⟨fun y => absurd y (by rw [← hst]; exact le3), fun _ => p⟩, fun y => absurd rfl y⟩⟩
