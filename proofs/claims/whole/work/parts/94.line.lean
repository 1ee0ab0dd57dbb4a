/-- a line: class rows a u h w, reference line l, n frames sent -/
def plLn (a u h w l : Nat) (c r : plS) (n : Nat) : Prop :=
  (∃ d, 1 ≤ d ∧ d ≤ 4 ∧ c a 0 = nI d ∧ r 1 l = nI d) ∧ c a 2 = nI n ∧
  (∀ j, 1 ≤ j → j ≤ n → n < j + 8 → ∀ p, p < 12 → c u (12 * ((j - 1) % 8) + p) = r 4 (12 * (8 * l + j % 8) + p) ∧ plBy (r 4 (12 * (8 * l + j % 8) + p))) ∧
  (c a 3 = if n = 0 then 0 else plXor (fun p => r 4 (12 * (8 * l + n % 8) + p)) 12) ∧ (c a 4 = r 8 l ∧ plB (c a 4)) ∧
  (∀ p, p < 12 → c h p = r 9 (12 * l + p) ∧ plBy (c h p)) ∧ (c a 7 = r 11 l ∧ plB (c a 7)) ∧
  (¬ c a 7 = 0 → (∀ p, p < 12 → c w p = r 10 (12 * l + p) ∧ plBy (c w p)) ∧ c a 8 = plXor (fun p => r 10 (12 * l + p)) 12) ∧
  (∃ S, S ≤ 2 ∧ c a 9 = nI S ∧ r 14 l = nI S ∧ (S = 2 → ∃ b, b ≤ 2 ∧ c a 10 = nI b ∧ r 15 l = nI b)) ∧ c a 11 = r 16 l
theorem plLn.ext {a u h w l n : Nat} {c c' r r' : plS} (hl : l < 2) (H : plLn a u h w l c r n) (e1 : ∀ k, c' a k = c a k) (e2 : ∀ k, c' u k = c u k) (e3 : ∀ k, c' h k = c h k) (e4 : ∀ k, c' w k = c w k) (g4 : ∀ k, 96 * l ≤ k → k < 96 * l + 96 → r' 4 k = r 4 k) (g9 : ∀ k, 12 * l ≤ k → k < 12 * l + 12 → r' 9 k = r 9 k) (g10 : ∀ k, 12 * l ≤ k → k < 12 * l + 12 → r' 10 k = r 10 k) (g : ∀ i, i = 1 ∨ i = 8 ∨ i = 11 ∨ i = 14 ∨ i = 15 ∨ i = 16 → r' i l = r i l) : plLn a u h w l c' r' n := by
  obtain ⟨⟨d, d1, d2, d3, d4⟩, b2, b3, b4, ⟨b5, b5'⟩, b6, ⟨b7, b7'⟩, b8, ⟨S, s1, s2, s3, s4⟩, b10⟩ := H
  refine ⟨⟨d, d1, d2, by rw [e1]; exact d3, by rw [g 1 (by omega)]; exact d4⟩, by rw [e1]; exact b2, fun j j1 j2 j3 p hp => ?_, ?_, ⟨by rw [e1, g 8 (by omega)]; exact b5, by rw [e1]; exact b5'⟩, fun p hp => ?_, ⟨by rw [e1, g 11 (by omega)]; exact b7, by rw [e1]; exact b7'⟩, fun hz => ?_, ⟨S, s1, by rw [e1]; exact s2, by rw [g 14 (by omega)]; exact s3, fun e => ?_⟩, by rw [e1, g 16 (by omega)]; exact b10⟩
  · rw [e2, g4 _ (by omega) (by omega)]; exact b3 j j1 j2 j3 p hp
  · rw [e1, b4]
    by_cases z : n = 0
    · rw [if_pos z, if_pos z]
    · rw [if_neg z, if_neg z]
      exact plXor_ext 12 (fun p hp => (g4 _ (by omega) (by omega)).symm)
  · rw [e3, g9 _ (by omega) (by omega)]; exact b6 p hp
  · rw [e1] at hz
    obtain ⟨z1, z2⟩ := b8 hz
    refine ⟨fun p hp => ?_, ?_⟩
    · rw [e4, g10 _ (by omega) (by omega)]; exact z1 p hp
    · rw [e1, z2]
      exact plXor_ext 12 (fun p hp => (g10 _ (by omega) (by omega)).symm)
  · obtain ⟨b, z1, z2, z3⟩ := s4 e
    exact ⟨b, z1, by rw [e1]; exact z2, by rw [g 15 (by omega)]; exact z3⟩
theorem plLn_put {a u h w l n : Nat} {c c' r r' : plS} {X Y : Nat → Int32} (hl : l < 2) (d1 : ¬ a = u) (d2 : ¬ h = a) (d3 : ¬ h = u) (d4 : ¬ w = a) (d5 : ¬ w = u) (H : plLn a u h w l c r n) (hc : ∀ i k, c' i k = if i = a ∧ k = 2 then nI (n + 1) else if i = a ∧ k = 3 then plXor X 12 else if i = u ∧ 12 * (n % 8) ≤ k ∧ k < 12 * (n % 8) + 12 then X (k - 12 * (n % 8)) else c i k) (hr : ∀ i k, r' i k = if i = 4 ∧ 12 * (8 * l + (n + 1) % 8) ≤ k ∧ k < 12 * (8 * l + (n + 1) % 8) + 12 then Y (k - 12 * (8 * l + (n + 1) % 8)) else r i k) (hXY : ∀ p, p < 12 → X p = Y p ∧ plBy (X p)) : plLn a u h w l c' r' (n + 1) := by
  obtain ⟨⟨d, q1, q2, q3, q4⟩, b2, b3, b4, ⟨b5, b5'⟩, b6, ⟨b7, b7'⟩, b8, ⟨S, s1, s2, s3, s4⟩, b10⟩ := H
  have ea : ∀ k, ¬ k = 2 → ¬ k = 3 → c' a k = c a k := fun k k2 k3 => by rw [hc, if_neg (fun y => k2 y.2), if_neg (fun y => k3 y.2), if_neg (fun y => d1 y.1)]
  have er : ∀ i k, ¬ i = 4 → r' i k = r i k := fun i k hi => by rw [hr, if_neg (by omega)]
  have er4 : ∀ p, p < 12 → r' 4 (12 * (8 * l + (n + 1) % 8) + p) = Y p := fun p hp => by
    rw [hr, if_pos ⟨rfl, by omega, by omega⟩, show 12 * (8 * l + (n + 1) % 8) + p - 12 * (8 * l + (n + 1) % 8) = p by omega]
  have ec10 : ∀ p, p < 12 → c' u (12 * (n % 8) + p) = X p := fun p hp => by
    rw [hc, if_neg (by omega), if_neg (by omega), if_pos ⟨rfl, by omega, by omega⟩, show 12 * (n % 8) + p - 12 * (n % 8) = p by omega]
  refine ⟨⟨d, q1, q2, by rw [ea 0 (by omega) (by omega)]; exact q3, by rw [er 1 _ (by omega)]; exact q4⟩, by rw [hc, if_pos ⟨rfl, rfl⟩], fun j j1 j2 j3 p hp => ?_, ?_, ⟨by rw [ea 4 (by omega) (by omega), er 8 _ (by omega)]; exact b5, by rw [ea 4 (by omega) (by omega)]; exact b5'⟩, fun p hp => ?_, ⟨by rw [ea 7 (by omega) (by omega), er 11 _ (by omega)]; exact b7, by rw [ea 7 (by omega) (by omega)]; exact b7'⟩, fun hz => ?_, ⟨S, s1, by rw [ea 9 (by omega) (by omega)]; exact s2, by rw [er 14 _ (by omega)]; exact s3, fun e => ?_⟩, by rw [ea 11 (by omega) (by omega), er 16 _ (by omega)]; exact b10⟩
  · by_cases e : j = n + 1
    · subst e
      obtain ⟨x1, x2⟩ := hXY p hp
      rw [show n + 1 - 1 = n by omega, ec10 p hp, er4 p hp, ← x1]
      exact ⟨rfl, x2⟩
    · rw [hc, if_neg (by omega), if_neg (by omega), if_neg (by omega), hr, if_neg (by omega)]
      exact b3 j j1 (by omega) (by omega) p hp
  · rw [hc, if_neg (by omega), if_pos ⟨rfl, rfl⟩, if_neg (by omega)]
    exact plXor_ext 12 (fun p hp => by rw [er4 p hp]; exact (hXY p hp).1)
  · rw [hc, if_neg (by omega), if_neg (by omega), if_neg (by omega), er 9 _ (by omega)]; exact b6 p hp
  · rw [ea 7 (by omega) (by omega)] at hz
    obtain ⟨z1, z2⟩ := b8 hz
    refine ⟨fun p hp => ?_, ?_⟩
    · rw [hc, if_neg (by omega), if_neg (by omega), if_neg (by omega), er 10 _ (by omega)]; exact z1 p hp
    · rw [ea 8 (by omega) (by omega), z2]
      exact plXor_ext 12 (fun p hp => (er 10 _ (by omega)).symm)
  · obtain ⟨b, z1, z2, z3⟩ := s4 e
    exact ⟨b, z1, by rw [ea 10 (by omega) (by omega)]; exact z2, by rw [er 15 _ (by omega)]; exact z3⟩
/-- the row of each frame -/
def plRw (r : plS) : Prop := r 6 0 = 0 ∧ r 6 1 = 0 ∧ ∀ p, 2 ≤ p → p < 12 → r 6 p = plROW (p - 2)
theorem plX0 (x : Int32) : x ^^^ 0 = x := by
  apply Int32.toBitVec_inj.1
  show x.toBitVec ^^^ 0#32 = x.toBitVec
  exact BitVec.xor_zero
theorem plBytes {a u h w l n : Nat} {c r : plS} {v1 : Int32} {f : Nat → Int32} (hl : l < 2) (H : plLn a u h w l c r n) (hR : plRw r) (hv : v1 = if l = 0 then 0 else 16 * r 0 17 + (if r 0 16 = 0 then 0 else 1)) (hv2 : plBy v1) (hf : ∀ q, q < 8 → f q = (if l = 1 ∧ r 0 16 = 0 then 255 else r 7 (4 + q)) ∧ plBy (f q)) (h70 : r 7 0 = 246) (h71 : r 7 1 = 40) (p : Nat) (hp : p < 12) : plLB (c a 3) v1 f p = plPutB r l (n + 1) p ^^^ r 6 p ∧ plBy (plLB (c a 3) v1 f p) := by
  obtain ⟨_, b2, b3, b4, _⟩ := H
  obtain ⟨r0, r1, r2⟩ := hR
  unfold plLB plPutB
  by_cases z0 : p = 0
  · subst z0
    rw [if_pos rfl, if_neg (by omega), if_neg (by omega), if_neg (by omega), r0, plX0]
    exact ⟨h70.symm, ⟨246, by omega, rfl⟩⟩
  by_cases z1 : p = 1
  · subst z1
    rw [if_neg (by omega), if_pos rfl, if_neg (by omega), if_neg (by omega), if_neg (by omega), r1, plX0]
    exact ⟨h71.symm, ⟨40, by omega, rfl⟩⟩
  by_cases z2 : p = 2
  · subst z2
    rw [if_neg (by omega), if_neg (by omega), if_pos rfl, if_pos rfl, r2 2 (by omega) (by omega), b4]
    have hby : plBy (if n = 0 then 0 else plXor (fun p => r 4 (12 * (8 * l + n % 8) + p)) 12) := by
      by_cases e : n = 0
      · rw [if_pos e]; exact ⟨0, by omega, rfl⟩
      · rw [if_neg e]
        exact plXor_by 12 (fun k hk => (b3 n (by omega) (by omega) (by omega) k hk).2)
    refine ⟨?_, hby.xor (plBy.row 0)⟩
    rw [show n + 1 - 1 = n by omega]
    by_cases e : n = 0
    · rw [if_pos e, if_pos (by omega)]
    · rw [if_neg e, if_neg (by omega)]
  by_cases z3 : p = 3
  · subst z3
    rw [if_neg (by omega), if_neg (by omega), if_neg (by omega), if_pos rfl, if_neg (by omega), if_pos rfl, r2 3 (by omega) (by omega), ← hv]
    exact ⟨rfl, hv2.xor (plBy.row 1)⟩
  · rw [if_neg z0, if_neg z1, if_neg z2, if_neg z3, if_neg z2, if_neg z3, r2 p (by omega) (by omega)]
    obtain ⟨f1, f2⟩ := hf (p - 4) (by omega)
    refine ⟨?_, f2.xor (plBy.row _)⟩
    rw [f1, show 4 + (p - 4) = p by omega]
    by_cases e : l = 1 ∧ r 0 16 = 0
    · rw [if_pos e, if_pos ⟨e.1, by omega, e.2⟩]
    · rw [if_neg e, if_neg (fun y => e ⟨y.1, y.2.2⟩)]
theorem plPut_LW {c r : plS} {n : Nat} (hn : n < 2 ^ 27) (H : plLn 9 10 11 12 0 c r n) (hR : plRw r) (hT : r 0 3 = nI (n + 1)) (hf : ∀ q, q < 8 → c 8 q = r 7 (4 + q) ∧ plBy (c 8 q)) (h70 : r 7 0 = 246) (h71 : r 7 1 = 40) : P_LW_launch_NAc c 0 ∧ P_RM_put r 0 ∧ plLn 9 10 11 12 0 (K_LW_launch_NAc c 0) (K_RM_put r 0) (n + 1) := by
  obtain ⟨p1, k1⟩ := plLaunch_LW_launch_NAc (v1 := 0) (by omega) H.2.1
  obtain ⟨p2, k2⟩ := plPutR (r := r) (l := 0) (n := n + 1) (by omega) (by omega) (by omega) hT
  rw [show nI 0 = 0 from rfl] at p2 k2
  refine ⟨p1, p2, plLn_put (by omega) (by omega) (by omega) (by omega) (by omega) (by omega) H k1 k2 (plBytes (by omega) H hR rfl ⟨0, by omega, rfl⟩ (fun q hq => ⟨?_, (hf q hq).2⟩) h70 h71)⟩
  rw [if_neg (by omega)]; exact (hf q hq).1
theorem plPut_LP {c r : plS} {n : Nat} {v1 : Int32} (hn : n < 2 ^ 27) (H : plLn 13 14 15 16 1 c r n) (hR : plRw r) (hT : r 0 3 = nI (n + 1)) (hv : v1 = 16 * r 0 17 + (if r 0 16 = 0 then 0 else 1)) (hv2 : plBy v1) (hf : ∀ q, q < 8 → c 8 q = r 7 (4 + q) ∧ plBy (c 8 q)) (h70 : r 7 0 = 246) (h71 : r 7 1 = 40) : (¬ r 0 16 = 0 → P_LP_launch_NAc c v1 ∧ plLn 13 14 15 16 1 (K_LP_launch_NAc c v1) (K_RM_put r 1) (n + 1)) ∧ (r 0 16 = 0 → P_LP_launch_EMPTY c v1 ∧ plLn 13 14 15 16 1 (K_LP_launch_EMPTY c v1) (K_RM_put r 1) (n + 1)) ∧ P_RM_put r 1 := by
  obtain ⟨p2, k2⟩ := plPutR (r := r) (l := 1) (n := n + 1) (by omega) (by omega) (by omega) hT
  rw [show nI 1 = 1 from rfl] at p2 k2
  refine ⟨fun e => ?_, fun e => ?_, p2⟩
  · obtain ⟨p1, k1⟩ := plLaunch_LP_launch_NAc (v1 := v1) (by omega) H.2.1
    refine ⟨p1, plLn_put (by omega) (by omega) (by omega) (by omega) (by omega) (by omega) H k1 k2 (plBytes (by omega) H hR (by rw [if_neg (by omega)]; exact hv) hv2 (fun q hq => ⟨?_, (hf q hq).2⟩) h70 h71)⟩
    rw [if_neg (fun y => e y.2)]; exact (hf q hq).1
  · obtain ⟨p1, k1⟩ := plLaunch_LP_launch_EMPTY (v1 := v1) (by omega) H.2.1
    refine ⟨p1, plLn_put (by omega) (by omega) (by omega) (by omega) (by omega) (by omega) H k1 k2 (plBytes (by omega) H hR (by rw [if_neg (by omega)]; exact hv) hv2 (fun q hq => ⟨?_, ⟨255, by omega, rfl⟩⟩) h70 h71)⟩
    rw [if_pos ⟨rfl, e⟩]; rfl
