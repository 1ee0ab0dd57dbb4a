/-- the pointer reader: class and reference; v = 6 stands for LOST -/
def plV (v : Nat) : Int32 := if v = 6 then -1 else nI v
theorem plV_lost : ∀ v, v ≤ 6 → (plV v = -1 ↔ v = 6) := by decide +kernel
theorem plV_ge : ∀ v, v ≤ 6 → (0 ≤ plV v ↔ ¬ v = 6) := by decide +kernel
theorem plV_lt {v : Nat} (h : v < 6) : plV v = nI v := by unfold plV; rw [if_neg (by omega)]
def plPtrX (c r : plS) (B M v Γ Z m : Nat) : Prop :=
  v ≤ 6 ∧ c 25 1 = plV v ∧ r 0 41 = plV v ∧ Γ ≤ B ∧ c 25 2 = nI Γ ∧ r 0 42 = nI Γ ∧ (¬ v = 6 → Γ ≤ 2) ∧ Z ≤ 7 ∧ c 25 5 = nI Z ∧ r 0 43 = nI Z ∧ (v = 6 → Z = 0) ∧
  ((c 25 3 = 0 ∧ r 0 44 = -1) ∨ ∃ ρ q, 1 ≤ ρ ∧ ρ ≤ 2 ∧ q < 6 ∧ c 25 3 = nI ρ ∧ r 0 45 = nI ρ ∧ c 25 4 = nI q ∧ r 0 44 = nI q) ∧
  m ≤ M ∧ c 25 6 = nI m ∧ r 0 46 = nI (min m 7) ∧ (v = 6 → m = 0) ∧ c 25 7 = r 0 47 ∧ plBy (c 25 7) ∧ c 25 8 = r 0 48
def plPtr (c r : plS) (B M : Nat) : Prop := ∃ v Γ Z m : Nat, plPtrX c r B M v Γ Z m
theorem plPtr.ext {c c' r r' : plS} {B M : Nat} (h : plPtr c r B M) (h1 : ∀ k, 1 ≤ k → k ≤ 8 → c' 25 k = c 25 k) (h2 : ∀ k, 41 ≤ k → k ≤ 48 → r' 0 k = r 0 k) : plPtr c' r' B M := by
  obtain ⟨v, Γ, Z, m, a1, a2, a3, a4, a5, a6, a7, a8, a9, a10, a11, a12, a13, a14, a15, a16, a17, a18, a19⟩ := h
  refine ⟨v, Γ, Z, m, a1, ?_, ?_, a4, ?_, ?_, a7, a8, ?_, ?_, a11, ?_, a13, ?_, ?_, a16, ?_, ?_, ?_⟩
  · rw [h1 1 (by omega) (by omega)]; exact a2
  · rw [h2 41 (by omega) (by omega)]; exact a3
  · rw [h1 2 (by omega) (by omega)]; exact a5
  · rw [h2 42 (by omega) (by omega)]; exact a6
  · rw [h1 5 (by omega) (by omega)]; exact a9
  · rw [h2 43 (by omega) (by omega)]; exact a10
  · rw [h1 3 (by omega) (by omega), h1 4 (by omega) (by omega), h2 44 (by omega) (by omega), h2 45 (by omega) (by omega)]; exact a12
  · rw [h1 6 (by omega) (by omega)]; exact a14
  · rw [h2 46 (by omega) (by omega)]; exact a15
  · rw [h1 7 (by omega) (by omega), h2 47 (by omega) (by omega)]; exact a17
  · rw [h1 7 (by omega) (by omega)]; exact a18
  · rw [h1 8 (by omega) (by omega), h2 48 (by omega) (by omega)]; exact a19
theorem plPtr.mono {c r : plS} {B M B' M' : Nat} (h : plPtr c r B M) (hB : B ≤ B') (hM : M ≤ M') : plPtr c r B' M' := by
  obtain ⟨v, Γ, Z, m, a1, a2, a3, a4, a5, a6, a7, a8, a9, a10, a11, a12, a13, a14, a15, a16, a17, a18, a19⟩ := h
  exact ⟨v, Γ, Z, m, a1, a2, a3, by omega, a5, a6, a7, a8, a9, a10, a11, a12, by omega, a14, a15, a16, a17, a18, a19⟩
/-- breaking off, with LOST or not -/
theorem plBreak {c : plS} : (∀ k, K_PR_breakOff c 25 k = if k = 6 then 0 else c 25 k) ∧ (∀ i k, ¬ i = 21 → ¬ i = 25 → K_PR_breakOff c i k = c i k) ∧ K_PR_breakOff c = K_SR_hunt (plUp c 25 6 0) := by
  refine ⟨fun k => ?_, fun i k h1 h2 => ?_, rfl⟩
  · show plUp (plUp (plUp (plUp (plUp c 25 6 0) 21 0 0) 21 1 0) 21 3 0) 21 4 0 25 k = _
    simp [plUp_ap]
  · show plUp (plUp (plUp (plUp (plUp c 25 6 0) 21 0 0) 21 1 0) 21 3 0) 21 4 0 i k = _
    simp [plUp_ap, h1, h2]
theorem plStr_up25 {c r : plS} {B k : Nat} {z : Int32} (h : plStr c r B) : plStr (plUp c 25 k z) r B := h.ext (fun _ => by simp [plUp_ap]) (fun _ => by simp [plUp_ap]) (fun _ => by simp [plUp_ap]) (fun _ => by simp [plUp_ap]) (fun _ _ _ => rfl) (fun _ => rfl) (fun _ => rfl)
theorem plStr_break {c r r' : plS} {B : Nat} (h : plStr c r B) (g : ∀ k, 49 ≤ k → k ≤ 57 → r' 0 k = r 0 k) (g2 : ∀ k, r' 17 k = r 17 k) (g3 : ∀ k, r' 18 k = r 18 k) : plStr (K_PR_breakOff c) (K_RM_hunt r') B := plStr_hunt (plStr_up25 (h.ext (fun _ => rfl) (fun _ => rfl) (fun _ => rfl) (fun _ => rfl) g g2 g3))
theorem plHuntR {r : plS} : (∀ k, K_RM_hunt r 0 k = if k = 49 then 0 else if k = 50 then -1 else if k = 51 then 0 else r 0 k) ∧ (∀ i k, ¬ i = 0 → K_RM_hunt r i k = r i k) := by
  refine ⟨fun k => ?_, fun i k h => ?_⟩
  · show plUp (plUp (plUp r 0 49 0) 0 50 (-1)) 0 51 0 0 k = _
    simp only [plUp_ap]
    simp only [true_and]
    repeat' split
    all_goals first | rfl | omega
  · show plUp (plUp (plUp r 0 49 0) 0 50 (-1)) 0 51 0 i k = _
    simp [plUp_ap, h]
theorem plGap {c r : plS} {B M BS : Nat} (h : plPtr c r B M) (hB : B < 2 ^ 28) (hs : plStr c r BS) : plPtr (K_PR_gap c) (K_RM_gap r) (B + 1) M ∧ plStr (K_PR_gap c) (K_RM_gap r) BS := by
  obtain ⟨v, Γ, Z, m, a1, a2, a3, a4, a5, a6, a7, a8, a9, a10, a11, a12, a13, a14, a15, a16, a17, a18, a19⟩ := h
  obtain ⟨c1, hc1⟩ : ∃ c1, c1 = plUp c 25 2 (nI (Γ + 1)) := ⟨_, rfl⟩
  have hsc : plStr c1 r BS := by rw [hc1]; exact plStr_up25 hs
  have q1 : c1 25 1 = -1 ↔ v = 6 := by rw [hc1, plUp_ap, if_neg (by omega), a2, plV_lost v a1]
  have q2 : c1 25 2 < 3 ↔ Γ + 1 < 3 := by rw [hc1, plUp_ap, if_pos ⟨rfl, rfl⟩, show (3 : Int32) = nI 3 from rfl, nI_ltI (by omega) (by omega)]
  have kc : K_PR_gap c = K_PR_breakOff (if v = 6 then plUp c1 25 3 0 else if Γ + 1 < 3 then c1 else plUp (plUp (plUp c1 25 1 (-1)) 25 3 0) 25 5 0) := by
    unfold K_PR_gap
    rw [a5, nI_1, ← hc1]
    unfold K_PR_gap_10 K_PR_gap_39 K_PR_gap_43 K_PR_endRows K_PR_endRows_5
    simp only [q1, q2]
    repeat' split
    all_goals rfl
  obtain ⟨r1, hr1⟩ : ∃ r1, r1 = plUp (plUp (plUp r 0 42 (nI (Γ + 1))) 0 44 (if v = 6 then -1 else r 0 44)) 0 46 0 := ⟨_, rfl⟩
  have p1 : 0 ≤ plUp r 0 42 (nI (Γ + 1)) 0 41 ↔ ¬ v = 6 := by rw [plUp_ap, if_neg (by omega), a3, plV_ge v a1]
  have kr : K_RM_gap r = if Γ + 1 = 3 then K_RM_lose (K_RM_hunt r1) else K_RM_hunt r1 := by
    unfold K_RM_gap
    rw [a6, nI_1]
    have e0 : K_RM_gap_10 (plUp r 0 42 (nI (Γ + 1))) = K_RM_gap_38 (K_RM_hunt r1) := by
      unfold K_RM_gap_10 K_RM_gap_26 K_RM_gap_29 K_RM_gap_34
      rw [hr1]
      by_cases e : v = 6
      · rw [if_neg (fun z => p1.mp z e), if_pos e]
      · rw [if_pos (p1.mpr e), if_neg e, show plUp r 0 42 (nI (Γ + 1)) 0 44 = r 0 44 by rw [plUp_ap, if_neg (by omega)]]
    rw [e0]
    unfold K_RM_gap_38 K_RM_gap_50
    have e1 : K_RM_hunt r1 0 42 = 3 ↔ Γ + 1 = 3 := by
      rw [plHuntR.1, if_neg (by omega), if_neg (by omega), if_neg (by omega), hr1]
      simp [plUp_ap]
      rw [show (3 : Int32) = nI 3 from rfl, nI_eq (by omega) (by omega)]
      omega
    simp only [e1]
  have er1 : ∀ i k, r1 i k = if i = 0 ∧ k = 46 then 0 else if i = 0 ∧ k = 44 then (if v = 6 then -1 else r 0 44) else if i = 0 ∧ k = 42 then nI (Γ + 1) else r i k := fun i k => by rw [hr1, plUp_ap, plUp_ap, plUp_ap]
  have elo : ∀ (z : plS) (i k : Nat), K_RM_lose z i k = if i = 0 ∧ k = 46 then 0 else if i = 0 ∧ k = 45 then 0 else if i = 0 ∧ k = 44 then -1 else if i = 0 ∧ k = 43 then 0 else if i = 0 ∧ k = 41 then -1 else z i k := fun z i k => by
    show plUp (plUp (plUp (plUp (plUp z 0 41 (-1)) 0 43 0) 0 44 (-1)) 0 45 0) 0 46 0 i k = _
    simp only [plUp_ap]
  have hst : plStr (K_PR_gap c) (K_RM_gap r) BS := by
    rw [kc, kr]
    have hin : plStr (if v = 6 then plUp c1 25 3 0 else if Γ + 1 < 3 then c1 else plUp (plUp (plUp c1 25 1 (-1)) 25 3 0) 25 5 0) r BS := by
      repeat' split
      · exact plStr_up25 hsc
      · exact hsc
      · exact plStr_up25 (plStr_up25 (plStr_up25 hsc))
    have hb := plStr_break (r' := r1) hin (fun k k1 k2 => by rw [er1]; rw [if_neg (by omega), if_neg (by omega), if_neg (by omega)]) (fun k => by rw [er1]; simp) (fun k => by rw [er1]; simp)
    by_cases hg : Γ + 1 = 3
    · rw [if_pos hg]
      exact hb.ext (fun _ => rfl) (fun _ => rfl) (fun _ => rfl) (fun _ => rfl) (fun k k1 k2 => by rw [elo, if_neg (by omega), if_neg (by omega), if_neg (by omega), if_neg (by omega), if_neg (by omega)]) (fun k => by rw [elo]; simp) (fun k => by rw [elo]; simp)
    · rw [if_neg hg]
      exact hb
  refine ⟨?_, hst⟩
  have hh : ∀ k, 41 ≤ k → k ≤ 48 → K_RM_hunt r1 0 k = r1 0 k := fun k k1 k2 => by rw [plHuntR.1, if_neg (by omega), if_neg (by omega), if_neg (by omega)]
  have e25 : ∀ k, c1 25 k = if k = 2 then nI (Γ + 1) else c 25 k := fun k => by rw [hc1, plUp_ap]; simp
  by_cases e6 : v = 6
  · subst e6
    have hm := a16 rfl
    have hZ := a11 rfl
    have ckc : ∀ k, K_PR_gap c 25 k = if k = 6 then 0 else if k = 3 then 0 else if k = 2 then nI (Γ + 1) else c 25 k := fun k => by
      rw [kc, plBreak.1, if_pos rfl, plUp_ap, e25]; simp
    have rk : ∀ k, 41 ≤ k → k ≤ 48 → ¬ k = 45 → K_RM_gap r 0 k = if k = 46 then 0 else if k = 44 then -1 else if k = 42 then nI (Γ + 1) else r 0 k := by
      intro k k1 k2 k3
      rw [kr]
      split
      · rw [elo, hh k k1 k2, er1]
        simp only [true_and]
        by_cases z46 : k = 46
        · simp [z46]
        · by_cases z44 : k = 44
          · simp [z44]
          · by_cases z43 : k = 43
            · subst z43; simp; rw [a10, hZ]; rfl
            · by_cases z41 : k = 41
              · subst z41; simp; rw [a3]; rfl
              · simp [z46, z44, z43, z41, k3]
      · rw [hh k k1 k2, er1]; simp
    refine ⟨6, Γ + 1, 0, 0, by omega, ?_, ?_, by omega, ?_, ?_, fun z => absurd rfl z, by omega, ?_, ?_, fun _ => rfl, Or.inl ⟨?_, ?_⟩, by omega, ?_, ?_, fun _ => rfl, ?_, ?_, ?_⟩
    · rw [ckc]; simp; exact a2
    · rw [rk 41 (by omega) (by omega) (by omega)]; simp; exact a3
    · rw [ckc]; simp
    · rw [rk 42 (by omega) (by omega) (by omega)]; simp
    · rw [ckc]; simp; rw [a9, hZ]
    · rw [rk 43 (by omega) (by omega) (by omega)]; simp; rw [a10, hZ]
    · rw [ckc]; simp
    · rw [rk 44 (by omega) (by omega) (by omega)]; simp
    · rw [ckc]; simp; rfl
    · rw [rk 46 (by omega) (by omega) (by omega)]; simp; rfl
    · rw [ckc, rk 47 (by omega) (by omega) (by omega)]; simp; exact a17
    · rw [ckc]; simp; exact a18
    · rw [ckc, rk 48 (by omega) (by omega) (by omega)]; simp; exact a19
  · by_cases e3 : Γ + 1 < 3
    · have ckc : ∀ k, K_PR_gap c 25 k = if k = 6 then 0 else if k = 2 then nI (Γ + 1) else c 25 k := fun k => by
        rw [kc, plBreak.1, if_neg e6, if_pos e3, e25]
      have rk : ∀ k, 41 ≤ k → k ≤ 48 → K_RM_gap r 0 k = if k = 46 then 0 else if k = 42 then nI (Γ + 1) else r 0 k := by
        intro k k1 k2
        rw [kr, if_neg (by omega), hh k k1 k2, er1, if_neg e6]
        simp only [true_and]
        by_cases z44 : k = 44
        · subst z44; simp
        · simp [z44]
      refine ⟨v, Γ + 1, Z, 0, a1, ?_, ?_, by omega, ?_, ?_, fun z => by omega, a8, ?_, ?_, a11, ?_, by omega, ?_, ?_, fun _ => rfl, ?_, ?_, ?_⟩
      · rw [ckc]; simp; exact a2
      · rw [rk 41 (by omega) (by omega)]; simp; exact a3
      · rw [ckc]; simp
      · rw [rk 42 (by omega) (by omega)]; simp
      · rw [ckc]; simp; exact a9
      · rw [rk 43 (by omega) (by omega)]; simp; exact a10
      · rw [ckc, ckc, rk 44 (by omega) (by omega), rk 45 (by omega) (by omega)]; simpa using a12
      · rw [ckc]; simp; rfl
      · rw [rk 46 (by omega) (by omega)]; simp; rfl
      · rw [ckc, rk 47 (by omega) (by omega)]; simp; exact a17
      · rw [ckc]; simp; exact a18
      · rw [ckc, rk 48 (by omega) (by omega)]; simp; exact a19
    · have hΓ : Γ + 1 = 3 := by have := a7 e6; omega
      have ckc : ∀ k, K_PR_gap c 25 k = if k = 6 then 0 else if k = 5 then 0 else if k = 3 then 0 else if k = 1 then -1 else if k = 2 then nI (Γ + 1) else c 25 k := fun k => by
        rw [kc, plBreak.1, if_neg e6, if_neg e3, plUp_ap, plUp_ap, plUp_ap, e25]; simp
      have rk : ∀ k, 41 ≤ k → k ≤ 48 → K_RM_gap r 0 k = if k = 46 then 0 else if k = 45 then 0 else if k = 44 then -1 else if k = 43 then 0 else if k = 41 then -1 else if k = 42 then nI (Γ + 1) else r 0 k := by
        intro k k1 k2
        rw [kr, if_pos hΓ, elo, hh k k1 k2, er1]
        simp only [true_and]
        by_cases z46 : k = 46
        · simp [z46]
        · by_cases z44 : k = 44
          · simp [z44]
          · simp [z46, z44]
      refine ⟨6, Γ + 1, 0, 0, by omega, ?_, ?_, by omega, ?_, ?_, fun z => absurd rfl z, by omega, ?_, ?_, fun _ => rfl, Or.inl ⟨?_, ?_⟩, by omega, ?_, ?_, fun _ => rfl, ?_, ?_, ?_⟩
      · rw [ckc]; simp; rfl
      · rw [rk 41 (by omega) (by omega)]; simp; rfl
      · rw [ckc]; simp
      · rw [rk 42 (by omega) (by omega)]; simp
      · rw [ckc]; simp; rfl
      · rw [rk 43 (by omega) (by omega)]; simp; rfl
      · rw [ckc]; simp
      · rw [rk 44 (by omega) (by omega)]; simp
      · rw [ckc]; simp; rfl
      · rw [rk 46 (by omega) (by omega)]; simp; rfl
      · rw [ckc, rk 47 (by omega) (by omega)]; simp; exact a17
      · rw [ckc]; simp; exact a18
      · rw [ckc, rk 48 (by omega) (by omega)]; simp; exact a19
