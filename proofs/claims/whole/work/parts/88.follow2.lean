theorem plLoseR (z : plS) (i k : Nat) : K_RM_lose z i k = if i = 0 ∧ k = 46 then 0 else if i = 0 ∧ k = 45 then 0 else if i = 0 ∧ k = 44 then -1 else if i = 0 ∧ k = 43 then 0 else if i = 0 ∧ k = 41 then -1 else z i k := by
  show plUp (plUp (plUp (plUp (plUp z 0 41 (-1)) 0 43 0) 0 44 (-1)) 0 45 0) 0 46 0 i k = _
  simp only [plUp_ap]
theorem plFollow_at {c r : plS} {B M v Γ Z m : Nat} (h : plPtrX c r B M v Γ Z m) (hv : v < 6) (hΓ : Γ = 0) {n : Nat} (hn : n < 256) (v1 : Int32) : plFol c r B M (nI n) v1 := by
  obtain ⟨a1, a2, a3, a4, a5, a6, a7, a8, a9, a10, a11, a12, a13, a14, a15, a16, a17, a18, a19⟩ := h
  rw [plV_lt hv] at a2 a3
  obtain ⟨⟨s, hs, es⟩, kr, pr⟩ := plSh n v c r v1 hn hv a2 a3
  have hnl : ¬ c 25 1 = -1 := by rw [a2]; exact (plBy.lit (n := v) (by omega)).nm
  have v6 : ¬ v = 6 := by omega
  by_cases hq : K_PR_shiftIn c (nI n) = 0 ∧ ¬ nI n = K_CO_pointerByte (nI v)
  · rw [if_pos hq] at kr pr
    have kf : K_PR_follow c (nI n) = (0, K_PR_doubt c (nI n)) := by
      unfold K_PR_follow K_PR_follow_48
      rw [if_neg hnl, if_pos hq.1, a2, if_neg hq.2, hq.1]
    obtain ⟨c2, hc2⟩ : ∃ c2, c2 = plUp c 25 5 (nI (Z + 1)) := ⟨_, rfl⟩
    obtain ⟨r2, hr2⟩ : ∃ r2, r2 = plUp r 0 43 (nI (Z + 1)) := ⟨_, rfl⟩
    have ec : ∀ i k, c2 i k = if i = 25 ∧ k = 5 then nI (Z + 1) else c i k := fun i k => by rw [hc2, plUp_ap]
    have er : ∀ i k, r2 i k = if i = 0 ∧ k = 43 then nI (Z + 1) else r i k := fun i k => by rw [hr2, plUp_ap]
    have kd : K_PR_doubt c (nI n) = K_PR_doubt_15 (K_PR_countPlain c2 (nI n)) := by
      unfold K_PR_doubt K_PR_doubt_10
      rw [a9, nI_1, hc2]
    have ku : K_RM_unread r (K_RM_plain (nI n)) = K_RM_unread_15q (K_RM_plain (nI n)) (K_RM_third r2 (K_RM_plain (nI n))) := by
      unfold K_RM_unread K_RM_unread_10
      rw [a10, nI_1, hr2]
    have pu : P_RM_unread r (K_RM_plain (nI n)) := plThirdP _ _
    have hrow : plRowX c2 r2 := by
      unfold plRowX
      rw [ec, ec, er, er]
      simpa using a12
    -- what stands when nothing was found for the third time
    have rest : ∀ (c3 r3 : plS), K_PR_countPlain c2 (nI n) = c3 → K_RM_third r2 (K_RM_plain (nI n)) = (0, r3) → ¬ c3 25 3 = 3 → plRowX c3 r3 → (∀ i k, ¬ (i = 25 ∧ (k = 3 ∨ k = 4)) → c3 i k = c2 i k) → (∀ i k, ¬ (i = 0 ∧ (k = 44 ∨ k = 45)) → r3 i k = r2 i k) → plFol c r B M (nI n) v1 := by
      intro c3 r3 k1 k2 h3 hrow3 fc fr
      have c5 : c3 25 5 = nI (Z + 1) := by rw [fc 25 5 (by omega), ec, if_pos ⟨rfl, rfl⟩]
      have r43 : r3 0 43 = nI (Z + 1) := by rw [fr 0 43 (by omega), er, if_pos ⟨rfl, rfl⟩]
      have q8 : c3 25 5 = 8 ↔ Z + 1 = 8 := by rw [c5, show (8 : Int32) = nI 8 from rfl, nI_eq (by omega) (by omega)]
      have p8 : 8 ≤ r3 0 43 ↔ Z + 1 = 8 := by rw [r43, show (8 : Int32) = nI 8 from rfl, nI_leI (by omega) (by omega)]; omega
      have cc : ∀ k, ¬ k = 3 → ¬ k = 4 → ¬ k = 5 → c3 25 k = c 25 k := fun k z3 z4 z5 => by rw [fc 25 k (by omega), ec, if_neg (by omega)]
      have rr : ∀ k, ¬ k = 43 → ¬ k = 44 → ¬ k = 45 → r3 0 k = r 0 k := fun k z3 z4 z5 => by rw [fr 0 k (by omega), er, if_neg (by omega)]
      by_cases e8 : Z + 1 = 8
      · have kx : K_PR_doubt c (nI n) = plUp (plUp (plUp c3 25 1 (-1)) 25 3 0) 25 5 0 := by
          rw [kd, k1]
          unfold K_PR_doubt_15 K_PR_doubt_57 K_PR_doubt_61
          rw [if_neg h3, if_pos (q8.mpr e8)]
          rfl
        have kux : K_RM_unread r (K_RM_plain (nI n)) = (1, K_RM_lose r3) := by
          rw [ku, k2]
          unfold K_RM_unread_15q
          rw [if_pos rfl, if_pos (p8.mpr e8)]
        refine ⟨K_RM_lose r3, fun i k hi => by rw [plLoseR]; simp [hi]; rw [fr i k (by omega), er, if_neg (by omega)], fun k hk => ?_, fun i k hi => ?_, Or.inl ⟨?_, pr ⟨pu, ?_⟩, ?_, ?_⟩⟩
        · rw [plLoseR, if_neg (by omega), if_neg (by omega), if_neg (by omega), if_neg (by omega), if_neg (by omega), rr k (by omega) (by omega) (by omega)]
        · rw [kf, kx]; simp [plUp_ap, hi]; rw [fc i k (by omega), ec, if_neg (by omega)]
        · rw [kf, kx]; simp [plUp_ap]
        · rw [kux]; exact fun w => absurd w (show ¬ (1 : Int32) = 0 by decide)
        · rw [kr, kux]; unfold K_RM_read_168q; rw [if_neg (show ¬ (1 : Int32) = 0 by decide)]
        · rw [kf, kx]
          refine ⟨6, Γ, 0, 0, by omega, ?_, ?_, a4, ?_, ?_, fun z => absurd rfl z, by omega, ?_, ?_, fun _ => rfl, Or.inl ⟨?_, ?_⟩, by omega, ?_, ?_, fun _ => rfl, ?_, ?_, ?_⟩
          · rw [plBreak.1]; simp [plUp_ap]; rfl
          · rw [plHuntR.1]; simp [plLoseR]; rfl
          · rw [plBreak.1]; simp [plUp_ap]; rw [cc 2 (by omega) (by omega) (by omega)]; exact a5
          · rw [plHuntR.1]; simp [plLoseR]; rw [rr 42 (by omega) (by omega) (by omega)]; exact a6
          · rw [plBreak.1]; simp [plUp_ap]; rfl
          · rw [plHuntR.1]; simp [plLoseR]; rfl
          · rw [plBreak.1]; simp [plUp_ap]
          · rw [plHuntR.1]; simp [plLoseR]
          · rw [plBreak.1]; simp; rfl
          · rw [plHuntR.1]; simp [plLoseR]; rfl
          · rw [plBreak.1, plHuntR.1]; simp [plUp_ap, plLoseR]; rw [cc 7 (by omega) (by omega) (by omega), rr 47 (by omega) (by omega) (by omega)]; exact a17
          · rw [plBreak.1]; simp [plUp_ap]; rw [cc 7 (by omega) (by omega) (by omega)]; exact a18
          · rw [plBreak.1, plHuntR.1]; simp [plUp_ap, plLoseR]; rw [cc 8 (by omega) (by omega) (by omega), rr 48 (by omega) (by omega) (by omega)]; exact a19
      · have kx : K_PR_doubt c (nI n) = c3 := by
          rw [kd, k1]
          unfold K_PR_doubt_15 K_PR_doubt_61
          rw [if_neg h3, if_neg (fun w => e8 (q8.mp w))]
        have kux : K_RM_unread r (K_RM_plain (nI n)) = (0, r3) := by
          rw [ku, k2]
          unfold K_RM_unread_15q
          rw [if_pos rfl, if_neg (fun w => e8 (p8.mp w))]
        refine ⟨r3, fun i k hi => by rw [fr i k (by omega), er, if_neg (by omega)], fun k hk => rr k (by omega) (by omega) (by omega), fun i k hi => by rw [kf, kx]; show c3 i k = _; rw [fc i k (by omega), ec, if_neg (by omega)], Or.inr ⟨v, 1, hv, by omega, by rw [kf]; rfl, ?_, ?_, ?_, fun p => pr ⟨pu, ?_⟩, ?_⟩⟩
        · rw [kf, kx]; show c3 25 1 = _; rw [cc 1 (by omega) (by omega) (by omega)]; exact a2
        · rw [rr 41 (by omega) (by omega) (by omega)]; exact a3
        · rw [kf, kx]
          show plPtr c3 r3 B M
          refine ⟨v, Γ, Z + 1, m, a1, ?_, ?_, a4, ?_, ?_, a7, by omega, c5, r43, fun z => absurd z v6, hrow3, a13, ?_, ?_, a16, ?_, ?_, ?_⟩
          · rw [cc 1 (by omega) (by omega) (by omega), plV_lt hv]; exact a2
          · rw [rr 41 (by omega) (by omega) (by omega), plV_lt hv]; exact a3
          · rw [cc 2 (by omega) (by omega) (by omega)]; exact a5
          · rw [rr 42 (by omega) (by omega) (by omega)]; exact a6
          · rw [cc 6 (by omega) (by omega) (by omega)]; exact a14
          · rw [rr 46 (by omega) (by omega) (by omega)]; exact a15
          · rw [cc 7 (by omega) (by omega) (by omega), rr 47 (by omega) (by omega) (by omega)]; exact a17
          · rw [cc 7 (by omega) (by omega) (by omega)]; exact a18
          · rw [cc 8 (by omega) (by omega) (by omega), rr 48 (by omega) (by omega) (by omega)]; exact a19
        · rw [kux]; exact fun _ => p
        · rw [kr, kux]; unfold K_RM_read_168q; rw [if_pos rfl]; rfl
    rcases plThird hrow hn with ⟨e1, e2⟩ | ⟨ρ, q, h1, h3, hqq, ep, e1, e2⟩
    · refine rest _ _ e1 e2 (by simp [plUp_ap]) (Or.inl ⟨by simp [plUp_ap], by simp [plUp_ap]⟩) (fun i k z => by rw [plUp_ap, if_neg (by omega)]) (fun i k z => by rw [plUp_ap, if_neg (by omega), plUp_ap, if_neg (by omega)])
    · have q3 : plUp (plUp c2 25 3 (nI ρ)) 25 4 (nI q) 25 3 = 3 ↔ ρ = 3 := by
        rw [plUp_ap, if_neg (by omega), plUp_ap, if_pos ⟨rfl, rfl⟩, show (3 : Int32) = nI 3 from rfl, nI_eq (by omega) (by omega)]
      by_cases z : ρ = 3
      · have kx : K_PR_doubt c (nI n) = plUp (plUp (plUp (plUp (plUp (plUp c2 25 3 (nI ρ)) 25 4 (nI q)) 25 1 (nI q)) 25 6 0) 25 3 0) 25 5 0 := by
          rw [kd, e1]
          unfold K_PR_doubt_15
          rw [if_pos (q3.mpr z), show plUp (plUp c2 25 3 (nI ρ)) 25 4 (nI q) 25 4 = nI q by simp [plUp_ap]]
          rfl
        have kux : K_RM_unread r (K_RM_plain (nI n)) = (0, plUp (plUp (plUp (plUp (plUp (plUp r2 0 45 (nI ρ)) 0 44 (nI q)) 0 41 (nI q)) 0 43 0) 0 44 (-1)) 0 46 0) := by
          rw [ku, e2, ep]
          unfold K_RM_unread_15q
          rw [if_pos z, if_neg (show ¬ (1 : Int32) = 0 by decide)]
          rfl
        refine ⟨plUp (plUp (plUp (plUp (plUp (plUp r2 0 45 (nI ρ)) 0 44 (nI q)) 0 41 (nI q)) 0 43 0) 0 44 (-1)) 0 46 0, fun i k hi => by simp [plUp_ap, hi]; rw [er, if_neg (by omega)], fun k hk => ?_, fun i k hi => by rw [kf, kx]; simp [plUp_ap, hi]; rw [ec, if_neg (by omega)], Or.inr ⟨q, 1, hqq, by omega, by rw [kf]; rfl, ?_, ?_, ?_, fun p => pr ⟨pu, ?_⟩, ?_⟩⟩
        · simp only [plUp_ap]
          rw [if_neg (by omega), if_neg (by omega), if_neg (by omega), if_neg (by omega), if_neg (by omega), if_neg (by omega), er, if_neg (by omega)]
        · rw [kf, kx]; simp [plUp_ap]
        · simp [plUp_ap]
        · rw [kf, kx]
          refine ⟨q, Γ, 0, 0, by omega, ?_, ?_, a4, ?_, ?_, fun _ => by omega, by omega, ?_, ?_, fun _ => rfl, Or.inl ⟨?_, ?_⟩, by omega, ?_, ?_, fun _ => rfl, ?_, ?_, ?_⟩
          · simp [plUp_ap, plV_lt hqq]
          · simp [plUp_ap, plV_lt hqq]
          · simp [plUp_ap, ec, a5]
          · simp [plUp_ap, er, a6]
          · simp [plUp_ap]; rfl
          · simp [plUp_ap]; rfl
          · simp [plUp_ap]
          · simp [plUp_ap]
          · simp [plUp_ap]; rfl
          · simp [plUp_ap]; rfl
          · simp [plUp_ap, ec, er, a17]
          · simp [plUp_ap, ec, a18]
          · simp [plUp_ap, ec, er, a19]
        · rw [kux]; exact fun _ => p
        · rw [kr, kux]; unfold K_RM_read_168q; rw [if_pos rfl]; rfl
      · rw [if_neg z] at e2
        refine rest _ _ e1 e2 (fun w => z (q3.mp w)) (Or.inr ⟨ρ, q, h1, by omega, hqq, by simp [plUp_ap], by simp [plUp_ap], by simp [plUp_ap], by simp [plUp_ap]⟩) (fun i k y => by rw [plUp_ap, if_neg (by omega), plUp_ap, if_neg (by omega)]) (fun i k y => by rw [plUp_ap, if_neg (by omega), plUp_ap, if_neg (by omega)])
  · rw [if_neg hq] at kr pr
    have kf : K_PR_follow c (nI n) = (nI s - 1, plUp (plUp c 25 3 0) 25 5 0) := by
      unfold K_PR_follow K_PR_follow_36 K_PR_follow_48
      rw [if_neg hnl, a2]
      by_cases z : K_PR_shiftIn c (nI n) = 0
      · have y : nI n = K_CO_pointerByte (nI v) := Classical.byContradiction (fun w => hq ⟨z, w⟩)
        rw [if_pos z, if_pos y, es]; rfl
      · rw [if_neg z, es]; rfl
    refine ⟨plUp (plUp r 0 43 0) 0 44 (-1), fun i k hi => by simp [plUp_ap, hi], fun k hk => by rw [plUp_ap, if_neg (by omega), plUp_ap, if_neg (by omega)], fun i k hi => by rw [kf]; simp [plUp_ap, hi], Or.inr ⟨v, s, hv, hs, by rw [kf], ?_, ?_, ?_, fun p => pr ?_, ?_⟩⟩
    · rw [kf]; simp [plUp_ap]; exact a2
    · simp [plUp_ap]; exact a3
    · rw [kf]
      refine ⟨v, Γ, 0, m, a1, ?_, ?_, a4, ?_, ?_, a7, by omega, ?_, ?_, fun _ => rfl, Or.inl ⟨?_, ?_⟩, a13, ?_, ?_, a16, ?_, ?_, ?_⟩
      · simp [plUp_ap, plV_lt hv, a2]
      · simp [plUp_ap, plV_lt hv, a3]
      · simp [plUp_ap, a5]
      · simp [plUp_ap, a6]
      · simp [plUp_ap]; rfl
      · simp [plUp_ap]; rfl
      · simp [plUp_ap]
      · simp [plUp_ap]
      · simp [plUp_ap, a14]
      · simp [plUp_ap, a15]
      · simp [plUp_ap, a17]
      · simp [plUp_ap, a18]
      · simp [plUp_ap, a19]
    · rw [es]; exact p
    · rw [kr, es]; rfl
