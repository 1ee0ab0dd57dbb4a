theorem plGiveC {c : plS} {b : Int32} {i k : Nat} (h : i < 21 ∨ 24 < i) : K_SR_give c b i k = c i k := by
  apply fr_K_SR_give <;> omega
theorem plTakeR {r : plS} {b : Int32} {i k : Nat} (h : ¬ i = 0 ∨ k < 49 ∨ 57 < k) (h17 : ¬ i = 17) (h18 : ¬ i = 18) : K_RM_take r b i k = r i k := by
  apply fr_K_RM_take <;> omega
theorem plGiveR {r : plS} {b : Int32} {m : Nat} (h46 : r 0 46 = nI (min m 7)) : K_RM_give r b 0 = K_RM_take (plUp (plUp r 0 47 (r 0 47 ^^^ b)) 0 46 (nI (min (if m = 0 then 0 else m + 1) 7))) b ∧ (P_RM_take (plUp (plUp r 0 47 (r 0 47 ^^^ b)) 0 46 (nI (min (if m = 0 then 0 else m + 1) 7))) b → P_RM_give r b 0) := by
  have e46 : plUp r 0 47 (r 0 47 ^^^ b) 0 46 = nI (min m 7) := by rw [plUp_ap, if_neg (by omega)]; exact h46
  have z0 : nI (min m 7) ≤ 0 ↔ m = 0 := by rw [show (0 : Int32) = nI 0 from rfl, nI_leI (by omega) (by omega)]; omega
  have z7 : 7 ≤ nI (min m 7) ↔ 7 ≤ m := by rw [show (7 : Int32) = nI 7 from rfl, nI_leI (by omega) (by omega)]; omega
  have e1 : m = 0 → min (if m = 0 then 0 else m + 1) 7 = min m 7 := fun h => by rw [if_pos h]; omega
  have e2 : ¬ m = 0 → 7 ≤ m → min (if m = 0 then 0 else m + 1) 7 = min m 7 := fun h h7 => by rw [if_neg h]; omega
  have e3 : ¬ m = 0 → ¬ 7 ≤ m → min (if m = 0 then 0 else m + 1) 7 = min m 7 + 1 := fun h h7 => by rw [if_neg h]; omega
  constructor
  · unfold K_RM_give K_RM_give_14 K_RM_give_40 K_RM_give_44 K_RM_give_47
    rw [if_pos rfl, e46]
    by_cases h0 : m = 0
    · rw [if_pos (z0.mpr h0), e1 h0]
    · rw [if_neg (fun w => h0 (z0.mp w))]
      by_cases h7 : 7 ≤ m
      · rw [if_pos (z7.mpr h7), e2 h0 h7]
      · rw [if_neg (fun w => h7 (z7.mp w)), nI_1, e3 h0 h7]
  · intro p
    refine ⟨fun _ => ?_, fun w => absurd rfl w⟩
    unfold P_RM_give_14 P_RM_give_40 P_RM_give_44 P_RM_give_47
    rw [e46]
    refine ⟨fun w => ?_, fun w => ⟨fun w2 => ?_, fun w2 => ?_⟩⟩
    · rw [e1 (z0.mp w)] at p; exact p
    · rw [e2 (fun y => w (z0.mpr y)) (z7.mp w2)] at p; exact p
    · rw [e3 (fun y => w (z0.mpr y)) (fun y => w2 (z7.mpr y))] at p; rw [nI_1]; exact p
/-- a byte that begins no container -/
theorem plByteIn {c r : plS} {B M v Γ Z m BS : Nat} {b : Int32} (h : plPtrX c r B M v Γ Z m) (hv : v < 6) (hs : plStr c r BS) (hB : BS < 2 ^ 28) (hM : M < 2 ^ 28) (hb : plBy b) : ∃ m', (c 25 6 = 0 ↔ m = 0) ∧ m' = (if m = 0 then 0 else m + 1) ∧ P_SR_give (plUp (plUp c 25 7 (c 25 7 ^^^ b)) 25 6 (nI m')) b ∧ P_RM_give r b 0 ∧ plPtrX (K_SR_give (plUp (plUp c 25 7 (c 25 7 ^^^ b)) 25 6 (nI m')) b) (K_RM_give r b 0) B (M + 1) v Γ Z m' ∧ plStr (K_SR_give (plUp (plUp c 25 7 (c 25 7 ^^^ b)) 25 6 (nI m')) b) (K_RM_give r b 0) (BS + 1) := by
  obtain ⟨a1, a2, a3, a4, a5, a6, a7, a8, a9, a10, a11, a12, a13, a14, a15, a16, a17, a18, a19⟩ := h
  obtain ⟨m', hm'⟩ : ∃ m', m' = (if m = 0 then 0 else m + 1) := ⟨_, rfl⟩
  obtain ⟨kr, pr⟩ := plGiveR (b := b) a15
  rw [← hm'] at kr pr
  obtain ⟨c2, hc2⟩ : ∃ c2, c2 = plUp (plUp c 25 7 (c 25 7 ^^^ b)) 25 6 (nI m') := ⟨_, rfl⟩
  obtain ⟨r2, hr2⟩ : ∃ r2, r2 = plUp (plUp r 0 47 (r 0 47 ^^^ b)) 0 46 (nI (min m' 7)) := ⟨_, rfl⟩
  rw [← hr2] at kr pr
  have h2 : plStr c2 r2 BS := by
    rw [hc2, hr2]
    exact (plStr_up25 (plStr_up25 hs)).ext (fun _ => rfl) (fun _ => rfl) (fun _ => rfl) (fun _ => rfl) (fun k k1 k2 => by rw [plUp_ap, if_neg (by omega), plUp_ap, if_neg (by omega)]) (fun _ => by simp [plUp_ap]) (fun _ => by simp [plUp_ap])
  obtain ⟨g1, g2, g3⟩ := plStr_give h2 hB hb
  refine ⟨m', ?_, hm', ?_, pr g2, ?_, ?_⟩
  · rw [a14, show (0 : Int32) = nI 0 from rfl, nI_eq (by omega) (by omega)]
  · rw [← hc2]; exact g1
  · rw [← hc2, kr]
    have ec : ∀ k, K_SR_give c2 b 25 k = c2 25 k := fun k => plGiveC (Or.inr (by omega))
    have er : ∀ k, k < 49 → K_RM_take r2 b 0 k = r2 0 k := fun k hk => plTakeR (Or.inr (Or.inl hk)) (by omega) (by omega)
    refine ⟨a1, ?_, ?_, a4, ?_, ?_, a7, a8, ?_, ?_, a11, ?_, ?_, ?_, ?_, fun z => by omega, ?_, ?_, ?_⟩
    · rw [ec, hc2]; simp [plUp_ap, a2]
    · rw [er 41 (by omega), hr2]; simp [plUp_ap, a3]
    · rw [ec, hc2]; simp [plUp_ap, a5]
    · rw [er 42 (by omega), hr2]; simp [plUp_ap, a6]
    · rw [ec, hc2]; simp [plUp_ap, a9]
    · rw [er 43 (by omega), hr2]; simp [plUp_ap, a10]
    · rw [ec, ec, er 44 (by omega), er 45 (by omega), hc2, hr2]
      simp only [plUp_ap]
      simpa using a12
    · rw [hm']; split <;> omega
    · rw [ec, hc2]; simp [plUp_ap]
    · rw [er 46 (by omega), hr2]; simp [plUp_ap]
    · rw [ec, er 47 (by omega), hc2, hr2]; simp [plUp_ap, a17]
    · rw [ec, hc2]; simp [plUp_ap]; exact a18.xor hb
    · rw [ec, er 48 (by omega), hc2, hr2]; simp [plUp_ap, a19]
  · rw [← hc2, kr]; exact g3
/-- a byte that begins one -/
theorem plByteFirst {c r : plS} {B M v Γ Z m BS : Nat} {b : Int32} (h : plPtrX c r B M v Γ Z m) (hv : v < 6) (hs : plStr c r BS) (hM : M < 2 ^ 28) (hb : plBy b) : P_RM_give r b 1 ∧ plPtrX (K_PR_beginContainer c b) (K_RM_give r b 1) B (M + 1) v Γ Z 1 ∧ plStr (K_PR_beginContainer c b) (K_RM_give r b 1) (BS + 1) := by
  obtain ⟨a1, a2, a3, a4, a5, a6, a7, a8, a9, a10, a11, a12, a13, a14, a15, a16, a17, a18, a19⟩ := h
  have q1 : c 25 6 = 6 ↔ m = 6 := by rw [a14, show (6 : Int32) = nI 6 from rfl, nI_eq (by omega) (by omega)]
  have q2 : r 0 46 = 6 ↔ m = 6 := by rw [a15, show (6 : Int32) = nI 6 from rfl, nI_eq (by omega) (by omega)]; omega
  obtain ⟨x, hx⟩ : ∃ x, x = if m = 6 then c 25 8 + K_JI_bitCount (b ^^^ c 25 7) else c 25 8 := ⟨_, rfl⟩
  have kc : ∀ i k, K_PR_beginContainer c b i k = if i = 25 ∧ k = 6 then 1 else if i = 25 ∧ k = 7 then b else if i = 25 ∧ k = 8 then x else c i k := by
    intro i k
    unfold K_PR_beginContainer K_PR_beginContainer_27 K_PR_beginContainer_32
    by_cases e : m = 6
    · rw [if_pos (q1.mpr e), plUp_ap, plUp_ap, plUp_ap, hx, if_pos e]
    · rw [if_neg (fun w => e (q1.mp w)), plUp_ap, plUp_ap, hx, if_neg e]
      by_cases z : i = 25 ∧ k = 8
      · obtain ⟨rfl, rfl⟩ := z; simp
      · rw [if_neg z]
  have ho : K_RM_ones (b ^^^ r 0 47) = K_JI_bitCount (b ^^^ c 25 7) := by rw [← a17]; exact plOnes_by (hb.xor a18)
  have n1 : ¬ (1 : Int32) = 0 := by decide
  have kr : ∀ i k, K_RM_give r b 1 i k = if i = 0 ∧ k = 47 then b else if i = 0 ∧ k = 46 then 1 else if i = 0 ∧ k = 48 then x else r i k := by
    intro i k
    unfold K_RM_give K_RM_give_80 K_RM_give_85
    rw [if_neg n1]
    by_cases e : m = 6
    · rw [if_pos (q2.mpr e), plUp_ap, plUp_ap, plUp_ap, hx, if_pos e, ho, a19]
    · rw [if_neg (fun w => e (q2.mp w)), plUp_ap, plUp_ap, hx, if_neg e, a19]
      by_cases z : i = 0 ∧ k = 48
      · obtain ⟨rfl, rfl⟩ := z; simp
      · rw [if_neg z]
  refine ⟨⟨fun w => absurd w n1, fun _ _ => plOnes_P _⟩, ⟨a1, ?_, ?_, a4, ?_, ?_, a7, a8, ?_, ?_, a11, ?_, by omega, ?_, ?_, fun z => by omega, ?_, ?_, ?_⟩, ?_⟩
  · rw [kc]; simp [a2]
  · rw [kr]; simp [a3]
  · rw [kc]; simp [a5]
  · rw [kr]; simp [a6]
  · rw [kc]; simp [a9]
  · rw [kr]; simp [a10]
  · simp only [kc, kr]; simpa using a12
  · rw [kc]; simp; rfl
  · rw [kr]; simp; rfl
  · rw [kc, kr]; simp
  · rw [kc]; simp; exact hb
  · rw [kc, kr]; simp
  · exact (hs.ext (fun k => by rw [kc]; simp) (fun k => by rw [kc]; simp) (fun k => by rw [kc]; simp) (fun k => by rw [kc]; simp) (fun k k1 k2 => by rw [kr, if_neg (by omega), if_neg (by omega), if_neg (by omega)]) (fun k => by rw [kr]; simp) (fun k => by rw [kr]; simp)).mono (by omega)
