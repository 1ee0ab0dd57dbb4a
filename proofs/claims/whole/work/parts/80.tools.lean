/-! loops: one, and two side by side -/
theorem plL1 {C : Type} (p : C → Prop) (f : C → Bool × C) (I : Nat → C → Prop) (N : Nat) (hgo : ∀ k c, k < N → I k c → p c ∧ (f c).1 = true ∧ I (k + 1) (f c).2) (hend : ∀ c, I N c → p c ∧ f c = (false, c)) : ∀ fuel k c, k ≤ N → N - k < fuel → I k c → lpP p f fuel c ∧ I N (lpR f fuel c) := by
  intro fuel
  induction fuel with
  | zero => intro k c _ h; omega
  | succ n ih =>
    intro k c hk hf hI
    unfold lpP lpR
    by_cases e : k = N
    · subst e
      obtain ⟨h1, h2⟩ := hend c hI
      rw [h2]
      exact ⟨⟨h1, fun h => by cases h⟩, hI⟩
    · obtain ⟨h1, h2, h3⟩ := hgo k c (by omega) hI
      obtain ⟨h4, h5⟩ := ih (k + 1) (f c).2 (by omega) (by omega) h3
      exact ⟨⟨h1, fun _ => h4⟩, by rw [if_pos h2]; exact h5⟩
theorem plL2 {C D : Type} (p : C → Prop) (f : C → Bool × C) (q : D → Prop) (g : D → Bool × D) (I : Nat → C → D → Prop) (N : Nat) (hgo : ∀ k c d, k < N → I k c d → p c ∧ q d ∧ (f c).1 = true ∧ (g d).1 = true ∧ I (k + 1) (f c).2 (g d).2) (hend : ∀ c d, I N c d → p c ∧ q d ∧ f c = (false, c) ∧ g d = (false, d)) : ∀ fuel k c d, k ≤ N → N - k < fuel → I k c d → lpP p f fuel c ∧ lpP q g fuel d ∧ I N (lpR f fuel c) (lpR g fuel d) := by
  intro fuel
  induction fuel with
  | zero => intro k c d _ h; omega
  | succ n ih =>
    intro k c d hk hf hI
    unfold lpP lpR
    by_cases e : k = N
    · subst e
      obtain ⟨h1, h2, h3, h4⟩ := hend c d hI
      rw [h3, h4]
      exact ⟨⟨h1, fun h => by cases h⟩, ⟨h2, fun h => by cases h⟩, hI⟩
    · obtain ⟨h1, h2, h3, h4, h5⟩ := hgo k c d (by omega) hI
      obtain ⟨h6, h7, h8⟩ := ih (k + 1) (f c).2 (g d).2 (by omega) (by omega) h5
      exact ⟨⟨h1, fun _ => h6⟩, ⟨h2, fun _ => h7⟩, by rw [if_pos h3, if_pos h4]; exact h8⟩
/-! bytes -/
def plBy (x : Int32) : Prop := ∃ n : Nat, n < 256 ∧ x = nI n
theorem plx_xor (a b : Nat) : nI a ^^^ nI b = nI (a ^^^ b) := by
  apply Int32.toBitVec_inj.1
  show BitVec.ofNat 32 a ^^^ BitVec.ofNat 32 b = BitVec.ofNat 32 (a ^^^ b)
  apply BitVec.eq_of_getLsbD_eq
  intro i hi
  simp [hi]
theorem plBy.xor {x y : Int32} (hx : plBy x) (hy : plBy y) : plBy (x ^^^ y) := by
  obtain ⟨a, ha, rfl⟩ := hx
  obtain ⟨b, hb, rfl⟩ := hy
  exact ⟨a ^^^ b, Nat.xor_lt_two_pow (n := 8) ha hb, plx_xor a b⟩
theorem plBy.lit {n : Nat} (h : n < 256) : plBy (nI n) := ⟨n, h, rfl⟩
theorem plBy.and (x : Int32) : plBy (x &&& 255) := by
  obtain ⟨j, hj, e⟩ := pk_andE x (m := 255) 8 rfl
  exact ⟨j, hj, e⟩
theorem plBy.nn {x : Int32} (h : plBy x) : ¬ x < 0 := by
  obtain ⟨n, hn, rfl⟩ := h
  exact nI_pos (by omega)
theorem plBy.nm {x : Int32} (h : plBy x) : ¬ x = -1 := by
  intro e
  subst e
  obtain ⟨n, hn, e⟩ := h
  have h0 := nI_pos (n := n) (by omega)
  rw [← e] at h0
  exact h0 (by decide)
theorem plBy.ge {x : Int32} (h : plBy x) : 0 ≤ x := by
  obtain ⟨n, hn, rfl⟩ := h
  exact nI_pos' (by omega)
theorem plBy.row (j : Nat) : plBy (plROW j) := by
  unfold plROW
  by_cases h : j < 10
  · rcases (show j = 0 ∨ j = 1 ∨ j = 2 ∨ j = 3 ∨ j = 4 ∨ j = 5 ∨ j = 6 ∨ j = 7 ∨ j = 8 ∨ j = 9 by omega) with rfl | rfl | rfl | rfl | rfl | rfl | rfl | rfl | rfl | rfl
    · exact ⟨254, by omega, rfl⟩
    · exact ⟨4, by omega, rfl⟩
    · exact ⟨24, by omega, rfl⟩
    · exact ⟨81, by omega, rfl⟩
    · exact ⟨228, by omega, rfl⟩
    · exact ⟨89, by omega, rfl⟩
    · exact ⟨212, by omega, rfl⟩
    · exact ⟨250, by omega, rfl⟩
    · exact ⟨28, by omega, rfl⟩
    · exact ⟨73, by omega, rfl⟩
  · have e : ([254, 4, 24, 81, 228, 89, 212, 250, 28, 73] : List Int32).getD j 0 = 0 := by
      rw [List.getD_eq_getElem?_getD, List.getElem?_eq_none (by simp; omega)]
      rfl
    rw [e]
    exact ⟨0, by omega, rfl⟩
theorem plIx_nI {n : Nat} (h : n < 2 ^ 31) : plIx (nI n) = n := nI_clamp h
/-! the check H -/
theorem plH_eq : K_RM_hash = K_CO_hash := rfl
theorem plH_P (v : Int32) : P_CO_hash v := by
  unfold P_CO_hash
  refine (plL1 (fun _ => True) F_CO_hash_4 (fun k c => c.2 = nI k) 8 (fun k c hk hI => ?_) (fun c hI => ?_) 64 0 (v, 0) (by omega) (by omega) rfl).1
  · have h : ¬ 8 ≤ c.2 := by rw [hI]; exact nI_ge (b := 8) hk (by omega)
    unfold F_CO_hash_4 K_CO_hash_4L
    rw [if_neg h]
    by_cases h2 : c.1 < 128
    · rw [if_pos h2]
      exact ⟨trivial, rfl, by show c.2 + 1 = _; rw [hI, nI_1]⟩
    · rw [if_neg h2]
      exact ⟨trivial, rfl, by show c.2 + 1 = _; rw [hI, nI_1]⟩
  · have h : 8 ≤ c.2 := by rw [hI]; exact nI_le (a := 8) (b := 8) (by omega) (by omega)
    unfold F_CO_hash_4 K_CO_hash_4L
    rw [if_pos h]
    exact ⟨trivial, rfl⟩
theorem plH_P2 (v : Int32) : P_RM_hash v := plH_P v
theorem plH_by : ∀ n, n < 256 → ((K_CO_hash (nI n)) &&& 255) = K_CO_hash (nI n) := by decide +kernel
theorem plBy.hash {x : Int32} (h : plBy x) : plBy (K_CO_hash x) := by
  obtain ⟨n, hn, rfl⟩ := h
  rw [← plH_by n hn]
  exact plBy.and _
theorem plOnes : ∀ n, n < 256 → K_RM_ones (nI n) = K_JI_bitCount (nI n) := by decide +kernel
theorem plOnes_by {x : Int32} (h : plBy x) : K_RM_ones x = K_JI_bitCount x := by
  obtain ⟨n, hn, rfl⟩ := h
  exact plOnes n hn
theorem plOnes_P (v : Int32) : P_RM_ones v := by
  unfold P_RM_ones
  refine (plL1 (fun _ => True) (F_RM_ones_4 v) (fun k c => c.2 = nI k) 8 (fun k c hk hI => ?_) (fun c hI => ?_) 64 0 (0, 0) (by omega) (by omega) rfl).1
  · have h : ¬ 8 ≤ c.2 := by rw [hI]; exact nI_ge (b := 8) hk (by omega)
    unfold F_RM_ones_4 K_RM_ones_4L
    rw [if_neg h]
    exact ⟨trivial, rfl, by show c.2 + 1 = _; rw [hI, nI_1]⟩
  · have h : 8 ≤ c.2 := by rw [hI]; exact nI_le (a := 8) (b := 8) (by omega) (by omega)
    unfold F_RM_ones_4 K_RM_ones_4L
    rw [if_pos h]
    exact ⟨trivial, rfl⟩
