/-- the stream reader: class and reference -/
def plKept (c r : plS) (G : Nat) : Prop := ∀ k, k < 8 → k < G → ∃ z, 1 ≤ z ∧ z ≤ 6 ∧ c 23 ((G - k) % 8) = nI z ∧ r 18 (7 * k) = nI z ∧ ∀ i, i < z → c 24 (6 * ((G - k) % 8) + i) = r 18 (7 * k + 1 + i)
def plBody (c r : plS) (S L D : Nat) : Prop := S = 2 → D < L → r 0 53 = nI D ∧ r 0 52 = nI L ∧ (∀ i, i < D → i < 6 → c 22 i = r 17 i) ∧ (D ≤ 6 → c 21 6 = plChk (r 17) D)
def plStrX (c r : plS) (B S L D G : Nat) : Prop :=
  S ≤ 2 ∧ c 21 0 = nI S ∧ r 0 49 = nI S ∧ ((c 21 1 = 0 ∧ r 0 50 = -1) ∨ (c 21 1 = 1 ∧ plBy (c 21 2) ∧ r 0 50 = c 21 2)) ∧
  D ≤ L ∧ L < 256 ∧ c 21 3 = nI L ∧ c 21 4 = nI D ∧ r 0 51 = nI (L - D) ∧ (D < L → ¬ S = 0) ∧ plBody c r S L D ∧
  c 21 5 = r 0 54 ∧ plBy (c 21 5) ∧ c 21 8 = nI G ∧ r 0 56 = nI G ∧ G ≤ B ∧ c 21 9 = r 0 57 ∧ plKept c r G
def plStr (c r : plS) (B : Nat) : Prop := ∃ S L D G : Nat, plStrX c r B S L D G
/-- it speaks of these places alone -/
theorem plStr.ext {c c' r r' : plS} {B : Nat} (h : plStr c r B) (h1 : ∀ k, c' 21 k = c 21 k) (h2 : ∀ k, c' 22 k = c 22 k) (h3 : ∀ k, c' 23 k = c 23 k) (h4 : ∀ k, c' 24 k = c 24 k) (g : ∀ k, 49 ≤ k → k ≤ 57 → r' 0 k = r 0 k) (g2 : ∀ k, r' 17 k = r 17 k) (g3 : ∀ k, r' 18 k = r 18 k) : plStr c' r' B := by
  obtain ⟨S, L, D, G, a1, a2, a3, a4, a5, a6, a7, a8, a9, a10, a11, a12, a13, a14, a15, a16, a17, a18⟩ := h
  refine ⟨S, L, D, G, a1, by rw [h1]; exact a2, by rw [g 49 (by omega) (by omega)]; exact a3, ?_, a5, a6, by rw [h1]; exact a7, by rw [h1]; exact a8, by rw [g 51 (by omega) (by omega)]; exact a9, a10, ?_, ?_, by rw [h1]; exact a13, by rw [h1]; exact a14, by rw [g 56 (by omega) (by omega)]; exact a15, a16, by rw [h1, g 57 (by omega) (by omega)]; exact a17, ?_⟩
  · rw [h1, h1, g 50 (by omega) (by omega)]; exact a4
  · intro e1 e2
    obtain ⟨b1, b2, b3, b4⟩ := a11 e1 e2
    refine ⟨by rw [g 53 (by omega) (by omega)]; exact b1, by rw [g 52 (by omega) (by omega)]; exact b2, fun i i1 i2 => by rw [h2, g2]; exact b3 i i1 i2, fun e => ?_⟩
    rw [h1, b4 e]
    exact plChk_ext D (fun i _ => (g2 i).symm)
  · rw [h1, g 54 (by omega) (by omega)]; exact a12
  · intro k k1 k2
    obtain ⟨z, z1, z2, z3, z4, z5⟩ := a18 k k1 k2
    exact ⟨z, z1, z2, by rw [h3]; exact z3, by rw [g3]; exact z4, fun i hi => by rw [h4, g3]; exact z5 i hi⟩
theorem plStr.mono {c r : plS} {B B' : Nat} (h : plStr c r B) (hB : B ≤ B') : plStr c r B' := by
  obtain ⟨S, L, D, G, a1, a2, a3, a4, a5, a6, a7, a8, a9, a10, a11, a12, a13, a14, a15, a16, a17, a18⟩ := h
  exact ⟨S, L, D, G, a1, a2, a3, a4, a5, a6, a7, a8, a9, a10, a11, a12, a13, a14, a15, by omega, a17, a18⟩
theorem plKept.ext {c c' r r' : plS} {G : Nat} (h : plKept c r G) (h3 : ∀ k, c' 23 k = c 23 k) (h4 : ∀ k, c' 24 k = c 24 k) (g3 : ∀ k, r' 18 k = r 18 k) : plKept c' r' G := by
  intro k k1 k2
  obtain ⟨z, z1, z2, z3, z4, z5⟩ := h k k1 k2
  exact ⟨z, z1, z2, by rw [h3]; exact z3, by rw [g3]; exact z4, fun i hi => by rw [h4, g3]; exact z5 i hi⟩
theorem plStr_hunt {c r : plS} {B : Nat} (h : plStr c r B) : plStr (K_SR_hunt c) (K_RM_hunt r) B := by
  obtain ⟨S, L, D, G, a1, a2, a3, a4, a5, a6, a7, a8, a9, a10, a11, a12, a13, a14, a15, a16, a17, a18⟩ := h
  have ec : ∀ i k, K_SR_hunt c i k = plUp (plUp (plUp (plUp c 21 0 0) 21 1 0) 21 3 0) 21 4 0 i k := fun i k => rfl
  have er : ∀ i k, K_RM_hunt r i k = plUp (plUp (plUp r 0 49 0) 0 50 (-1)) 0 51 0 i k := fun i k => rfl
  refine ⟨0, 0, 0, G, by omega, ?_, ?_, Or.inl ⟨?_, ?_⟩, by omega, by omega, ?_, ?_, ?_, fun e => absurd e (by omega), fun e => absurd e (by omega), ?_, ?_, ?_, ?_, a16, ?_, ?_⟩
  · rw [ec]; simp [plUp_ap]; rfl
  · rw [er]; simp [plUp_ap]; rfl
  · rw [ec]; simp [plUp_ap]
  · rw [er]; simp [plUp_ap]
  · rw [ec]; simp [plUp_ap]; rfl
  · rw [ec]; simp [plUp_ap]; rfl
  · rw [er]; simp [plUp_ap]; rfl
  · rw [ec, er]; simp [plUp_ap, a12]
  · rw [ec]; simp [plUp_ap, a13]
  · rw [ec]; simp [plUp_ap, a14]
  · rw [er]; simp [plUp_ap, a15]
  · rw [ec, er]; simp [plUp_ap, a17]
  · exact a18.ext (fun k => by rw [ec]; simp [plUp_ap]) (fun k => by rw [ec]; simp [plUp_ap]) (fun k => by rw [er]; simp [plUp_ap])
