theorem plStr_enter {c r c' r' : plS} {B S L D G l S' : Nat} (h : plStrX c r B S L D G) (hl : l < 256) (hS : S' = 1 ∨ S' = 2) (hc : c' = K_SR_takeHeader_56 c (nI l) (nI S')) (g1 : r' 0 49 = nI S') (g2 : r' 0 50 = -1) (g3 : r' 0 51 = nI l) (g4 : r' 0 52 = nI l) (g5 : r' 0 53 = 0) (g6 : r' 0 54 = r 0 54) (g7 : r' 0 56 = r 0 56) (g8 : r' 0 57 = r 0 57) (g9 : ∀ k, r' 18 k = r 18 k) : plStr c' r' B := by
  obtain ⟨a1, a2, a3, a4, a5, a6, a7, a8, a9, a10, a11, a12, a13, a14, a15, a16, a17, a18⟩ := h
  have ec : ∀ i k, c' i k = plUp (plUp (plUp (plUp (plUp c 21 0 (nI S')) 21 1 0) 21 3 (nI l)) 21 4 0) 21 6 255 i k := fun i k => by rw [hc]; rfl
  refine ⟨S', l, 0, G, by omega, ?_, g1, Or.inl ⟨?_, g2⟩, by omega, hl, ?_, ?_, g3, fun _ => by omega, fun _ _ => ⟨g5, g4, fun i hi => absurd hi (by omega), fun _ => ?_⟩, ?_, ?_, ?_, by rw [g7]; exact a15, a16, ?_, ?_⟩
  · rw [ec]; simp [plUp_ap]
  · rw [ec]; simp [plUp_ap]
  · rw [ec]; simp [plUp_ap]
  · rw [ec]; simp [plUp_ap]; rfl
  · rw [ec]; simp [plUp_ap]; rfl
  · rw [ec, g6]; simp [plUp_ap, a12]
  · rw [ec]; simp [plUp_ap, a13]
  · rw [ec]; simp [plUp_ap, a14]
  · rw [ec, g8]; simp [plUp_ap, a17]
  · exact a18.ext (fun k => by rw [ec]; simp [plUp_ap]) (fun k => by rw [ec]; simp [plUp_ap]) g9
theorem plBit_by : ∀ k, k < 8 → (((1 : Int32) <<< (nI k &&& 31)) &&& 255) = (1 : Int32) <<< (nI k &&& 31) := by decide +kernel
theorem plmA_by {la : Int32} (h : plBy la) {k : Nat} (hk : k ≤ 8) : plBy (plmA la k) := by
  unfold plmA
  by_cases h8 : k = 8
  · rw [if_pos h8]; exact h
  · rw [if_neg h8, if_neg (by omega)]
    refine h.xor ?_
    rw [← plBit_by k (by omega)]
    exact plBy.and _
theorem plmR_le : ∀ s, s < 256 → plmR (nI s) ≤ 9 := by decide +kernel
theorem plmC0 : plmC 0 = 8 := by decide +kernel
theorem plStr_header {c r : plS} {B : Nat} {S L D G : Nat} (h : plStrX c r B S L D G) (hh : c 21 1 = 1) (hf : plBy (c 21 2)) {b : Int32} (hb : plBy b) : P_SR_takeHeader c b ∧ P_RM_pair r (c 21 2) b ∧ plStr (K_SR_takeHeader c b) (K_RM_pair r (c 21 2) b) B := by
  have h0 := h
  obtain ⟨a1, a2, a3, a4, a5, a6, a7, a8, a9, a10, a11, a12, a13, a14, a15, a16, a17, a18⟩ := h
  obtain ⟨fa, hfa, efa⟩ := hf
  obtain ⟨bb, hbb, rfl⟩ := hb
  obtain ⟨l, hl, el⟩ : plBy (nI fa ^^^ 182) := (plBy.lit hfa).xor (plBy.lit (n := 182) (by omega))
  obtain ⟨s, hs, es⟩ : plBy (K_CO_hash (nI l) ^^^ (nI bb ^^^ 171)) := (plBy.lit hl).hash.xor ((plBy.lit hbb).xor (plBy.lit (n := 171) (by omega)))
  rw [efa]
  obtain ⟨mp, mf⟩ := plmend (plUp r 0 50 (-1)) (a := fa) (b := bb) hl el
  have hP1 : P_SR_takeHeader c (nI bb) := by
    have p1 : P_CO_lengthIn (c 21 2) (nI bb) := plH_P _
    have p2 : P_CO_lengthRepaired (c 21 2) (nI bb) := ⟨plH_P _, fun _ => plrepP _ _⟩
    exact ⟨fun _ => ⟨fun _ => p1, fun _ => p2⟩, fun _ => ⟨fun _ => p1, fun _ => p2⟩⟩
  have hP2 : P_RM_pair r (nI fa) (nI bb) := ⟨plhdrP _ _, fun _ _ _ => mp⟩
  refine ⟨hP1, hP2, ?_⟩
  have hS0 : c 21 0 = 0 ↔ S = 0 := by rw [a2, show (0 : Int32) = nI 0 from rfl, nI_eq (by omega) (by omega)]
  have hS2 : c 21 0 = 2 ↔ S = 2 := by rw [a2, show (2 : Int32) = nI 2 from rfl, nI_eq (by omega) (by omega)]
  have r1 : plUp r 0 50 (-1) 0 49 = nI S := by rw [plUp_ap, if_neg (by omega)]; exact a3
  have hr0 : plUp r 0 50 (-1) 0 49 = 0 ↔ S = 0 := by rw [r1, show (0 : Int32) = nI 0 from rfl, nI_eq (by omega) (by omega)]
  have hr1 : plUp r 0 50 (-1) 0 49 = 1 ↔ S = 1 := by rw [r1, show (1 : Int32) = nI 1 from rfl, nI_eq (by omega) (by omega)]
  have hr2 : 2 ≤ plUp r 0 50 (-1) 0 49 ↔ 2 ≤ S := by rw [r1, show (2 : Int32) = nI 2 from rfl, nI_leI (by omega) (by omega)]
  -- the states behind
  have kc : ∀ z, K_SR_takeHeader_37 c (nI bb) z = if z = -1 then (if S = 0 then plUp c 21 2 (nI bb) else K_SR_hunt c) else (if S = 0 then K_SR_takeHeader_56 c z 1 else K_SR_takeHeader_56 c z 2) := by
    intro z
    unfold K_SR_takeHeader_37 K_SR_takeHeader_103
    simp only [hS0]
  have kr : K_RM_pair r (nI fa) (nI bb) = if K_RM_header (nI fa) (nI bb) = 0 then (if S = 0 then plUp (plUp r 0 50 (-1)) 0 50 (nI bb) else if S = 1 then K_RM_hunt (plUp r 0 50 (-1)) else K_RM_mend (plUp r 0 50 (-1)) (nI fa) (nI bb)) else (if 2 ≤ S then K_RM_pair_32 (plUp r 0 50 (-1)) (nI fa) 2 else K_RM_pair_32 (plUp r 0 50 (-1)) (nI fa) (plUp r 0 50 (-1) 0 49 + 1)) := by
    unfold K_RM_pair K_RM_pair_5 K_RM_pair_83
    simp only [hr0, hr1, hr2]
  have lin : K_CO_lengthIn (nI fa) (nI bb) = if K_CO_hash (nI l) = nI bb ^^^ 171 then nI l else -1 := by
    unfold K_CO_lengthIn K_CO_lengthIn_23
    rw [el]
  have lrp : K_CO_lengthRepaired (nI fa) (nI bb) = plmA (nI l) (plmC (nI s)) := by
    unfold K_CO_lengthRepaired
    rw [el, plrep hl, es]
  have kt : K_SR_takeHeader c (nI bb) = K_SR_takeHeader_37 c (nI bb) (if S = 2 then K_CO_lengthRepaired (nI fa) (nI bb) else K_CO_lengthIn (nI fa) (nI bb)) := by
    unfold K_SR_takeHeader K_SR_takeHeader_13
    simp only [hS2, efa]
    by_cases e : S = 2
    · rw [if_pos e, if_neg (by decide), if_pos e]
    · rw [if_neg e, if_pos trivial, if_neg e]
  have nb : ∀ {x : Int32}, plBy x → ¬ x = -1 := fun h => h.nm
  have h1 : ∀ {z : Nat}, z < 256 → (nI z = -1 ↔ False) := fun hz => ⟨fun e => nb (plBy.lit hz) e, fun e => e.elim⟩
  have hz0 : K_RM_header (nI fa) (nI bb) = 0 ↔ ¬ K_CO_hash (nI l) = (nI bb ^^^ 171) := by rw [plhdr, el]
  -- hunt on both sides
  have hunt2 : plStr (K_SR_hunt c) (K_RM_hunt (plUp r 0 50 (-1))) B := by
    have q := plStr_hunt ⟨S, L, D, G, h0⟩
    refine plStr.ext q (fun _ => rfl) (fun _ => rfl) (fun _ => rfl) (fun _ => rfl) (fun k k1 k2 => ?_) (fun k => ?_) (fun k => ?_)
    · show plUp (plUp (plUp (plUp r 0 50 (-1)) 0 49 0) 0 50 (-1)) 0 51 0 0 k = plUp (plUp (plUp r 0 49 0) 0 50 (-1)) 0 51 0 0 k
      simp only [plUp_ap]
      repeat' split
      all_goals first | rfl | omega
    · show plUp (plUp (plUp (plUp r 0 50 (-1)) 0 49 0) 0 50 (-1)) 0 51 0 17 k = plUp (plUp (plUp r 0 49 0) 0 50 (-1)) 0 51 0 17 k
      simp [plUp_ap]
    · show plUp (plUp (plUp (plUp r 0 50 (-1)) 0 49 0) 0 50 (-1)) 0 51 0 18 k = plUp (plUp (plUp r 0 49 0) 0 50 (-1)) 0 51 0 18 k
      simp [plUp_ap]
  have ent : ∀ (z S' : Nat) (k : Int32) (v : Int32), z < 256 → (S' = 1 ∨ S' = 2) → k = nI S' → v ^^^ 182 = nI z → plStr (K_SR_takeHeader_56 c (nI z) (nI S')) (K_RM_pair_32 (plUp r 0 50 (-1)) v k) B := by
    intro z S' k v hz hS' hk hv
    have e : K_RM_pair_32 (plUp r 0 50 (-1)) v k = plUp (plUp (plUp (plUp (plUp r 0 50 (-1)) 0 49 (nI S')) 0 51 (nI z)) 0 52 (nI z)) 0 53 0 := by rw [← hk, ← hv]; rfl
    refine plStr_enter h0 hz hS' rfl ?_ ?_ ?_ ?_ ?_ ?_ ?_ ?_ (fun k => ?_) <;> rw [e] <;> simp [plUp_ap]
  rw [kt, kr]
  by_cases hd : K_CO_hash (nI l) = (nI bb ^^^ 171)
  · rw [if_neg (fun q => hz0.mp q hd)]
    have hs0 : nI s = 0 := by rw [← es, hd, Int32.xor_self]
    by_cases e2 : S = 2
    · subst e2
      rw [if_pos rfl, lrp, hs0, plmC0, if_pos (by omega)]
      show plStr (K_SR_takeHeader_37 c (nI bb) (nI l)) _ B
      rw [kc, if_neg (nb (plBy.lit hl)), if_neg (by omega)]
      exact ent l 2 2 (nI fa) hl (Or.inr rfl) rfl el
    · rw [if_neg e2, lin, if_pos hd, if_neg (by omega), kc, if_neg (nb (plBy.lit hl))]
      by_cases e0 : S = 0
      · subst e0
        rw [if_pos rfl]
        exact ent l 1 _ (nI fa) hl (Or.inl rfl) (by rw [r1]; rfl) el
      · rw [if_neg e0]
        obtain rfl : S = 1 := by omega
        exact ent l 2 _ (nI fa) hl (Or.inr rfl) (by rw [r1]; rfl) el
  · rw [if_pos (hz0.mpr hd)]
    by_cases e2 : S = 2
    · subst e2
      rw [if_pos rfl, lrp, if_neg (by omega), if_neg (by omega), kc]
      have hsp : 0 < s := by
        rcases Nat.eq_zero_or_pos s with rfl | hp
        · exact absurd (by rw [show (nI 0 : Int32) = 0 from rfl] at es; rw [← plx_flip] at es; rw [← es, Int32.xor_zero]) hd
        · exact hp
      rw [plmCR s hs hsp]
      unfold K_RM_mend K_RM_mend_5X K_RM_mend_85
      rw [mf, es]
      by_cases e9 : plmR (nI s) = 9
      · rw [e9]
        show plStr (if (-1 : Int32) = -1 then _ else _) (if 0 ≤ (-1 : Int32) then _ else _) B
        rw [if_pos rfl, if_neg (by omega), if_neg (by decide)]
        exact hunt2
      · have hby := plmA_by (plBy.lit hl) (k := plmR (nI s)) (by have := plmR_le s hs; omega)
        rw [if_neg hby.nm, if_neg (by omega), if_pos hby.ge]
        obtain ⟨z, hz, ez⟩ := hby
        rw [ez]
        have e : K_RM_enter (plUp r 0 50 (-1)) (nI z) = plUp (plUp (plUp (plUp r 0 50 (-1)) 0 51 (nI z)) 0 52 (nI z)) 0 53 0 := rfl
        refine plStr_enter h0 hz (Or.inr rfl) rfl ?_ ?_ ?_ ?_ ?_ ?_ ?_ ?_ (fun k => ?_) <;> rw [e] <;> simp [plUp_ap, a3]
    · rw [if_neg e2, lin, if_neg hd, kc, if_pos rfl]
      by_cases e0 : S = 0
      · rw [if_pos e0, if_pos e0]
        refine ⟨S, L, D, G, a1, ?_, ?_, Or.inr ⟨?_, ?_, ?_⟩, a5, a6, ?_, ?_, ?_, a10, fun q => absurd q e2, ?_, ?_, ?_, ?_, a16, ?_, ?_⟩
        · simp [plUp_ap, a2]
        · simp [plUp_ap, a3]
        · simp only [plUp_ap]
          rw [if_neg (by omega)]
          exact hh
        · simp [plUp_ap]; exact plBy.lit hbb
        · simp [plUp_ap]
        · simp [plUp_ap, a7]
        · simp [plUp_ap, a8]
        · simp [plUp_ap, a9]
        · simp [plUp_ap, a12]
        · simp [plUp_ap, a13]
        · simp [plUp_ap, a14]
        · simp [plUp_ap, a15]
        · simp [plUp_ap, a17]
        · exact a18.ext (fun k => by simp [plUp_ap]) (fun k => by simp [plUp_ap]) (fun k => by simp [plUp_ap])
      · rw [if_neg e0, if_neg e0]
        obtain rfl : S = 1 := by omega
        rw [if_pos rfl]
        exact hunt2
