def plChk (f : Nat → Int32) : Nat → Int32
  | 0 => 255
  | k + 1 => K_CO_hash (plChk f k ^^^ f k)
theorem plChk_ext {f g : Nat → Int32} : ∀ n, (∀ i, i < n → f i = g i) → plChk f n = plChk g n := by
  intro n
  induction n with
  | zero => intro _; rfl
  | succ n ih =>
    intro h
    show K_CO_hash (plChk f n ^^^ f n) = K_CO_hash (plChk g n ^^^ g n)
    rw [ih (fun i hi => h i (by omega)), h n (by omega)]
theorem plfin_chk (st : plS) {L : Nat} (hL : 1 ≤ L) (hL2 : L < 256) (h52 : st 0 52 = nI L) : lpP (G_RM_finish_6 st) (F_RM_finish_6 st) 64 (255, 0) ∧ (lpR (F_RM_finish_6 st) 64 (255, 0)).1 = plChk (st 17) (min (L - 1) 6) := by
  have h := plL1 (G_RM_finish_6 st) (F_RM_finish_6 st) (fun k c => c.2 = nI k ∧ c.1 = plChk (st 17) k) (min (L - 1) 6) (fun k c hk hI => ?_) (fun c hI => ?_) 64 0 (255, 0) (by omega) (by omega) ⟨rfl, rfl⟩
  · exact ⟨h.1, h.2.2⟩
  · obtain ⟨h2, h1⟩ := hI
    have e1 : ¬ st 0 52 ≤ c.2 + 1 := by rw [h52, h2, nI_1]; exact nI_ge (by omega) (by omega)
    have e2 : ¬ (6 : Int32) ≤ c.2 := by rw [h2]; exact nI_ge (b := 6) (by omega) (by omega)
    refine ⟨?_, ?_⟩
    · unfold G_RM_finish_6 P_RM_finish_6L
      exact fun _ _ => ⟨by rw [h2]; exact vp_in_nI (by omega) (by omega), plH_P2 _⟩
    · unfold F_RM_finish_6 K_RM_finish_6L
      rw [if_neg e1, if_neg e2]
      refine ⟨rfl, by show c.2 + 1 = _; rw [h2, nI_1], ?_⟩
      show K_RM_hash (c.1 ^^^ st 17 (plIx c.2)) = K_CO_hash (plChk (st 17) k ^^^ st 17 k)
      rw [h1, h2, plIx_nI (by omega), plH_eq]
  · obtain ⟨h2, h1⟩ := hI
    by_cases e1 : st 0 52 ≤ c.2 + 1
    · refine ⟨?_, ?_⟩
      · unfold G_RM_finish_6 P_RM_finish_6L
        exact fun h => absurd e1 h
      · unfold F_RM_finish_6 K_RM_finish_6L
        rw [if_pos e1]
    · have e2 : (6 : Int32) ≤ c.2 := by
        rw [h52, h2, nI_1, nI_leI (by omega) (by omega)] at e1
        rw [h2]
        exact nI_le (a := 6) (by omega) (by omega)
      refine ⟨?_, ?_⟩
      · unfold G_RM_finish_6 P_RM_finish_6L
        exact fun _ h => absurd e2 h
      · unfold F_RM_finish_6 K_RM_finish_6L
        rw [if_neg e1, if_pos e2]
theorem plfin_shift (st : plS) : lpP G_RM_finish_96 F_RM_finish_96 64 (st, 55) ∧ (∀ q, (lpR F_RM_finish_96 64 (st, 55)).1 18 q = if 7 ≤ q ∧ q ≤ 55 then st 18 (q - 7) else st 18 q) := by
  have h := plL1 G_RM_finish_96 F_RM_finish_96 (fun k c => c.2 = nI (55 - k) ∧ ∀ q, c.1 18 q = if 55 - k < q ∧ q ≤ 55 then st 18 (q - 7) else st 18 q) 49 (fun k c hk hI => ?_) (fun c hI => ?_) 64 0 (st, 55) (by omega) (by omega) ⟨rfl, fun q => by rw [if_neg (by omega)]⟩
  · refine ⟨h.1, fun q => ?_⟩
    rw [h.2.2 q]
    by_cases e : 7 ≤ q ∧ q ≤ 55
    · rw [if_pos (by omega), if_pos e]
    · rw [if_neg (by omega), if_neg e]
  · obtain ⟨h2, h1⟩ := hI
    have e1 : ¬ c.2 < 7 := by rw [h2]; exact nI_nlt (b := 7) (by omega) (by omega)
    have e7 : c.2 - 7 = nI (48 - k) := by rw [h2, show (7 : Int32) = nI 7 from rfl, pk_sub (by omega)]; congr 1; omega
    refine ⟨?_, ?_⟩
    · unfold G_RM_finish_96 P_RM_finish_96L
      refine fun _ => ⟨?_, ?_⟩
      · rw [e7]; exact vp_in_nI (by omega) (by omega)
      · rw [h2]; exact vp_in_nI (by omega) (by omega)
    · unfold F_RM_finish_96 K_RM_finish_96L
      rw [if_neg e1]
      refine ⟨rfl, ?_, fun q => ?_⟩
      · show c.2 + (-1) = _
        rw [h2, show 55 - k = (55 - (k + 1)) + 1 by omega, pk_m1]
      · show plUp c.1 18 (plIx c.2) (c.1 18 (plIx (c.2 - 7))) 18 q = _
        rw [plUp_ap, e7, h2, plIx_nI (by omega), plIx_nI (by omega)]
        by_cases hq : q = 55 - k
        · rw [if_pos ⟨rfl, hq⟩, h1, if_neg (by omega), if_pos (by omega)]
          congr 1; omega
        · rw [if_neg (fun h => hq h.2), h1]
          by_cases hz : 55 - k < q ∧ q ≤ 55
          · rw [if_pos hz, if_pos (by omega)]
          · rw [if_neg hz, if_neg (by omega)]
  · obtain ⟨h2, h1⟩ := hI
    have e1 : c.2 < 7 := by rw [h2]; exact nI_lt (b := 7) (by omega) (by omega)
    refine ⟨?_, ?_⟩
    · unfold G_RM_finish_96 P_RM_finish_96L
      exact fun h => absurd e1 h
    · unfold F_RM_finish_96 K_RM_finish_96L
      rw [if_pos e1]
theorem plfin_copy (st : plS) {L : Nat} (h1L : 2 ≤ L) (h2L : L ≤ 7) (h52 : st 0 52 = nI L) : lpP G_RM_finish_137 F_RM_finish_137 64 (st, 0) ∧ (∀ q, (lpR F_RM_finish_137 64 (st, 0)).1 18 q = if 1 ≤ q ∧ q ≤ L - 1 then st 17 (q - 1) else st 18 q) := by
  have h := plL1 G_RM_finish_137 F_RM_finish_137 (fun k c => c.2 = nI k ∧ (∀ i q, ¬ i = 18 → c.1 i q = st i q) ∧ ∀ q, c.1 18 q = if 1 ≤ q ∧ q ≤ k then st 17 (q - 1) else st 18 q) (L - 1) (fun k c hk hI => ?_) (fun c hI => ?_) 64 0 (st, 0) (by omega) (by omega) ⟨rfl, fun i q _ => rfl, fun q => by rw [if_neg (by omega)]⟩
  · exact ⟨h.1, h.2.2.2⟩
  · obtain ⟨h2, hf, h1⟩ := hI
    have eL : c.1 0 52 - 1 = nI (L - 1) := by rw [hf 0 52 (by omega), h52, show (1 : Int32) = nI 1 from rfl, pk_sub (by omega)]
    have e1 : ¬ c.1 0 52 - 1 ≤ c.2 := by rw [eL, h2]; exact nI_ge (by omega) (by omega)
    have e3 : 1 + c.2 = nI (1 + k) := by rw [h2, show (1 : Int32) = nI 1 from rfl, nI_add]
    refine ⟨?_, ?_⟩
    · unfold G_RM_finish_137 P_RM_finish_137L
      refine fun _ => ⟨?_, ?_⟩
      · rw [h2]; exact vp_in_nI (by omega) (by omega)
      · rw [e3]; exact vp_in_nI (by omega) (by omega)
    · unfold F_RM_finish_137 K_RM_finish_137L
      rw [if_neg e1]
      refine ⟨rfl, by show c.2 + 1 = _; rw [h2, nI_1], fun i q hi => ?_, fun q => ?_⟩
      · show plUp c.1 18 _ _ i q = _
        rw [plUp_ap, if_neg (fun h => hi h.1), hf i q hi]
      · show plUp c.1 18 (plIx (1 + c.2)) (c.1 17 (plIx c.2)) 18 q = _
        rw [plUp_ap, e3, h2, plIx_nI (by omega), plIx_nI (by omega), hf 17 k (by omega)]
        by_cases hq : q = 1 + k
        · rw [if_pos ⟨rfl, hq⟩, if_pos (by omega)]
          congr 1; omega
        · rw [if_neg (fun h => hq h.2), h1]
          by_cases hz : 1 ≤ q ∧ q ≤ k
          · rw [if_pos hz, if_pos (by omega)]
          · rw [if_neg hz, if_neg (by omega)]
  · obtain ⟨h2, hf, h1⟩ := hI
    have eL : c.1 0 52 - 1 = nI (L - 1) := by rw [hf 0 52 (by omega), h52, show (1 : Int32) = nI 1 from rfl, pk_sub (by omega)]
    have e1 : c.1 0 52 - 1 ≤ c.2 := by rw [eL, h2]; exact nI_le (by omega) (by omega)
    refine ⟨?_, ?_⟩
    · unfold G_RM_finish_137 P_RM_finish_137L
      exact fun h => absurd e1 h
    · unfold F_RM_finish_137 K_RM_finish_137L
      rw [if_pos e1]
theorem plfin_bad (st : plS) {L : Nat} (hL : 1 ≤ L) (hL2 : L < 256) (h52 : st 0 52 = nI L) (h : ¬ (2 ≤ L ∧ L ≤ 7 ∧ st 17 (L - 1) = plChk (st 17) (L - 1))) : P_RM_finish st ∧ K_RM_finish st = plUp st 0 57 (st 0 57 + 1) := by
  obtain ⟨hp, hc⟩ := plfin_chk st hL hL2 h52
  have h76 : P_RM_finish_76 st := fun q => absurd rfl q
  have k76 : K_RM_finish_76 st = plUp st 0 57 (st 0 57 + 1) := rfl
  unfold P_RM_finish K_RM_finish P_RM_finish_6X K_RM_finish_6X
  rw [hc]
  unfold P_RM_finish_40 K_RM_finish_40
  by_cases h1 : st 0 52 < 2
  · rw [if_pos h1]
    exact ⟨⟨hp, fun _ => h76, fun q => absurd h1 q⟩, k76⟩
  · rw [if_neg h1]
    by_cases h2 : 7 < st 0 52
    · rw [if_pos h2]
      exact ⟨⟨hp, fun q => absurd q h1, fun _ => ⟨fun _ => h76, fun q => absurd h2 q⟩⟩, k76⟩
    · rw [if_neg h2]
      rw [h52, show (2 : Int32) = nI 2 from rfl, nI_ltI (by omega) (by omega)] at h1
      rw [h52, show (7 : Int32) = nI 7 from rfl, nI_ltI (by omega) (by omega)] at h2
      have eL : st 0 52 - 1 = nI (L - 1) := by rw [h52, show (1 : Int32) = nI 1 from rfl, pk_sub (by omega)]
      have em : min (L - 1) 6 = L - 1 := by omega
      rw [em]
      have e3 : ¬ st 17 (plIx (st 0 52 - 1)) = plChk (st 17) (L - 1) := by
        rw [eL, plIx_nI (by omega)]
        exact fun q => h ⟨by omega, by omega, q⟩
      rw [if_neg e3]
      refine ⟨⟨hp, fun _ => h76, fun _ => ⟨fun _ => h76, fun _ => ⟨?_, fun q => absurd q e3, fun _ => h76⟩⟩⟩, k76⟩
      rw [eL]; exact vp_in_nI (by omega) (by omega)
theorem plfin_good (st : plS) {L : Nat} (hL : 2 ≤ L) (hL2 : L ≤ 7) (h52 : st 0 52 = nI L) (h : st 17 (L - 1) = plChk (st 17) (L - 1)) : P_RM_finish st ∧ K_RM_finish st 0 56 = st 0 56 + 1 ∧ (∀ q, K_RM_finish st 18 q = if q = 0 then nI (L - 1) else if q ≤ L - 1 then st 17 (q - 1) else if 7 ≤ q ∧ q ≤ 55 then st 18 (q - 7) else st 18 q) ∧ ∀ i k, ¬ i = 18 → ¬ (i = 0 ∧ k = 56) → K_RM_finish st i k = st i k := by
  obtain ⟨hp, hc⟩ := plfin_chk st (by omega) (by omega) h52
  have em : min (L - 1) 6 = L - 1 := by omega
  rw [em] at hc
  have eL : st 0 52 - 1 = nI (L - 1) := by rw [h52, show (1 : Int32) = nI 1 from rfl, pk_sub (by omega)]
  have h1 : ¬ st 0 52 < 2 := by rw [h52]; exact nI_nlt (b := 2) (by omega) (by omega)
  have h2 : ¬ 7 < st 0 52 := by rw [h52]; exact nI_nlt (a := 7) (by omega) (by omega)
  have e3 : st 17 (plIx (st 0 52 - 1)) = plChk (st 17) (L - 1) := by rw [eL, plIx_nI (by omega)]; exact h
  obtain ⟨hs1, hs2⟩ := plfin_shift st
  have f1 : ∀ i k, ¬ i = 18 → (lpR F_RM_finish_96 64 (st, 55)).1 i k = st i k := fun i k hi => frL_F_RM_finish_96 64 (st, 55) i k hi
  have f2 : ∀ i k, ¬ i = 18 → plUp (lpR F_RM_finish_96 64 (st, 55)).1 18 (plIx 0) ((lpR F_RM_finish_96 64 (st, 55)).1 0 52 - 1) i k = st i k := fun i k hi => by rw [plUp_ap, if_neg (fun q => hi q.1), f1 i k hi]
  obtain ⟨hc1, hc2⟩ := plfin_copy (plUp (lpR F_RM_finish_96 64 (st, 55)).1 18 (plIx 0) ((lpR F_RM_finish_96 64 (st, 55)).1 0 52 - 1)) hL hL2 (by rw [f2 0 52 (by omega)]; exact h52)
  have f3 : ∀ i k, ¬ i = 18 → (lpR F_RM_finish_137 64 (plUp (lpR F_RM_finish_96 64 (st, 55)).1 18 (plIx 0) ((lpR F_RM_finish_96 64 (st, 55)).1 0 52 - 1), 0)).1 i k = st i k := fun i k hi => by rw [frL_F_RM_finish_137 64 _ i k hi]; exact f2 i k hi
  have hk : K_RM_finish st = plUp (lpR F_RM_finish_137 64 (plUp (lpR F_RM_finish_96 64 (st, 55)).1 18 (plIx 0) ((lpR F_RM_finish_96 64 (st, 55)).1 0 52 - 1), 0)).1 0 56 ((lpR F_RM_finish_137 64 (plUp (lpR F_RM_finish_96 64 (st, 55)).1 18 (plIx 0) ((lpR F_RM_finish_96 64 (st, 55)).1 0 52 - 1), 0)).1 0 56 + 1) := by
    unfold K_RM_finish K_RM_finish_6X K_RM_finish_40
    rw [hc, if_neg h1, if_neg h2, if_pos e3]
    unfold K_RM_finish_77
    rw [if_neg (by decide)]
    rfl
  refine ⟨?_, ?_, fun q => ?_, fun i k hi hk2 => ?_⟩
  · unfold P_RM_finish P_RM_finish_6X P_RM_finish_40
    rw [hc]
    refine ⟨hp, fun q => absurd q h1, fun _ => ⟨fun q => absurd q h2, fun _ => ⟨?_, fun _ => fun _ => ⟨hs1, hc1⟩, fun q => absurd e3 q⟩⟩⟩
    rw [eL]; exact vp_in_nI (by omega) (by omega)
  · rw [hk, plUp_ap, if_pos ⟨rfl, rfl⟩, f3 0 56 (by omega)]
  · rw [hk, plUp_ap, if_neg (by omega), hc2 q]
    by_cases hq0 : q = 0
    · subst hq0
      rw [if_neg (by omega), if_pos rfl, plUp_ap, if_pos ⟨rfl, rfl⟩, f1 0 52 (by omega), eL]
    · rw [if_neg hq0]
      by_cases hq1 : q ≤ L - 1
      · rw [if_pos (by omega), if_pos hq1, f2 17 (q - 1) (by omega)]
      · rw [if_neg (by omega), if_neg hq1, plUp_ap, if_neg (fun z => hq0 z.2), hs2 q]
  · rw [hk, plUp_ap, if_neg hk2, f3 i k hi]
