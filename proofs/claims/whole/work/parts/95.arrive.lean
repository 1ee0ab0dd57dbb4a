/-! what comes in on a line: the reference up to align -/
theorem plSubLt {n d : Nat} (hn : n < 2 ^ 28) (hd : d < 2 ^ 28) : nI n - nI d < 1 ↔ n ≤ d := by
  rw [Int32.lt_iff_toInt_lt, pk_sub_toInt (by omega) (by omega), show (1 : Int32).toInt = 1 from rfl]
  omega
theorem plArrR {r : plS} {l n d : Nat} (hl : l < 2) (hn : n < 2 ^ 28) (hT : r 0 3 = nI n) (hd1 : 1 ≤ d) (hd4 : d ≤ 4) (hd : r 1 l = nI d) (h11 : plB (r 11 l)) {m : Int32} (hm : m = if r 8 l = 0 ∧ d < n then 1 else 0) : ∃ r4 : plS, (∀ i k, r4 i k = if i = 10 ∧ 12 * l ≤ k ∧ k < 12 * l + 12 then (if m = 0 then 0 else r 4 (12 * (8 * l + (n - d) % 8) + (k - 12 * l)) ^^^ r 9 k) else if i = 9 ∧ 12 * l ≤ k ∧ k < 12 * l + 12 then 0 else if i = 11 ∧ k = l then m else if i = 13 ∧ k = l then plXor (fun p => r 10 (12 * l + p)) 12 else if i = 12 ∧ k = l then r 11 l else r i k) ∧ (P_RM_align r4 (nI l) ∧ P_RM_arrive_2L183 (K_RM_align r4 (nI l)) (nI l) → P_RM_arrive_2L r (nI l)) ∧ K_RM_arrive_2L r (nI l) = K_RM_arrive_2L183 (K_RM_align r4 (nI l)) (nI l) := by
  have vl : vp_in (nI l) 2 := vp_in_nI hl (by omega)
  have xl : plIx (nI l) = l := plIx_nI (by omega)
  have n2 : ¬ 2 ≤ nI l := by rw [show (2 : Int32) = nI 2 from rfl, nI_leI (by omega) (by omega)]; omega
  have m12 : ∀ j, (12 : Int32) * nI l + nI j = nI (12 * l + j) := fun j => by rw [show (12 : Int32) = nI 12 from rfl, pk_mul, nI_add]
  obtain ⟨r1, hr1⟩ : ∃ r1, r1 = plUp (plUp r 12 l (r 11 l)) 13 l 0 := ⟨_, rfl⟩
  have e1 : ∀ i k, r1 i k = if i = 13 ∧ k = l then 0 else if i = 12 ∧ k = l then r 11 l else r i k := fun i k => by rw [hr1, plUp_ap, plUp_ap]
  obtain ⟨a1, r2, a2, a3⟩ := plL1 (G_RM_arrive_2L28 (nI l)) (F_RM_arrive_2L28 (nI l)) (fun q x => ∃ r2, x = (r2, nI q) ∧ ∀ i k, r2 i k = if i = 13 ∧ k = l then plXor (fun p => r 10 (12 * l + p)) q else r1 i k) 12 (by
    rintro q _ hq ⟨r2, rfl, hI⟩
    have e10 : r2 10 (12 * l + q) = r 10 (12 * l + q) := by rw [hI, if_neg (by omega), e1, if_neg (by omega), if_neg (by omega)]
    have kf : F_RM_arrive_2L28 (nI l) (r2, nI q) = (true, (plUp r2 13 l (r2 13 l ^^^ r 10 (12 * l + q)), nI (q + 1))) := by
      show K_RM_arrive_2L28L r2 (nI l) (nI q) = _
      unfold K_RM_arrive_2L28L
      rw [if_neg (plN12 hq), m12, xl, plIx_nI (by omega), nI_1, e10]
    refine ⟨fun _ => ⟨vl, ?_, vl⟩, by rw [kf], plUp r2 13 l (r2 13 l ^^^ r 10 (12 * l + q)), by rw [kf], fun i k => ?_⟩
    · show vp_in (12 * nI l + nI q) 24
      rw [m12]; exact vp_in_nI (by omega) (by omega)
    · rw [plUp_ap]
      by_cases e : i = 13 ∧ k = l
      · rw [if_pos e, if_pos e, hI, if_pos ⟨rfl, rfl⟩]; rfl
      · rw [if_neg e, if_neg e, hI, if_neg e]) (by
    rintro _ ⟨r2, rfl, hI⟩
    refine ⟨fun w => absurd plE12 w, ?_⟩
    show K_RM_arrive_2L28L r2 (nI l) (nI 12) = _
    unfold K_RM_arrive_2L28L
    rw [if_pos plE12]) 64 0 (r1, nI 0) (by omega) (by omega) ⟨r1, rfl, fun i k => by
      by_cases e : i = 13 ∧ k = l
      · rw [if_pos e, e1, if_pos e]; rfl
      · rw [if_neg e]⟩
  have e2 : ∀ i k, r2 i k = if i = 13 ∧ k = l then plXor (fun p => r 10 (12 * l + p)) 12 else if i = 12 ∧ k = l then r 11 l else r i k := fun i k => by
    rw [a3, e1]
    by_cases e : i = 13 ∧ k = l
    · rw [if_pos e, if_pos e]
    · rw [if_neg e, if_neg e, if_neg e]
  have r28 : r2 8 l = r 8 l := by rw [e2, if_neg (by omega), if_neg (by omega)]
  have r23 : r2 0 3 - r2 1 l = nI n - nI d := by rw [e2 0 3, if_neg (by omega), if_neg (by omega), e2 1 l, if_neg (by omega), if_neg (by omega), hT, hd]
  have cond : nI n - nI d < 1 ↔ n ≤ d := plSubLt (by omega) (by omega)
  have hmB : plB m := by rw [hm]; split; exact Or.inr rfl; exact Or.inl rfl
  have hm0 : ¬ m = 0 → d < n := fun y => by
    by_cases z : r 8 l = 0 ∧ d < n
    · exact z.2
    · rw [if_neg z] at hm; exact absurd hm y
  have kx : K_RM_arrive_2L28X (nI l) (r2, nI 12) = K_RM_arrive_2L100 r2 (nI l) (nI n - nI d) m (nI l) := by
    unfold K_RM_arrive_2L28X K_RM_arrive_2L99
    simp only [xl, r28, r23, cond]
    by_cases z1 : r 8 l = 0
    · rw [if_pos z1]
      by_cases z2 : n ≤ d
      · rw [if_pos z2, hm, if_neg (by omega)]
      · rw [if_neg z2, hm, if_pos ⟨z1, by omega⟩]
    · rw [if_neg z1, hm, if_neg (fun y => z1 y.1)]
  have px : P_RM_arrive_2L100 r2 (nI l) (nI n - nI d) m (nI l) → P_RM_arrive_2L28X (nI l) (r2, nI 12) := fun p => by
    unfold P_RM_arrive_2L28X P_RM_arrive_2L99
    simp only [xl, r28, r23, cond]
    refine ⟨vl, vl, fun z1 => ⟨fun z2 => ?_, fun z2 => ?_⟩, fun z1 => ?_⟩
    · rw [hm, if_neg (by omega)] at p; exact p
    · rw [hm, if_pos ⟨z1, by omega⟩] at p; exact p
    · rw [hm, if_neg (fun y => z1 y.1)] at p; exact p
  obtain ⟨r3, hr3⟩ : ∃ r3, r3 = plUp r2 11 l m := ⟨_, rfl⟩
  have e3 : ∀ i k, r3 i k = if i = 11 ∧ k = l then m else r2 i k := fun i k => by rw [hr3, plUp_ap]
  obtain ⟨b1, r4, b2, b3⟩ := plL1 (G_RM_arrive_2L103 (nI l) (nI n - nI d)) (F_RM_arrive_2L103 (nI l) (nI n - nI d)) (fun q x => ∃ r4, x = (r4, nI q) ∧ ∀ i k, r4 i k = if i = 10 ∧ 12 * l ≤ k ∧ k < 12 * l + q then (if m = 0 then 0 else r 4 (12 * (8 * l + (n - d) % 8) + (k - 12 * l)) ^^^ r 9 k) else if i = 9 ∧ 12 * l ≤ k ∧ k < 12 * l + q then 0 else r3 i k) 12 (by
    rintro q _ hq ⟨r4, rfl, hI⟩
    have e11 : r4 11 l = m := by rw [hI, if_neg (by omega), if_neg (by omega), e3, if_pos ⟨rfl, rfl⟩]
    have e9 : r4 9 (12 * l + q) = r 9 (12 * l + q) := by rw [hI, if_neg (by omega), if_neg (by omega), e3, if_neg (by omega), e2, if_neg (by omega), if_neg (by omega)]
    have e4 : ∀ k, r4 4 k = r 4 k := fun k => by rw [hI, if_neg (by omega), if_neg (by omega), e3, if_neg (by omega), e2, if_neg (by omega), if_neg (by omega)]
    have v24 : vp_in (12 * nI l + nI q) 24 := by rw [m12]; exact vp_in_nI (by omega) (by omega)
    have m4 : ¬ m = 0 → (12 : Int32) * (8 * nI l + ((nI n - nI d) &&& 7)) + nI q = nI (12 * (8 * l + (n - d) % 8) + q) := fun y => by
      rw [pk_sub (by have := hm0 y; omega), plAnd7 (by omega), show (8 : Int32) = nI 8 from rfl, show (12 : Int32) = nI 12 from rfl, pk_mul, nI_add, pk_mul, nI_add]
    have kf : F_RM_arrive_2L103 (nI l) (nI n - nI d) (r4, nI q) = (true, (plUp (plUp r4 10 (12 * l + q) (if m = 0 then 0 else r 4 (12 * (8 * l + (n - d) % 8) + q) ^^^ r 9 (12 * l + q))) 9 (12 * l + q) 0, nI (q + 1))) := by
      show K_RM_arrive_2L103L r4 (nI l) (nI n - nI d) (nI q) = _
      unfold K_RM_arrive_2L103L K_RM_arrive_2L103L163 K_RM_arrive_2L103L164
      rw [if_neg (plN12 hq), m12, xl, plIx_nI (by omega), nI_1, e11, e9]
      by_cases y : m = 0
      · rw [if_pos y, if_pos y]
      · rw [if_neg y, if_neg y, m4 y, plIx_nI (by omega), e4]
    refine ⟨fun _ => ⟨vl, fun _ => ⟨v24, v24⟩, fun y => ⟨?_, v24, v24, v24⟩⟩, by rw [kf], _, by rw [kf], fun i k => ?_⟩
    · have y' : ¬ m = 0 := by rw [← e11]; rw [show (r4, nI q).1 11 (plIx (nI l)) = r4 11 l by rw [xl]] at y; exact y
      show vp_in (12 * (8 * nI l + ((nI n - nI d) &&& 7)) + nI q) 192
      rw [m4 y']
      exact vp_in_nI (by omega) (by omega)
    · rw [plUp_ap, plUp_ap, hI i k]
      by_cases A : i = 9 ∧ k = 12 * l + q
      · rw [if_pos A, if_neg (show ¬ (i = 10 ∧ 12 * l ≤ k ∧ k < 12 * l + (q + 1)) by omega), if_pos (show i = 9 ∧ 12 * l ≤ k ∧ k < 12 * l + (q + 1) by omega)]
      · by_cases B : i = 10 ∧ k = 12 * l + q
        · rw [if_neg A, if_pos B, if_pos (show i = 10 ∧ 12 * l ≤ k ∧ k < 12 * l + (q + 1) by omega), show k - 12 * l = q by omega, B.2]
        · by_cases C : i = 10 ∧ 12 * l ≤ k ∧ k < 12 * l + q
          · rw [if_neg A, if_neg B, if_pos C, if_pos (show i = 10 ∧ 12 * l ≤ k ∧ k < 12 * l + (q + 1) by omega)]
          · by_cases D : i = 9 ∧ 12 * l ≤ k ∧ k < 12 * l + q
            · rw [if_neg A, if_neg B, if_neg C, if_pos D, if_neg (show ¬ (i = 10 ∧ 12 * l ≤ k ∧ k < 12 * l + (q + 1)) by omega), if_pos (show i = 9 ∧ 12 * l ≤ k ∧ k < 12 * l + (q + 1) by omega)]
            · rw [if_neg A, if_neg B, if_neg C, if_neg D, if_neg (show ¬ (i = 10 ∧ 12 * l ≤ k ∧ k < 12 * l + (q + 1)) by omega), if_neg (show ¬ (i = 9 ∧ 12 * l ≤ k ∧ k < 12 * l + (q + 1)) by omega)]) (by
    rintro _ ⟨r4, rfl, hI⟩
    refine ⟨fun w => absurd plE12 w, ?_⟩
    show K_RM_arrive_2L103L r4 (nI l) _ (nI 12) = _
    unfold K_RM_arrive_2L103L
    rw [if_pos plE12]) 64 0 (r3, nI 0) (by omega) (by omega) ⟨r3, rfl, fun i k => by rw [if_neg (by omega), if_neg (by omega)]⟩
  refine ⟨r4, fun i k => ?_, fun p => ?_, ?_⟩
  · rw [b3, e3, e2]
  · unfold P_RM_arrive_2L
    intro _
    rw [xl]
    refine ⟨vl, ⟨h11, vl⟩, ?_⟩
    unfold P_RM_arrive_2L19
    rw [xl, ← hr1]
    refine ⟨vl, a1, ?_⟩
    rw [show lpR (F_RM_arrive_2L28 (nI l)) 64 (r1, 0) = (r2, nI 12) from a2]
    apply px
    unfold P_RM_arrive_2L100
    rw [xl, ← hr3]
    refine ⟨⟨hmB, vl⟩, b1, ?_⟩
    rw [show lpR (F_RM_arrive_2L103 (nI l) (nI n - nI d)) 64 (r3, 0) = (r4, nI 12) from b2]
    exact p
  · unfold K_RM_arrive_2L
    rw [if_neg n2, xl]
    unfold K_RM_arrive_2L19
    rw [xl, ← hr1, show lpR (F_RM_arrive_2L28 (nI l)) 64 (r1, 0) = (r2, nI 12) from a2, kx]
    unfold K_RM_arrive_2L100
    rw [xl, ← hr3, show lpR (F_RM_arrive_2L103 (nI l) (nI n - nI d)) 64 (r3, 0) = (r4, nI 12) from b2]
    rfl
