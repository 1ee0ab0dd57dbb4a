/-! loops that write a row, loops that join bytes -/
def plXor (g : Nat → Int32) : Nat → Int32
  | 0 => 0
  | k + 1 => plXor g k ^^^ g k
theorem plXor_ext {g g' : Nat → Int32} (N : Nat) (h : ∀ k, k < N → g k = g' k) : plXor g N = plXor g' N := by
  induction N with
  | zero => rfl
  | succ n ih =>
    show plXor g n ^^^ g n = plXor g' n ^^^ g' n
    rw [ih (fun k hk => h k (by omega)), h n (by omega)]
theorem plXor_by {g : Nat → Int32} (N : Nat) (h : ∀ k, k < N → plBy (g k)) : plBy (plXor g N) := by
  induction N with
  | zero => exact ⟨0, by omega, rfl⟩
  | succ n ih => exact (ih (fun k hk => h k (by omega))).xor (h n (by omega))
theorem plWr (f : plS × Int32 → Bool × (plS × Int32)) (p : plS × Int32 → Prop) (ρ o : Nat) (val : Nat → Int32) (st : plS) (a N : Nat) (ha : a ≤ N) (hN : N - a < 64) (step : ∀ st' j, a ≤ j → j < N → (∀ i k, ¬ (i = ρ ∧ o + a ≤ k ∧ k < o + j) → st' i k = st i k) → p (st', nI j) ∧ f (st', nI j) = (true, (plUp st' ρ (o + j) (val j), nI (j + 1)))) (stop : ∀ st', p (st', nI N) ∧ f (st', nI N) = (false, (st', nI N))) : lpP p f 64 (st, nI a) ∧ ∃ st', lpR f 64 (st, nI a) = (st', nI N) ∧ ∀ i k, st' i k = if i = ρ ∧ o + a ≤ k ∧ k < o + N then val (k - o) else st i k := by
  obtain ⟨h1, st', h2, h3⟩ := plL1 p f (fun q c => ∃ st', c = (st', nI (a + q)) ∧ ∀ i k, st' i k = if i = ρ ∧ o + a ≤ k ∧ k < o + (a + q) then val (k - o) else st i k) (N - a) (by
    rintro q _ hq ⟨st', rfl, hI⟩
    obtain ⟨s1, s2⟩ := step st' (a + q) (by omega) (by omega) (fun i k hn => by rw [hI, if_neg hn])
    refine ⟨s1, by rw [s2], plUp st' ρ (o + (a + q)) (val (a + q)), by rw [s2]; rfl, fun i k => ?_⟩
    rw [plUp_ap, hI]
    by_cases e : i = ρ ∧ k = o + (a + q)
    · rw [if_pos e, if_pos ⟨e.1, by omega, by omega⟩, show k - o = a + q by omega]
    · rw [if_neg e]
      by_cases e2 : i = ρ ∧ o + a ≤ k ∧ k < o + (a + q)
      · rw [if_pos e2, if_pos ⟨e2.1, by omega, by omega⟩]
      · rw [if_neg e2, if_neg (by omega)]) (by
    rintro _ ⟨st', rfl, hI⟩
    rw [show a + (N - a) = N by omega]
    exact stop st') 64 0 (st, nI a) (by omega) (by omega) ⟨st, rfl, fun i k => by rw [if_neg (by omega)]⟩
  rw [show a + (N - a) = N by omega] at h2 h3
  exact ⟨h1, st', h2, h3⟩
theorem plXl (f : Int32 × Int32 → Bool × (Int32 × Int32)) (p : Int32 × Int32 → Prop) (g : Nat → Int32) (N : Nat) (hN : N < 64) (step : ∀ x j, j < N → p (x, nI j) ∧ f (x, nI j) = (true, (x ^^^ g j, nI (j + 1)))) (stop : ∀ x, p (x, nI N) ∧ f (x, nI N) = (false, (x, nI N))) : lpP p f 64 (0, 0) ∧ lpR f 64 (0, 0) = (plXor g N, nI N) := by
  have h := plL1 p f (fun q c => c = (plXor g q, nI q)) N (by
    rintro q _ hq rfl
    obtain ⟨s1, s2⟩ := step (plXor g q) q hq
    exact ⟨s1, by rw [s2], by rw [s2]; rfl⟩) (by
    rintro _ rfl
    exact stop _) 64 0 (0, 0) (by omega) (by omega) rfl
  exact h
theorem plAnd7 {n : Nat} (h : n < 2 ^ 31) : nI n &&& 7 = nI (n % 8) := pk_andN (by omega) 3 rfl
theorem plN12 {j : Nat} (h : j < 12) : ¬ 12 ≤ nI j := by rw [show (12 : Int32) = nI 12 from rfl, nI_leI (by omega) (by omega)]; omega
theorem plE12 : 12 ≤ nI 12 := by decide
/-! what the reference puts on a line -/
def plPutB (r : plS) (l n p : Nat) : Int32 := if p = 2 then (if n = 1 then 0 else plXor (fun p => r 4 (12 * (8 * l + (n - 1) % 8) + p)) 12) else if p = 3 then (if l = 0 then 0 else 16 * r 0 17 + (if r 0 16 = 0 then 0 else 1)) else if l = 1 ∧ 4 ≤ p ∧ r 0 16 = 0 then 255 else r 7 p
theorem plPutR {r : plS} {l n : Nat} (hl : l < 2) (hn : 1 ≤ n) (hn2 : n < 2 ^ 28) (hT : r 0 3 = nI n) : P_RM_put r (nI l) ∧ ∀ i k, K_RM_put r (nI l) i k = if i = 4 ∧ 12 * (8 * l + n % 8) ≤ k ∧ k < 12 * (8 * l + n % 8) + 12 then plPutB r l n (k - 12 * (8 * l + n % 8)) ^^^ r 6 (k - 12 * (8 * l + n % 8)) else r i k := by
  have s1 : 12 * (8 * nI l + (r 0 3 &&& 7)) = nI (12 * (8 * l + n % 8)) := by
    rw [hT, plAnd7 (by omega), show (8 : Int32) = nI 8 from rfl, show (12 : Int32) = nI 12 from rfl, pk_mul, nI_add, pk_mul]
  have s2 : 12 * (8 * nI l + ((r 0 3 - 1) &&& 7)) = nI (12 * (8 * l + (n - 1) % 8)) := by
    rw [hT, show (1 : Int32) = nI 1 from rfl, pk_sub hn, plAnd7 (by omega), show (8 : Int32) = nI 8 from rfl, show (12 : Int32) = nI 12 from rfl, pk_mul, nI_add, pk_mul]
  have s3 : r 0 3 ≤ 1 ↔ n = 1 := by rw [hT, show (1 : Int32) = nI 1 from rfl, nI_leI (by omega) (by omega)]; omega
  unfold P_RM_put K_RM_put
  rw [s1, s2]
  obtain ⟨x, hx⟩ : ∃ x, x = if n = 1 then 0 else plXor (fun p => r 4 (12 * (8 * l + (n - 1) % 8) + p)) 12 := ⟨_, rfl⟩
  have hl1 : lpP (G_RM_put_40 r (nI l) (nI (12 * (8 * l + n % 8))) (nI (12 * (8 * l + (n - 1) % 8)))) (F_RM_put_40 r (nI l) (nI (12 * (8 * l + n % 8))) (nI (12 * (8 * l + (n - 1) % 8)))) 64 (0, 0) ∧ ∃ y, lpR (F_RM_put_40 r (nI l) (nI (12 * (8 * l + n % 8))) (nI (12 * (8 * l + (n - 1) % 8)))) 64 (0, 0) = (x, y) := by
    by_cases e : n = 1
    · obtain ⟨h1, h2⟩ := plXl (F_RM_put_40 r (nI l) (nI (12 * (8 * l + n % 8))) (nI (12 * (8 * l + (n - 1) % 8)))) (G_RM_put_40 r (nI l) (nI (12 * (8 * l + n % 8))) (nI (12 * (8 * l + (n - 1) % 8)))) (fun _ => 0) 0 (by omega) (fun _ _ h => by omega) (fun y => by
        refine ⟨fun _ w => absurd (s3.mpr e) w, ?_⟩
        show K_RM_put_40L r _ _ _ y (nI 0) = _
        unfold K_RM_put_40L
        rw [if_neg (plN12 (by omega)), if_pos (s3.mpr e)])
      exact ⟨h1, _, by rw [h2, hx, if_pos e]; rfl⟩
    · obtain ⟨h1, h2⟩ := plXl (F_RM_put_40 r (nI l) (nI (12 * (8 * l + n % 8))) (nI (12 * (8 * l + (n - 1) % 8)))) (G_RM_put_40 r (nI l) (nI (12 * (8 * l + n % 8))) (nI (12 * (8 * l + (n - 1) % 8)))) (fun p => r 4 (12 * (8 * l + (n - 1) % 8) + p)) 12 (by omega) (fun y j h => by
        refine ⟨fun _ _ => ?_, ?_⟩
        · show vp_in (nI _ + nI j) 192
          rw [nI_add]; exact vp_in_nI (by omega) (by omega)
        · show K_RM_put_40L r _ _ _ y (nI j) = _
          unfold K_RM_put_40L
          rw [if_neg (plN12 h), if_neg (fun w => e (s3.mp w)), nI_add, nI_1, plIx_nI (by omega)]) (fun y => by
        refine ⟨fun w => absurd plE12 w, ?_⟩
        show K_RM_put_40L r _ _ _ y (nI 12) = _
        unfold K_RM_put_40L
        rw [if_pos plE12])
      exact ⟨h1, _, by rw [h2, hx, if_neg e]⟩
  obtain ⟨h1, y, h2⟩ := hl1
  obtain ⟨w1, st', w2, w3⟩ := plWr (F_RM_put_78 (nI l) (nI (12 * (8 * l + n % 8))) x) (G_RM_put_78 (nI l) (nI (12 * (8 * l + n % 8))) x) 4 (12 * (8 * l + n % 8)) (fun p => plPutB r l n p ^^^ r 6 p) r 0 12 (by omega) (by omega) (fun st' j _ h hf => by
    have e17 : st' 0 17 = r 0 17 := hf _ _ (by omega)
    have e16 : st' 0 16 = r 0 16 := hf _ _ (by omega)
    have e6 : st' 6 j = r 6 j := hf _ _ (by omega)
    have e7 : st' 7 j = r 7 j := hf _ _ (by omega)
    have v12 : vp_in (nI j) 12 := vp_in_nI (by omega) (by omega)
    have v192 : vp_in (nI (12 * (8 * l + n % 8)) + nI j) 192 := by rw [nI_add]; exact vp_in_nI (by omega) (by omega)
    have p168 : ∀ k0, P_RM_put_78L168 st' (nI l) (nI (12 * (8 * l + n % 8))) x (nI j) k0 := fun _ => ⟨v12, v192⟩
    have p116 : ∀ k0, P_RM_put_78L116 st' (nI l) (nI (12 * (8 * l + n % 8))) x (nI j) k0 := fun k0 => ⟨fun _ => p168 _, fun _ => ⟨fun _ => ⟨fun _ => p168 _, fun _ => ⟨fun _ => p168 _, fun _ => p168 _⟩⟩, fun _ => p168 _⟩⟩
    have p109 : P_RM_put_78L109 st' (nI l) (nI (12 * (8 * l + n % 8))) x (nI j) := ⟨v12, p116 _⟩
    refine ⟨fun _ => ⟨fun _ => ⟨fun _ => p109, fun _ => ⟨fun _ => p116 _, fun _ => p109⟩⟩, fun _ => p109⟩, ?_⟩
    have k168 : ∀ k0, K_RM_put_78L168 st' (nI l) (nI (12 * (8 * l + n % 8))) x (nI j) k0 = (true, (plUp st' 4 (12 * (8 * l + n % 8) + j) (k0 ^^^ r 6 j), nI (j + 1))) := fun k0 => by
      unfold K_RM_put_78L168
      rw [nI_add, nI_1, plIx_nI (by omega), plIx_nI (by omega), e6]
    have q2 : nI j = 2 ↔ j = 2 := by rw [show (2 : Int32) = nI 2 from rfl, nI_eq (by omega) (by omega)]
    have q3 : nI j = 3 ↔ j = 3 := by rw [show (3 : Int32) = nI 3 from rfl, nI_eq (by omega) (by omega)]
    have q4 : nI j < 4 ↔ j < 4 := by rw [show (4 : Int32) = nI 4 from rfl, nI_ltI (by omega) (by omega)]
    have ql0 : nI l = 0 ↔ l = 0 := by rw [show (0 : Int32) = nI 0 from rfl, nI_eq (by omega) (by omega)]
    have ql1 : nI l = 1 ↔ l = 1 := by rw [show (1 : Int32) = nI 1 from rfl, nI_eq (by omega) (by omega)]
    have k116 : ∀ k0, K_RM_put_78L116 st' (nI l) (nI (12 * (8 * l + n % 8))) x (nI j) k0 = (true, (plUp st' 4 (12 * (8 * l + n % 8) + j) ((if j = 2 then x else if j = 3 then (if l = 0 then 0 else 16 * r 0 17 + (if r 0 16 = 0 then 0 else 1)) else k0) ^^^ r 6 j), nI (j + 1))) := fun k0 => by
      unfold K_RM_put_78L116 K_RM_put_78L162
      simp only [k168, q2, q3, ql0, e16, e17]
      repeat' split
      all_goals rfl
    show K_RM_put_78L st' (nI l) (nI (12 * (8 * l + n % 8))) x (nI j) = _
    unfold K_RM_put_78L K_RM_put_78L109
    rw [if_neg (plN12 h)]
    simp only [k116, q4, ql1, e16]
    rw [plIx_nI (by omega), e7]
    unfold plPutB
    rw [← hx]
    by_cases a1 : j = 2
    · simp only [if_pos a1]
      repeat' split
      all_goals rfl
    · by_cases a2 : j = 3
      · simp only [if_neg a1, if_pos a2]
        repeat' split
        all_goals rfl
      · simp only [if_neg a1, if_neg a2]
        by_cases a3 : l = 1
        · rw [if_pos a3]
          by_cases a4 : j < 4
          · rw [if_pos a4, if_neg (by omega)]
          · rw [if_neg a4]
            by_cases a5 : r 0 16 = 0
            · rw [if_pos a5, if_pos ⟨a3, by omega, a5⟩]
            · rw [if_neg a5, if_neg (fun w => a5 w.2.2)]
        · rw [if_neg a3, if_neg (fun w => a3 w.1)]) (fun st' => by
    refine ⟨fun w => absurd plE12 w, ?_⟩
    show K_RM_put_78L st' _ _ _ (nI 12) = _
    unfold K_RM_put_78L
    rw [if_pos plE12])
  refine ⟨⟨h1, ?_⟩, fun i k => ?_⟩
  · rw [h2]; exact w1
  · rw [h2]
    unfold K_RM_put_40X K_RM_put_75 K_RM_put_78X
    show (lpR (F_RM_put_78 (nI l) (nI (12 * (8 * l + n % 8))) x) 64 (r, nI 0)).1 i k = _
    rw [w2]
    exact w3 i k
