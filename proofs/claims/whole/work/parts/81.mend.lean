theorem plx_flip {x y z : Int32} : x ^^^ y = z ↔ x ^^^ z = y := by
  constructor
  · rintro rfl
    rw [← Int32.xor_assoc, Int32.xor_self, Int32.zero_xor]
  · rintro rfl
    rw [← Int32.xor_assoc, Int32.xor_self, Int32.zero_xor]
def plck (i : Nat) : Int32 := ([7, 14, 28, 56, 112, 224, 199, 137] : List Int32).getD i 0
theorem plLin : ∀ l, l < 256 → ∀ i, i < 8 → K_CO_hash (nI l ^^^ (1 <<< (nI i &&& 31))) = K_CO_hash (nI l) ^^^ plck i := by decide +kernel
def plmC (s : Int32) : Nat := if 1 < K_JI_bitCount s then (if s = plck 0 then 0 else if s = plck 1 then 1 else if s = plck 2 then 2 else if s = plck 3 then 3 else if s = plck 4 then 4 else if s = plck 5 then 5 else if s = plck 6 then 6 else if s = plck 7 then 7 else 9) else 8
def plmR1 (s : Int32) (k r : Nat) : Nat := if s = (1 : Int32) <<< (nI k &&& 31) then 8 else if s = plck k then k else r
def plmR (s : Int32) : Nat := plmR1 s 7 (plmR1 s 6 (plmR1 s 5 (plmR1 s 4 (plmR1 s 3 (plmR1 s 2 (plmR1 s 1 (plmR1 s 0 9)))))))
theorem plmCR : ∀ s, s < 256 → 0 < s → plmC (nI s) = plmR (nI s) := by decide +kernel
def plmA (la : Int32) (k : Nat) : Int32 := if k = 8 then la else if k = 9 then -1 else la ^^^ ((1 : Int32) <<< (nI k &&& 31))
theorem plrep_s (n i : Nat) (hi : i < 8) (la due : Int32) : K_CO_lengthRepaired_30 (n + 1) la due (nI i) = if K_CO_hash (la ^^^ (1 <<< (nI i &&& 31))) = due then la ^^^ (1 <<< (nI i &&& 31)) else K_CO_lengthRepaired_30 n la due (nI (i + 1)) := by
  rw [K_CO_lengthRepaired_30, if_neg (show ¬ (8 : Int32) ≤ nI i from nI_ge (b := 8) hi (by omega)), nI_1]
theorem plrep_e (n : Nat) (la due : Int32) : K_CO_lengthRepaired_30 (n + 1) la due (nI 8) = -1 := by
  rw [K_CO_lengthRepaired_30, if_pos (show (8 : Int32) ≤ nI 8 from nI_le (a := 8) (b := 8) (by omega) (by omega))]
theorem plrep {l : Nat} (hl : l < 256) {due : Int32} : (if 1 < K_JI_bitCount (K_CO_hash (nI l) ^^^ due) then K_CO_lengthRepaired_30 64 (nI l) due 0 else nI l) = plmA (nI l) (plmC (K_CO_hash (nI l) ^^^ due)) := by
  unfold plmC
  by_cases hb : 1 < K_JI_bitCount (K_CO_hash (nI l) ^^^ due)
  · rw [if_pos hb, if_pos hb]
    have key : ∀ i, i < 8 → (K_CO_hash (nI l ^^^ (1 <<< (nI i &&& 31))) = due ↔ K_CO_hash (nI l) ^^^ due = plck i) := fun i hi => by rw [plLin l hl i hi]; exact plx_flip
    rw [show (0 : Int32) = nI 0 from rfl]
    have st : ∀ (n i : Nat) (R : Int32) (B : Nat), i < 8 → K_CO_lengthRepaired_30 n (nI l) due (nI (i + 1)) = plmA (nI l) B → K_CO_lengthRepaired_30 (n + 1) (nI l) due (nI i) = plmA (nI l) (if K_CO_hash (nI l) ^^^ due = plck i then i else B) := by
      intro n i R B hi hB
      rw [plrep_s n i hi]
      by_cases h : K_CO_hash (nI l) ^^^ due = plck i
      · rw [if_pos ((key i hi).mpr h), if_pos h]
        unfold plmA
        rw [if_neg (by omega), if_neg (by omega)]
      · rw [if_neg (fun q => h ((key i hi).mp q)), if_neg h]
        exact hB
    exact st 63 0 0 _ (by omega) (st 62 1 0 _ (by omega) (st 61 2 0 _ (by omega) (st 60 3 0 _ (by omega) (st 59 4 0 _ (by omega) (st 58 5 0 _ (by omega) (st 57 6 0 _ (by omega) (st 56 7 0 9 (by omega) (plrep_e 55 _ _))))))))
  · rw [if_neg hb, if_neg hb]
    rfl
theorem plrepP (la due : Int32) : P_CO_lengthRepaired_30 64 la due 0 := by
  have st : ∀ (m n : Nat) (i : Nat), i + m = 8 → m < n → P_CO_lengthRepaired_30 n la due (nI i) := by
    intro m
    induction m with
    | zero =>
      intro n i hi hn
      obtain ⟨n, rfl⟩ : ∃ k, n = k + 1 := ⟨n - 1, by omega⟩
      obtain rfl : i = 8 := by omega
      unfold P_CO_lengthRepaired_30
      exact fun h => absurd (nI_le (a := 8) (b := 8) (by omega) (by omega)) h
    | succ m ih =>
      intro n i hi hn
      obtain ⟨n, rfl⟩ : ∃ k, n = k + 1 := ⟨n - 1, by omega⟩
      unfold P_CO_lengthRepaired_30
      intro _
      refine ⟨plH_P _, fun _ => ?_⟩
      rw [nI_1]
      exact ih n (i + 1) (by omega) (by omega)
  exact st 8 64 0 rfl (by omega)
def plmRk (s : Int32) : Nat → Nat
  | 0 => 9
  | k + 1 => plmR1 s k (plmRk s k)
theorem plx_swap (a b d : Int32) : (a ^^^ b) ^^^ d = (a ^^^ d) ^^^ b := by
  rw [Int32.xor_assoc, Int32.xor_comm b d, ← Int32.xor_assoc]
theorem plhdr (x y : Int32) : K_RM_header x y = 0 ↔ ¬ K_CO_hash (x ^^^ 182) = (y ^^^ 171) := by
  unfold K_RM_header K_RM_header_21
  rw [plH_eq]
  by_cases h : K_CO_hash (x ^^^ 182) = (y ^^^ 171)
  · rw [if_pos h]
    exact ⟨fun q => absurd q (by decide), fun q => absurd h q⟩
  · rw [if_neg h]
    exact ⟨fun _ => h, fun _ => rfl⟩
theorem plhdrP (x y : Int32) : P_RM_header x y := by
  have h : ∀ k, k = (0 : Int32) ∨ k = 1 → P_RM_header_21 k := fun k h => h
  exact ⟨plH_P2 _, fun _ => h 1 (Or.inr rfl), fun _ => h 0 (Or.inl rfl)⟩
theorem plmend (st : plS) {a b l : Nat} (hl : l < 256) (ha : nI a ^^^ 182 = nI l) : lpP (G_RM_mend_5 st (nI a) (nI b)) (F_RM_mend_5 st (nI a) (nI b)) 64 ((-1), 0) ∧ (lpR (F_RM_mend_5 st (nI a) (nI b)) 64 ((-1), 0)).1 = plmA (nI l) (plmR (K_CO_hash (nI l) ^^^ (nI b ^^^ 171))) := by
  have h := plL1 (G_RM_mend_5 st (nI a) (nI b)) (F_RM_mend_5 st (nI a) (nI b)) (fun k c => c.2 = nI k ∧ c.1 = plmA (nI l) (plmRk (K_CO_hash (nI l) ^^^ (nI b ^^^ 171)) k)) 8 (fun k c hk hI => ?_) (fun c hI => ?_) 64 0 ((-1), 0) (by omega) (by omega) ⟨rfl, rfl⟩
  · exact ⟨h.1, h.2.2⟩
  · obtain ⟨h2, h1⟩ := hI
    have h8 : ¬ (8 : Int32) ≤ c.2 := by rw [h2]; exact nI_ge (b := 8) hk (by omega)
    refine ⟨?_, ?_⟩
    · unfold G_RM_mend_5 P_RM_mend_5L
      refine fun _ => ⟨plhdrP _ _, fun _ => ?_, fun _ => ?_⟩
      · exact plhdrP _ _
      · exact plhdrP _ _
    · unfold F_RM_mend_5 K_RM_mend_5L
      rw [if_neg h8, h2]
      have e1 : (nI a ^^^ ((1 : Int32) <<< (nI k &&& 31))) ^^^ 182 = nI l ^^^ ((1 : Int32) <<< (nI k &&& 31)) := by rw [plx_swap, ha]
      have e2 : (nI b ^^^ ((1 : Int32) <<< (nI k &&& 31))) ^^^ 171 = (nI b ^^^ 171) ^^^ ((1 : Int32) <<< (nI k &&& 31)) := plx_swap _ _ _
      have q1 : K_RM_header (nI a ^^^ ((1 : Int32) <<< (nI k &&& 31))) (nI b) = 0 ↔ ¬ K_CO_hash (nI l) ^^^ (nI b ^^^ 171) = plck k := by
        rw [plhdr, e1, plLin l hl k hk, plx_flip]
      have q2 : K_RM_header (nI a) (nI b ^^^ ((1 : Int32) <<< (nI k &&& 31))) = 0 ↔ ¬ K_CO_hash (nI l) ^^^ (nI b ^^^ 171) = (1 : Int32) <<< (nI k &&& 31) := by
        rw [plhdr, ha, e2]
        refine not_congr ⟨fun h => ?_, fun h => ?_⟩
        · rw [h, Int32.xor_comm, ← Int32.xor_assoc, Int32.xor_self, Int32.zero_xor]
        · rw [← h, Int32.xor_comm (K_CO_hash (nI l)), ← Int32.xor_assoc, Int32.xor_self, Int32.zero_xor]
      have step : ∀ (f : Int32), (if K_RM_header (nI a) (nI b ^^^ ((1 : Int32) <<< (nI k &&& 31))) = 0 then K_RM_mend_5L62 st (nI a) (nI b) (nI k) f else K_RM_mend_5L62 st (nI a) (nI b) (nI k) (nI a ^^^ 182)) = (true, (if K_CO_hash (nI l) ^^^ (nI b ^^^ 171) = (1 : Int32) <<< (nI k &&& 31) then nI l else f, nI k + 1)) := by
        intro f
        unfold K_RM_mend_5L62
        by_cases h : K_CO_hash (nI l) ^^^ (nI b ^^^ 171) = (1 : Int32) <<< (nI k &&& 31)
        · rw [if_neg (fun q => q2.mp q h), if_pos h, ha]
        · rw [if_pos (q2.mpr h), if_neg h]
      unfold K_RM_mend_5L39
      rw [e1, h1]
      have key : ∀ (d : Prop) [Decidable d], (d ↔ ¬ K_CO_hash (nI l) ^^^ (nI b ^^^ 171) = plck k) → (if d then (if K_RM_header (nI a) (nI b ^^^ ((1 : Int32) <<< (nI k &&& 31))) = 0 then K_RM_mend_5L62 st (nI a) (nI b) (nI k) (plmA (nI l) (plmRk (K_CO_hash (nI l) ^^^ (nI b ^^^ 171)) k)) else K_RM_mend_5L62 st (nI a) (nI b) (nI k) (nI a ^^^ 182)) else (if K_RM_header (nI a) (nI b ^^^ ((1 : Int32) <<< (nI k &&& 31))) = 0 then K_RM_mend_5L62 st (nI a) (nI b) (nI k) (nI l ^^^ ((1 : Int32) <<< (nI k &&& 31))) else K_RM_mend_5L62 st (nI a) (nI b) (nI k) (nI a ^^^ 182))) = (true, (plmA (nI l) (plmRk (K_CO_hash (nI l) ^^^ (nI b ^^^ 171)) (k + 1)), nI (k + 1))) := by
        intro d _ hd
        rw [step, step, nI_1]
        show _ = (true, (plmA (nI l) (plmR1 _ k _), _))
        unfold plmR1
        by_cases hq : K_CO_hash (nI l) ^^^ (nI b ^^^ 171) = (1 : Int32) <<< (nI k &&& 31)
        · rw [if_pos hq, if_pos hq, if_pos hq]
          have e8 : plmA (nI l) 8 = nI l := rfl
          rw [e8]
          split <;> rfl
        · rw [if_neg hq, if_neg hq, if_neg hq]
          by_cases hp : K_CO_hash (nI l) ^^^ (nI b ^^^ 171) = plck k
          · rw [if_neg (fun q => hd.mp q hp), if_pos hp]
            unfold plmA
            rw [if_neg (by omega), if_neg (by omega)]
          · rw [if_pos (hd.mpr hp), if_neg hp]
      rw [key _ q1]
      exact ⟨rfl, rfl, rfl⟩
  · obtain ⟨h2, h1⟩ := hI
    have h8 : (8 : Int32) ≤ c.2 := by rw [h2]; exact nI_le (a := 8) (b := 8) (by omega) (by omega)
    refine ⟨?_, ?_⟩
    · unfold G_RM_mend_5 P_RM_mend_5L
      exact fun h => absurd h8 h
    · unfold F_RM_mend_5 K_RM_mend_5L
      rw [if_pos h8]
