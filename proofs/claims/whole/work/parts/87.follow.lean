theorem plPlain : ∀ n, n < 256 → K_RM_plain (nI n) = K_CO_plainFor (nI n) := by decide +kernel
theorem plPlain2 : ∀ n, n < 256 → K_CO_plainFor (nI n) ∈ ([-1, 0, 1, 2, 3, 4, 5] : List Int32) := by decide +kernel
theorem plPlain3 {n : Nat} (h : n < 256) : K_CO_plainFor (nI n) = -1 ∨ ∃ q, q < 6 ∧ K_CO_plainFor (nI n) = nI q := by
  have := plPlain2 n h
  simp only [List.mem_cons, List.not_mem_nil, or_false] at this
  rcases this with e | e | e | e | e | e | e
  · exact Or.inl e
  · exact Or.inr ⟨0, by omega, e⟩
  · exact Or.inr ⟨1, by omega, e⟩
  · exact Or.inr ⟨2, by omega, e⟩
  · exact Or.inr ⟨3, by omega, e⟩
  · exact Or.inr ⟨4, by omega, e⟩
  · exact Or.inr ⟨5, by omega, e⟩
def plRowX (c r : plS) : Prop := (c 25 3 = 0 ∧ r 0 44 = -1) ∨ ∃ ρ q, 1 ≤ ρ ∧ ρ ≤ 2 ∧ q < 6 ∧ c 25 3 = nI ρ ∧ r 0 45 = nI ρ ∧ c 25 4 = nI q ∧ r 0 44 = nI q
theorem plThirdP (r : plS) (q : Int32) : P_RM_third r q := by
  have a : ∀ st, P_RM_third_31 st q := fun st => ⟨fun _ => Or.inl rfl, fun _ => ⟨fun _ => Or.inr rfl, fun _ => Or.inl rfl⟩⟩
  exact ⟨fun _ => a _, fun _ => ⟨fun _ => a _, fun _ => a _⟩⟩
theorem plThird {c r : plS} (h : plRowX c r) {n : Nat} (hn : n < 256) :
    (K_PR_countPlain c (nI n) = plUp c 25 3 0 ∧ K_RM_third r (K_RM_plain (nI n)) = (0, plUp (plUp r 0 45 1) 0 44 (-1))) ∨
    ∃ ρ q, 1 ≤ ρ ∧ ρ ≤ 3 ∧ q < 6 ∧ K_RM_plain (nI n) = nI q ∧ K_PR_countPlain c (nI n) = plUp (plUp c 25 3 (nI ρ)) 25 4 (nI q) ∧ K_RM_third r (K_RM_plain (nI n)) = (if ρ = 3 then 1 else 0, plUp (plUp r 0 45 (nI ρ)) 0 44 (nI q)) := by
  rw [plPlain n hn]
  rcases plPlain3 hn with e | ⟨q, hq, e⟩
  · left
    unfold K_PR_countPlain K_RM_third
    rw [e, if_pos rfl, if_pos (by decide)]
    refine ⟨rfl, ?_⟩
    unfold K_RM_third_22 K_RM_third_23 K_RM_third_26 K_RM_third_31
    rw [if_pos (by decide)]
    rfl
  · right
    have hlt : ¬ nI q < 0 := nI_pos (by omega)
    have hm : ¬ nI q = -1 := (plBy.lit (n := q) (by omega)).nm
    have t31 : ∀ (st : plS) (ρ : Nat), 1 ≤ ρ → ρ ≤ 3 → K_RM_third_23 st (nI q) (nI ρ) = (if ρ = 3 then 1 else 0, plUp (plUp st 0 45 (nI ρ)) 0 44 (nI q)) := by
      intro st ρ h1 h3
      unfold K_RM_third_23 K_RM_third_26 K_RM_third_31
      rw [if_neg hlt]
      have q3 : plUp (plUp st 0 45 (nI ρ)) 0 44 (nI q) 0 45 = 3 ↔ ρ = 3 := by
        rw [plUp_ap, if_neg (by omega), plUp_ap, if_pos ⟨rfl, rfl⟩, show (3 : Int32) = nI 3 from rfl, nI_eq (by omega) (by omega)]
      simp only [q3]
      by_cases z : ρ = 3
      · rw [if_pos z, if_pos z]; rfl
      · rw [if_neg z, if_neg z]; rfl
    unfold K_PR_countPlain K_RM_third
    rw [e, if_neg hm, if_neg hlt]
    have k35 : ∀ k, K_PR_countPlain_35 c (nI q) k = plUp (plUp c 25 3 k) 25 4 (nI q) := fun k => rfl
    rw [k35, k35]
    rcases h with ⟨e1, e2⟩ | ⟨ρ, q', r1, r2, r3, e1, e2, e3, e4⟩
    · refine ⟨1, q, by omega, by omega, hq, rfl, ?_, ?_⟩
      · rw [e1]
        split <;> rfl
      · rw [e2, if_neg hm]
        exact t31 r 1 (by omega) (by omega)
    · by_cases z : q = q'
      · subst z
        refine ⟨ρ + 1, q, by omega, by omega, hq, rfl, ?_, ?_⟩
        · rw [e3, if_pos rfl, e1, nI_1]
        · rw [e4, if_pos rfl, e2, nI_1]
          exact t31 r (ρ + 1) (by omega) (by omega)
      · have hz : ¬ nI q = nI q' := by rw [nI_eq (by omega) (by omega)]; exact z
        refine ⟨1, q, by omega, by omega, hq, rfl, ?_, ?_⟩
        · rw [e3, if_neg hz]
          rfl
        · rw [e4, if_neg hz]
          exact t31 r 1 (by omega) (by omega)
/-- what following a pointer byte gives on both sides -/
def plFol (c r : plS) (B M : Nat) (x v1 : Int32) : Prop :=
  ∃ r1 : plS, (∀ i k, ¬ i = 0 → r1 i k = r i k) ∧ (∀ k, (k < 41 ∨ 46 < k) → r1 0 k = r 0 k) ∧ (∀ i k, ¬ i = 25 → (K_PR_follow c x).2 i k = c i k) ∧
  (((K_PR_follow c x).2 25 1 = -1 ∧ P_RM_read_5 r v1 x ∧ K_RM_read_5 r v1 x = K_RM_hunt r1 ∧ plPtr (K_PR_breakOff (K_PR_follow c x).2) (K_RM_hunt r1) B M) ∨
   (∃ w s : Nat, w < 6 ∧ s < 3 ∧ (K_PR_follow c x).1 = nI s - 1 ∧ (K_PR_follow c x).2 25 1 = nI w ∧ r1 0 41 = nI w ∧ plPtr (K_PR_follow c x).2 r1 B M ∧ (P_RM_read_176 r1 v1 (nI s - 1) → P_RM_read_5 r v1 x) ∧ K_RM_read_5 r v1 x = K_RM_read_176 r1 v1 (nI s - 1)))
theorem plFollow_lost {c r : plS} {B M Γ Z m : Nat} (h : plPtrX c r B M 6 Γ Z m) (hΓ : Γ = 0) {n : Nat} (hn : n < 256) (v1 : Int32) : plFol c r B M (nI n) v1 := by
  obtain ⟨a1, a2, a3, a4, a5, a6, a7, a8, a9, a10, a11, a12, a13, a14, a15, a16, a17, a18, a19⟩ := h
  obtain rfl := a16 rfl
  obtain rfl := a11 rfl
  have hl : c 25 1 = -1 := by rw [a2]; rfl
  have kf : K_PR_follow c (nI n) = (0, K_PR_seek c (nI n)) := by unfold K_PR_follow; rw [if_pos hl]
  have nr : ¬ 0 ≤ r 0 41 := by rw [a3]; decide
  have kr : K_RM_read_5 r v1 (nI n) = K_RM_read_25q v1 (K_RM_plain (nI n)) 0 (K_RM_third r (K_RM_plain (nI n))) := by unfold K_RM_read_5; rw [if_neg nr]
  have pr : P_RM_read_25q v1 (K_RM_plain (nI n)) 0 (K_RM_third r (K_RM_plain (nI n))) → P_RM_read_5 r v1 (nI n) := fun p => ⟨fun z => absurd z nr, fun _ => ⟨plThirdP _ _, p⟩⟩
  rcases plThird a12 hn with ⟨e1, e2⟩ | ⟨ρ, q, h1, h3, hq, ep, e1, e2⟩
  · have ks : K_PR_seek c (nI n) = plUp c 25 3 0 := by
      unfold K_PR_seek K_PR_seek_5 K_PR_seek_25
      rw [e1, if_neg (by simp [plUp_ap])]
    refine ⟨plUp (plUp r 0 45 1) 0 44 (-1), fun i k hi => by simp [plUp_ap, hi], fun k hk => by rw [plUp_ap, if_neg (by omega), plUp_ap, if_neg (by omega)], fun i k hi => by rw [kf, ks]; simp [plUp_ap, hi], Or.inl ⟨?_, pr ?_, ?_, ?_⟩⟩
    · rw [kf, ks]; simp [plUp_ap]; exact hl
    · rw [e2]; exact fun z => absurd rfl z
    · rw [kr, e2]; unfold K_RM_read_25q; rw [if_pos rfl]
    · rw [kf, ks]
      refine ⟨6, Γ, 0, 0, by omega, ?_, ?_, a4, ?_, ?_, a7, by omega, ?_, ?_, fun _ => rfl, Or.inl ⟨?_, ?_⟩, by omega, ?_, ?_, fun _ => rfl, ?_, ?_, ?_⟩
      · rw [plBreak.1]; simp [plUp_ap, a2]
      · rw [plHuntR.1]; simp [plUp_ap, a3]
      · rw [plBreak.1]; simp [plUp_ap, a5]
      · rw [plHuntR.1]; simp [plUp_ap, a6]
      · rw [plBreak.1]; simp [plUp_ap, a9]
      · rw [plHuntR.1]; simp [plUp_ap, a10]
      · rw [plBreak.1]; simp [plUp_ap]
      · rw [plHuntR.1]; simp [plUp_ap]
      · rw [plBreak.1]; simp; rfl
      · rw [plHuntR.1]; simp [plUp_ap, a15]
      · rw [plBreak.1, plHuntR.1]; simp [plUp_ap, a17]
      · rw [plBreak.1]; simp [plUp_ap, a18]
      · rw [plBreak.1, plHuntR.1]; simp [plUp_ap, a19]
  · have q3 : plUp (plUp c 25 3 (nI ρ)) 25 4 (nI q) 25 3 = 3 ↔ ρ = 3 := by
      rw [plUp_ap, if_neg (by omega), plUp_ap, if_pos ⟨rfl, rfl⟩, show (3 : Int32) = nI 3 from rfl, nI_eq (by omega) (by omega)]
    by_cases z : ρ = 3
    · have ks : K_PR_seek c (nI n) = plUp (plUp (plUp (plUp (plUp c 25 3 (nI ρ)) 25 4 (nI q)) 25 1 (nI q)) 25 3 0) 25 5 0 := by
        unfold K_PR_seek K_PR_seek_5
        rw [e1, if_pos (q3.mpr z), show plUp (plUp c 25 3 (nI ρ)) 25 4 (nI q) 25 4 = nI q by simp [plUp_ap]]
        rfl
      have kx : K_RM_read_5 r v1 (nI n) = K_RM_read_176 (plUp (plUp (plUp (plUp (plUp (plUp r 0 45 (nI ρ)) 0 44 (nI q)) 0 41 (nI q)) 0 43 0) 0 44 (-1)) 0 46 0) v1 0 := by
        rw [kr, e2, ep]; unfold K_RM_read_25q
        rw [if_pos z, if_neg (show ¬ (1 : Int32) = 0 by decide)]
        rfl
      refine ⟨plUp (plUp (plUp (plUp (plUp (plUp r 0 45 (nI ρ)) 0 44 (nI q)) 0 41 (nI q)) 0 43 0) 0 44 (-1)) 0 46 0, fun i k hi => by simp [plUp_ap, hi], fun k hk => ?_, fun i k hi => by rw [kf, ks]; simp [plUp_ap, hi], Or.inr ⟨q, 1, hq, by omega, by rw [kf]; rfl, ?_, ?_, ?_, fun p => pr ?_, kx⟩⟩
      · simp only [plUp_ap]
        rw [if_neg (by omega), if_neg (by omega), if_neg (by omega), if_neg (by omega), if_neg (by omega), if_neg (by omega)]
      · rw [kf, ks]; simp [plUp_ap]
      · simp [plUp_ap]
      · rw [kf, ks]
        refine ⟨q, Γ, 0, 0, by omega, ?_, ?_, a4, ?_, ?_, fun _ => ?_, by omega, ?_, ?_, fun _ => rfl, Or.inl ⟨?_, ?_⟩, by omega, ?_, ?_, fun _ => rfl, ?_, ?_, ?_⟩
        · simp [plUp_ap, plV_lt hq]
        · simp [plUp_ap, plV_lt hq]
        · simp [plUp_ap, a5]
        · simp [plUp_ap, a6]
        · omega
        · simp [plUp_ap]; rfl
        · simp [plUp_ap]; rfl
        · simp [plUp_ap]
        · simp [plUp_ap]
        · simp [plUp_ap, a14]
        · simp [plUp_ap]; rfl
        · simp [plUp_ap, a17]
        · simp [plUp_ap, a18]
        · simp [plUp_ap, a19]
      · rw [e2]; intro _; rw [ep]; exact p
    · have ks : K_PR_seek c (nI n) = plUp (plUp c 25 3 (nI ρ)) 25 4 (nI q) := by
        unfold K_PR_seek K_PR_seek_5 K_PR_seek_25
        rw [e1, if_neg (fun w => z (q3.mp w))]
      refine ⟨plUp (plUp r 0 45 (nI ρ)) 0 44 (nI q), fun i k hi => by simp [plUp_ap, hi], fun k hk => by rw [plUp_ap, if_neg (by omega), plUp_ap, if_neg (by omega)], fun i k hi => by rw [kf, ks]; simp [plUp_ap, hi], Or.inl ⟨?_, pr ?_, ?_, ?_⟩⟩
      · rw [kf, ks]; simp [plUp_ap]; exact hl
      · rw [e2, if_neg z]; exact fun w => absurd rfl w
      · rw [kr, e2, if_neg z]; unfold K_RM_read_25q; rw [if_pos rfl]
      · rw [kf, ks]
        refine ⟨6, Γ, 0, 0, by omega, ?_, ?_, a4, ?_, ?_, a7, by omega, ?_, ?_, fun _ => rfl, Or.inr ⟨ρ, q, h1, by omega, hq, ?_, ?_, ?_, ?_⟩, by omega, ?_, ?_, fun _ => rfl, ?_, ?_, ?_⟩
        · rw [plBreak.1]; simp [plUp_ap, a2]
        · rw [plHuntR.1]; simp [plUp_ap, a3]
        · rw [plBreak.1]; simp [plUp_ap, a5]
        · rw [plHuntR.1]; simp [plUp_ap, a6]
        · rw [plBreak.1]; simp [plUp_ap, a9]
        · rw [plHuntR.1]; simp [plUp_ap, a10]
        · rw [plBreak.1]; simp [plUp_ap]
        · rw [plHuntR.1]; simp [plUp_ap]
        · rw [plBreak.1]; simp [plUp_ap]
        · rw [plHuntR.1]; simp [plUp_ap]
        · rw [plBreak.1]; simp; rfl
        · rw [plHuntR.1]; simp [plUp_ap, a15]
        · rw [plBreak.1, plHuntR.1]; simp [plUp_ap, a17]
        · rw [plBreak.1]; simp [plUp_ap, a18]
        · rw [plBreak.1, plHuntR.1]; simp [plUp_ap, a19]
theorem plSh (x v : Nat) (c r : plS) (v1 : Int32) (hx : x < 256) (hv : v < 6) (hc : c 25 1 = nI v) (hr : r 0 41 = nI v) :
    (∃ s, s < 3 ∧ K_PR_shiftIn c (nI x) = nI s - 1) ∧
    (K_RM_read_5 r v1 (nI x) = if K_PR_shiftIn c (nI x) = 0 ∧ ¬ nI x = K_CO_pointerByte (nI v) then K_RM_read_168q v1 0 (K_RM_unread r (K_RM_plain (nI x))) else K_RM_read_150 r v1 (K_PR_shiftIn c (nI x))) ∧
    ((if K_PR_shiftIn c (nI x) = 0 ∧ ¬ nI x = K_CO_pointerByte (nI v) then P_RM_unread r (K_RM_plain (nI x)) ∧ P_RM_read_168q v1 0 (K_RM_unread r (K_RM_plain (nI x))) else P_RM_read_150 r v1 (K_PR_shiftIn c (nI x))) → P_RM_read_5 r v1 (nI x)) := by
  have hd : ∀ x, x < 256 → ∀ v, v < 6 → plBy (nI x ^^^ (64 + 9 * nI v)) := by
    intro x hx v hv
    refine (plBy.lit hx).xor ⟨64 + 9 * v, by omega, ?_⟩
    rw [show (64 : Int32) = nI 64 from rfl, show (9 : Int32) = nI 9 from rfl, pk_mul, nI_add]
  have ho : ∀ x, x < 256 → ((nI x >>> ((6 : Int32) &&& 31) = 1) ↔ (nI x / 64 = 1)) := by decide +kernel
  have hown : ∀ v, v < 6 → (64 + 9 * nI v) / 64 = 1 := by decide +kernel
  obtain ⟨d, hdd⟩ : ∃ d, d = nI x ^^^ (64 + 9 * nI v) := ⟨_, rfl⟩
  have bd : plBy d := by rw [hdd]; exact hd x hx v hv
  have b21 : ∀ z : Int32, plBy z → plBy (z &&& 21) ∧ plBy (z &&& 42) := by
    have key : ∀ n, n < 256 → ((nI n &&& 21) &&& 255 = nI n &&& 21) ∧ ((nI n &&& 42) &&& 255 = nI n &&& 42) := by decide +kernel
    rintro z ⟨n, hn, rfl⟩
    exact ⟨by rw [← (key n hn).1]; exact plBy.and _, by rw [← (key n hn).2]; exact plBy.and _⟩
  obtain ⟨U, hU⟩ : ∃ U, U = K_JI_bitCount (d &&& 21) := ⟨_, rfl⟩
  obtain ⟨W, hW⟩ : ∃ W, W = K_JI_bitCount (d &&& 42) := ⟨_, rfl⟩
  have oU : K_RM_ones (d &&& 21) = U := by rw [hU]; exact plOnes_by (b21 d bd).1
  have oW : K_RM_ones (d &&& 42) = W := by rw [hW]; exact plOnes_by (b21 d bd).2
  have pb : K_CO_pointerByte (nI v) = 64 + 9 * nI v := rfl
  have hd0 : d = 0 ↔ nI x = 64 + 9 * nI v := by
    rw [hdd]
    constructor
    · intro e
      rw [plx_flip, Int32.xor_zero] at e
      exact e
    · intro e
      rw [e, Int32.xor_self]
  have sh : K_PR_shiftIn c (nI x) = if nI x / 64 = 1 then (if U < 2 then (if W < 2 then 0 else if 1 < U then 0 else -1) else if 1 < W then (if W < 2 then 0 else if 1 < U then 0 else -1) else 1) else 0 := by
    unfold K_PR_shiftIn
    rw [hc, pb, ← hdd, ← hU, ← hW]
    rfl
  have hge : 0 ≤ r 0 41 := by rw [hr]; exact nI_pos' (by omega)
  have e1 : (-1 : Int32) = nI 0 - 1 := rfl
  have e0 : (0 : Int32) = nI 1 - 1 := rfl
  have e2 : (1 : Int32) = nI 2 - 1 := rfl
  have kr : K_RM_read_5 r v1 (nI x) = if nI x / 64 = 1 then K_RM_read_88 r v1 (K_RM_plain (nI x)) d U W 1 else K_RM_read_88 r v1 (K_RM_plain (nI x)) d U W 0 := by
    unfold K_RM_read_5
    rw [if_pos hge, hr, ← hdd, oU, oW]
    simp only [ho x hx]
  have prd : (if nI x / 64 = 1 then P_RM_read_88 r v1 (K_RM_plain (nI x)) d U W 1 else P_RM_read_88 r v1 (K_RM_plain (nI x)) d U W 0) → P_RM_read_5 r v1 (nI x) := by
    intro p
    refine ⟨fun _ => ⟨plOnes_P _, plOnes_P _, fun z => ?_, fun z => ?_⟩, fun z => absurd hge z⟩
    · rw [hr, ← hdd, oU, oW]; rw [if_pos ((ho x hx).mp z)] at p; exact p
    · rw [hr, ← hdd, oU, oW]; rw [if_neg (fun w => z ((ho x hx).mpr w))] at p; exact p
  refine ⟨?_, ?_, fun p => prd ?_⟩
  · rw [sh]
    repeat' split
    all_goals first | exact ⟨0, by omega, e1⟩ | exact ⟨1, by omega, e0⟩ | exact ⟨2, by omega, e2⟩
  · rw [kr, sh, pb]
    simp only [← hd0]
    by_cases o : nI x / 64 = 1
    · rw [if_pos o, if_pos o]
      unfold K_RM_read_88 K_RM_read_111 K_RM_read_132 K_RM_read_133 K_RM_read_145
      by_cases u : U < 2 <;> by_cases w : 1 < W <;> by_cases w2 : W < 2 <;> by_cases u2 : 1 < U <;> by_cases z : d = 0 <;> simp [u, w, w2, u2, z]
    · have z : ¬ d = 0 := fun e => o (by rw [hd0.mp e]; exact hown v hv)
      rw [if_neg o, if_neg o]
      unfold K_RM_read_88 K_RM_read_111 K_RM_read_132 K_RM_read_133 K_RM_read_145
      simp [z]
  · rw [sh, pb] at p
    simp only [← hd0] at p
    by_cases o : nI x / 64 = 1
    · rw [if_pos o] at p ⊢
      unfold P_RM_read_88 P_RM_read_111 P_RM_read_132 P_RM_read_133 P_RM_read_145
      by_cases u : U < 2 <;> by_cases w : 1 < W <;> by_cases w2 : W < 2 <;> by_cases u2 : 1 < U <;> by_cases z : d = 0 <;> simp [u, w, w2, u2, z] at p ⊢ <;> first | exact p | (exact fun _ => p) | skip
    · have z : ¬ d = 0 := fun e => o (by rw [hd0.mp e]; exact hown v hv)
      rw [if_neg o] at p ⊢
      unfold P_RM_read_88 P_RM_read_111 P_RM_read_132 P_RM_read_133 P_RM_read_145
      simp [z] at p ⊢
      exact p
