/-! the loop over the bytes of a frame, and the whole of a frame that can be read: over either line -/
theorem plOff_s : ∀ s, s < 3 → 6 + (nI s - 1) = nI (5 + s) := by decide +kernel
theorem plOff_2 (a : Nat) : nI (a + 2) - 2 = nI a := by
  rw [show (2 : Int32) = nI 2 from rfl, ← nI_add, Int32.add_sub_cancel]
theorem plOff_c : ∀ k v s, k < 7 → v < 6 → s < 3 → (((nI (5 + s + k) - nI (5 + s)) - (nI (5 + s + k) - nI (5 + s)) / 6 * 6) = nI v ↔ k % 6 = v) := by
  have h : ∀ k, k < 7 → ∀ v, v < 6 → ∀ s, s < 3 → (((nI (5 + s + k) - nI (5 + s)) - (nI (5 + s + k) - nI (5 + s)) / 6 * 6) = nI v ↔ k % 6 = v) := by decide +kernel
  exact fun k v s a b d => h k a v b s d
theorem plOff_r : ∀ k v s, k < 7 → v < 6 → s < 3 → (((nI (5 + s + k) - 6 - (nI s - 1) - nI v) - (nI (5 + s + k) - 6 - (nI s - 1) - nI v) / 6 * 6) = 0 ∧ ¬ (nI (5 + s + k) - 6 - (nI s - 1)) < nI v ↔ k % 6 = v) := by
  have h : ∀ k, k < 7 → ∀ v, v < 6 → ∀ s, s < 3 → (((nI (5 + s + k) - 6 - (nI s - 1) - nI v) - (nI (5 + s + k) - 6 - (nI s - 1) - nI v) / 6 * 6) = 0 ∧ ¬ (nI (5 + s + k) - 6 - (nI s - 1)) < nI v ↔ k % 6 = v) := by decide +kernel
  exact fun k v s a b d => h k a v b s d
theorem plOff_v (v s : Nat) (hv : v < 6) (hs : s < 3) : ∃ u, u < 6 ∧ nI v + (nI s - 1) + 6 - (nI v + (nI s - 1) + 6) / 6 * 6 = nI u := by
  have h : ∀ v, v < 6 → ∀ s, s < 3 → ∃ u, u < 6 ∧ nI v + (nI s - 1) + 6 - (nI v + (nI s - 1) + 6) / 6 * 6 = nI u := by decide +kernel
  exact h v hv s hs
theorem plLoop_LW {c r : plS} {B M BS v Γ Z m s σ : Nat} (h : plPtrX c r B M v Γ Z m) (hv : v < 6) (hs : s < 3) (hσ : σ < 2) (hst : plStr c r BS) (hM : M + 7 < 2 ^ 28) (hBS : BS + 7 < 2 ^ 28) (hby : ∀ p, 4 ≤ p → p < 12 → c 12 p ^^^ plROW (p - 2) = r 10 (12 * σ + p) ^^^ r 6 p ∧ plBy (c 12 p ^^^ plROW (p - 2))) : P_PR_take_LW_14q (nI s - 1, c) ∧ P_RM_read_176 r (nI (12 * σ)) (nI s - 1) ∧ plPtr (K_PR_take_LW_14q (nI s - 1, c)) (K_RM_read_176 r (nI (12 * σ)) (nI s - 1)) B (M + 7) ∧ plStr (K_PR_take_LW_14q (nI s - 1, c)) (K_RM_read_176 r (nI (12 * σ)) (nI s - 1)) (BS + 7) := by
  have hc1 : c 25 1 = nI v := by rw [h.2.1, plV_lt hv]
  have hr1 : r 0 41 = nI v := by rw [h.2.2.1, plV_lt hv]
  have hnl : ¬ c 25 1 = -1 := by rw [hc1]; exact (plBy.lit (n := v) (by omega)).nm
  have e6 : 6 + (nI s - 1) = nI (5 + s) := plOff_s s hs
  unfold P_PR_take_LW_14q K_PR_take_LW_14q P_RM_read_176 K_RM_read_176
  rw [if_neg hnl, hr1, e6]
  obtain ⟨l1, l2, c', r', ec, er, m', i1, i2, i3, i4⟩ := plL2 (G_PR_take_LW_36 (nI s - 1) (nI (5 + s))) (F_PR_take_LW_36 (nI s - 1) (nI (5 + s))) (G_RM_read_189 (nI (12 * σ)) (nI s - 1) (nI v)) (F_RM_read_189 (nI (12 * σ)) (nI s - 1) (nI v))
    (fun k x y => ∃ c' r', x = (c', nI (5 + s + k)) ∧ y = (r', nI (5 + s + k)) ∧ ∃ m', plPtrX c' r' B (M + k) v Γ Z m' ∧ plStr c' r' (BS + k) ∧ (∀ j, c' 12 j = c 12 j) ∧ (∀ i j, i = 10 ∨ i = 6 → r' i j = r i j)) (7 - s) (by
      rintro k _ _ hk ⟨c', r', rfl, rfl, m', i1, i2, i3, i4⟩
      have n12 : ¬ 12 ≤ nI (5 + s + k) := by rw [show (12 : Int32) = nI 12 from rfl, nI_leI (by omega) (by omega)]; omega
      have x1 : plIx (nI (5 + s + k)) = 5 + s + k := plIx_nI (by omega)
      have x2 : nI (5 + s + k) - 2 = nI (5 + s + k - 2) := by
        rw [show 5 + s + k = (5 + s + k - 2) + 2 by omega]; exact plOff_2 _
      have x3 : nI (12 * σ) + nI (5 + s + k) = nI (12 * σ + (5 + s + k)) := nI_add _ _
      have x4 : plIx (nI (12 * σ + (5 + s + k))) = 12 * σ + (5 + s + k) := plIx_nI (by omega)
      have x5 : plIx (nI (5 + s + k - 2)) = 5 + s + k - 2 := plIx_nI (by omega)
      obtain ⟨b1, b2⟩ := hby (5 + s + k) (by omega) (by omega)
      obtain ⟨b, hb⟩ : ∃ b, b = c 12 (5 + s + k) ^^^ plROW (5 + s + k - 2) := ⟨_, rfl⟩
      have hpl : K_LW_plainAt c' (nI (5 + s + k)) = b := by unfold K_LW_plainAt; rw [x1, x2, x5, i3, hb]
      have hrl : r' 10 (plIx (nI (12 * σ) + nI (5 + s + k))) ^^^ r' 6 (plIx (nI (5 + s + k))) = b := by rw [x3, x4, x1, i4 10 _ (Or.inl rfl), i4 6 _ (Or.inr rfl), ← b1, hb]
      rw [← hb] at b2
      have hp1 : P_LW_plainAt c' (nI (5 + s + k)) := ⟨vp_in_nI (by omega) (by omega), by rw [x2]; exact vp_in_nI (by omega) (by omega)⟩
      have hv1 : vp_in (nI (12 * σ) + nI (5 + s + k)) 24 := by rw [x3]; exact vp_in_nI (by omega) (by omega)
      have hv2 : vp_in (nI (5 + s + k)) 12 := vp_in_nI (by omega) (by omega)
      have hc1' : c' 25 1 = nI v := by rw [i1.2.1, plV_lt hv]
      have o1 := plOff_c k v s (by omega) hv hs
      have o2 := plOff_r k v s (by omega) hv hs
      have nx : nI (5 + s + k) + 1 = nI (5 + s + (k + 1)) := nI_1 _
      by_cases e : k % 6 = v
      · obtain ⟨g1, g2, g3⟩ := plByteFirst i1 hv i2 (by omega) b2
        have kf : F_PR_take_LW_36 (nI s - 1) (nI (5 + s)) (c', nI (5 + s + k)) = (true, (K_PR_beginContainer c' b, nI (5 + s + (k + 1)))) := by
          show K_PR_take_LW_36L c' (nI s - 1) (nI (5 + s)) (nI (5 + s + k)) = _
          unfold K_PR_take_LW_36L K_PR_take_LW_36L115
          rw [if_neg n12, hc1', if_pos (o1.mpr e), hpl, nx]
        have kg : F_RM_read_189 (nI (12 * σ)) (nI s - 1) (nI v) (r', nI (5 + s + k)) = (true, (K_RM_give r' b 1, nI (5 + s + (k + 1)))) := by
          unfold F_RM_read_189 K_RM_read_189L K_RM_read_189L249
          rw [if_neg n12, if_pos (o2.mpr e).1, if_neg (o2.mpr e).2, hrl, nx]
        refine ⟨?_, ?_, by rw [kf], by rw [kg], ?_⟩
        · unfold G_PR_take_LW_36 P_PR_take_LW_36L
          exact fun _ => ⟨hp1, fun w => absurd ((o1.mpr e).trans hc1'.symm) w⟩
        · unfold G_RM_read_189 P_RM_read_189L
          refine fun _ => ⟨hv1, hv2, fun _ => ⟨fun w => absurd w (o2.mpr e).2, fun _ => ?_⟩, fun w => absurd (o2.mpr e).1 w⟩
          show P_RM_read_189L249 r' _ _ _ _ _ _
          unfold P_RM_read_189L249
          rw [hrl]
          exact g1
        · rw [kf, kg]
          refine ⟨_, _, rfl, rfl, 1, g2, g3, fun j => ?_, fun i j hi => ?_⟩
          · rw [fr_K_PR_beginContainer _ _ _ _ (by omega) (by omega) (by omega)]; exact i3 j
          · rw [show K_RM_give r' b 1 i j = r' i j by apply fr_K_RM_give <;> omega]; exact i4 i j hi
      · obtain ⟨m2, z1, z2, g1, g2, g3, g4⟩ := plByteIn i1 hv i2 (by omega) (by omega) b2
        have z3 : plUp c' 25 7 (c' 25 7 ^^^ b) 25 6 = c' 25 6 := by rw [plUp_ap, if_neg (by omega)]
        have z4 : ¬ c' 25 6 = 0 → c' 25 6 + 1 = nI m2 := fun w => by
          rw [z2, if_neg (fun y => w (z1.mpr y)), i1.2.2.2.2.2.2.2.2.2.2.2.2.2.1, nI_1]
        have z5 : c' 25 6 = 0 → (0 : Int32) = nI m2 := fun w => by
          rw [z2, if_pos (z1.mp w)]; rfl
        have kf : F_PR_take_LW_36 (nI s - 1) (nI (5 + s)) (c', nI (5 + s + k)) = (true, (K_SR_give (plUp (plUp c' 25 7 (c' 25 7 ^^^ b)) 25 6 (nI m2)) b, nI (5 + s + (k + 1)))) := by
          show K_PR_take_LW_36L c' (nI s - 1) (nI (5 + s)) (nI (5 + s + k)) = _
          unfold K_PR_take_LW_36L
          rw [if_neg n12, hc1', if_neg (fun w => e (o1.mp w)), hpl]
          unfold K_PR_take_LW_36L85 K_PR_take_LW_36L103 K_PR_take_LW_36L106 K_PR_take_LW_36L115
          rw [z3, nx]
          by_cases y : c' 25 6 = 0
          · rw [if_pos y, ← z5 y]
          · rw [if_neg y, z4 y]
        have kg : F_RM_read_189 (nI (12 * σ)) (nI s - 1) (nI v) (r', nI (5 + s + k)) = (true, (K_RM_give r' b 0, nI (5 + s + (k + 1)))) := by
          unfold F_RM_read_189 K_RM_read_189L K_RM_read_189L248 K_RM_read_189L249
          rw [if_neg n12, hrl, nx]
          by_cases y : ((nI (5 + s + k) - 6 - (nI s - 1) - nI v) - (nI (5 + s + k) - 6 - (nI s - 1) - nI v) / 6 * 6) = 0
          · rw [if_pos y, if_pos (Classical.byContradiction (fun w => e (o2.mp ⟨y, w⟩)))]
          · rw [if_neg y]
        refine ⟨?_, ?_, by rw [kf], by rw [kg], ?_⟩
        · unfold G_PR_take_LW_36 P_PR_take_LW_36L
          refine fun _ => ⟨hp1, fun _ => ?_⟩
          unfold P_PR_take_LW_36L85 P_PR_take_LW_36L103 P_PR_take_LW_36L106
          show (plUp c' 25 7 (c' 25 7 ^^^ K_LW_plainAt c' (nI (5 + s + k))) 25 6 = 0 → P_SR_give (plUp (plUp c' 25 7 (c' 25 7 ^^^ K_LW_plainAt c' (nI (5 + s + k)))) 25 6 0) (K_LW_plainAt c' (nI (5 + s + k)))) ∧ (¬ plUp c' 25 7 (c' 25 7 ^^^ K_LW_plainAt c' (nI (5 + s + k))) 25 6 = 0 → P_SR_give (plUp (plUp c' 25 7 (c' 25 7 ^^^ K_LW_plainAt c' (nI (5 + s + k)))) 25 6 (plUp c' 25 7 (c' 25 7 ^^^ K_LW_plainAt c' (nI (5 + s + k))) 25 6 + 1)) (K_LW_plainAt c' (nI (5 + s + k))))
          rw [hpl, z3]
          exact ⟨fun y => by rw [z5 y]; exact g1, fun y => by rw [z4 y]; exact g1⟩
        · unfold G_RM_read_189 P_RM_read_189L
          refine fun _ => ⟨hv1, hv2, fun y => ⟨fun _ => ?_, fun w => absurd (o2.mp ⟨y, w⟩) e⟩, fun _ => ?_⟩
          · show P_RM_give r' _ 0
            rw [hrl]; exact g2
          · show P_RM_give r' _ 0
            rw [hrl]; exact g2
        · rw [kf, kg]
          refine ⟨_, _, rfl, rfl, m2, g3, g4, fun j => ?_, fun i j hi => ?_⟩
          · rw [plGiveC (Or.inl (by omega)), plUp_ap, if_neg (by omega), plUp_ap, if_neg (by omega)]; exact i3 j
          · rw [show K_RM_give r' b 0 i j = r' i j by apply fr_K_RM_give <;> omega]; exact i4 i j hi) (by
      rintro _ _ ⟨c', r', rfl, rfl, m', i1, i2, i3, i4⟩
      have n12 : 12 ≤ nI (5 + s + (7 - s)) := by rw [show (12 : Int32) = nI 12 from rfl, nI_leI (by omega) (by omega)]; omega
      refine ⟨fun w => absurd n12 w, fun w => absurd n12 w, ?_, ?_⟩
      · unfold F_PR_take_LW_36 K_PR_take_LW_36L
        rw [if_pos n12]
      · unfold F_RM_read_189 K_RM_read_189L
        rw [if_pos n12]) 64 0 (c, nI (5 + s)) (r, nI (5 + s)) (by omega) (by omega) ⟨c, r, rfl, rfl, m, h, hst, fun _ => rfl, fun _ _ _ => rfl⟩
  refine ⟨fun _ => l1, l2, ?_⟩
  rw [ec, er]
  unfold K_PR_take_LW_36X K_RM_read_189X
  show plPtr (plUp c' 25 1 (c' 25 1 + (nI s - 1) + 6 - (c' 25 1 + (nI s - 1) + 6) / 6 * 6)) (plUp r' 0 41 (nI v + (nI s - 1) + 6 - (nI v + (nI s - 1) + 6) / 6 * 6)) B (M + 7) ∧ plStr (plUp c' 25 1 (c' 25 1 + (nI s - 1) + 6 - (c' 25 1 + (nI s - 1) + 6) / 6 * 6)) (plUp r' 0 41 (nI v + (nI s - 1) + 6 - (nI v + (nI s - 1) + 6) / 6 * 6)) (BS + 7)
  have hc1' : c' 25 1 = nI v := by rw [i1.2.1, plV_lt hv]
  obtain ⟨u, hu, eu⟩ := plOff_v v s hv hs
  rw [hc1', eu]
  obtain ⟨a1, a2, a3, a4, a5, a6, a7, a8, a9, a10, a11, a12, a13, a14, a15, a16, a17, a18, a19⟩ := i1
  refine ⟨⟨u, Γ, Z, m', by omega, ?_, ?_, a4, ?_, ?_, fun _ => a7 (by omega), a8, ?_, ?_, fun z => by omega, ?_, by omega, ?_, ?_, fun z => by omega, ?_, ?_, ?_⟩, ?_⟩
  · rw [plV_lt hu]; simp [plUp_ap]
  · rw [plV_lt hu]; simp [plUp_ap]
  · simp [plUp_ap, a5]
  · simp [plUp_ap, a6]
  · simp [plUp_ap, a9]
  · simp [plUp_ap, a10]
  · simp only [plUp_ap]; simpa using a12
  · simp [plUp_ap, a14]
  · simp [plUp_ap, a15]
  · simp [plUp_ap, a17]
  · simp [plUp_ap, a18]
  · simp [plUp_ap, a19]
  · exact ((plStr_up25 i2).ext (fun _ => rfl) (fun _ => rfl) (fun _ => rfl) (fun _ => rfl) (fun k k1 k2 => by rw [plUp_ap, if_neg (by omega)]) (fun _ => by simp [plUp_ap]) (fun _ => by simp [plUp_ap])).mono (by omega)
/-- the whole of a frame that can be read -/
theorem plRead_LW {c r : plS} {B M BS σ : Nat} (h : plPtr c r B M) (hσ : σ < 2) (hst : plStr c r BS) (hM : M + 7 < 2 ^ 28) (hBS : BS + 7 < 2 ^ 28) (hby : ∀ p, 4 ≤ p → p < 12 → c 12 p ^^^ plROW (p - 2) = r 10 (12 * σ + p) ^^^ r 6 p ∧ plBy (c 12 p ^^^ plROW (p - 2))) : P_PR_take_LW c ∧ P_RM_read r (nI (12 * σ)) (r 10 (12 * σ + 4) ^^^ r 6 4) ∧ plPtr (K_PR_take_LW c) (K_RM_read r (nI (12 * σ)) (r 10 (12 * σ + 4) ^^^ r 6 4)) B (M + 7) ∧ plStr (K_PR_take_LW c) (K_RM_read r (nI (12 * σ)) (r 10 (12 * σ + 4) ^^^ r 6 4)) (BS + 7) := by
  obtain ⟨v, Γ, Z, m, hx⟩ := h
  obtain ⟨b1, b2⟩ := hby 4 (by omega) (by omega)
  have hpl : K_LW_plainAt (plUp c 25 2 0) 4 = c 12 4 ^^^ plROW 2 := by
    show plUp c 25 2 0 12 4 ^^^ plROW 2 = _
    rw [plUp_ap, if_neg (by omega)]
  rw [show 4 - 2 = 2 from rfl] at b1 b2
  rw [← b1]
  obtain ⟨n, hn, en⟩ := b2
  rw [en] at hpl ⊢
  obtain ⟨c1, hc1⟩ : ∃ c1, c1 = plUp c 25 2 0 := ⟨_, rfl⟩
  obtain ⟨r1, hr1⟩ : ∃ r1, r1 = plUp r 0 42 0 := ⟨_, rfl⟩
  have hx1 : plPtrX c1 r1 B M v 0 Z m := by
    obtain ⟨a1, a2, a3, a4, a5, a6, a7, a8, a9, a10, a11, a12, a13, a14, a15, a16, a17, a18, a19⟩ := hx
    rw [hc1, hr1]
    refine ⟨a1, ?_, ?_, by omega, ?_, ?_, fun _ => by omega, a8, ?_, ?_, a11, ?_, a13, ?_, ?_, a16, ?_, ?_, ?_⟩
    · simp [plUp_ap, a2]
    · simp [plUp_ap, a3]
    · simp [plUp_ap]; rfl
    · simp [plUp_ap]; rfl
    · simp [plUp_ap, a9]
    · simp [plUp_ap, a10]
    · simp only [plUp_ap]; simpa using a12
    · simp [plUp_ap, a14]
    · simp [plUp_ap, a15]
    · simp [plUp_ap, a17]
    · simp [plUp_ap, a18]
    · simp [plUp_ap, a19]
  have hs1 : plStr c1 r1 BS := by
    rw [hc1, hr1]
    exact (plStr_up25 hst).ext (fun _ => rfl) (fun _ => rfl) (fun _ => rfl) (fun _ => rfl) (fun k k1 k2 => by rw [plUp_ap, if_neg (by omega)]) (fun _ => by simp [plUp_ap]) (fun _ => by simp [plUp_ap])
  have c12 : ∀ j, c1 12 j = c 12 j := fun j => by rw [hc1, plUp_ap, if_neg (by omega)]
  have r10 : ∀ i j, i = 10 ∨ i = 6 → r1 i j = r i j := fun i j hi => by rw [hr1, plUp_ap, if_neg (by omega)]
  have fol : plFol c1 r1 B M (nI n) (nI (12 * σ)) := by
    by_cases e : v = 6
    · subst e; exact plFollow_lost hx1 rfl hn _
    · exact plFollow_at hx1 (by have := hx1.1; omega) rfl hn _
  have kc : K_PR_take_LW c = K_PR_take_LW_14q (K_PR_follow c1 (nI n)) := by
    unfold K_PR_take_LW K_PR_take_LW_5
    rw [hpl, ← hc1]
  have kr : K_RM_read r (nI (12 * σ)) (nI n) = K_RM_read_5 r1 (nI (12 * σ)) (nI n) := by
    unfold K_RM_read
    rw [← hr1]
  have pc : P_PR_take_LW_14q (K_PR_follow c1 (nI n)) → P_PR_take_LW c := fun p => by
    unfold P_PR_take_LW P_PR_take_LW_5
    rw [hpl, ← hc1]
    exact ⟨⟨vp_in_nI (n := 4) (by omega) (by omega), vp_in_nI (n := 2) (by omega) (by omega)⟩, p⟩
  have pr : P_RM_read_5 r1 (nI (12 * σ)) (nI n) → P_RM_read r (nI (12 * σ)) (nI n) := fun p => by
    unfold P_RM_read
    rw [← hr1]
    exact p
  rw [kc, kr]
  obtain ⟨r2, f1, f2, f3, f4⟩ := fol
  have hs2 : plStr (K_PR_follow c1 (nI n)).2 r2 BS := hs1.ext (fun k => f3 21 k (by omega)) (fun k => f3 22 k (by omega)) (fun k => f3 23 k (by omega)) (fun k => f3 24 k (by omega)) (fun k k1 k2 => f2 k (by omega)) (fun k => f1 17 k (by omega)) (fun k => f1 18 k (by omega))
  rcases f4 with ⟨g1, g2, g3, g4⟩ | ⟨w, s, hw, hs, g1, g2, g3, g4, g5, g6⟩
  · have kq : K_PR_take_LW_14q (K_PR_follow c1 (nI n)) = K_PR_breakOff (K_PR_follow c1 (nI n)).2 := by
      unfold K_PR_take_LW_14q
      rw [if_pos g1]
    refine ⟨pc (fun z => absurd g1 z), pr g2, ?_, ?_⟩
    · rw [kq, g3]; exact g4.mono (by omega) (by omega)
    · rw [kq, g3]; exact (plStr_break hs2 (fun _ _ _ => rfl) (fun _ => rfl) (fun _ => rfl)).mono (by omega)
  · obtain ⟨v', Γ', Z', m', hx2⟩ := g4
    have ev : v' = w := by
      have e := hx2.2.1
      rw [g2] at e
      by_cases y : v' = 6
      · subst y
        exact absurd e ((plBy.lit (n := w) (by omega)).nm)
      · rw [plV_lt (by have := hx2.1; omega)] at e
        exact ((nI_eq (by omega) (by have := hx2.1; omega)).mp e).symm
    subst ev
    have eq : K_PR_follow c1 (nI n) = (nI s - 1, (K_PR_follow c1 (nI n)).2) := by rw [← g1]
    obtain ⟨p1, p2, p3, p4⟩ := plLoop_LW hx2 hw hs hσ hs2 hM hBS (fun p h1 h2 => by
      rw [f3 12 p (by omega), c12, f1 10 _ (by omega), f1 6 _ (by omega), r10 10 _ (Or.inl rfl), r10 6 _ (Or.inr rfl)]
      exact hby p h1 h2)
    rw [← eq] at p1 p3 p4
    rw [g6]
    exact ⟨pc p1, pr (g5 p2), p3, p4⟩
