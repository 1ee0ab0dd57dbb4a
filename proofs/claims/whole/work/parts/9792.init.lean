/-! the two objects, newly made -/
def plSV (k : Nat) : Int32 := ([127, 2, 12, 40, 114, 44, 106, 125, 14, 36, 90] : List Int32).getD k 0
def plInF (c : Int32 × Int32 × Int32) : Bool × (Int32 × Int32 × Int32) := K_RM_init_222L235L (fun _ _ => 0) c.1 0 c.2.1 c.2.2
theorem plInR : ∀ k, k < 10 → lpR plInF 64 (plSV k, 0, 0) = (plSV (k + 1), plROW k, 8) := by decide +kernel
theorem plInE (st : plS) (v : Int32) : F_RM_init_222L235 st v = plInF := rfl
theorem plInP (x : Int32) : lpP (fun _ => True) plInF 64 (x, 0, 0) :=
  (plL1 (fun _ => True) plInF (fun k c => c.2.2 = nI k) 8 (by
    rintro k ⟨a, b, d⟩ hk h
    have h : d = nI k := h
    subst h
    have l : ¬ 8 ≤ nI k := by rw [show (8 : Int32) = nI 8 from rfl, nI_leI (by omega) (by omega)]; omega
    have e : plInF (a, b, nI k) = (true, (((2 * a) + (((a >>> ((6 : Int32) &&& 31)) &&& 1) ^^^ ((a >>> ((5 : Int32) &&& 31)) &&& 1))) &&& 127, (2 * b) + ((a >>> ((6 : Int32) &&& 31)) &&& 1), nI k + 1)) := if_neg l
    rw [e]
    exact ⟨trivial, rfl, by show nI k + 1 = _; rw [nI_1]⟩) (by
    rintro ⟨a, b, d⟩ h
    have h : d = nI 8 := h
    subst h
    exact ⟨trivial, rfl⟩) 64 0 (x, 0, 0) (by omega) (by omega) rfl).1
theorem plRowL (st : plS) : lpP G_RM_init_222 F_RM_init_222 64 (st, 127, 2) ∧ ∀ i j, (lpR F_RM_init_222 64 (st, 127, 2)).1 i j = if i = 6 ∧ 2 ≤ j ∧ j < 12 then plROW (j - 2) else st i j := by
  obtain ⟨h1, st', h2, h3⟩ := plL1 G_RM_init_222 F_RM_init_222 (fun k c => ∃ st', c = (st', plSV k, nI (2 + k)) ∧ ∀ i j, st' i j = if i = 6 ∧ 2 ≤ j ∧ j < 2 + k then plROW (j - 2) else st i j) 10 (by
    rintro k _ hk ⟨st', rfl, hI⟩
    have l : ¬ 12 ≤ nI (2 + k) := by rw [show (12 : Int32) = nI 12 from rfl, nI_leI (by omega) (by omega)]; omega
    have e : F_RM_init_222 (st', plSV k, nI (2 + k)) = (true, (plUp st' 6 (2 + k) (plROW k), plSV (k + 1), nI (2 + (k + 1)))) := by
      unfold F_RM_init_222 K_RM_init_222L
      rw [if_neg l, plInE]
      show K_RM_init_222L235X st' (nI (2 + k)) (lpR plInF 64 (plSV k, 0, 0)) = _
      rw [plInR k hk]
      unfold K_RM_init_222L235X
      show (true, (plUp st' 6 (plIx (nI (2 + k))) (plROW k), plSV (k + 1), nI (2 + k) + 1)) = _
      rw [plIx_nI (by omega), nI_1]
      rfl
    refine ⟨?_, by rw [e], _, by rw [e], fun i j => ?_⟩
    · unfold G_RM_init_222 P_RM_init_222L
      refine fun _ => ⟨?_, ?_⟩
      · rw [plInE]; exact plInP _
      · unfold P_RM_init_222L235X
        exact vp_in_nI (by omega) (by omega)
    · rw [plUp_ap, hI]
      by_cases z : i = 6 ∧ j = 2 + k
      · rw [if_pos z, if_pos (by omega), z.2, show 2 + k - 2 = k by omega]
      · rw [if_neg z]
        by_cases y : i = 6 ∧ 2 ≤ j ∧ j < 2 + k
        · rw [if_pos y, if_pos (by omega)]
        · rw [if_neg y, if_neg (by omega)]) (by
    rintro _ ⟨st', rfl, hI⟩
    have l : (12 : Int32) ≤ nI (2 + 10) := by decide
    refine ⟨?_, ?_⟩
    · unfold G_RM_init_222 P_RM_init_222L
      exact fun y => absurd l y
    · unfold F_RM_init_222 K_RM_init_222L
      rw [if_pos l]) 64 0 (st, 127, 2) (by omega) (by omega) ⟨st, rfl, fun i j => by rw [if_neg (by omega)]⟩
  exact ⟨h1, fun i j => by rw [h2]; exact h3 i j⟩
theorem plInit_P (v1 v2 v3 v4 : Int32) : P_RM_init_176 plR0 v1 v2 v3 v4 := by
  unfold P_RM_init_176 P_RM_init_187 P_RM_init_198 P_RM_init_206
  exact (plRowL _).1
theorem plInit_K (v1 v2 v3 v4 : Int32) (i j : Nat) : K_RM_init_176 plR0 v1 v2 v3 v4 i j = if i = 6 ∧ 2 ≤ j ∧ j < 12 then plROW (j - 2) else if i = 0 ∧ j = 2 then v4 &&& 7 else if i = 0 ∧ j = 1 then v3 &&& 7 else if i = 1 ∧ j = 1 then 1 + (v2 &&& 3) else if i = 1 ∧ j = 0 then 1 + (v1 &&& 3) else plR0 i j := by
  unfold K_RM_init_176 K_RM_init_187 K_RM_init_198 K_RM_init_206 K_RM_init_222X
  rw [(plRowL _).2, plUp_ap, plUp_ap, plUp_ap, plUp_ap, show plIx 1 = 1 from rfl, show plIx 0 = 0 from rfl]
theorem plDel (v : Int32) : ∃ d, 1 ≤ d ∧ d ≤ 4 ∧ 1 + (v &&& 3) = nI d := by
  obtain ⟨j, hj, e⟩ := pk_andE v (m := 3) 2 rfl
  exact ⟨1 + j, by omega, by omega, by rw [e, show (1 : Int32) = nI 1 from rfl, nI_add]⟩
theorem plInit_R (v1 v2 v3 v4 : Int32) : plR (plC0 v1 v2 v3 v4) (K_RM_init_176 plR0 v1 v2 v3 v4) 0 := by
  have hr := plInit_K v1 v2 v3 v4
  obtain ⟨r, er⟩ : ∃ r, r = K_RM_init_176 plR0 v1 v2 v3 v4 := ⟨_, rfl⟩
  rw [← er] at hr ⊢
  have r0 : ∀ j, ¬ j = 1 → ¬ j = 2 → r 0 j = plR0 0 j := fun j a b => by
    rw [hr, if_neg (by omega), if_neg (by omega), if_neg (by omega), if_neg (by omega), if_neg (by omega)]
  have rz : ∀ i j, 2 ≤ i → ¬ i = 6 → r i j = 0 := fun i j a b => by
    rw [hr, if_neg (by omega), if_neg (by omega), if_neg (by omega), if_neg (by omega), if_neg (by omega)]
    unfold plR0
    match i, a with
    | i + 2, _ => rfl
  have r10 : r 1 0 = 1 + (v1 &&& 3) := by rw [hr, if_neg (by omega), if_neg (by omega), if_neg (by omega), if_neg (by omega), if_pos ⟨rfl, rfl⟩]
  have r11 : r 1 1 = 1 + (v2 &&& 3) := by rw [hr, if_neg (by omega), if_neg (by omega), if_neg (by omega), if_pos ⟨rfl, rfl⟩]
  have r01 : r 0 1 = v3 &&& 7 := by rw [hr, if_neg (by omega), if_neg (by omega), if_pos ⟨rfl, rfl⟩]
  have r02 : r 0 2 = v4 &&& 7 := by rw [hr, if_neg (by omega), if_pos ⟨rfl, rfl⟩]
  have hrow : plRw r := by
    refine ⟨?_, ?_, fun p p1 p2 => by rw [hr, if_pos ⟨rfl, p1, p2⟩]⟩
    · rw [hr, if_neg (by omega), if_neg (by omega), if_neg (by omega), if_neg (by omega), if_neg (by omega)]; rfl
    · rw [hr, if_neg (by omega), if_neg (by omega), if_neg (by omega), if_neg (by omega), if_neg (by omega)]; rfl
  clear hr er
  obtain ⟨d1, d11, d12, d13⟩ := plDel v1
  obtain ⟨d2, d21, d22, d23⟩ := plDel v2
  obtain ⟨h, hh, eh⟩ := pk_andE v3 (m := 7) 3 rfl
  obtain ⟨w, hw, ew⟩ := pk_andE v4 (m := 7) 3 rfl
  have by0 : plBy 0 := plBy.lit (n := 0) (by omega)
  have b0 : plB 0 := Or.inl rfl
  refine ⟨0, by omega, ⟨?_, hrow, ?_, ?_, ?_, ?_, ?_, ?_, ?_, ?_, ?_, ?_⟩, ?_⟩
  · rw [r0 _ (by omega) (by omega)]; rfl
  · refine ⟨0, 0, 0, 0, fun _ => 0, fun _ => 0, by omega, by omega, rfl, rfl, ?_, rfl, ?_, by0, fun j hj => by omega, by omega, by omega, rfl, ?_, rfl, ?_, fun p _ hp => by omega⟩
    · rw [r0 _ (by omega) (by omega)]; rfl
    · rw [r0 _ (by omega) (by omega)]; rfl
    · rw [r0 _ (by omega) (by omega)]; rfl
    · rw [r0 _ (by omega) (by omega)]; rfl
  · refine ⟨0, by omega, rfl, ?_, by0, fun _ => ⟨?_, ?_⟩, fun y => absurd rfl y⟩
    · rw [r0 _ (by omega) (by omega)]; rfl
    · rw [r0 _ (by omega) (by omega)]; rfl
    · rw [r0 _ (by omega) (by omega)]; rfl
  · refine ⟨0, 3, 8, by omega, by omega, by omega, rfl, ?_, by show (0 : Int32) = nI 8 - 8; decide, ?_, rfl, ?_⟩
    · rw [r0 _ (by omega) (by omega)]; rfl
    · rw [r0 _ (by omega) (by omega)]; decide
    · rw [r0 _ (by omega) (by omega)]; rfl
  · refine ⟨⟨0, by omega, ?_, fun _ => rfl, fun y => by omega⟩, 0, by omega, rfl, ?_, ?_⟩
    · rw [r0 _ (by omega) (by omega)]; rfl
    · rw [r0 _ (by omega) (by omega)]; rfl
    · rw [r0 _ (by omega) (by omega)]; rfl
  · refine ⟨⟨d1, d11, d12, d13, by rw [r10, d13]⟩, rfl, fun j _ _ _ => by omega, rfl, ⟨?_, b0⟩, fun p _ => ⟨?_, by0⟩, ⟨?_, b0⟩, fun y => absurd rfl y, ⟨0, by omega, rfl, ?_, fun y => by omega⟩, ?_⟩
    · rw [rz _ _ (by omega) (by omega)]; rfl
    · rw [rz _ _ (by omega) (by omega)]; rfl
    · rw [rz _ _ (by omega) (by omega)]; rfl
    · rw [rz _ _ (by omega) (by omega)]; rfl
    · rw [rz _ _ (by omega) (by omega)]; rfl
  · refine ⟨⟨d2, d21, d22, d23, by rw [r11, d23]⟩, rfl, fun j _ _ _ => by omega, rfl, ⟨?_, b0⟩, fun p _ => ⟨?_, by0⟩, ⟨?_, b0⟩, fun y => absurd rfl y, ⟨0, by omega, rfl, ?_, fun y => by omega⟩, ?_⟩
    · rw [rz _ _ (by omega) (by omega)]; rfl
    · rw [rz _ _ (by omega) (by omega)]; rfl
    · rw [rz _ _ (by omega) (by omega)]; rfl
    · rw [rz _ _ (by omega) (by omega)]; rfl
    · rw [rz _ _ (by omega) (by omega)]; rfl
  · exact ⟨⟨d2, d21, d22, d23, by rw [r11, d23]⟩, rfl, fun j _ _ _ => by omega⟩
  · refine ⟨⟨0, by omega, ?_, fun _ => rfl, fun y => by omega⟩, Or.inl ⟨rfl, ?_⟩⟩
    · rw [r0 _ (by omega) (by omega)]; rfl
    · rw [r0 _ (by omega) (by omega)]; rfl
  · refine ⟨6, 0, 0, 0, by omega, rfl, ?_, by omega, rfl, ?_, fun _ => by omega, by omega, rfl, ?_, fun _ => rfl, Or.inl ⟨rfl, ?_⟩, by omega, rfl, ?_, fun _ => rfl, ?_, by0, ?_⟩
    · rw [r0 _ (by omega) (by omega)]; rfl
    · rw [r0 _ (by omega) (by omega)]; rfl
    · rw [r0 _ (by omega) (by omega)]; rfl
    · rw [r0 _ (by omega) (by omega)]; rfl
    · rw [r0 _ (by omega) (by omega)]; rfl
    · rw [r0 _ (by omega) (by omega)]; rfl
    · rw [r0 _ (by omega) (by omega)]; rfl
  · refine ⟨0, 0, 0, 0, by omega, rfl, ?_, Or.inl ⟨rfl, ?_⟩, by omega, by omega, rfl, rfl, ?_, fun y => by omega, fun y => by omega, ?_, by0, rfl, ?_, by omega, ?_, fun k _ y => by omega⟩
    · rw [r0 _ (by omega) (by omega)]; rfl
    · rw [r0 _ (by omega) (by omega)]; rfl
    · rw [r0 _ (by omega) (by omega)]; rfl
    · rw [r0 _ (by omega) (by omega)]; rfl
    · rw [r0 _ (by omega) (by omega)]; rfl
    · rw [r0 _ (by omega) (by omega)]; rfl
  · refine ⟨h, w, 0, 0, 0, 0, hh, hw, by omega, by omega, by omega, by omega, eh, by rw [r01, eh], ew, by rw [r02, ew], rfl, ?_, rfl, ?_, rfl, ?_, ?_, fun y => by omega, fun _ => rfl, ?_, b0⟩
    · rw [r0 _ (by omega) (by omega)]; rfl
    · rw [r0 _ (by omega) (by omega)]; rfl
    · rw [r0 _ (by omega) (by omega)]; rfl
    · rw [r0 _ (by omega) (by omega)]; rfl
    · rw [r0 _ (by omega) (by omega)]; rfl
