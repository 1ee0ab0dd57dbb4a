/-! a frame goes out: the class -/
theorem plSlot {n : Nat} (h : n < 2 ^ 31) : K_LN_slotOf (nI n) = nI (12 * (n % 8)) := by
  unfold K_LN_slotOf
  rw [plAnd7 h, show (12 : Int32) = nI 12 from rfl, pk_mul, Nat.mul_comm]
def plLB (j v : Int32) (f : Nat → Int32) (p : Nat) : Int32 := if p = 0 then 246 else if p = 1 then 40 else if p = 2 then j ^^^ plROW 0 else if p = 3 then v ^^^ plROW 1 else f (p - 4) ^^^ plROW (p - 2)
theorem plJoin_LWu {st : plS} {o : Nat} (ho : o + 12 ≤ 96) : P_LN_joinedFrom_LWu st (nI o) ∧ K_LN_joinedFrom_LWu st (nI o) = plXor (fun p => st 10 (o + p)) 12 := by
  obtain ⟨h1, h2⟩ := plXl (F_LN_joinedFrom_LWu_4 st (nI o)) (G_LN_joinedFrom_LWu_4 st (nI o)) (fun p => st 10 (o + p)) 12 (by omega) (fun y j h => by
    refine ⟨fun _ => ?_, ?_⟩
    · show vp_in (nI o + nI j) 96
      rw [nI_add]; exact vp_in_nI (by omega) (by omega)
    · show K_LN_joinedFrom_LWu_4L st _ y (nI j) = _
      unfold K_LN_joinedFrom_LWu_4L
      rw [if_neg (plN12 h), nI_add, nI_1, plIx_nI (by omega)]) (fun y => by
    refine ⟨fun w => absurd plE12 w, ?_⟩
    show K_LN_joinedFrom_LWu_4L st _ y (nI 12) = _
    unfold K_LN_joinedFrom_LWu_4L
    rw [if_pos plE12])
  refine ⟨h1, ?_⟩
  unfold K_LN_joinedFrom_LWu K_LN_joinedFrom_LWu_4X
  rw [h2]
theorem plJoin_LPu {st : plS} {o : Nat} (ho : o + 12 ≤ 96) : P_LN_joinedFrom_LPu st (nI o) ∧ K_LN_joinedFrom_LPu st (nI o) = plXor (fun p => st 14 (o + p)) 12 := by
  obtain ⟨h1, h2⟩ := plXl (F_LN_joinedFrom_LPu_4 st (nI o)) (G_LN_joinedFrom_LPu_4 st (nI o)) (fun p => st 14 (o + p)) 12 (by omega) (fun y j h => by
    refine ⟨fun _ => ?_, ?_⟩
    · show vp_in (nI o + nI j) 96
      rw [nI_add]; exact vp_in_nI (by omega) (by omega)
    · show K_LN_joinedFrom_LPu_4L st _ y (nI j) = _
      unfold K_LN_joinedFrom_LPu_4L
      rw [if_neg (plN12 h), nI_add, nI_1, plIx_nI (by omega)]) (fun y => by
    refine ⟨fun w => absurd plE12 w, ?_⟩
    show K_LN_joinedFrom_LPu_4L st _ y (nI 12) = _
    unfold K_LN_joinedFrom_LPu_4L
    rw [if_pos plE12])
  refine ⟨h1, ?_⟩
  unfold K_LN_joinedFrom_LPu K_LN_joinedFrom_LPu_4X
  rw [h2]
theorem plJoin_LWa {st : plS} {o : Nat} (ho : o + 12 ≤ 12) : P_LN_joinedFrom_LWa st (nI o) ∧ K_LN_joinedFrom_LWa st (nI o) = plXor (fun p => st 12 (o + p)) 12 := by
  obtain ⟨h1, h2⟩ := plXl (F_LN_joinedFrom_LWa_4 st (nI o)) (G_LN_joinedFrom_LWa_4 st (nI o)) (fun p => st 12 (o + p)) 12 (by omega) (fun y j h => by
    refine ⟨fun _ => ?_, ?_⟩
    · show vp_in (nI o + nI j) 12
      rw [nI_add]; exact vp_in_nI (by omega) (by omega)
    · show K_LN_joinedFrom_LWa_4L st _ y (nI j) = _
      unfold K_LN_joinedFrom_LWa_4L
      rw [if_neg (plN12 h), nI_add, nI_1, plIx_nI (by omega)]) (fun y => by
    refine ⟨fun w => absurd plE12 w, ?_⟩
    show K_LN_joinedFrom_LWa_4L st _ y (nI 12) = _
    unfold K_LN_joinedFrom_LWa_4L
    rw [if_pos plE12])
  refine ⟨h1, ?_⟩
  unfold K_LN_joinedFrom_LWa K_LN_joinedFrom_LWa_4X
  rw [h2]
theorem plJoin_LPa {st : plS} {o : Nat} (ho : o + 12 ≤ 12) : P_LN_joinedFrom_LPa st (nI o) ∧ K_LN_joinedFrom_LPa st (nI o) = plXor (fun p => st 16 (o + p)) 12 := by
  obtain ⟨h1, h2⟩ := plXl (F_LN_joinedFrom_LPa_4 st (nI o)) (G_LN_joinedFrom_LPa_4 st (nI o)) (fun p => st 16 (o + p)) 12 (by omega) (fun y j h => by
    refine ⟨fun _ => ?_, ?_⟩
    · show vp_in (nI o + nI j) 12
      rw [nI_add]; exact vp_in_nI (by omega) (by omega)
    · show K_LN_joinedFrom_LPa_4L st _ y (nI j) = _
      unfold K_LN_joinedFrom_LPa_4L
      rw [if_neg (plN12 h), nI_add, nI_1, plIx_nI (by omega)]) (fun y => by
    refine ⟨fun w => absurd plE12 w, ?_⟩
    show K_LN_joinedFrom_LPa_4L st _ y (nI 12) = _
    unfold K_LN_joinedFrom_LPa_4L
    rw [if_pos plE12])
  refine ⟨h1, ?_⟩
  unfold K_LN_joinedFrom_LPa K_LN_joinedFrom_LPa_4X
  rw [h2]
theorem plLaunch_LW_launch_NAc {c : plS} {v1 : Int32} {n : Nat} (hn : n < 2 ^ 28) (hT : c 9 2 = nI n) : P_LW_launch_NAc c v1 ∧ ∀ i k, K_LW_launch_NAc c v1 i k = if i = 9 ∧ k = 2 then nI (n + 1) else if i = 9 ∧ k = 3 then plXor (plLB (c 9 3) v1 (fun q => c 8 q)) 12 else if i = 10 ∧ 12 * (n % 8) ≤ k ∧ k < 12 * (n % 8) + 12 then plLB (c 9 3) v1 (fun q => c 8 q) (k - 12 * (n % 8)) else c i k := by
  obtain ⟨o, ho⟩ : ∃ o, o = 12 * (n % 8) := ⟨_, rfl⟩
  have so : K_LN_slotOf (c 9 2) = nI o := by rw [hT, ho]; exact plSlot (by omega)
  rw [← ho]
  have ho2 : o + 12 ≤ 96 := by omega
  obtain ⟨c5, hc5⟩ : ∃ c5, c5 = plUp (plUp (plUp (plUp (plUp c 9 2 (nI (n + 1))) 10 o 246) 10 (o + 1) 40) 10 (o + 2) (c 9 3 ^^^ plROW 0)) 10 (o + 3) (v1 ^^^ plROW 1) := ⟨_, rfl⟩
  have e3 : plUp (plUp (plUp c 9 2 (nI (n + 1))) 10 o 246) 10 (o + 1) 40 9 3 = c 9 3 := by simp [plUp_ap]
  have i1 : ∀ b, nI o + nI b = nI (o + b) := fun b => nI_add o b
  have x1 : ∀ b, b < 12 → plIx (nI (o + b)) = o + b := fun b hb => plIx_nI (by omega)
  have e5 : ∀ i k, c5 i k = if i = 10 ∧ o ≤ k ∧ k < o + 4 then plLB (c 9 3) v1 (fun q => c 8 q) (k - o) else if i = 9 ∧ k = 2 then nI (n + 1) else c i k := by
    intro i k
    rw [hc5]
    simp only [plUp_ap]
    by_cases z3 : i = 10 ∧ k = o + 3
    · rw [if_pos z3, if_pos (by omega), show k - o = 3 by omega]; rfl
    · rw [if_neg z3]
      by_cases z2 : i = 10 ∧ k = o + 2
      · rw [if_pos z2, if_pos (by omega), show k - o = 2 by omega]; rfl
      · rw [if_neg z2]
        by_cases z1 : i = 10 ∧ k = o + 1
        · rw [if_pos z1, if_pos (by omega), show k - o = 1 by omega]; rfl
        · rw [if_neg z1]
          by_cases z0 : i = 10 ∧ k = o
          · rw [if_pos z0, if_pos (by omega), show k - o = 0 by omega]; rfl
          · rw [if_neg z0]
            rw [if_neg (show ¬ (i = 10 ∧ o ≤ k ∧ k < o + 4) by omega)]
  obtain ⟨w1, st', w2, w3⟩ := plWr (F_LW_launch_NAc_73 (nI o)) (G_LW_launch_NAc_73 (nI o)) 10 o (plLB (c 9 3) v1 (fun q => c 8 q)) c5 4 12 (by omega) (by omega) (fun st' j h4 h hf => by
    have s4 : nI j - 4 = nI (j - 4) := by rw [show (4 : Int32) = nI 4 from rfl, pk_sub h4]
    have s2 : nI j - 2 = nI (j - 2) := by rw [show (2 : Int32) = nI 2 from rfl, pk_sub (by omega)]
    refine ⟨fun _ => ⟨?_, ?_, ?_⟩, ?_⟩
    · show vp_in (nI j - 4) 8
      rw [s4]; exact vp_in_nI (by omega) (by omega)
    · show vp_in (nI j - 2) 10
      rw [s2]; exact vp_in_nI (by omega) (by omega)
    · show vp_in (nI o + nI j) 96
      rw [nI_add]; exact vp_in_nI (by omega) (by omega)
    · show K_LW_launch_NAc_73L st' (nI o) (nI j) = _
      unfold K_LW_launch_NAc_73L
      rw [if_neg (plN12 h), s4, s2, nI_add, nI_1, plIx_nI (by omega), plIx_nI (by omega), plIx_nI (by omega)]
      rw [show st' 8 (j - 4) = c 8 (j - 4) by rw [hf 8 _ (by omega), e5, if_neg (by omega), if_neg (by omega)]]
      rw [show plLB (c 9 3) v1 (fun q => c 8 q) j = (c 8 (j - 4)) ^^^ plROW (j - 2) by unfold plLB; rw [if_neg (by omega), if_neg (by omega), if_neg (by omega), if_neg (by omega)]]) (fun st' => by
    refine ⟨fun w => absurd plE12 w, ?_⟩
    show K_LW_launch_NAc_73L st' _ (nI 12) = _
    unfold K_LW_launch_NAc_73L
    rw [if_pos plE12])
  obtain ⟨j1, j2⟩ := plJoin_LWu (st := st') ho2
  have k5 : K_LW_launch_NAc c v1 = K_LW_launch_NAc_73X (nI o) (lpR (F_LW_launch_NAc_73 (nI o)) 64 (c5, nI 4)) := by
    unfold K_LW_launch_NAc
    rw [so, hT, nI_1]
    unfold K_LW_launch_NAc_18 K_LW_launch_NAc_27 K_LW_launch_NAc_37 K_LW_launch_NAc_55
    rw [show (1 : Int32) = nI 1 from rfl, show (2 : Int32) = nI 2 from rfl, show (3 : Int32) = nI 3 from rfl, i1, i1, i1, x1 1 (by omega), x1 2 (by omega), x1 3 (by omega), show plIx (nI o) = o from plIx_nI (by omega), e3, hc5]
    rfl
  have p5 : P_LW_launch_NAc_55 (plUp (plUp (plUp (plUp c 9 2 (nI (n + 1))) 10 o 246) 10 (o + 1) 40) 10 (o + 2) (c 9 3 ^^^ plROW 0)) v1 (nI o) → P_LW_launch_NAc c v1 := fun p => by
    unfold P_LW_launch_NAc
    rw [so, hT, nI_1]
    unfold P_LW_launch_NAc_18 P_LW_launch_NAc_27 P_LW_launch_NAc_37
    rw [show (1 : Int32) = nI 1 from rfl, show (2 : Int32) = nI 2 from rfl, i1, i1, x1 1 (by omega), x1 2 (by omega), show plIx (nI o) = o from plIx_nI (by omega), e3]
    exact ⟨vp_in_nI (by omega) (by omega), vp_in_nI (by omega) (by omega), vp_in_nI (by omega) (by omega), p⟩
  refine ⟨p5 ?_, fun i k => ?_⟩
  · unfold P_LW_launch_NAc_55
    rw [show (3 : Int32) = nI 3 from rfl, i1, x1 3 (by omega)]
    refine ⟨vp_in_nI (by omega) (by omega), ?_, ?_⟩
    · show lpP _ _ 64 (plUp (plUp (plUp (plUp (plUp c 9 2 (nI (n + 1))) 10 o 246) 10 (o + 1) 40) 10 (o + 2) (c 9 3 ^^^ plROW 0)) 10 (o + 3) (v1 ^^^ plROW 1), nI 4)
      rw [← hc5]; exact w1
    · show P_LW_launch_NAc_73X _ (lpR _ 64 (plUp (plUp (plUp (plUp (plUp c 9 2 (nI (n + 1))) 10 o 246) 10 (o + 1) 40) 10 (o + 2) (c 9 3 ^^^ plROW 0)) 10 (o + 3) (v1 ^^^ plROW 1), nI 4))
      rw [← hc5, w2]
      exact j1
  · rw [k5, w2]
    show plUp st' 9 3 (K_LN_joinedFrom_LWu st' (nI o)) i k = _
    rw [j2, plUp_ap]
    have ew : ∀ p, p < 12 → st' 10 (o + p) = plLB (c 9 3) v1 (fun q => c 8 q) p := fun p hp => by
      rw [w3]
      by_cases z : o + 4 ≤ o + p
      · rw [if_pos ⟨rfl, z, by omega⟩, show o + p - o = p by omega]
      · rw [if_neg (by omega), e5, if_pos ⟨rfl, by omega, by omega⟩, show o + p - o = p by omega]
    rw [plXor_ext 12 ew]
    by_cases z3 : i = 9 ∧ k = 3
    · rw [if_pos z3, if_neg (by omega), if_pos z3]
    · rw [if_neg z3, if_neg z3]
      by_cases zu : i = 10 ∧ o ≤ k ∧ k < o + 12
      · rw [if_neg (by omega), if_pos zu]
        obtain ⟨rfl, z1, z2⟩ := zu
        have e := ew (k - o) (by omega)
        rw [show o + (k - o) = k by omega] at e
        exact e
      · rw [if_neg zu, w3, if_neg (by omega), e5, if_neg (by omega)]
theorem plLaunch_LP_launch_NAc {c : plS} {v1 : Int32} {n : Nat} (hn : n < 2 ^ 28) (hT : c 13 2 = nI n) : P_LP_launch_NAc c v1 ∧ ∀ i k, K_LP_launch_NAc c v1 i k = if i = 13 ∧ k = 2 then nI (n + 1) else if i = 13 ∧ k = 3 then plXor (plLB (c 13 3) v1 (fun q => c 8 q)) 12 else if i = 14 ∧ 12 * (n % 8) ≤ k ∧ k < 12 * (n % 8) + 12 then plLB (c 13 3) v1 (fun q => c 8 q) (k - 12 * (n % 8)) else c i k := by
  obtain ⟨o, ho⟩ : ∃ o, o = 12 * (n % 8) := ⟨_, rfl⟩
  have so : K_LN_slotOf (c 13 2) = nI o := by rw [hT, ho]; exact plSlot (by omega)
  rw [← ho]
  have ho2 : o + 12 ≤ 96 := by omega
  obtain ⟨c5, hc5⟩ : ∃ c5, c5 = plUp (plUp (plUp (plUp (plUp c 13 2 (nI (n + 1))) 14 o 246) 14 (o + 1) 40) 14 (o + 2) (c 13 3 ^^^ plROW 0)) 14 (o + 3) (v1 ^^^ plROW 1) := ⟨_, rfl⟩
  have e3 : plUp (plUp (plUp c 13 2 (nI (n + 1))) 14 o 246) 14 (o + 1) 40 13 3 = c 13 3 := by simp [plUp_ap]
  have i1 : ∀ b, nI o + nI b = nI (o + b) := fun b => nI_add o b
  have x1 : ∀ b, b < 12 → plIx (nI (o + b)) = o + b := fun b hb => plIx_nI (by omega)
  have e5 : ∀ i k, c5 i k = if i = 14 ∧ o ≤ k ∧ k < o + 4 then plLB (c 13 3) v1 (fun q => c 8 q) (k - o) else if i = 13 ∧ k = 2 then nI (n + 1) else c i k := by
    intro i k
    rw [hc5]
    simp only [plUp_ap]
    by_cases z3 : i = 14 ∧ k = o + 3
    · rw [if_pos z3, if_pos (by omega), show k - o = 3 by omega]; rfl
    · rw [if_neg z3]
      by_cases z2 : i = 14 ∧ k = o + 2
      · rw [if_pos z2, if_pos (by omega), show k - o = 2 by omega]; rfl
      · rw [if_neg z2]
        by_cases z1 : i = 14 ∧ k = o + 1
        · rw [if_pos z1, if_pos (by omega), show k - o = 1 by omega]; rfl
        · rw [if_neg z1]
          by_cases z0 : i = 14 ∧ k = o
          · rw [if_pos z0, if_pos (by omega), show k - o = 0 by omega]; rfl
          · rw [if_neg z0]
            rw [if_neg (show ¬ (i = 14 ∧ o ≤ k ∧ k < o + 4) by omega)]
  obtain ⟨w1, st', w2, w3⟩ := plWr (F_LP_launch_NAc_73 (nI o)) (G_LP_launch_NAc_73 (nI o)) 14 o (plLB (c 13 3) v1 (fun q => c 8 q)) c5 4 12 (by omega) (by omega) (fun st' j h4 h hf => by
    have s4 : nI j - 4 = nI (j - 4) := by rw [show (4 : Int32) = nI 4 from rfl, pk_sub h4]
    have s2 : nI j - 2 = nI (j - 2) := by rw [show (2 : Int32) = nI 2 from rfl, pk_sub (by omega)]
    refine ⟨fun _ => ⟨?_, ?_, ?_⟩, ?_⟩
    · show vp_in (nI j - 4) 8
      rw [s4]; exact vp_in_nI (by omega) (by omega)
    · show vp_in (nI j - 2) 10
      rw [s2]; exact vp_in_nI (by omega) (by omega)
    · show vp_in (nI o + nI j) 96
      rw [nI_add]; exact vp_in_nI (by omega) (by omega)
    · show K_LP_launch_NAc_73L st' (nI o) (nI j) = _
      unfold K_LP_launch_NAc_73L
      rw [if_neg (plN12 h), s4, s2, nI_add, nI_1, plIx_nI (by omega), plIx_nI (by omega), plIx_nI (by omega)]
      rw [show st' 8 (j - 4) = c 8 (j - 4) by rw [hf 8 _ (by omega), e5, if_neg (by omega), if_neg (by omega)]]
      rw [show plLB (c 13 3) v1 (fun q => c 8 q) j = (c 8 (j - 4)) ^^^ plROW (j - 2) by unfold plLB; rw [if_neg (by omega), if_neg (by omega), if_neg (by omega), if_neg (by omega)]]) (fun st' => by
    refine ⟨fun w => absurd plE12 w, ?_⟩
    show K_LP_launch_NAc_73L st' _ (nI 12) = _
    unfold K_LP_launch_NAc_73L
    rw [if_pos plE12])
  obtain ⟨j1, j2⟩ := plJoin_LPu (st := st') ho2
  have k5 : K_LP_launch_NAc c v1 = K_LP_launch_NAc_73X (nI o) (lpR (F_LP_launch_NAc_73 (nI o)) 64 (c5, nI 4)) := by
    unfold K_LP_launch_NAc
    rw [so, hT, nI_1]
    unfold K_LP_launch_NAc_18 K_LP_launch_NAc_27 K_LP_launch_NAc_37 K_LP_launch_NAc_55
    rw [show (1 : Int32) = nI 1 from rfl, show (2 : Int32) = nI 2 from rfl, show (3 : Int32) = nI 3 from rfl, i1, i1, i1, x1 1 (by omega), x1 2 (by omega), x1 3 (by omega), show plIx (nI o) = o from plIx_nI (by omega), e3, hc5]
    rfl
  have p5 : P_LP_launch_NAc_55 (plUp (plUp (plUp (plUp c 13 2 (nI (n + 1))) 14 o 246) 14 (o + 1) 40) 14 (o + 2) (c 13 3 ^^^ plROW 0)) v1 (nI o) → P_LP_launch_NAc c v1 := fun p => by
    unfold P_LP_launch_NAc
    rw [so, hT, nI_1]
    unfold P_LP_launch_NAc_18 P_LP_launch_NAc_27 P_LP_launch_NAc_37
    rw [show (1 : Int32) = nI 1 from rfl, show (2 : Int32) = nI 2 from rfl, i1, i1, x1 1 (by omega), x1 2 (by omega), show plIx (nI o) = o from plIx_nI (by omega), e3]
    exact ⟨vp_in_nI (by omega) (by omega), vp_in_nI (by omega) (by omega), vp_in_nI (by omega) (by omega), p⟩
  refine ⟨p5 ?_, fun i k => ?_⟩
  · unfold P_LP_launch_NAc_55
    rw [show (3 : Int32) = nI 3 from rfl, i1, x1 3 (by omega)]
    refine ⟨vp_in_nI (by omega) (by omega), ?_, ?_⟩
    · show lpP _ _ 64 (plUp (plUp (plUp (plUp (plUp c 13 2 (nI (n + 1))) 14 o 246) 14 (o + 1) 40) 14 (o + 2) (c 13 3 ^^^ plROW 0)) 14 (o + 3) (v1 ^^^ plROW 1), nI 4)
      rw [← hc5]; exact w1
    · show P_LP_launch_NAc_73X _ (lpR _ 64 (plUp (plUp (plUp (plUp (plUp c 13 2 (nI (n + 1))) 14 o 246) 14 (o + 1) 40) 14 (o + 2) (c 13 3 ^^^ plROW 0)) 14 (o + 3) (v1 ^^^ plROW 1), nI 4))
      rw [← hc5, w2]
      exact j1
  · rw [k5, w2]
    show plUp st' 13 3 (K_LN_joinedFrom_LPu st' (nI o)) i k = _
    rw [j2, plUp_ap]
    have ew : ∀ p, p < 12 → st' 14 (o + p) = plLB (c 13 3) v1 (fun q => c 8 q) p := fun p hp => by
      rw [w3]
      by_cases z : o + 4 ≤ o + p
      · rw [if_pos ⟨rfl, z, by omega⟩, show o + p - o = p by omega]
      · rw [if_neg (by omega), e5, if_pos ⟨rfl, by omega, by omega⟩, show o + p - o = p by omega]
    rw [plXor_ext 12 ew]
    by_cases z3 : i = 13 ∧ k = 3
    · rw [if_pos z3, if_neg (by omega), if_pos z3]
    · rw [if_neg z3, if_neg z3]
      by_cases zu : i = 14 ∧ o ≤ k ∧ k < o + 12
      · rw [if_neg (by omega), if_pos zu]
        obtain ⟨rfl, z1, z2⟩ := zu
        have e := ew (k - o) (by omega)
        rw [show o + (k - o) = k by omega] at e
        exact e
      · rw [if_neg zu, w3, if_neg (by omega), e5, if_neg (by omega)]
theorem plLaunch_LP_launch_EMPTY {c : plS} {v1 : Int32} {n : Nat} (hn : n < 2 ^ 28) (hT : c 13 2 = nI n) : P_LP_launch_EMPTY c v1 ∧ ∀ i k, K_LP_launch_EMPTY c v1 i k = if i = 13 ∧ k = 2 then nI (n + 1) else if i = 13 ∧ k = 3 then plXor (plLB (c 13 3) v1 (fun q => plEMPTY q)) 12 else if i = 14 ∧ 12 * (n % 8) ≤ k ∧ k < 12 * (n % 8) + 12 then plLB (c 13 3) v1 (fun q => plEMPTY q) (k - 12 * (n % 8)) else c i k := by
  obtain ⟨o, ho⟩ : ∃ o, o = 12 * (n % 8) := ⟨_, rfl⟩
  have so : K_LN_slotOf (c 13 2) = nI o := by rw [hT, ho]; exact plSlot (by omega)
  rw [← ho]
  have ho2 : o + 12 ≤ 96 := by omega
  obtain ⟨c5, hc5⟩ : ∃ c5, c5 = plUp (plUp (plUp (plUp (plUp c 13 2 (nI (n + 1))) 14 o 246) 14 (o + 1) 40) 14 (o + 2) (c 13 3 ^^^ plROW 0)) 14 (o + 3) (v1 ^^^ plROW 1) := ⟨_, rfl⟩
  have e3 : plUp (plUp (plUp c 13 2 (nI (n + 1))) 14 o 246) 14 (o + 1) 40 13 3 = c 13 3 := by simp [plUp_ap]
  have i1 : ∀ b, nI o + nI b = nI (o + b) := fun b => nI_add o b
  have x1 : ∀ b, b < 12 → plIx (nI (o + b)) = o + b := fun b hb => plIx_nI (by omega)
  have e5 : ∀ i k, c5 i k = if i = 14 ∧ o ≤ k ∧ k < o + 4 then plLB (c 13 3) v1 (fun q => plEMPTY q) (k - o) else if i = 13 ∧ k = 2 then nI (n + 1) else c i k := by
    intro i k
    rw [hc5]
    simp only [plUp_ap]
    by_cases z3 : i = 14 ∧ k = o + 3
    · rw [if_pos z3, if_pos (by omega), show k - o = 3 by omega]; rfl
    · rw [if_neg z3]
      by_cases z2 : i = 14 ∧ k = o + 2
      · rw [if_pos z2, if_pos (by omega), show k - o = 2 by omega]; rfl
      · rw [if_neg z2]
        by_cases z1 : i = 14 ∧ k = o + 1
        · rw [if_pos z1, if_pos (by omega), show k - o = 1 by omega]; rfl
        · rw [if_neg z1]
          by_cases z0 : i = 14 ∧ k = o
          · rw [if_pos z0, if_pos (by omega), show k - o = 0 by omega]; rfl
          · rw [if_neg z0]
            rw [if_neg (show ¬ (i = 14 ∧ o ≤ k ∧ k < o + 4) by omega)]
  obtain ⟨w1, st', w2, w3⟩ := plWr (F_LP_launch_EMPTY_73 (nI o)) (G_LP_launch_EMPTY_73 (nI o)) 14 o (plLB (c 13 3) v1 (fun q => plEMPTY q)) c5 4 12 (by omega) (by omega) (fun st' j h4 h hf => by
    have s4 : nI j - 4 = nI (j - 4) := by rw [show (4 : Int32) = nI 4 from rfl, pk_sub h4]
    have s2 : nI j - 2 = nI (j - 2) := by rw [show (2 : Int32) = nI 2 from rfl, pk_sub (by omega)]
    refine ⟨fun _ => ⟨?_, ?_, ?_⟩, ?_⟩
    · show vp_in (nI j - 4) 8
      rw [s4]; exact vp_in_nI (by omega) (by omega)
    · show vp_in (nI j - 2) 10
      rw [s2]; exact vp_in_nI (by omega) (by omega)
    · show vp_in (nI o + nI j) 96
      rw [nI_add]; exact vp_in_nI (by omega) (by omega)
    · show K_LP_launch_EMPTY_73L st' (nI o) (nI j) = _
      unfold K_LP_launch_EMPTY_73L
      rw [if_neg (plN12 h), s4, s2, nI_add, nI_1, plIx_nI (by omega), plIx_nI (by omega), plIx_nI (by omega)]
      rw [show plLB (c 13 3) v1 (fun q => plEMPTY q) j = (plEMPTY (j - 4)) ^^^ plROW (j - 2) by unfold plLB; rw [if_neg (by omega), if_neg (by omega), if_neg (by omega), if_neg (by omega)]]) (fun st' => by
    refine ⟨fun w => absurd plE12 w, ?_⟩
    show K_LP_launch_EMPTY_73L st' _ (nI 12) = _
    unfold K_LP_launch_EMPTY_73L
    rw [if_pos plE12])
  obtain ⟨j1, j2⟩ := plJoin_LPu (st := st') ho2
  have k5 : K_LP_launch_EMPTY c v1 = K_LP_launch_EMPTY_73X (nI o) (lpR (F_LP_launch_EMPTY_73 (nI o)) 64 (c5, nI 4)) := by
    unfold K_LP_launch_EMPTY
    rw [so, hT, nI_1]
    unfold K_LP_launch_EMPTY_18 K_LP_launch_EMPTY_27 K_LP_launch_EMPTY_37 K_LP_launch_EMPTY_55
    rw [show (1 : Int32) = nI 1 from rfl, show (2 : Int32) = nI 2 from rfl, show (3 : Int32) = nI 3 from rfl, i1, i1, i1, x1 1 (by omega), x1 2 (by omega), x1 3 (by omega), show plIx (nI o) = o from plIx_nI (by omega), e3, hc5]
    rfl
  have p5 : P_LP_launch_EMPTY_55 (plUp (plUp (plUp (plUp c 13 2 (nI (n + 1))) 14 o 246) 14 (o + 1) 40) 14 (o + 2) (c 13 3 ^^^ plROW 0)) v1 (nI o) → P_LP_launch_EMPTY c v1 := fun p => by
    unfold P_LP_launch_EMPTY
    rw [so, hT, nI_1]
    unfold P_LP_launch_EMPTY_18 P_LP_launch_EMPTY_27 P_LP_launch_EMPTY_37
    rw [show (1 : Int32) = nI 1 from rfl, show (2 : Int32) = nI 2 from rfl, i1, i1, x1 1 (by omega), x1 2 (by omega), show plIx (nI o) = o from plIx_nI (by omega), e3]
    exact ⟨vp_in_nI (by omega) (by omega), vp_in_nI (by omega) (by omega), vp_in_nI (by omega) (by omega), p⟩
  refine ⟨p5 ?_, fun i k => ?_⟩
  · unfold P_LP_launch_EMPTY_55
    rw [show (3 : Int32) = nI 3 from rfl, i1, x1 3 (by omega)]
    refine ⟨vp_in_nI (by omega) (by omega), ?_, ?_⟩
    · show lpP _ _ 64 (plUp (plUp (plUp (plUp (plUp c 13 2 (nI (n + 1))) 14 o 246) 14 (o + 1) 40) 14 (o + 2) (c 13 3 ^^^ plROW 0)) 14 (o + 3) (v1 ^^^ plROW 1), nI 4)
      rw [← hc5]; exact w1
    · show P_LP_launch_EMPTY_73X _ (lpR _ 64 (plUp (plUp (plUp (plUp (plUp c 13 2 (nI (n + 1))) 14 o 246) 14 (o + 1) 40) 14 (o + 2) (c 13 3 ^^^ plROW 0)) 14 (o + 3) (v1 ^^^ plROW 1), nI 4))
      rw [← hc5, w2]
      exact j1
  · rw [k5, w2]
    show plUp st' 13 3 (K_LN_joinedFrom_LPu st' (nI o)) i k = _
    rw [j2, plUp_ap]
    have ew : ∀ p, p < 12 → st' 14 (o + p) = plLB (c 13 3) v1 (fun q => plEMPTY q) p := fun p hp => by
      rw [w3]
      by_cases z : o + 4 ≤ o + p
      · rw [if_pos ⟨rfl, z, by omega⟩, show o + p - o = p by omega]
      · rw [if_neg (by omega), e5, if_pos ⟨rfl, by omega, by omega⟩, show o + p - o = p by omega]
    rw [plXor_ext 12 ew]
    by_cases z3 : i = 13 ∧ k = 3
    · rw [if_pos z3, if_neg (by omega), if_pos z3]
    · rw [if_neg z3, if_neg z3]
      by_cases zu : i = 14 ∧ o ≤ k ∧ k < o + 12
      · rw [if_neg (by omega), if_pos zu]
        obtain ⟨rfl, z1, z2⟩ := zu
        have e := ew (k - o) (by omega)
        rw [show o + (k - o) = k by omega] at e
        exact e
      · rw [if_neg zu, w3, if_neg (by omega), e5, if_neg (by omega)]
