/-! what comes in on a line: align, both sides; then the class -/
theorem plAlignR {r : plS} {l S : Nat} {b : Nat} (hl : l < 2) (hS : S ≤ 2) (h14 : r 14 l = nI S) (h15 : S = 2 → b ≤ 2 ∧ r 15 l = nI b) {m : Int32} (h11 : r 11 l = m) : P_RM_align r (nI l) ∧ ∀ i k, K_RM_align r (nI l) i k = if i = 14 ∧ k = l then (if ¬ m = 0 ∧ r 10 (12 * l) = 246 ∧ r 10 (12 * l + 1) = 40 then nI (if S = 0 then 1 else 2) else nI (if S = 2 ∧ b < 2 then 2 else 0)) else if i = 15 ∧ k = l then (if S = 2 ∧ ¬ (¬ m = 0 ∧ r 10 (12 * l) = 246 ∧ r 10 (12 * l + 1) = 40) then nI (b + 1) else 0) else r i k := by
  have vl : vp_in (nI l) 2 := vp_in_nI hl (by omega)
  have xl : plIx (nI l) = l := plIx_nI (by omega)
  have m12 : (12 : Int32) * nI l = nI (12 * l) := by rw [show (12 : Int32) = nI 12 from rfl, pk_mul]
  have x0 : plIx (nI (12 * l)) = 12 * l := plIx_nI (by omega)
  have x1 : plIx (nI (12 * l) + 1) = 12 * l + 1 := by rw [nI_1]; exact plIx_nI (by omega)
  have q2 : r 14 l = 2 ↔ S = 2 := by rw [h14, show (2 : Int32) = nI 2 from rfl, nI_eq (by omega) (by omega)]
  have p123 : ∀ k0, P_RM_align_123 r (nI l) k0 (nI l) := fun _ => ⟨vl, vl⟩
  have p77 : ∀ k0, P_RM_align_77 r (nI l) k0 (nI l) := fun _ => ⟨vl, vl, fun _ => vl, fun _ => vl⟩
  have p45 : ∀ k0, P_RM_align_45 r (nI l) k0 := fun _ => ⟨vl, fun _ => ⟨fun _ => ⟨vl, p77 _⟩, fun _ => p77 _⟩, fun _ => ⟨fun _ => p123 _, fun _ => ⟨vl, p123 _⟩⟩⟩
  refine ⟨⟨vl, fun _ => p45 _, fun _ => ⟨by rw [m12]; exact vp_in_nI (by omega) (by omega), fun _ => ⟨by rw [m12, nI_1]; exact vp_in_nI (by omega) (by omega), fun _ => p45 _, fun _ => p45 _⟩, fun _ => p45 _⟩⟩, ?_⟩
  have u1 : ∀ x, plUp r 15 l x 15 l = x := fun x => by rw [plUp_ap, if_pos ⟨rfl, rfl⟩]
  have k1 : ∀ g : Int32, K_RM_align_45 r (nI l) g = if S = 2 then (if g = 0 then plUp (plUp r 15 l (nI (b + 1))) 14 l (nI (if b < 2 then 2 else 0)) else plUp (plUp r 15 l 0) 14 l (nI 2)) else plUp (plUp r 14 l (if g = 0 then nI 0 else nI (S + 1))) 15 l 0 := by
    intro g
    unfold K_RM_align_45 K_RM_align_77 K_RM_align_78 K_RM_align_98 K_RM_align_123 K_RM_align_124 K_RM_align_131
    simp only [xl, q2]
    by_cases z : S = 2
    · obtain ⟨b1, b2⟩ := h15 z
      rw [if_pos z, if_pos z]
      by_cases y : g = 0
      · rw [if_pos y, if_pos y, b2, nI_1, u1]
        have q3 : nI (b + 1) = 3 ↔ b + 1 = 3 := by rw [show (3 : Int32) = nI 3 from rfl, nI_eq (by omega) (by omega)]
        by_cases y3 : b < 2
        · rw [if_neg (fun w => by have := q3.mp w; omega), if_pos y3]; rfl
        · rw [if_pos (q3.mpr (by omega)), if_neg y3]; rfl
      · rw [if_neg y, if_neg y, u1, if_neg (show ¬ (0 : Int32) = 3 by decide)]; rfl
    · rw [if_neg z, if_neg z]
      by_cases y : g = 0
      · rw [if_pos y, if_pos y]; rfl
      · rw [if_neg y, if_neg y, h14, nI_1]
  intro i k
  have kk : K_RM_align r (nI l) = if ¬ m = 0 ∧ r 10 (12 * l) = 246 ∧ r 10 (12 * l + 1) = 40 then K_RM_align_45 r (nI l) 1 else K_RM_align_45 r (nI l) 0 := by
    unfold K_RM_align K_RM_align_44
    rw [m12, xl, x0, x1, h11]
    by_cases y : m = 0
    · rw [if_pos y, if_neg (fun z => z.1 y)]
    · rw [if_neg y]
      by_cases y2 : r 10 (12 * l) = 246
      · rw [if_pos y2]
        by_cases y3 : r 10 (12 * l + 1) = 40
        · rw [if_pos y3, if_pos ⟨y, y2, y3⟩]
        · rw [if_neg y3, if_neg (fun z => y3 z.2.2)]
      · rw [if_neg y2, if_neg (fun z => y2 z.2.1)]
  rw [kk]
  have n1 : ¬ (1 : Int32) = 0 := by decide
  by_cases g : ¬ m = 0 ∧ r 10 (12 * l) = 246 ∧ r 10 (12 * l + 1) = 40
  · rw [if_pos g, k1, if_neg n1, if_neg n1]
    simp only [if_pos g]
    rw [if_neg (fun (z : S = 2 ∧ ¬ _) => z.2 g)]
    by_cases z : S = 2
    · rw [if_pos z, plUp_ap, plUp_ap, if_neg (show ¬ S = 0 by omega)]
    · rw [if_neg z, plUp_ap, plUp_ap]
      by_cases e : i = 14 ∧ k = l
      · rw [if_neg (by omega), if_pos e, if_pos e]
        by_cases y : S = 0
        · rw [if_pos y, y]
        · rw [if_neg y, show S = 1 by omega]
      · rw [if_neg e, if_neg e]
  · rw [if_neg g, k1, if_pos rfl, if_pos rfl]
    simp only [if_neg g]
    by_cases z : S = 2
    · rw [if_pos z, plUp_ap, plUp_ap, if_pos (⟨z, g⟩ : S = 2 ∧ ¬ _)]
      by_cases y : b < 2
      · rw [if_pos y, if_pos (show S = 2 ∧ b < 2 from ⟨z, y⟩)]
      · rw [if_neg y, if_neg (fun (w : S = 2 ∧ b < 2) => y w.2)]
    · rw [if_neg z, plUp_ap, plUp_ap, if_neg (fun (w : S = 2 ∧ ¬ _) => z w.1), if_neg (fun (w : S = 2 ∧ b < 2) => z w.1)]
      by_cases e : i = 14 ∧ k = l
      · rw [if_neg (by omega), if_pos e, if_pos e]
      · rw [if_neg e, if_neg e]
theorem plAlign_LW {c : plS} {S b : Nat} (hS : S ≤ 2) (h9 : c 9 9 = nI S) (h10 : S = 2 → b ≤ 2 ∧ c 9 10 = nI b) (g : Int32) : ∀ i k, K_LW_align c g i k = if i = 9 ∧ k = 9 then (if ¬ g = 0 then nI (if S = 0 then 1 else 2) else nI (if S = 2 ∧ b < 2 then 2 else 0)) else if i = 9 ∧ k = 10 then (if ¬ g = 0 then 0 else c 9 10 + 1) else c i k := by
  intro i k
  unfold K_LW_align K_LW_align_9 K_LW_align_22 K_LW_align_36 K_LW_align_52 K_LW_align_57
  by_cases y : g = 0
  · rw [if_pos y]
    simp only [if_neg (fun (w : ¬ g = 0) => w y)]
    have e9 : plUp c 9 10 (c 9 10 + 1) 9 9 = nI S := by rw [plUp_ap, if_neg (by omega)]; exact h9
    have e10 : plUp c 9 10 (c 9 10 + 1) 9 10 = c 9 10 + 1 := by rw [plUp_ap, if_pos ⟨rfl, rfl⟩]
    rw [e9, e10]
    have q1 : nI S = 1 ↔ S = 1 := by rw [show (1 : Int32) = nI 1 from rfl, nI_eq (by omega) (by omega)]
    by_cases z1 : S = 1
    · rw [if_pos (q1.mpr z1), plUp_ap, plUp_ap, if_neg (show ¬ (S = 2 ∧ b < 2) by omega)]
      rfl
    · rw [if_neg (fun w => z1 (q1.mp w))]
      by_cases z2 : S = 2
      · obtain ⟨b1, b2⟩ := h10 z2
        have q3 : c 9 10 + 1 < 3 ↔ b < 2 := by rw [b2, nI_1, show (3 : Int32) = nI 3 from rfl, nI_ltI (by omega) (by omega)]; omega
        by_cases z3 : b < 2
        · rw [if_pos (q3.mpr z3), plUp_ap, if_pos (show S = 2 ∧ b < 2 from ⟨z2, z3⟩)]
          by_cases e : i = 9 ∧ k = 9
          · rw [if_neg (show ¬ (i = 9 ∧ k = 10) by omega), if_pos e]
            obtain ⟨rfl, rfl⟩ := e
            rw [h9, z2]
          · rw [if_neg e]
        · rw [if_neg (fun w => z3 (q3.mp w)), plUp_ap, plUp_ap, if_neg (fun (w : S = 2 ∧ b < 2) => z3 w.2)]
          rfl
      · have z0 : S = 0 := by omega
        rw [if_neg (fun (w : S = 2 ∧ b < 2) => z2 w.1)]
        by_cases e : i = 9 ∧ k = 9
        · rw [if_pos e]
          obtain ⟨rfl, rfl⟩ := e
          split
          · rw [e9, z0]
          · rw [plUp_ap, if_pos ⟨rfl, rfl⟩]; rfl
        · rw [if_neg e]
          split
          · rw [plUp_ap]
          · rw [plUp_ap, if_neg e, plUp_ap]
  · rw [if_neg y]
    simp only [if_pos y]
    have e9 : plUp c 9 10 0 9 9 = nI S := by rw [plUp_ap, if_neg (by omega)]; exact h9
    rw [e9]
    have q0 : nI S = 0 ↔ S = 0 := by rw [show (0 : Int32) = nI 0 from rfl, nI_eq (by omega) (by omega)]
    by_cases z : S = 0
    · rw [if_pos (q0.mpr z), plUp_ap, plUp_ap, if_pos z]; rfl
    · rw [if_neg (fun w => z (q0.mp w)), plUp_ap, plUp_ap, if_neg z]; rfl
theorem plBring_LW {c : plS} {o : Nat} (ho : o + 12 ≤ 96) : P_LW_bringIn c (nI o) ∧ ∀ i k, K_LW_bringIn c (nI o) i k = if i = 9 ∧ k = 8 then plXor (fun p => c 10 (o + p) ^^^ c 11 p) 12 else if i = 12 ∧ k < 12 then c 10 (o + k) ^^^ c 11 k else c i k := by
  obtain ⟨w1, st', w2, w3⟩ := plWr (F_LW_bringIn_2 (nI o)) (G_LW_bringIn_2 (nI o)) 12 0 (fun p => c 10 (o + p) ^^^ c 11 p) c 0 12 (by omega) (by omega) (fun st' j _ h hf => by
    have v12 : vp_in (nI j) 12 := vp_in_nI (by omega) (by omega)
    refine ⟨fun _ => ⟨?_, v12, v12⟩, ?_⟩
    · show vp_in (nI o + nI j) 96
      rw [nI_add]; exact vp_in_nI (by omega) (by omega)
    · show K_LW_bringIn_2L st' (nI o) (nI j) = _
      unfold K_LW_bringIn_2L
      rw [if_neg (plN12 h), nI_add, nI_1, plIx_nI (by omega), plIx_nI (by omega), hf 10 _ (by omega), hf 11 _ (by omega), show 0 + j = j by omega]) (fun st' => by
    refine ⟨fun w => absurd plE12 w, ?_⟩
    show K_LW_bringIn_2L st' _ (nI 12) = _
    unfold K_LW_bringIn_2L
    rw [if_pos plE12])
  obtain ⟨j1, j2⟩ := plJoin_LWa (st := st') (o := 0) (by omega)
  unfold P_LW_bringIn K_LW_bringIn P_LW_bringIn_2X K_LW_bringIn_2X
  rw [show lpR (F_LW_bringIn_2 (nI o)) 64 (c, 0) = (st', nI 12) from w2]
  refine ⟨⟨w1, j1⟩, fun i k => ?_⟩
  show plUp st' 9 8 (K_LN_joinedFrom_LWa st' (nI 0)) i k = _
  rw [j2, plUp_ap, plXor_ext 12 (g' := fun p => c 10 (o + p) ^^^ c 11 p) (fun p hp => by rw [w3, if_pos ⟨rfl, by omega, by omega⟩, show 0 + p - 0 = p by omega])]
  by_cases e : i = 9 ∧ k = 8
  · rw [if_pos e, if_pos e]
  · rw [if_neg e, if_neg e, w3]
    by_cases y : i = 12 ∧ k < 12
    · rw [if_pos ⟨y.1, by omega, by omega⟩, if_pos y]; rfl
    · rw [if_neg (by omega), if_neg y]
theorem plFill_LW {c : plS} : P_JA_fill_LWh c 0 ∧ ∀ i k, K_JA_fill_LWh c 0 i k = if i = 11 ∧ k < 12 then 0 else c i k := by
  obtain ⟨w1, st', w2, w3⟩ := plWr (F_JA_fill_LWh_5 0 12) (G_JA_fill_LWh_5 0 12) 11 0 (fun _ => 0) c 0 12 (by omega) (by omega) (fun st' j _ h hf => by
    have v12 : vp_in (nI j) 12 := vp_in_nI (by omega) (by omega)
    refine ⟨fun _ => v12, ?_⟩
    show K_JA_fill_LWh_5L st' 0 (nI j) 12 = _
    unfold K_JA_fill_LWh_5L
    rw [if_neg (plN12 h), nI_1, plIx_nI (by omega), show 0 + j = j by omega]) (fun st' => by
    refine ⟨fun w => absurd plE12 w, ?_⟩
    show K_JA_fill_LWh_5L st' 0 (nI 12) 12 = _
    unfold K_JA_fill_LWh_5L
    rw [if_pos plE12])
  refine ⟨w1, fun i k => ?_⟩
  unfold K_JA_fill_LWh K_JA_fill_LWh_5X
  rw [show lpR (F_JA_fill_LWh_5 0 12) 64 (c, 0) = (st', nI 12) from w2]
  show st' i k = _
  rw [w3]
  by_cases y : i = 11 ∧ k < 12
  · rw [if_pos ⟨y.1, by omega, by omega⟩, if_pos y]
  · rw [if_neg (by omega), if_neg y]
theorem plRec_LW {c : plS} {n d : Nat} (hn : n < 2 ^ 28) (hd1 : 1 ≤ d) (hd4 : d ≤ 4) (hT : c 9 2 = nI n) (hd : c 9 0 = nI d) {m : Int32} (hm : m = if c 9 4 = 0 ∧ d < n then 1 else 0) : ∃ c3 : plS, (∀ i k, c3 i k = if i = 11 ∧ k < 12 then 0 else if ¬ m = 0 ∧ i = 9 ∧ k = 8 then plXor (fun p => c 10 (12 * ((n - 1 - d) % 8) + p) ^^^ c 11 p) 12 else if ¬ m = 0 ∧ i = 12 ∧ k < 12 then c 10 (12 * ((n - 1 - d) % 8) + k) ^^^ c 11 k else if i = 9 ∧ k = 7 then m else c i k) ∧ (P_LW_receive_70 c3 (c 9 7) (c 9 8) → P_LW_receive c) ∧ K_LW_receive c = K_LW_receive_70 c3 (c 9 7) (c 9 8) := by
  have q : c 9 2 ≤ c 9 0 ↔ n ≤ d := by rw [hT, hd, nI_leI (by omega) (by omega)]
  have k1 : K_LW_receive c = K_LW_receive_34 c (c 9 7) (c 9 8) m := by
    unfold K_LW_receive K_LW_receive_33
    by_cases z1 : c 9 4 = 0
    · rw [if_pos z1]
      by_cases z2 : n ≤ d
      · rw [if_pos (q.mpr z2), hm, if_neg (by omega)]
      · rw [if_neg (fun w => z2 (q.mp w)), hm, if_pos ⟨z1, by omega⟩]
    · rw [if_neg z1, hm, if_neg (fun y => z1 y.1)]
  have p1 : P_LW_receive_34 c (c 9 7) (c 9 8) m → P_LW_receive c := fun p => by
    unfold P_LW_receive P_LW_receive_33
    refine ⟨fun z1 => ⟨fun z2 => ?_, fun z2 => ?_⟩, fun z1 => ?_⟩
    · have := q.mp z2
      rw [hm, if_neg (by omega)] at p; exact p
    · rw [hm, if_pos ⟨z1, Classical.byContradiction (fun y => z2 (q.mpr (by omega)))⟩] at p; exact p
    · rw [hm, if_neg (fun y => z1 y.1)] at p; exact p
  have hmB : plB m := by rw [hm]; split; exact Or.inr rfl; exact Or.inl rfl
  obtain ⟨c1, hc1⟩ : ∃ c1, c1 = plUp c 9 7 m := ⟨_, rfl⟩
  have e1 : ∀ i k, c1 i k = if i = 9 ∧ k = 7 then m else c i k := fun i k => by rw [hc1, plUp_ap]
  have e17 : c1 9 7 = m := by rw [e1, if_pos ⟨rfl, rfl⟩]
  rw [k1]
  unfold K_LW_receive_34
  unfold P_LW_receive_34 at p1
  rw [← hc1] at p1 ⊢
  unfold K_LW_receive_37
  unfold P_LW_receive_37 at p1
  rw [e17] at p1 ⊢
  by_cases z : m = 0
  · rw [if_pos z]
    obtain ⟨f1, f2⟩ := plFill_LW (c := c1)
    refine ⟨K_JA_fill_LWh c1 0, fun i k => ?_, fun p => p1 ⟨hmB, fun _ => ⟨f1, p⟩, fun w => absurd z w⟩, rfl⟩
    rw [f2, e1, if_neg (fun (w : ¬ m = 0 ∧ i = 9 ∧ k = 8) => w.1 z), if_neg (fun (w : ¬ m = 0 ∧ i = 12 ∧ k < 12) => w.1 z)]
  · have hdn : d < n := by
      by_cases y : c 9 4 = 0 ∧ d < n
      · exact y.2
      · rw [if_neg y] at hm; exact absurd hm z
    have so : K_LN_slotOf (c1 9 2 - 1 - c1 9 0) = nI (12 * ((n - 1 - d) % 8)) := by
      rw [e1, if_neg (by omega), e1, if_neg (by omega), hT, hd, show (1 : Int32) = nI 1 from rfl, pk_sub (by omega), pk_sub (by omega)]
      exact plSlot (by omega)
    rw [if_neg z, so]
    rw [so] at p1
    obtain ⟨o, ho⟩ : ∃ o, o = 12 * ((n - 1 - d) % 8) := ⟨_, rfl⟩
    rw [← ho] at p1 ⊢
    obtain ⟨b1, b2⟩ := plBring_LW (c := c1) (o := o) (by omega)
    obtain ⟨f1, f2⟩ := plFill_LW (c := K_LW_bringIn c1 (nI o))
    refine ⟨K_JA_fill_LWh (K_LW_bringIn c1 (nI o)) 0, fun i k => ?_, fun p => p1 ⟨hmB, fun w => absurd w z, fun _ => ⟨b1, f1, p⟩⟩, rfl⟩
    have eu : ∀ k, c1 10 k = c 10 k := fun k => by rw [e1, if_neg (by omega)]
    have eh : ∀ k, c1 11 k = c 11 k := fun k => by rw [e1, if_neg (by omega)]
    rw [f2, b2]
    simp only [eu, eh, e1]
    by_cases y1 : i = 11 ∧ k < 12
    · rw [if_pos y1, if_pos y1]
    · rw [if_neg y1, if_neg y1]
      by_cases y2 : i = 9 ∧ k = 8
      · rw [if_pos y2, if_pos (show ¬ m = 0 ∧ i = 9 ∧ k = 8 from ⟨z, y2⟩)]
      · rw [if_neg y2, if_neg (fun (w : ¬ m = 0 ∧ i = 9 ∧ k = 8) => y2 w.2)]
        by_cases y3 : i = 12 ∧ k < 12
        · rw [if_pos y3, if_pos (show ¬ m = 0 ∧ i = 12 ∧ k < 12 from ⟨z, y3⟩)]
        · rw [if_neg y3, if_neg (fun (w : ¬ m = 0 ∧ i = 12 ∧ k < 12) => y3 w.2)]
theorem plAlign_LP {c : plS} {S b : Nat} (hS : S ≤ 2) (h9 : c 13 9 = nI S) (h10 : S = 2 → b ≤ 2 ∧ c 13 10 = nI b) (g : Int32) : ∀ i k, K_LP_align c g i k = if i = 13 ∧ k = 9 then (if ¬ g = 0 then nI (if S = 0 then 1 else 2) else nI (if S = 2 ∧ b < 2 then 2 else 0)) else if i = 13 ∧ k = 10 then (if ¬ g = 0 then 0 else c 13 10 + 1) else c i k := by
  intro i k
  unfold K_LP_align K_LP_align_9 K_LP_align_22 K_LP_align_36 K_LP_align_52 K_LP_align_57
  by_cases y : g = 0
  · rw [if_pos y]
    simp only [if_neg (fun (w : ¬ g = 0) => w y)]
    have e9 : plUp c 13 10 (c 13 10 + 1) 13 9 = nI S := by rw [plUp_ap, if_neg (by omega)]; exact h9
    have e10 : plUp c 13 10 (c 13 10 + 1) 13 10 = c 13 10 + 1 := by rw [plUp_ap, if_pos ⟨rfl, rfl⟩]
    rw [e9, e10]
    have q1 : nI S = 1 ↔ S = 1 := by rw [show (1 : Int32) = nI 1 from rfl, nI_eq (by omega) (by omega)]
    by_cases z1 : S = 1
    · rw [if_pos (q1.mpr z1), plUp_ap, plUp_ap, if_neg (show ¬ (S = 2 ∧ b < 2) by omega)]
      rfl
    · rw [if_neg (fun w => z1 (q1.mp w))]
      by_cases z2 : S = 2
      · obtain ⟨b1, b2⟩ := h10 z2
        have q3 : c 13 10 + 1 < 3 ↔ b < 2 := by rw [b2, nI_1, show (3 : Int32) = nI 3 from rfl, nI_ltI (by omega) (by omega)]; omega
        by_cases z3 : b < 2
        · rw [if_pos (q3.mpr z3), plUp_ap, if_pos (show S = 2 ∧ b < 2 from ⟨z2, z3⟩)]
          by_cases e : i = 13 ∧ k = 9
          · rw [if_neg (show ¬ (i = 13 ∧ k = 10) by omega), if_pos e]
            obtain ⟨rfl, rfl⟩ := e
            rw [h9, z2]
          · rw [if_neg e]
        · rw [if_neg (fun w => z3 (q3.mp w)), plUp_ap, plUp_ap, if_neg (fun (w : S = 2 ∧ b < 2) => z3 w.2)]
          rfl
      · have z0 : S = 0 := by omega
        rw [if_neg (fun (w : S = 2 ∧ b < 2) => z2 w.1)]
        by_cases e : i = 13 ∧ k = 9
        · rw [if_pos e]
          obtain ⟨rfl, rfl⟩ := e
          split
          · rw [e9, z0]
          · rw [plUp_ap, if_pos ⟨rfl, rfl⟩]; rfl
        · rw [if_neg e]
          split
          · rw [plUp_ap]
          · rw [plUp_ap, if_neg e, plUp_ap]
  · rw [if_neg y]
    simp only [if_pos y]
    have e9 : plUp c 13 10 0 13 9 = nI S := by rw [plUp_ap, if_neg (by omega)]; exact h9
    rw [e9]
    have q0 : nI S = 0 ↔ S = 0 := by rw [show (0 : Int32) = nI 0 from rfl, nI_eq (by omega) (by omega)]
    by_cases z : S = 0
    · rw [if_pos (q0.mpr z), plUp_ap, plUp_ap, if_pos z]; rfl
    · rw [if_neg (fun w => z (q0.mp w)), plUp_ap, plUp_ap, if_neg z]; rfl
theorem plBring_LP {c : plS} {o : Nat} (ho : o + 12 ≤ 96) : P_LP_bringIn c (nI o) ∧ ∀ i k, K_LP_bringIn c (nI o) i k = if i = 13 ∧ k = 8 then plXor (fun p => c 14 (o + p) ^^^ c 15 p) 12 else if i = 16 ∧ k < 12 then c 14 (o + k) ^^^ c 15 k else c i k := by
  obtain ⟨w1, st', w2, w3⟩ := plWr (F_LP_bringIn_2 (nI o)) (G_LP_bringIn_2 (nI o)) 16 0 (fun p => c 14 (o + p) ^^^ c 15 p) c 0 12 (by omega) (by omega) (fun st' j _ h hf => by
    have v12 : vp_in (nI j) 12 := vp_in_nI (by omega) (by omega)
    refine ⟨fun _ => ⟨?_, v12, v12⟩, ?_⟩
    · show vp_in (nI o + nI j) 96
      rw [nI_add]; exact vp_in_nI (by omega) (by omega)
    · show K_LP_bringIn_2L st' (nI o) (nI j) = _
      unfold K_LP_bringIn_2L
      rw [if_neg (plN12 h), nI_add, nI_1, plIx_nI (by omega), plIx_nI (by omega), hf 14 _ (by omega), hf 15 _ (by omega), show 0 + j = j by omega]) (fun st' => by
    refine ⟨fun w => absurd plE12 w, ?_⟩
    show K_LP_bringIn_2L st' _ (nI 12) = _
    unfold K_LP_bringIn_2L
    rw [if_pos plE12])
  obtain ⟨j1, j2⟩ := plJoin_LPa (st := st') (o := 0) (by omega)
  unfold P_LP_bringIn K_LP_bringIn P_LP_bringIn_2X K_LP_bringIn_2X
  rw [show lpR (F_LP_bringIn_2 (nI o)) 64 (c, 0) = (st', nI 12) from w2]
  refine ⟨⟨w1, j1⟩, fun i k => ?_⟩
  show plUp st' 13 8 (K_LN_joinedFrom_LPa st' (nI 0)) i k = _
  rw [j2, plUp_ap, plXor_ext 12 (g' := fun p => c 14 (o + p) ^^^ c 15 p) (fun p hp => by rw [w3, if_pos ⟨rfl, by omega, by omega⟩, show 0 + p - 0 = p by omega])]
  by_cases e : i = 13 ∧ k = 8
  · rw [if_pos e, if_pos e]
  · rw [if_neg e, if_neg e, w3]
    by_cases y : i = 16 ∧ k < 12
    · rw [if_pos ⟨y.1, by omega, by omega⟩, if_pos y]; rfl
    · rw [if_neg (by omega), if_neg y]
theorem plFill_LP {c : plS} : P_JA_fill_LPh c 0 ∧ ∀ i k, K_JA_fill_LPh c 0 i k = if i = 15 ∧ k < 12 then 0 else c i k := by
  obtain ⟨w1, st', w2, w3⟩ := plWr (F_JA_fill_LPh_5 0 12) (G_JA_fill_LPh_5 0 12) 15 0 (fun _ => 0) c 0 12 (by omega) (by omega) (fun st' j _ h hf => by
    have v12 : vp_in (nI j) 12 := vp_in_nI (by omega) (by omega)
    refine ⟨fun _ => v12, ?_⟩
    show K_JA_fill_LPh_5L st' 0 (nI j) 12 = _
    unfold K_JA_fill_LPh_5L
    rw [if_neg (plN12 h), nI_1, plIx_nI (by omega), show 0 + j = j by omega]) (fun st' => by
    refine ⟨fun w => absurd plE12 w, ?_⟩
    show K_JA_fill_LPh_5L st' 0 (nI 12) 12 = _
    unfold K_JA_fill_LPh_5L
    rw [if_pos plE12])
  refine ⟨w1, fun i k => ?_⟩
  unfold K_JA_fill_LPh K_JA_fill_LPh_5X
  rw [show lpR (F_JA_fill_LPh_5 0 12) 64 (c, 0) = (st', nI 12) from w2]
  show st' i k = _
  rw [w3]
  by_cases y : i = 15 ∧ k < 12
  · rw [if_pos ⟨y.1, by omega, by omega⟩, if_pos y]
  · rw [if_neg (by omega), if_neg y]
theorem plRec_LP {c : plS} {n d : Nat} (hn : n < 2 ^ 28) (hd1 : 1 ≤ d) (hd4 : d ≤ 4) (hT : c 13 2 = nI n) (hd : c 13 0 = nI d) {m : Int32} (hm : m = if c 13 4 = 0 ∧ d < n then 1 else 0) : ∃ c3 : plS, (∀ i k, c3 i k = if i = 15 ∧ k < 12 then 0 else if ¬ m = 0 ∧ i = 13 ∧ k = 8 then plXor (fun p => c 14 (12 * ((n - 1 - d) % 8) + p) ^^^ c 15 p) 12 else if ¬ m = 0 ∧ i = 16 ∧ k < 12 then c 14 (12 * ((n - 1 - d) % 8) + k) ^^^ c 15 k else if i = 13 ∧ k = 7 then m else c i k) ∧ (P_LP_receive_70 c3 (c 13 7) (c 13 8) → P_LP_receive c) ∧ K_LP_receive c = K_LP_receive_70 c3 (c 13 7) (c 13 8) := by
  have q : c 13 2 ≤ c 13 0 ↔ n ≤ d := by rw [hT, hd, nI_leI (by omega) (by omega)]
  have k1 : K_LP_receive c = K_LP_receive_34 c (c 13 7) (c 13 8) m := by
    unfold K_LP_receive K_LP_receive_33
    by_cases z1 : c 13 4 = 0
    · rw [if_pos z1]
      by_cases z2 : n ≤ d
      · rw [if_pos (q.mpr z2), hm, if_neg (by omega)]
      · rw [if_neg (fun w => z2 (q.mp w)), hm, if_pos ⟨z1, by omega⟩]
    · rw [if_neg z1, hm, if_neg (fun y => z1 y.1)]
  have p1 : P_LP_receive_34 c (c 13 7) (c 13 8) m → P_LP_receive c := fun p => by
    unfold P_LP_receive P_LP_receive_33
    refine ⟨fun z1 => ⟨fun z2 => ?_, fun z2 => ?_⟩, fun z1 => ?_⟩
    · have := q.mp z2
      rw [hm, if_neg (by omega)] at p; exact p
    · rw [hm, if_pos ⟨z1, Classical.byContradiction (fun y => z2 (q.mpr (by omega)))⟩] at p; exact p
    · rw [hm, if_neg (fun y => z1 y.1)] at p; exact p
  have hmB : plB m := by rw [hm]; split; exact Or.inr rfl; exact Or.inl rfl
  obtain ⟨c1, hc1⟩ : ∃ c1, c1 = plUp c 13 7 m := ⟨_, rfl⟩
  have e1 : ∀ i k, c1 i k = if i = 13 ∧ k = 7 then m else c i k := fun i k => by rw [hc1, plUp_ap]
  have e17 : c1 13 7 = m := by rw [e1, if_pos ⟨rfl, rfl⟩]
  rw [k1]
  unfold K_LP_receive_34
  unfold P_LP_receive_34 at p1
  rw [← hc1] at p1 ⊢
  unfold K_LP_receive_37
  unfold P_LP_receive_37 at p1
  rw [e17] at p1 ⊢
  by_cases z : m = 0
  · rw [if_pos z]
    obtain ⟨f1, f2⟩ := plFill_LP (c := c1)
    refine ⟨K_JA_fill_LPh c1 0, fun i k => ?_, fun p => p1 ⟨hmB, fun _ => ⟨f1, p⟩, fun w => absurd z w⟩, rfl⟩
    rw [f2, e1, if_neg (fun (w : ¬ m = 0 ∧ i = 13 ∧ k = 8) => w.1 z), if_neg (fun (w : ¬ m = 0 ∧ i = 16 ∧ k < 12) => w.1 z)]
  · have hdn : d < n := by
      by_cases y : c 13 4 = 0 ∧ d < n
      · exact y.2
      · rw [if_neg y] at hm; exact absurd hm z
    have so : K_LN_slotOf (c1 13 2 - 1 - c1 13 0) = nI (12 * ((n - 1 - d) % 8)) := by
      rw [e1, if_neg (by omega), e1, if_neg (by omega), hT, hd, show (1 : Int32) = nI 1 from rfl, pk_sub (by omega), pk_sub (by omega)]
      exact plSlot (by omega)
    rw [if_neg z, so]
    rw [so] at p1
    obtain ⟨o, ho⟩ : ∃ o, o = 12 * ((n - 1 - d) % 8) := ⟨_, rfl⟩
    rw [← ho] at p1 ⊢
    obtain ⟨b1, b2⟩ := plBring_LP (c := c1) (o := o) (by omega)
    obtain ⟨f1, f2⟩ := plFill_LP (c := K_LP_bringIn c1 (nI o))
    refine ⟨K_JA_fill_LPh (K_LP_bringIn c1 (nI o)) 0, fun i k => ?_, fun p => p1 ⟨hmB, fun w => absurd w z, fun _ => ⟨b1, f1, p⟩⟩, rfl⟩
    have eu : ∀ k, c1 14 k = c 14 k := fun k => by rw [e1, if_neg (by omega)]
    have eh : ∀ k, c1 15 k = c 15 k := fun k => by rw [e1, if_neg (by omega)]
    rw [f2, b2]
    simp only [eu, eh, e1]
    by_cases y1 : i = 15 ∧ k < 12
    · rw [if_pos y1, if_pos y1]
    · rw [if_neg y1, if_neg y1]
      by_cases y2 : i = 13 ∧ k = 8
      · rw [if_pos y2, if_pos (show ¬ m = 0 ∧ i = 13 ∧ k = 8 from ⟨z, y2⟩)]
      · rw [if_neg y2, if_neg (fun (w : ¬ m = 0 ∧ i = 13 ∧ k = 8) => y2 w.2)]
        by_cases y3 : i = 16 ∧ k < 12
        · rw [if_pos y3, if_pos (show ¬ m = 0 ∧ i = 16 ∧ k < 12 from ⟨z, y3⟩)]
        · rw [if_neg y3, if_neg (fun (w : ¬ m = 0 ∧ i = 16 ∧ k < 12) => y3 w.2)]
