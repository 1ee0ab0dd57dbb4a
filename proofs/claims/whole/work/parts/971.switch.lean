/-! node B's choice -/
def plSw (c r : plS) (n : Nat) : Prop := ∃ h w o f q x : Nat, h < 8 ∧ w < 8 ∧ o ≤ 3 ∧ f ≤ n ∧ q ≤ 5 ∧ x < 8 ∧ c 19 0 = nI h ∧ r 0 1 = nI h ∧ c 19 1 = nI w ∧ r 0 2 = nI w ∧ c 19 3 = nI o ∧ r 0 37 = nI o ∧ c 19 4 = nI f ∧ r 0 33 = nI f ∧ c 19 6 = nI q ∧ r 0 38 = nI q ∧ r 0 39 = nI x ∧ (q = 1 → c 19 5 = nI x) ∧ (¬ q = 1 → x = 0) ∧ c 19 7 = r 0 40 ∧ plB (c 19 7)
theorem plSw.ext {n : Nat} {c c' r r' : plS} (H : plSw c r n) (e : ∀ k, c' 19 k = c 19 k) (g : ∀ k, k = 1 ∨ k = 2 ∨ k = 33 ∨ k = 37 ∨ k = 38 ∨ k = 39 ∨ k = 40 → r' 0 k = r 0 k) : plSw c' r' n := by
  obtain ⟨h, w, o, f, q, x, a1, a2, a3, a4, a5, a6, b1, b2, b3, b4, b5, b6, b7, b8, b9, b10, b11, b12, b13, b14, b15⟩ := H
  exact ⟨h, w, o, f, q, x, a1, a2, a3, a4, a5, a6, by rw [e]; exact b1, by rw [g 1 (by omega)]; exact b2, by rw [e]; exact b3, by rw [g 2 (by omega)]; exact b4, by rw [e]; exact b5, by rw [g 37 (by omega)]; exact b6, by rw [e]; exact b7, by rw [g 33 (by omega)]; exact b8, by rw [e]; exact b9, by rw [g 38 (by omega)]; exact b10, by rw [g 39 (by omega)]; exact b11, fun z => by rw [e]; exact b12 z, b13, by rw [e, g 40 (by omega)]; exact b14, by rw [e]; exact b15⟩
theorem plPress {c r : plS} {h o f' S1 : Nat} {v2 : Int32} (hh : h < 8) (ho : o ≤ 3) (hf : f' < 2 ^ 30) (hS : S1 ≤ 2) (c0 : c 19 0 = nI h) (r1 : r 0 1 = nI h) (c3 : c 19 3 = nI o) (r37 : r 0 37 = nI o) (c4 : c 19 4 = nI f') (r33 : r 0 33 = nI f') (hv : v2 = if S1 = 2 then 0 else 1) (r14 : r 14 1 = nI S1) : ∃ pr : Nat, pr ≤ 5 ∧ ¬ pr = 1 ∧ K_SW_pressing c v2 = nI pr ∧ K_RM_decide r = K_RM_decide_77 r (r 0 38) (nI pr) := by
  have o3 : nI o = 3 ↔ o = 3 := by rw [show (3 : Int32) = nI 3 from rfl, nI_eq (by omega) (by omega)]
  have o2 : nI o = 2 ↔ o = 2 := by rw [show (2 : Int32) = nI 2 from rfl, nI_eq (by omega) (by omega)]
  have o1 : nI o = 1 ↔ o = 1 := by rw [show (1 : Int32) = nI 1 from rfl, nI_eq (by omega) (by omega)]
  have s2 : nI S1 = 2 ↔ S1 = 2 := by rw [show (2 : Int32) = nI 2 from rfl, nI_eq (by omega) (by omega)]
  have fh : nI f' ≤ nI h ↔ f' ≤ h := nI_leI (by omega) (by omega)
  have n1 : ¬ (1 : Int32) = 0 := by decide
  unfold K_SW_pressing K_SW_pressing_12 K_SW_pressing_50 K_RM_decide K_RM_decide_23 K_RM_decide_28
  rw [c3, c4, c0, r37, r33, r1, show plIx 1 = 1 from rfl, r14, hv]
  by_cases z3 : o = 3
  · exact ⟨5, by omega, by omega, by rw [if_pos (o3.mpr z3)]; rfl, by rw [if_pos (o3.mpr z3), if_neg n1]; rfl⟩
  · rw [if_neg (fun y => z3 (o3.mp y)), if_neg (fun y => z3 (o3.mp y))]
    by_cases zs : S1 = 2
    · rw [if_pos zs, if_pos rfl, if_pos (s2.mpr zs), if_pos rfl]
      by_cases z2 : o = 2
      · exact ⟨4, by omega, by omega, by rw [if_pos (o2.mpr z2)]; rfl, by rw [if_pos (o2.mpr z2)]; rfl⟩
      · rw [if_neg (fun y => z2 (o2.mp y)), if_neg (fun y => z2 (o2.mp y))]
        by_cases zf : f' ≤ h
        · rw [if_pos (fh.mpr zf), if_pos (fh.mpr zf)]
          by_cases z1 : o = 1
          · exact ⟨2, by omega, by omega, by rw [if_pos (o1.mpr z1)]; rfl, by rw [if_pos (o1.mpr z1)]; rfl⟩
          · exact ⟨0, by omega, by omega, by rw [if_neg (fun y => z1 (o1.mp y))]; rfl, by rw [if_neg (fun y => z1 (o1.mp y))]; rfl⟩
        · exact ⟨3, by omega, by omega, by rw [if_neg (fun y => zf (fh.mp y))]; rfl, by rw [if_neg (fun y => zf (fh.mp y))]; rfl⟩
    · exact ⟨5, by omega, by omega, by rw [if_neg zs, if_neg n1]; rfl, by rw [if_neg (fun y => zs (s2.mp y)), if_neg n1]; rfl⟩
theorem plAsk {c r : plS} {w q x pr : Nat} {v2 : Int32} (hw : w < 8) (hq : q ≤ 5) (hx : x < 8) (c1 : c 19 1 = nI w) (r2 : r 0 2 = nI w) (c6 : c 19 6 = nI q) (r38 : r 0 38 = nI q) (r39 : r 0 39 = nI x) (hq1 : q = 1 → c 19 5 = nI x) (hq2 : ¬ q = 1 → x = 0) (hp : pr ≤ 5) (hp1 : ¬ pr = 1) (kp : K_SW_pressing c v2 = nI pr) : ∃ (q' x' : Nat) (y5 : Int32) (c' : plS), q' ≤ 5 ∧ x' < 8 ∧ (q' = 1 → y5 = nI x') ∧ (¬ q' = 1 → x' = 0) ∧ K_SW_decide_18 c v2 = K_SW_decide_40 c' ∧ (∀ i k, c' i k = if i = 19 ∧ k = 6 then nI q' else if i = 19 ∧ k = 5 then y5 else c i k) ∧ ∀ i k, K_RM_decide_77 r (r 0 38) (nI pr) i k = if i = 0 ∧ k = 38 then nI q' else if i = 0 ∧ k = 39 then nI x' else r i k := by
  have p0 : nI pr = 0 ↔ pr = 0 := by rw [show (0 : Int32) = nI 0 from rfl, nI_eq (by omega) (by omega)]
  have pl : nI pr ≤ 0 ↔ pr = 0 := by rw [show (0 : Int32) = nI 0 from rfl, nI_leI (by omega) (by omega)]; omega
  unfold K_SW_decide_18
  rw [kp]
  by_cases z : pr = 0
  · rw [if_pos (p0.mpr z)]
    obtain ⟨wl, hwl⟩ : ∃ wl : Nat, wl = if q = 3 then w else if q = 1 then x else 0 := ⟨_, rfl⟩
    have wl8 : wl < 8 := by rw [hwl]; split; omega; split <;> omega
    have q3 : nI q = 3 ↔ q = 3 := by rw [show (3 : Int32) = nI 3 from rfl, nI_eq (by omega) (by omega)]
    have q1 : nI q = 1 ↔ q = 1 := by rw [show (1 : Int32) = nI 1 from rfl, nI_eq (by omega) (by omega)]
    have w0 : nI wl = 0 ↔ wl = 0 := by rw [show (0 : Int32) = nI 0 from rfl, nI_eq (by omega) (by omega)]
    have w0' : nI wl ≤ 0 ↔ wl = 0 := by rw [show (0 : Int32) = nI 0 from rfl, nI_leI (by omega) (by omega)]; omega
    have kw : ∃ c2 : plS, K_SW_waitOn c = K_SW_waitOn_32 c2 ∧ ∀ i k, c2 i k = if i = 19 ∧ k = 5 then nI wl else c i k := by
      unfold K_SW_waitOn
      rw [c6, c1]
      by_cases y3 : q = 3
      · exact ⟨_, by rw [if_pos (q3.mpr y3)], fun i k => by rw [plUp_ap, hwl, if_pos y3]⟩
      · by_cases y1 : q = 1
        · refine ⟨c, by rw [if_neg (fun y => y3 (q3.mp y)), if_pos (q1.mpr y1)], fun i k => ?_⟩
          by_cases e : i = 19 ∧ k = 5
          · rw [if_pos e, hwl, if_neg y3, if_pos y1, e.1, e.2]; exact hq1 y1
          · rw [if_neg e]
        · exact ⟨_, by rw [if_neg (fun y => y3 (q3.mp y)), if_neg (fun y => y1 (q1.mp y))], fun i k => by rw [plUp_ap, hwl, if_neg y3, if_neg y1]; rfl⟩
    obtain ⟨c2, k2, e2⟩ := kw
    have c25 : c2 19 5 = nI wl := by rw [e2, if_pos ⟨rfl, rfl⟩]
    obtain ⟨r1, hr1⟩ : ∃ r1, r1 = plUp r 0 39 (nI wl) := ⟨_, rfl⟩
    have kr : K_RM_decide_77 r (r 0 38) (nI pr) = K_RM_decide_113 r1 := by
      unfold K_RM_decide_77 K_RM_decide_110
      rw [if_pos (pl.mpr z), r38, r39, r2, hr1]
      by_cases y3 : q = 3
      · rw [if_pos (q3.mpr y3), hwl, if_pos y3]
      · rw [if_neg (fun y => y3 (q3.mp y)), hwl, if_neg y3]
        by_cases y1 : q = 1
        · rw [if_pos y1]
        · rw [if_neg y1, hq2 y1]
    have r139 : r1 0 39 = nI wl := by rw [hr1, plUp_ap, if_pos ⟨rfl, rfl⟩]
    by_cases y : wl = 0
    · refine ⟨0, 0, nI wl, plUp c2 19 6 0, by omega, by omega, fun e => by omega, fun _ => rfl, ?_, fun i k => ?_, fun i k => ?_⟩
      · rw [k2]
        unfold K_SW_waitOn_32
        rw [c25, if_pos (w0.mpr y)]
        rfl
      · rw [plUp_ap, e2]; rfl
      · rw [kr]
        unfold K_RM_decide_113
        rw [r139, if_pos (w0'.mpr y)]
        unfold K_RM_decide_126 K_RM_decide_129 K_RM_decide_147
        rw [show plUp r1 0 38 0 0 39 = nI wl by rw [plUp_ap, if_neg (by omega)]; exact r139, if_pos (w0'.mpr y), plUp_ap, plUp_ap, hr1, plUp_ap]
        by_cases e38 : i = 0 ∧ k = 38
        · rw [if_neg (by omega), if_pos e38, if_pos e38]; rfl
        · rw [if_neg e38, if_neg e38]
          by_cases e39 : i = 0 ∧ k = 39
          · rw [if_pos e39, if_pos e39]; rfl
          · rw [if_neg e39, if_neg e39, if_neg e39]
    · refine ⟨1, wl - 1, nI (wl - 1), plUp (plUp c2 19 5 (nI (wl - 1))) 19 6 1, by omega, by omega, fun _ => rfl, fun e => absurd rfl e, ?_, fun i k => ?_, fun i k => ?_⟩
      · rw [k2]
        unfold K_SW_waitOn_32
        rw [c25, if_neg (fun e => y (w0.mp e)), show nI wl - 1 = nI (wl - 1) by rw [show (1 : Int32) = nI 1 from rfl, pk_sub (by omega)]]
        rfl
      · rw [plUp_ap, plUp_ap, e2]
        by_cases e6 : i = 19 ∧ k = 6
        · rw [if_pos e6, if_pos e6]; rfl
        · rw [if_neg e6, if_neg e6]
          by_cases e5 : i = 19 ∧ k = 5
          · rw [if_pos e5, if_pos e5]
          · rw [if_neg e5, if_neg e5, if_neg e5]
      · rw [kr]
        unfold K_RM_decide_113
        rw [r139, if_neg (fun e => y (w0'.mp e))]
        unfold K_RM_decide_126 K_RM_decide_129 K_RM_decide_147
        rw [show plUp r1 0 38 1 0 39 = nI wl by rw [plUp_ap, if_neg (by omega)]; exact r139, if_neg (fun e => y (w0'.mp e)), show nI wl - 1 = nI (wl - 1) by rw [show (1 : Int32) = nI 1 from rfl, pk_sub (by omega)], plUp_ap, plUp_ap, hr1, plUp_ap]
        by_cases e38 : i = 0 ∧ k = 38
        · rw [if_neg (by omega), if_pos e38, if_pos e38]; rfl
        · rw [if_neg e38, if_neg e38]
          by_cases e39 : i = 0 ∧ k = 39
          · rw [if_pos e39, if_pos e39]
          · rw [if_neg e39, if_neg e39, if_neg e39]
  · rw [if_neg (fun y => z (p0.mp y))]
    refine ⟨pr, 0, c 19 5, plUp c 19 6 (nI pr), hp, by omega, fun e => absurd e hp1, fun _ => rfl, rfl, fun i k => ?_, fun i k => ?_⟩
    · rw [plUp_ap]
      by_cases e6 : i = 19 ∧ k = 6
      · rw [if_pos e6, if_pos e6]
      · rw [if_neg e6, if_neg e6]
        by_cases e5 : i = 19 ∧ k = 5
        · rw [if_pos e5, e5.1, e5.2]
        · rw [if_neg e5]
    · unfold K_RM_decide_77 K_RM_decide_87
      rw [if_neg (fun y => z (pl.mp y)), plUp_ap, plUp_ap]
      by_cases e39 : i = 0 ∧ k = 39
      · rw [if_pos e39, if_neg (by omega), if_pos e39]; rfl
      · rw [if_neg e39, if_neg e39]
theorem plOver {c' r' : plS} {q' : Nat} (hq : q' ≤ 5) (c6 : c' 19 6 = nI q') (r38 : r' 0 38 = nI q') (hB : (c' 20 0 = 0 ∧ r' 0 34 = -1) ∨ (plBy (c' 20 0) ∧ r' 0 34 = c' 20 0)) : ∃ ch : Int32, plB ch ∧ K_SW_decide_40 c' = plUp c' 19 7 ch ∧ K_RM_select r' = K_RM_select_52 (plUp r' 0 40 ch) ∧ (P_RM_select_52 (plUp r' 0 40 ch) → P_RM_select r') := by
  have q1 : nI q' < 1 ↔ q' < 1 := by rw [show (1 : Int32) = nI 1 from rfl, nI_ltI (by omega) (by omega)]
  have q4 : 4 < nI q' ↔ 4 < q' := by rw [show (4 : Int32) = nI 4 from rfl, nI_ltI (by omega) (by omega)]
  have n1 : ¬ (1 : Int32) = 0 := by decide
  obtain ⟨od, k0, ho, hsel, psel⟩ : ∃ (od : Prop) (k0 : Int32), (((c' 20 0) - (c' 20 0) / 2 * 2) = 1 ↔ od) ∧ (K_RM_select r' = K_RM_select_22 r' k0 ∧ (P_RM_select_22 r' k0 → P_RM_select r')) ∧ (k0 = 0 ↔ ¬ od) := by
    unfold K_RM_select K_RM_select_21 P_RM_select P_RM_select_21
    rcases hB with ⟨z1, z2⟩ | ⟨⟨b, hb, eb⟩, z2⟩
    · rw [z1, z2]
      refine ⟨False, 0, ⟨fun e => absurd e (by decide), fun e => e.elim⟩, ⟨by rw [if_pos (show (-1 : Int32) < 0 by decide)], fun p => ⟨fun _ => p, fun y => absurd (show (-1 : Int32) < 0 by decide) y⟩⟩, ⟨fun _ => id, fun _ => rfl⟩⟩
    · rw [z2, eb]
      have e1 : nI b - nI b / 2 * 2 = nI (b % 2) := by rw [show (2 : Int32) = nI 2 from rfl]; exact pk_rem (by omega) (by omega) (by omega)
      have e2 : nI b &&& 1 = nI (b % 2) := pk_andN (by omega) 1 rfl
      have e3 : nI (b % 2) = 1 ↔ b % 2 = 1 := by rw [show (1 : Int32) = nI 1 from rfl, nI_eq (by omega) (by omega)]
      rw [e1, e2]
      have np : ¬ nI b < 0 := nI_pos (by omega)
      by_cases y : b % 2 = 1
      · exact ⟨b % 2 = 1, 1, e3, ⟨by rw [if_neg np, if_pos (e3.mpr y)], fun p => ⟨fun w => absurd w np, fun _ => ⟨fun _ => p, fun w => absurd (e3.mpr y) w⟩⟩⟩, ⟨fun w => absurd w n1, fun w => absurd y w⟩⟩
      · exact ⟨b % 2 = 1, 0, e3, ⟨by rw [if_neg np, if_neg (fun w => y (e3.mp w))], fun p => ⟨fun w => absurd w np, fun _ => ⟨fun w => absurd (e3.mp w) y, fun _ => p⟩⟩⟩, ⟨fun _ => y, fun _ => rfl⟩⟩
  unfold K_SW_decide_40 K_SW_decide_73 K_SW_decide_74 K_SW_decide_87
  rw [hsel.1]
  unfold K_RM_select_22 K_RM_select_48 K_RM_select_49
  have hp := hsel.2
  unfold P_RM_select_22 P_RM_select_48 P_RM_select_49 at hp
  rw [c6, r38]
  rw [r38] at hp
  by_cases z1 : q' < 1
  · exact ⟨0, Or.inl rfl, by rw [if_pos (q1.mpr z1), if_pos rfl], by rw [if_pos (q1.mpr z1)], fun p => hp ⟨fun _ => p, fun w => absurd (q1.mpr z1) w⟩⟩
  · rw [if_neg (fun w => z1 (q1.mp w)), if_neg (fun w => z1 (q1.mp w))]
    by_cases z4 : 4 < q'
    · exact ⟨0, Or.inl rfl, by rw [if_pos (q4.mpr z4), if_pos rfl], by rw [if_pos (q4.mpr z4)], fun p => hp ⟨fun _ => p, fun _ => ⟨fun _ => p, fun w => absurd (q4.mpr z4) w⟩⟩⟩
    · rw [if_neg (fun w => z4 (q4.mp w)), if_neg (fun w => z4 (q4.mp w))]
      by_cases y : od
      · exact ⟨1, Or.inr rfl, by rw [if_pos (ho.mpr y), if_neg n1], by rw [if_neg (fun w => psel.mp w y)], fun p => hp ⟨fun w => absurd (q1.mp w) z1, fun _ => ⟨fun w => absurd (q4.mp w) z4, fun _ => ⟨fun w => absurd y (psel.mp w), fun _ => p⟩⟩⟩⟩
      · exact ⟨0, Or.inl rfl, by rw [if_neg (fun w => y (ho.mp w)), if_pos rfl], by rw [if_pos (psel.mpr y)], fun p => hp ⟨fun _ => p, fun _ => ⟨fun _ => p, fun _ => ⟨fun _ => p, fun w => absurd (psel.mpr y) w⟩⟩⟩⟩
theorem plDecide {c r0 r : plS} {n S0 S1 : Nat} (hn : n < 2 ^ 28) (hS0 : S0 ≤ 2) (hS1 : S1 ≤ 2) (H : plSw c r0 n) (g : ∀ k, k = 1 ∨ k = 2 ∨ k = 37 ∨ k = 38 ∨ k = 39 → r 0 k = r0 0 k) (g33 : r 0 33 = if S0 = 2 then 0 else r0 0 33 + 1) (c9 : c 9 9 = nI S0) (c13 : c 13 9 = nI S1) (r14 : r 14 1 = nI S1) (hB : (c 20 0 = 0 ∧ r 0 34 = -1) ∨ (plBy (c 20 0) ∧ r 0 34 = c 20 0)) : P_LW_failed c ∧ P_LP_failed c ∧ ∃ ch : Int32, plB ch ∧ K_SW_decide c (K_LW_failed c) (K_LP_failed c) 19 7 = ch ∧ plSw (K_SW_decide c (K_LW_failed c) (K_LP_failed c)) (plUp (K_RM_decide r) 0 40 ch) (n + 1) ∧ K_RM_select (K_RM_decide r) = K_RM_select_52 (plUp (K_RM_decide r) 0 40 ch) ∧ (P_RM_select_52 (plUp (K_RM_decide r) 0 40 ch) → P_RM_select (K_RM_decide r)) := by
  obtain ⟨h, w, o, f, q, x, a1, a2, a3, a4, a5, a6, b1, b2, b3, b4, b5, b6, b7, b8, b9, b10, b11, b12, b13, b14, b15⟩ := H
  have s2 : ∀ S, S ≤ 2 → (nI S = 2 ↔ S = 2) := fun S hS => by rw [show (2 : Int32) = nI 2 from rfl, nI_eq (by omega) (by omega)]
  have kf0 : K_LW_failed c = if S0 = 2 then 0 else 1 := by
    unfold K_LW_failed K_LW_failed_13
    rw [c9]
    simp only [s2 S0 hS0]
  have kf1 : K_LP_failed c = if S1 = 2 then 0 else 1 := by
    unfold K_LP_failed K_LP_failed_13
    rw [c13]
    simp only [s2 S1 hS1]
  obtain ⟨f', hf'⟩ : ∃ f' : Nat, f' = if S0 = 2 then 0 else f + 1 := ⟨_, rfl⟩
  have f'n : f' ≤ n + 1 := by rw [hf']; split <;> omega
  have r33 : r 0 33 = nI f' := by
    rw [g33, hf', b8]
    by_cases z : S0 = 2
    · rw [if_pos z, if_pos z]; rfl
    · rw [if_neg z, if_neg z, nI_1]
  obtain ⟨c1, hc1⟩ : ∃ c1, c1 = plUp c 19 4 (nI f') := ⟨_, rfl⟩
  have e1 : ∀ i k, c1 i k = if i = 19 ∧ k = 4 then nI f' else c i k := fun i k => by rw [hc1, plUp_ap]
  have kd : K_SW_decide c (K_LW_failed c) (K_LP_failed c) = K_SW_decide_18 c1 (K_LP_failed c) := by
    unfold K_SW_decide K_SW_decide_15
    rw [kf0, hc1, hf', b7]
    by_cases z : S0 = 2
    · rw [if_pos z, if_pos z, if_pos rfl]; rfl
    · rw [if_neg z, if_neg z, if_neg (show ¬ (1 : Int32) = 0 by decide), nI_1]
  obtain ⟨pr, p1, p2, p3, p4⟩ := plPress (c := c1) (r := r) (f' := f') (v2 := K_LP_failed c) a1 a3 (by omega) hS1 (by rw [e1, if_neg (by omega)]; exact b1) (by rw [g 1 (by omega)]; exact b2) (by rw [e1, if_neg (by omega)]; exact b5) (by rw [g 37 (by omega)]; exact b6) (by rw [e1, if_pos ⟨rfl, rfl⟩]) r33 kf1 r14
  obtain ⟨q', x', y5, c', t1, t2, t3, t4, t5, t6, t7⟩ := plAsk (c := c1) (r := r) (v2 := K_LP_failed c) a2 a5 a6 (by rw [e1, if_neg (by omega)]; exact b3) (by rw [g 2 (by omega)]; exact b4) (by rw [e1, if_neg (by omega)]; exact b9) (by rw [g 38 (by omega)]; exact b10) (by rw [g 39 (by omega)]; exact b11) (fun z => by rw [e1, if_neg (by omega)]; exact b12 z) b13 p1 p2 p3
  rw [← p4] at t7
  obtain ⟨ch, u1, u2, u3, u4⟩ := plOver (c' := c') (r' := K_RM_decide r) t1 (by rw [t6, if_pos ⟨rfl, rfl⟩]) (by rw [t7, if_pos ⟨rfl, rfl⟩]) (by rw [t6, if_neg (by omega), if_neg (by omega), e1, if_neg (by omega), t7, if_neg (by omega), if_neg (by omega)]; exact hB)
  refine ⟨⟨fun _ => Or.inl rfl, fun _ => Or.inr rfl⟩, ⟨fun _ => Or.inl rfl, fun _ => Or.inr rfl⟩, ch, u1, by rw [kd, t5, u2, plUp_ap, if_pos ⟨rfl, rfl⟩], ?_, u3, u4⟩
  rw [kd, t5, u2]
  have ec : ∀ k, ¬ k = 7 → ¬ k = 6 → ¬ k = 5 → ¬ k = 4 → plUp c' 19 7 ch 19 k = c 19 k := fun k k7 k6 k5 k4 => by rw [plUp_ap, if_neg (by omega), t6, if_neg (by omega), if_neg (by omega), e1, if_neg (by omega)]
  have er : ∀ k, ¬ k = 40 → ¬ k = 38 → ¬ k = 39 → plUp (K_RM_decide r) 0 40 ch 0 k = r 0 k := fun k k7 k6 k5 => by rw [plUp_ap, if_neg (by omega), t7, if_neg (by omega), if_neg (by omega)]
  refine ⟨h, w, o, f', q', x', a1, a2, a3, f'n, t1, t2, ?_, ?_, ?_, ?_, ?_, ?_, ?_, ?_, ?_, ?_, ?_, ?_, t4, ?_, ?_⟩
  · rw [ec 0 (by omega) (by omega) (by omega) (by omega)]; exact b1
  · rw [er 1 (by omega) (by omega) (by omega), g 1 (by omega)]; exact b2
  · rw [ec 1 (by omega) (by omega) (by omega) (by omega)]; exact b3
  · rw [er 2 (by omega) (by omega) (by omega), g 2 (by omega)]; exact b4
  · rw [ec 3 (by omega) (by omega) (by omega) (by omega)]; exact b5
  · rw [er 37 (by omega) (by omega) (by omega), g 37 (by omega)]; exact b6
  · rw [plUp_ap, if_neg (by omega), t6, if_neg (by omega), if_neg (by omega), e1, if_pos ⟨rfl, rfl⟩]
  · rw [er 33 (by omega) (by omega) (by omega)]; exact r33
  · rw [plUp_ap, if_neg (by omega), t6, if_pos ⟨rfl, rfl⟩]
  · rw [plUp_ap, if_neg (by omega), t7, if_pos ⟨rfl, rfl⟩]
  · rw [plUp_ap, if_neg (by omega), t7, if_neg (by omega), if_pos ⟨rfl, rfl⟩]
  · intro z
    rw [plUp_ap, if_neg (by omega), t6, if_neg (by omega), if_pos ⟨rfl, rfl⟩]; exact t3 z
  · rw [plUp_ap, if_pos ⟨rfl, rfl⟩, plUp_ap, if_pos ⟨rfl, rfl⟩]
  · rw [plUp_ap, if_pos ⟨rfl, rfl⟩]; exact u1
