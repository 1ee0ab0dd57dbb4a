/-! the next byte of the stream, the next byte of a container -/
theorem plBegin {c r : plS} {o w L P : Nat} {N : Nat → Nat} {s : Nat → Int32} (H : plSrcX c r o w L P N s) : P_SS_begin c ∧ P_RM_load r ∧ ∃ (o' w' L' : Nat) (N' : Nat → Nat) (s' : Nat → Int32), 0 < L' ∧ plSrcX (K_SS_begin c) (K_RM_load r) o' w' L' 0 N' s' := by
  obtain ⟨a1, a2, a3, a4, a5, a6, a7, a8, a9, a10, a11, a12, a13, a14, a15, a16⟩ := H
  have c0 : plUp c 1 7 0 1 3 = 0 ↔ w = 0 := by rw [plUp_ap, if_neg (by omega), a4, show (0 : Int32) = nI 0 from rfl, nI_eq (by omega) (by omega)]
  by_cases z : w = 0
  · have r4 : r 0 4 = 0 := by rw [a5, z]; rfl
    obtain ⟨pl, kl⟩ := plLoad0 r4
    have kc : ∀ i k, K_SS_begin c i k = if i = 1 ∧ k = 6 then 2 else if i = 4 ∧ k = 1 then 171 else if i = 4 ∧ k = 0 then 182 else if i = 1 ∧ k = 7 then 0 else c i k := fun i k => by
      unfold K_SS_begin K_SS_begin_5
      rw [if_pos (c0.mpr z)]
      unfold K_SS_begin_21 K_SS_begin_30
      rw [plUp_ap, plUp_ap, plUp_ap, plUp_ap]
      rfl
    refine ⟨fun y => absurd (c0.mpr z) y, pl, o, w, 2, N, s, by omega, a1, a2, ?_, ?_, ?_, ?_, ?_, a8, fun j hj => by omega, by omega, by omega, ?_, ?_, ?_, ?_, fun p p1 p2 => ?_⟩
    · rw [kc, if_neg (by omega), if_neg (by omega), if_neg (by omega), if_neg (by omega)]; exact a3
    · rw [kc, if_neg (by omega), if_neg (by omega), if_neg (by omega), if_neg (by omega)]; exact a4
    · rw [kl, if_neg (by omega), if_neg (by omega), if_neg (by omega), if_neg (by omega)]; exact a5
    · rw [kc, if_neg (by omega), if_neg (by omega), if_neg (by omega), if_neg (by omega)]; exact a6
    · rw [kl, if_neg (by omega), if_neg (by omega), if_neg (by omega), if_neg (by omega)]; exact a7
    · rw [kc, if_pos ⟨rfl, rfl⟩]; rfl
    · rw [kl, if_pos ⟨rfl, rfl⟩]; rfl
    · rw [kc, if_neg (by omega), if_neg (by omega), if_neg (by omega), if_pos ⟨rfl, rfl⟩]; rfl
    · rw [kl, if_neg (by omega), if_pos ⟨rfl, rfl⟩]; rfl
    · rcases (show p = 0 ∨ p = 1 by omega) with rfl | rfl
      · rw [kc, if_neg (by omega), if_neg (by omega), if_pos ⟨rfl, rfl⟩, kl, if_neg (by omega), if_neg (by omega), if_pos ⟨rfl, rfl⟩]
        exact ⟨rfl, ⟨182, by omega, rfl⟩⟩
      · rw [kc, if_neg (by omega), if_pos ⟨rfl, rfl⟩, kl, if_neg (by omega), if_neg (by omega), if_neg (by omega), if_pos ⟨rfl, rfl⟩]
        exact ⟨rfl, ⟨171, by omega, rfl⟩⟩
  · obtain ⟨b1, b2, b3, b4, b5, b6, b7⟩ := a9 0 (by omega)
    rw [show (o + 0) % 8 = o by omega] at b6 b7
    obtain ⟨pl, kl⟩ := plLoadR (w := w) (n := N 0) (by omega) a2 a5 b1 b2 b3
    have ox : plIx (c 1 2) = o := by rw [a3]; exact plIx_nI (by omega)
    obtain ⟨n, hn⟩ : ∃ n, n = N 0 := ⟨_, rfl⟩
    rw [← hn] at b1 b2 b4 b5 b6 b7 kl
    obtain ⟨c2, hc2⟩ : ∃ c2, c2 = plUp (plUp c 1 7 0) 1 6 (nI (n + 3)) := ⟨_, rfl⟩
    have e2 : ∀ i k, c2 i k = if i = 1 ∧ k = 6 then nI (n + 3) else if i = 1 ∧ k = 7 then 0 else c i k := fun i k => by rw [hc2, plUp_ap, plUp_ap]
    have s12 : plUp c 1 7 0 1 2 = c 1 2 := by rw [plUp_ap, if_neg (by omega)]
    have s3 : plUp c 1 7 0 3 o = nI (n + 3) := by rw [plUp_ap, if_neg (by omega)]; exact b6
    have m9 : c2 1 2 * 9 = nI (9 * o) := by rw [e2, if_neg (by omega), if_neg (by omega), a3, show (9 : Int32) = nI 9 from rfl, pk_mul, Nat.mul_comm]
    have e26 : c2 1 6 = nI (n + 3) := by rw [e2, if_pos ⟨rfl, rfl⟩]
    obtain ⟨c3, hc3⟩ : ∃ c3, c3 = plCp c2 2 4 (9 * o) 0 (n + 3) := ⟨_, rfl⟩
    have e3 : ∀ i k, c3 i k = if i = 4 ∧ k < n + 3 then c 2 (9 * o + k) else c2 i k := fun i k => by
      rw [hc3, plCp_ap]
      by_cases y : i = 4
      · rw [if_pos y]
        by_cases y2 : k < n + 3
        · rw [if_pos ⟨y, y2⟩, pk_cpy_in (by omega) (by omega), e2, if_neg (by omega), if_neg (by omega), show 9 * o + (k - 0) = 9 * o + k by omega]
        · rw [if_neg (fun w => y2 w.2), pk_cpy_out (by omega), y]
      · rw [if_neg y, if_neg (fun w => y w.1)]
    have o1 : (c3 1 2 + 1) - (c3 1 2 + 1) / 8 * 8 = nI ((o + 1) % 8) := by
      rw [e3, if_neg (by omega), e2, if_neg (by omega), if_neg (by omega), a3, nI_1, show (8 : Int32) = nI 8 from rfl, pk_rem (by omega) (by omega) (by omega)]
    have w1 : plUp c3 1 2 (nI ((o + 1) % 8)) 1 3 - 1 = nI (w - 1) := by
      rw [plUp_ap, if_neg (by omega), e3, if_neg (by omega), e2, if_neg (by omega), if_neg (by omega), a4, show (1 : Int32) = nI 1 from rfl, pk_sub (by omega)]
    have kc : ∀ i k, K_SS_begin c i k = if i = 1 ∧ k = 3 then nI (w - 1) else if i = 1 ∧ k = 2 then nI ((o + 1) % 8) else if i = 4 ∧ k < n + 3 then c 2 (9 * o + k) else if i = 1 ∧ k = 6 then nI (n + 3) else if i = 1 ∧ k = 7 then 0 else c i k := fun i k => by
      unfold K_SS_begin K_SS_begin_5
      rw [if_neg (fun y => z (c0.mp y)), s12, ox, s3, ← hc2]
      unfold K_SS_begin_49 K_SS_begin_72 K_SS_begin_85
      rw [m9, e26, plIx_nI (by omega), show plIx 0 = 0 from rfl, plIx_nI (by omega), ← hc3, o1, w1, plUp_ap, plUp_ap, e3, e2]
    have pc : P_SS_begin c := by
      unfold P_SS_begin P_SS_begin_5
      intro _
      rw [s12, ox, s3, ← hc2]
      refine ⟨by rw [a3]; exact vp_in_nI (by omega) (by omega), ?_⟩
      unfold P_SS_begin_49 plCpOK
      rw [m9, e26, plIx_nI (by omega), plIx_nI (by omega), show plIx 0 = 0 from rfl]
      exact ⟨nI_pos (by omega), by decide, nI_pos (by omega), by omega, by omega⟩
    have g2 : ∀ k, k < 7 * (w - 1) → K_RM_load r 2 k = r 2 (k + 7) := fun k hk => by
      rw [kl, if_neg (by omega), if_neg (by omega), if_neg (by omega), if_neg (by omega), if_neg (by omega), if_pos ⟨rfl, hk⟩]
    refine ⟨pc, pl, (o + 1) % 8, w - 1, n + 3, fun j => N (j + 1), fun j => s (j + 1), by omega, by omega, by omega, ?_, ?_, ?_, ?_, ?_, ?_, fun j hj => ?_, by omega, by omega, ?_, ?_, ?_, ?_, fun p p1 p2 => ?_⟩
    · rw [kc, if_neg (by omega), if_pos ⟨rfl, rfl⟩]
    · rw [kc, if_pos ⟨rfl, rfl⟩]
    · rw [kl, if_pos ⟨rfl, rfl⟩]
    · rw [kc, if_neg (by omega), if_neg (by omega), if_neg (by omega), if_neg (by omega), if_neg (by omega), a6]; show s w = s (w - 1 + 1); rw [show w - 1 + 1 = w by omega]
    · rw [kl, if_neg (by omega), if_neg (by omega), if_neg (by omega), if_pos ⟨rfl, rfl⟩, a7]
      show _ = s (0 + 1)
      rw [b5]
    · show plBy (s (0 + 1))
      rw [b5]
      exact plSx_by a8 (fun i hi => b4 i hi)
    · obtain ⟨d1, d2, d3, d4, d5, d6, d7⟩ := a9 (j + 1) (by omega)
      have g3 : ∀ i, i < N (j + 1) → K_RM_load r 2 (7 * j + 1 + i) = r 2 (7 * (j + 1) + 1 + i) := fun i hi => by rw [g2 _ (by omega), show 7 * j + 1 + i + 7 = 7 * (j + 1) + 1 + i by omega]
      have om : ((o + 1) % 8 + j) % 8 = (o + (j + 1)) % 8 := by omega
      refine ⟨d1, d2, ?_, fun i hi => ?_, ?_, ?_, fun p hp => ?_⟩
      · rw [g2 _ (by omega), show 7 * j + 7 = 7 * (j + 1) by omega]; exact d3
      · rw [g3 i hi]; exact d4 i hi
      · show s (j + 1 + 1) = _
        rw [d5]; exact plSx_ext (fun i hi => (g3 i hi).symm)
      · rw [om, kc, if_neg (by omega), if_neg (by omega), if_neg (by omega), if_neg (by omega), if_neg (by omega)]; exact d6
      · rw [om, kc, if_neg (by omega), if_neg (by omega), if_neg (by omega), if_neg (by omega), if_neg (by omega), d7 p hp]
        exact plFb_ext (fun i hi => (g3 i hi).symm)
    · rw [kc, if_neg (by omega), if_neg (by omega), if_neg (by omega), if_pos ⟨rfl, rfl⟩]
    · rw [kl, if_neg (by omega), if_pos ⟨rfl, rfl⟩]
    · rw [kc, if_neg (by omega), if_neg (by omega), if_neg (by omega), if_neg (by omega), if_pos ⟨rfl, rfl⟩]; rfl
    · rw [kl, if_neg (by omega), if_neg (by omega), if_pos ⟨rfl, rfl⟩]; rfl
    · have ep : K_SS_begin c 4 p = plFb (s 0) (fun i => r 2 (7 * 0 + 1 + i)) n p := by
        rw [kc, if_neg (by omega), if_neg (by omega), if_pos ⟨rfl, p2⟩]; exact b7 p p2
      rw [ep, kl, if_neg (by omega), if_neg (by omega), if_neg (by omega), if_neg (by omega), if_pos ⟨rfl, p2⟩, a7]
      exact ⟨plFb_ext (fun i _ => by rw [show 7 * 0 + 1 + i = 1 + i by omega]), plFb_by b2 a8 (fun i hi => b4 i hi)⟩
theorem plTake1 {c r : plS} {o w L P : Nat} {N : Nat → Nat} {s : Nat → Int32} (H : plSrcX c r o w L P N s) (hP : P < L) : P_SS_nextByte_15 c ∧ P_RM_streamed_15 r ∧ (K_SS_nextByte_15 c).1 = c 4 P ∧ (K_RM_streamed_15 r).1 = c 4 P ∧ plBy (c 4 P) ∧ plSrc (K_SS_nextByte_15 c).2 (K_RM_streamed_15 r).2 := by
  obtain ⟨a1, a2, a3, a4, a5, a6, a7, a8, a9, a10, a11, a12, a13, a14, a15, a16⟩ := H
  have xc : plIx (c 1 7) = P := by rw [a14]; exact plIx_nI (by omega)
  have r8 : r 0 8 + 1 = nI (P + 1) := by rw [a15, nI_1]
  have c7 : c 1 7 + 1 = nI (P + 1) := by rw [a14, nI_1]
  have u8 : plUp r 0 8 (nI (P + 1)) 0 8 - 1 = nI P := by rw [plUp_ap, if_pos ⟨rfl, rfl⟩, nI_pred]
  have kr : K_RM_streamed_15 r = (r 3 P, plUp r 0 8 (nI (P + 1))) := by
    unfold K_RM_streamed_15 K_RM_streamed_25
    rw [r8, u8, plIx_nI (by omega), plUp_ap, if_neg (by omega)]
  have kc : K_SS_nextByte_15 c = (c 4 P, plUp c 1 7 (nI (P + 1))) := by
    unfold K_SS_nextByte_15
    rw [xc, c7]
  obtain ⟨p1, p2⟩ := a16 P (by omega) hP
  refine ⟨by show vp_in (c 1 7) 9; rw [a14]; exact vp_in_nI (by omega) (by omega), ?_, by rw [kc], by rw [kr]; exact p1.symm, p2, ?_⟩
  · show vp_in (plUp r 0 8 (r 0 8 + 1) 0 8 - 1) 9
    rw [r8, u8]; exact vp_in_nI (by omega) (by omega)
  · rw [kc, kr]
    show plSrc (plUp c 1 7 (nI (P + 1))) (plUp r 0 8 (nI (P + 1)))
    have ec : ∀ i k, ¬ (i = 1 ∧ k = 7) → plUp c 1 7 (nI (P + 1)) i k = c i k := fun i k y => by rw [plUp_ap, if_neg y]
    have er : ∀ i k, ¬ (i = 0 ∧ k = 8) → plUp r 0 8 (nI (P + 1)) i k = r i k := fun i k y => by rw [plUp_ap, if_neg y]
    refine ⟨o, w, L, P + 1, N, s, a1, a2, by rw [ec _ _ (by omega)]; exact a3, by rw [ec _ _ (by omega)]; exact a4, by rw [er _ _ (by omega)]; exact a5, by rw [ec _ _ (by omega)]; exact a6, by rw [er _ _ (by omega)]; exact a7, a8, fun j hj => ?_, by omega, a11, by rw [ec _ _ (by omega)]; exact a12, by rw [er _ _ (by omega)]; exact a13, by rw [plUp_ap, if_pos ⟨rfl, rfl⟩], by rw [plUp_ap, if_pos ⟨rfl, rfl⟩], fun p y1 y2 => by rw [ec _ _ (by omega), er _ _ (by omega)]; exact a16 p (by omega) y2⟩
    obtain ⟨b1, b2, b3, b4, b5, b6, b7⟩ := a9 j hj
    exact ⟨b1, b2, by rw [er _ _ (by omega)]; exact b3, fun i hi => by rw [er _ _ (by omega)]; exact b4 i hi, by rw [b5]; exact plSx_ext (fun i _ => (er _ _ (by omega)).symm), by rw [ec _ _ (by omega)]; exact b6, fun p hp => by rw [ec _ _ (by omega), b7 p hp]; exact plFb_ext (fun i _ => (er _ _ (by omega)).symm)⟩
theorem plNext {c r : plS} (H : plSrc c r) : P_SS_nextByte c ∧ P_RM_streamed r ∧ (K_SS_nextByte c).1 = (K_RM_streamed r).1 ∧ plBy (K_SS_nextByte c).1 ∧ plSrc (K_SS_nextByte c).2 (K_RM_streamed r).2 := by
  obtain ⟨o, w, L, P, N, s, X⟩ := H
  have X' := X
  obtain ⟨a1, a2, a3, a4, a5, a6, a7, a8, a9, a10, a11, a12, a13, a14, a15, a16⟩ := X'
  have qc : c 1 7 < c 1 6 ↔ P < L := by rw [a12, a14, nI_ltI (by omega) (by omega)]
  have qr : r 0 8 = r 0 7 ↔ ¬ P < L := by rw [a13, a15, nI_eq (by omega) (by omega)]; omega
  unfold P_SS_nextByte P_RM_streamed K_SS_nextByte K_RM_streamed
  by_cases z : P < L
  · obtain ⟨t1, t2, t3, t4, t5, t6⟩ := plTake1 X z
    rw [if_pos (qc.mpr z), if_neg (fun y => qr.mp y z)]
    exact ⟨⟨fun _ => t1, fun y => absurd (qc.mpr z) y⟩, ⟨fun y => absurd z (qr.mp y), fun _ => t2⟩, t3.trans t4.symm, by rw [t3]; exact t5, t6⟩
  · obtain ⟨p1, p2, o', w', L', N', s', hL, X2⟩ := plBegin X
    obtain ⟨t1, t2, t3, t4, t5, t6⟩ := plTake1 X2 hL
    rw [if_neg (fun y => z (qc.mp y)), if_pos (qr.mpr z)]
    exact ⟨⟨fun y => absurd (qc.mp y) z, fun _ => ⟨p1, t1⟩⟩, ⟨fun _ => ⟨p2, t2⟩, fun y => absurd (qr.mpr z) y⟩, t3.trans t4.symm, by rw [t3]; exact t5, t6⟩
def plCon (c r : plS) : Prop := ∃ q, q < 6 ∧ c 6 1 = nI q ∧ r 0 10 = nI q ∧ plBy (c 6 2) ∧ (q = 0 → r 0 11 = c 6 2 ∧ r 0 12 = 0) ∧ (¬ q = 0 → r 0 12 = c 6 2)
theorem plCon.ext {c c' r r' : plS} (h : plCon c r) (e : ∀ k, c' 6 k = c 6 k) (g : ∀ k, k = 10 ∨ k = 11 ∨ k = 12 → r' 0 k = r 0 k) : plCon c' r' := by
  obtain ⟨q, h1, h2, h3, h4, h5, h6⟩ := h
  exact ⟨q, h1, by rw [e]; exact h2, by rw [g 10 (by omega)]; exact h3, by rw [e]; exact h4, fun z => by rw [e, g 11 (by omega), g 12 (by omega)]; exact h5 z, fun z => by rw [e, g 12 (by omega)]; exact h6 z⟩
theorem plX0l (x : Int32) : 0 ^^^ x = x := by
  apply Int32.toBitVec_inj.1
  show 0#32 ^^^ x.toBitVec = x.toBitVec
  exact BitVec.zero_xor
theorem plContained {c r : plS} (H : plSrc c r) (K : plCon c r) : P_CS_nextByte c ∧ P_RM_contained r ∧ (K_CS_nextByte c).1 = (K_RM_contained r).1 ∧ plBy (K_CS_nextByte c).1 ∧ plSrc (K_CS_nextByte c).2 (K_RM_contained r).2 ∧ plCon (K_CS_nextByte c).2 (K_RM_contained r).2 := by
  obtain ⟨q, h1, h2, h3, h4, h5, h6⟩ := K
  have c0 : c 6 1 = 0 ↔ q = 0 := by rw [h2, show (0 : Int32) = nI 0 from rfl, nI_eq (by omega) (by omega)]
  have r0 : r 0 10 = 0 ↔ q = 0 := by rw [h3, show (0 : Int32) = nI 0 from rfl, nI_eq (by omega) (by omega)]
  by_cases z : q = 0
  · obtain ⟨y1, y2⟩ := h5 z
    have kc : K_CS_nextByte c = (c 6 2, plUp (plUp c 6 2 (c 6 2)) 6 1 (nI 1)) := by
      unfold K_CS_nextByte K_CS_nextByte_21 K_CS_nextByte_40 K_CS_nextByte_43 K_CS_nextByte_62
      rw [if_pos (c0.mpr z), if_pos (c0.mpr z), show plUp c 6 2 (c 6 2) 6 1 = nI 0 by rw [plUp_ap, if_neg (by omega), h2, z], if_neg (show ¬ nI 0 = 5 by decide)]
      rfl
    have kr : K_RM_contained r = (c 6 2, plUp (plUp r 0 12 (c 6 2)) 0 10 (nI 1)) := by
      unfold K_RM_contained K_RM_contained_18 K_RM_contained_29 K_RM_contained_39 K_RM_contained_66
      rw [if_pos (r0.mpr z), y1, y2, plX0l, show plUp r 0 12 (c 6 2) 0 10 + 1 = nI 1 by rw [plUp_ap, if_neg (by omega), h3, z, nI_1], show plUp (plUp r 0 12 (c 6 2)) 0 10 (nI 1) 0 10 = nI 1 by simp [plUp_ap], if_neg (show ¬ nI 1 = 6 by decide)]
    refine ⟨fun y => absurd (c0.mpr z) y, fun y => absurd (r0.mpr z) y, by rw [kc, kr], by rw [kc]; exact h4, ?_, ?_⟩
    · rw [kc, kr]
      exact H.ext (fun k => by simp [plUp_ap]) (fun k => by simp [plUp_ap]) (fun k => by simp [plUp_ap]) (fun k => by simp [plUp_ap]) (fun k hk => by show plUp (plUp r 0 12 (c 6 2)) 0 10 (nI 1) 0 k = _; rw [plUp_ap, if_neg (by omega), plUp_ap, if_neg (by omega)]) (fun k => by simp [plUp_ap]) (fun k => by simp [plUp_ap])
    · rw [kc, kr]
      exact ⟨1, by omega, by simp [plUp_ap], by simp [plUp_ap], by simp [plUp_ap]; exact h4, fun y => by omega, fun _ => by simp [plUp_ap]⟩
  · obtain ⟨n1, n2, n3, n4, n5⟩ := plNext H
    obtain ⟨b, hb⟩ : ∃ b, b = (K_SS_nextByte c).1 := ⟨_, rfl⟩
    obtain ⟨c1, hc1⟩ : ∃ c1, c1 = (K_SS_nextByte c).2 := ⟨_, rfl⟩
    obtain ⟨r1, hr1⟩ : ∃ r1, r1 = (K_RM_streamed r).2 := ⟨_, rfl⟩
    have pc : K_SS_nextByte c = (b, c1) := by rw [hb, hc1]
    have pr : K_RM_streamed r = (b, r1) := by rw [hb, hr1, n3]
    rw [← hb] at n4
    rw [← hc1, ← hr1] at n5
    have fc : ∀ k, c1 6 k = c 6 k := fun k => by rw [hc1]; apply fr_K_SS_nextByte <;> omega
    have fr : ∀ k, k = 10 ∨ k = 11 ∨ k = 12 → r1 0 k = r 0 k := fun k hk => by rw [hr1]; apply fr_K_RM_streamed <;> omega
    have q5 : nI q = 5 ↔ q = 5 := by rw [show (5 : Int32) = nI 5 from rfl, nI_eq (by omega) (by omega)]
    have q6 : nI (q + 1) = 6 ↔ q = 5 := by rw [show (6 : Int32) = nI 6 from rfl, nI_eq (by omega) (by omega)]; omega
    have u1 : plUp c1 6 2 (c 6 2 ^^^ b) 6 1 = nI q := by rw [plUp_ap, if_neg (by omega), fc]; exact h2
    have kc : K_CS_nextByte c = (b, plUp (plUp c1 6 2 (c 6 2 ^^^ b)) 6 1 (if q = 5 then 0 else nI (q + 1))) := by
      unfold K_CS_nextByte K_CS_nextByte_21q
      rw [if_neg (fun y => z (c0.mp y)), pc]
      unfold K_CS_nextByte_21 K_CS_nextByte_40 K_CS_nextByte_43 K_CS_nextByte_62
      show (if c1 6 1 = 0 then _ else (if plUp c1 6 2 (c1 6 2 ^^^ b) 6 1 = 5 then (b, plUp (plUp c1 6 2 (c1 6 2 ^^^ b)) 6 1 0) else (b, plUp (plUp c1 6 2 (c1 6 2 ^^^ b)) 6 1 (plUp c1 6 2 (c1 6 2 ^^^ b) 6 1 + 1)))) = _
      rw [if_neg (by rw [fc]; exact fun y => z (c0.mp y)), fc, u1, nI_1]
      by_cases y : q = 5
      · rw [if_pos (q5.mpr y), if_pos y]
      · rw [if_neg (fun w => y (q5.mp w)), if_neg y]
    have e12 : r1 0 12 = c 6 2 := by rw [fr 12 (by omega)]; exact h6 z
    have e10 : r1 0 10 = nI q := by rw [fr 10 (by omega)]; exact h3
    have v10 : plUp r1 0 12 (c 6 2 ^^^ b) 0 10 + 1 = nI (q + 1) := by rw [plUp_ap, if_neg (by omega), e10, nI_1]
    have v10b : plUp (plUp r1 0 12 (c 6 2 ^^^ b)) 0 10 (nI (q + 1)) 0 10 = nI (q + 1) := by simp [plUp_ap]
    have v12 : plUp (plUp r1 0 12 (c 6 2 ^^^ b)) 0 10 (nI (q + 1)) 0 12 = c 6 2 ^^^ b := by simp [plUp_ap]
    have kr : K_RM_contained r = (b, if q = 5 then plUp (plUp (plUp (plUp (plUp r1 0 12 (c 6 2 ^^^ b)) 0 10 (nI (q + 1))) 0 11 (c 6 2 ^^^ b)) 0 12 0) 0 10 0 else plUp (plUp r1 0 12 (c 6 2 ^^^ b)) 0 10 (nI (q + 1))) := by
      unfold K_RM_contained K_RM_contained_18q
      rw [if_neg (fun y => z (r0.mp y)), pr]
      show K_RM_contained_18 r1 b = _
      unfold K_RM_contained_18 K_RM_contained_29 K_RM_contained_39 K_RM_contained_56 K_RM_contained_61 K_RM_contained_66
      rw [e12, v10, v10b, v12]
      by_cases y : q = 5
      · rw [if_pos (q6.mpr y), if_pos y]
      · rw [if_neg (fun w => y (q6.mp w)), if_neg y]
    refine ⟨fun _ => n1, fun _ => n2, by rw [kc, kr], by rw [kc]; exact n4, ?_, ?_⟩
    · rw [kc, kr]
      refine n5.ext (fun k => by simp [plUp_ap]) (fun k => by simp [plUp_ap]) (fun k => by simp [plUp_ap]) (fun k => by simp [plUp_ap]) (fun k hk => ?_) (fun k => ?_) (fun k => ?_)
      · show (if q = 5 then _ else _ : plS) 0 k = _
        split
        · rw [plUp_ap, if_neg (by omega), plUp_ap, if_neg (by omega), plUp_ap, if_neg (by omega), plUp_ap, if_neg (by omega), plUp_ap, if_neg (by omega)]
        · rw [plUp_ap, if_neg (by omega), plUp_ap, if_neg (by omega)]
      · show (if q = 5 then _ else _ : plS) 2 k = _
        split <;> simp [plUp_ap]
      · show (if q = 5 then _ else _ : plS) 3 k = _
        split <;> simp [plUp_ap]
    · rw [kc, kr]
      have hx : plBy (c 6 2 ^^^ b) := h4.xor n4
      by_cases y : q = 5
      · rw [if_pos y, if_pos y]
        exact ⟨0, by omega, by simp [plUp_ap]; rfl, by simp [plUp_ap]; rfl, by simp [plUp_ap]; exact hx, fun _ => by simp [plUp_ap], fun w => absurd rfl w⟩
      · rw [if_neg y, if_neg y]
        exact ⟨q + 1, by omega, by simp [plUp_ap], by simp [plUp_ap], by simp [plUp_ap]; exact hx, fun w => by omega, fun _ => by simp [plUp_ap]⟩
