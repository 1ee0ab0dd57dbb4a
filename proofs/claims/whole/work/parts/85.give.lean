theorem plslot {G : Nat} (h : G < 2 ^ 30) : K_SR_slotOf (nI G) = nI (G % 8) := by
  unfold K_SR_slotOf
  exact pk_andN (m := 7) (by omega) 3 rfl
theorem plEnd_bad {c : plS} {v : Int32} {L : Nat} (hL : L < 256) (h3 : c 21 3 = nI L) (h : ¬ (2 ≤ L ∧ L ≤ 7 ∧ v = c 21 6)) : P_SR_endFrame c v ∧ K_SR_endFrame c v = plUp c 21 9 (c 21 9 + 1) := by
  have q1 : c 21 3 < 2 ↔ L < 2 := by rw [h3, show (2 : Int32) = nI 2 from rfl, nI_ltI (by omega) (by omega)]
  have q2 : 7 < c 21 3 ↔ 7 < L := by rw [h3, show (7 : Int32) = nI 7 from rfl, nI_ltI (by omega) (by omega)]
  unfold P_SR_endFrame K_SR_endFrame
  simp only [q1, q2]
  by_cases a : L < 2
  · rw [if_pos a]
    exact ⟨fun z => absurd a z, rfl⟩
  · rw [if_neg a]
    by_cases b : 7 < L
    · rw [if_pos b]
      exact ⟨fun _ z => absurd b z, rfl⟩
    · rw [if_neg b]
      have e : ¬ v = c 21 6 := fun z => h ⟨by omega, by omega, z⟩
      rw [if_neg e]
      exact ⟨fun _ _ z => absurd z e, rfl⟩
theorem plEnd_good {c : plS} {v : Int32} {L G : Nat} (hL : 2 ≤ L) (hL2 : L ≤ 7) (h3 : c 21 3 = nI L) (hG : G < 2 ^ 29) (h8 : c 21 8 = nI G) (h : v = c 21 6) : P_SR_endFrame c v ∧ K_SR_endFrame c v = plCp (plUp (plUp c 21 8 (nI (G + 1))) 23 ((G + 1) % 8) (nI (L - 1))) 22 24 0 (6 * ((G + 1) % 8)) (L - 1) := by
  have q1 : ¬ c 21 3 < 2 := by rw [h3]; exact nI_nlt (b := 2) (by omega) (by omega)
  have q2 : ¬ 7 < c 21 3 := by rw [h3]; exact nI_nlt (a := 7) (by omega) (by omega)
  have e8 : c 21 8 + 1 = nI (G + 1) := by rw [h8, nI_1]
  have eL : nI L - 1 = nI (L - 1) := by rw [show (1 : Int32) = nI 1 from rfl, pk_sub (by omega)]
  have hm : (G + 1) % 8 < 8 := Nat.mod_lt _ (by omega)
  have e6 : nI ((G + 1) % 8) * 6 = nI (6 * ((G + 1) % 8)) := by rw [show (6 : Int32) = nI 6 from rfl, pk_mul, Nat.mul_comm]
  unfold P_SR_endFrame K_SR_endFrame
  rw [if_neg q1, if_neg q2, if_pos h, e8]
  unfold P_SR_endFrame_35 K_SR_endFrame_35 P_SR_endFrame_53 K_SR_endFrame_53 K_SR_endFrame_94
  have s1 : plUp c 21 8 (nI (G + 1)) 21 8 = nI (G + 1) := by rw [plUp_ap, if_pos ⟨rfl, rfl⟩]
  have s3 : plUp c 21 8 (nI (G + 1)) 21 3 = nI L := by rw [plUp_ap, if_neg (by omega)]; exact h3
  have t8 : ∀ k z, plUp (plUp c 21 8 (nI (G + 1))) 23 k z 21 8 = nI (G + 1) := fun k z => by rw [plUp_ap, if_neg (by omega)]; exact s1
  have t3 : ∀ k z, plUp (plUp c 21 8 (nI (G + 1))) 23 k z 21 3 = nI L := fun k z => by rw [plUp_ap, if_neg (by omega)]; exact s3
  rw [t8, t3, s1, s3, plslot (by omega), eL, e6, plIx_nI (by omega), plIx_nI (by omega), plIx_nI (by omega)]
  refine ⟨fun _ _ _ => ⟨vp_in_nI (by omega) (by omega), by decide, nI_pos (by omega), nI_pos (by omega), ?_, ?_⟩, rfl⟩
  · show plIx 0 + plIx (nI (L - 1)) ≤ 6
    rw [plIx_nI (by omega)]
    show 0 + _ ≤ _
    omega
  · rw [plIx_nI (by omega), plIx_nI (by omega)]
    omega
theorem plStr_byte {c r : plS} {B : Nat} {S L D G : Nat} (h : plStrX c r B S L D G) (hB : B < 2 ^ 28) (hDL : D < L) {b : Int32} (hb : plBy b) : P_SR_takeFrameByte c b ∧ P_RM_content r b ∧ plStr (K_SR_takeFrameByte c b) (K_RM_content r b) (B + 1) := by
  obtain ⟨a1, a2, a3, a4, a5, a6, a7, a8, a9, a10, a11, a12, a13, a14, a15, a16, a17, a18⟩ := h
  have hS0 := a10 hDL
  obtain ⟨pl, hpl⟩ : ∃ pl, pl = b ^^^ c 21 5 := ⟨_, rfl⟩
  have hpl2 : b ^^^ r 0 54 = pl := by rw [hpl, a12]
  obtain ⟨c2, hc2⟩ : ∃ c2, c2 = plUp (plUp c 21 5 b) 21 4 (nI (D + 1)) := ⟨_, rfl⟩
  obtain ⟨r2, hr2⟩ : ∃ r2, r2 = plUp (plUp r 0 54 b) 0 51 (nI (L - (D + 1))) := ⟨_, rfl⟩
  have ec : ∀ i k, c2 i k = if i = 21 ∧ k = 4 then nI (D + 1) else if i = 21 ∧ k = 5 then b else c i k := fun i k => by rw [hc2, plUp_ap, plUp_ap]
  have er : ∀ i k, r2 i k = if i = 0 ∧ k = 51 then nI (L - (D + 1)) else if i = 0 ∧ k = 54 then b else r i k := fun i k => by rw [hr2, plUp_ap, plUp_ap]
  have kc : K_SR_takeFrameByte c b = K_SR_takeFrameByte_22 c2 pl := by
    unfold K_SR_takeFrameByte K_SR_takeFrameByte_12
    rw [← hpl, hc2]
    congr 2
    rw [plUp_ap, if_neg (by omega), a8, nI_1]
  have pc : P_SR_takeFrameByte c b = P_SR_takeFrameByte_22 c2 pl := by
    unfold P_SR_takeFrameByte P_SR_takeFrameByte_12
    rw [← hpl, hc2]
    congr 2
    rw [plUp_ap, if_neg (by omega), a8, nI_1]
  have e51 : nI (L - D) - 1 = nI (L - (D + 1)) := by rw [show (1 : Int32) = nI 1 from rfl, pk_sub (by omega)]; congr 1
  have kr : K_RM_content r b = K_RM_content_22 r2 pl := by
    unfold K_RM_content K_RM_content_12
    rw [hpl2, hr2]
    congr 2
    rw [plUp_ap, if_neg (by omega), a9, e51]
  have pr : P_RM_content r b = P_RM_content_22 r2 pl := by
    unfold P_RM_content P_RM_content_12
    rw [hpl2, hr2]
    congr 2
    rw [plUp_ap, if_neg (by omega), a9, e51]
  rw [kc, pc, kr, pr]
  have c20 : c2 21 0 = nI S := by rw [ec]; simp; exact a2
  have c24 : c2 21 4 = nI (D + 1) := by rw [ec]; simp
  have c23 : c2 21 3 = nI L := by rw [ec]; simp; exact a7
  have r49 : r2 0 49 = nI S := by rw [er]; simp; exact a3
  have q1 : c2 21 0 = 1 ↔ S = 1 := by rw [c20, show (1 : Int32) = nI 1 from rfl, nI_eq (by omega) (by omega)]
  have q2 : 2 ≤ r2 0 49 ↔ 2 ≤ S := by rw [r49, show (2 : Int32) = nI 2 from rfl, nI_leI (by omega) (by omega)]
  by_cases e1 : S = 1
  · unfold K_SR_takeFrameByte_22 P_SR_takeFrameByte_22 K_RM_content_22 P_RM_content_22
    rw [if_pos (q1.mpr e1), if_neg (fun z => absurd (q2.mp z) (by omega))]
    refine ⟨fun z => absurd (q1.mpr e1) z, fun z => absurd (q2.mp z) (by omega), S, L, D + 1, G, a1, c20, r49, ?_, by omega, a6, c23, c24, by rw [er]; simp, fun _ => hS0, fun z => absurd z (by omega), by rw [ec, er]; simp, by rw [ec]; simp; exact hb, by rw [ec]; simp; exact a14, by rw [er]; simp; exact a15, by omega, by rw [ec, er]; simp; exact a17, a18.ext (fun k => by rw [ec]; simp) (fun k => by rw [ec]; simp) (fun k => by rw [er]; simp)⟩
    rw [ec, ec, er]; simp; exact a4
  · obtain rfl : S = 2 := by omega
    obtain ⟨b1, b2, b3, b4⟩ := a11 rfl hDL
    have r53 : r2 0 53 = nI D := by rw [er]; simp; exact b1
    have q7 : 7 ≤ r2 0 53 ↔ 7 ≤ D := by rw [r53, show (7 : Int32) = nI 7 from rfl, nI_leI (by omega) (by omega)]
    obtain ⟨r3, hr3⟩ : ∃ r3, r3 = plUp (if 7 ≤ D then r2 else plUp r2 17 D pl) 0 53 (nI (D + 1)) := ⟨_, rfl⟩
    have er3 : ∀ i k, r3 i k = if i = 0 ∧ k = 53 then nI (D + 1) else if i = 17 ∧ k = D ∧ ¬ 7 ≤ D then pl else r2 i k := by
      intro i k
      rw [hr3, plUp_ap]
      by_cases z : i = 0 ∧ k = 53
      · rw [if_pos z, if_pos z]
      · rw [if_neg z, if_neg z]
        by_cases y : 7 ≤ D
        · rw [if_pos y, if_neg (fun w => w.2.2 y)]
        · rw [if_neg y, plUp_ap]
          by_cases x : i = 17 ∧ k = D
          · rw [if_pos x, if_pos ⟨x.1, x.2, y⟩]
          · rw [if_neg x, if_neg (fun w => x ⟨w.1, w.2.1⟩)]
    have krr : K_RM_content_22 r2 pl = K_RM_content_60 r3 := by
      unfold K_RM_content_22 K_RM_content_50
      rw [if_pos (q2.mpr (by omega)), hr3]
      by_cases y : 7 ≤ D
      · rw [if_pos (q7.mpr y), if_pos y, r53, nI_1]
      · rw [if_neg (fun z => y (q7.mp z)), if_neg y, r53, plIx_nI (by omega)]
        congr 2
        rw [plUp_ap, if_neg (by omega), r53, nI_1]
    have prr : P_RM_content_60 r3 → P_RM_content_22 r2 pl := by
      intro hp _
      rw [hr3] at hp
      refine ⟨fun z => ?_, fun z => ?_⟩
      · rw [if_pos (q7.mp z)] at hp
        unfold P_RM_content_50
        rw [r53, nI_1]; exact hp
      · rw [if_neg (fun w => z (q7.mpr w))] at hp
        have y : ¬ 7 ≤ D := fun w => z (q7.mpr w)
        refine ⟨by rw [r53]; exact vp_in_nI (by omega) (by omega), ?_⟩
        unfold P_RM_content_50
        rw [r53, plIx_nI (by omega), show plUp r2 17 D pl 0 53 + 1 = nI (D + 1) by rw [plUp_ap, if_neg (by omega), r53, nI_1]]
        exact hp
    have r51 : r3 0 51 = nI (L - (D + 1)) := by rw [er3]; simp; rw [er]; simp
    have q51 : r3 0 51 = 0 ↔ L = D + 1 := by
      rw [r51, show (0 : Int32) = nI 0 from rfl, nI_eq (by omega) (by omega)]; omega
    have q43 : c2 21 4 = c2 21 3 ↔ L = D + 1 := by
      rw [c24, c23, nI_eq (by omega) (by omega)]; omega
    have ch : D ≤ 6 → plChk (r3 17) D = c 21 6 := by
      intro y
      rw [b4 y]
      refine plChk_ext D (fun i hi => ?_)
      rw [er3, if_neg (by omega), if_neg (by omega), er]; simp
    rw [krr]
    unfold K_RM_content_60 K_SR_takeFrameByte_22 P_SR_takeFrameByte_22 K_RM_content_71
    rw [if_neg (fun z => e1 (q1.mp z))]
    by_cases eL : L = D + 1
    · rw [if_pos (q43.mpr eL), if_pos (q51.mpr eL)]
      have c26 : c2 21 6 = c 21 6 := by rw [ec]; simp
      have r52 : r3 0 52 = nI L := by rw [er3]; simp; rw [er]; simp; exact b2
      by_cases good : 2 ≤ L ∧ L ≤ 7 ∧ pl = c 21 6
      · obtain ⟨g1, g2, g3⟩ := good
        obtain ⟨pe, ke⟩ := plEnd_good (c := c2) (v := pl) (G := G) g1 g2 c23 (by omega) (by rw [ec]; simp; exact a14) (by rw [c26]; exact g3)
        have r17 : r3 17 (L - 1) = pl := by rw [er3, if_neg (by omega), if_pos ⟨rfl, by omega, by omega⟩]
        obtain ⟨pf, k56, k18, kO⟩ := plfin_good r3 g1 g2 r52 (by rw [r17, show L - 1 = D by omega, ch (by omega)]; exact g3)
        refine ⟨fun _ => ⟨fun _ => pe, fun z => absurd (q43.mpr eL) z⟩, prr (fun _ => pf), ?_⟩
        have ek : ∀ i k, K_SR_endFrame c2 pl i k = if i = 24 then va_cpy (c 22) (c 24) 0 (6 * ((G + 1) % 8)) (L - 1) k else if i = 23 ∧ k = (G + 1) % 8 then nI (L - 1) else if i = 21 ∧ k = 8 then nI (G + 1) else c2 i k := by
          intro i k
          rw [ke, plCp_ap]
          by_cases z : i = 24
          · rw [if_pos z, if_pos z]
            congr 1
            · funext j; rw [plUp_ap, if_neg (by omega), plUp_ap, if_neg (by omega), ec]; simp
            · funext j; rw [plUp_ap, if_neg (by omega), plUp_ap, if_neg (by omega), ec]; simp
          · rw [if_neg z, if_neg z, plUp_ap, plUp_ap]
        have kO' : ∀ k, ¬ k = 56 → K_RM_finish r3 0 k = r3 0 k := fun k hk => kO 0 k (by omega) (fun z => hk z.2)
        refine ⟨2, L, L, G + 1, by omega, ?_, ?_, ?_, by omega, a6, ?_, ?_, ?_, fun z => absurd z (by omega), fun _ z => absurd z (by omega), ?_, ?_, ?_, ?_, by omega, ?_, ?_⟩
        · rw [ek]; simp; exact c20
        · rw [kO' 49 (by omega), er3]; simp; exact r49
        · rw [ek, ek, kO' 50 (by omega), er3]; simp; rw [ec, ec, er]; simp; exact a4
        · rw [ek]; simp; exact c23
        · rw [ek]; simp; rw [c24, eL]
        · rw [kO' 51 (by omega), r51, eL]
        · rw [ek, kO' 54 (by omega), er3]; simp; rw [ec, er]; simp
        · rw [ek]; simp; rw [ec]; simp; exact hb
        · rw [ek]; simp
        · rw [k56, er3]; simp; rw [er]; simp; rw [a15, nI_1]
        · rw [ek, kO' 57 (by omega), er3]; simp; rw [ec, er]; simp; exact a17
        · intro k k1 k2
          rcases Nat.eq_zero_or_pos k with rfl | hk
          · refine ⟨L - 1, by omega, by omega, ?_, ?_, fun i hi => ?_⟩
            · rw [ek, if_neg (by omega), if_pos ⟨rfl, by simp⟩]
            · rw [k18]; simp
            · rw [ek, if_pos rfl, k18, if_neg (by omega), if_pos (by omega)]
              unfold va_cpy
              rw [if_pos (by simp; omega)]
              have e9 : r3 17 (7 * 0 + 1 + i - 1) = r 17 i := by
                rw [er3, if_neg (by omega), if_neg (by omega), er, if_neg (by omega), if_neg (by omega)]; congr 1; omega
              rw [e9, ← b3 i (by omega) (by omega)]
              congr 1
              simp
          · obtain ⟨z, z1, z2, z3, z4, z5⟩ := a18 (k - 1) (by omega) (by omega)
            have em : (G + 1 - k) % 8 = (G - (k - 1)) % 8 := by congr 1; omega
            have hne : ¬ (G + 1 - k) % 8 = (G + 1) % 8 := by omega
            refine ⟨z, z1, z2, ?_, ?_, fun i hi => ?_⟩
            · rw [ek, if_neg (by omega), if_neg (fun w => hne w.2), if_neg (by omega), em, ec]; simp; exact z3
            · rw [k18, if_neg (by omega), if_neg (by omega), if_pos (by omega), er3, if_neg (by omega), if_neg (by omega), er]; simp
              rw [show 7 * k - 7 = 7 * (k - 1) by omega]; exact z4
            · have e9 : (K_RM_finish r3) 18 (7 * k + 1 + i) = r 18 (7 * (k - 1) + 1 + i) := by
                rw [k18, if_neg (by omega), if_neg (by omega), if_pos (by omega), er3, if_neg (by omega), if_neg (by omega), er]; simp
                congr 1; omega
              rw [e9, ← z5 i hi, ek, if_pos rfl, em]
              unfold va_cpy
              rw [if_neg (by rw [em] at hne; omega)]
      · obtain ⟨pe, ke⟩ := plEnd_bad (c := c2) (v := pl) a6 c23 (by rw [c26]; exact good)
        have nf : ¬ (2 ≤ L ∧ L ≤ 7 ∧ r3 17 (L - 1) = plChk (r3 17) (L - 1)) := by
          rintro ⟨g1, g2, g3⟩
          have r17 : r3 17 (L - 1) = pl := by rw [er3, if_neg (by omega), if_pos ⟨rfl, by omega, by omega⟩]
          rw [r17, show L - 1 = D by omega, ch (by omega)] at g3
          exact good ⟨g1, g2, g3⟩
        obtain ⟨pf, kf⟩ := plfin_bad r3 (L := L) (by omega) a6 r52 nf
        refine ⟨fun _ => ⟨fun _ => pe, fun z => absurd (q43.mpr eL) z⟩, prr (fun _ => pf), ?_⟩
        rw [ke, kf]
        refine ⟨2, L, L, G, by omega, ?_, ?_, ?_, by omega, a6, ?_, ?_, ?_, fun z => absurd z (by omega), fun _ z => absurd z (by omega), ?_, ?_, ?_, ?_, by omega, ?_, ?_⟩
        · rw [plUp_ap]; simp; exact c20
        · rw [plUp_ap]; simp; rw [er3]; simp; exact r49
        · rw [plUp_ap, plUp_ap, plUp_ap]; simp; rw [er3]; simp; rw [ec, ec, er]; simp; exact a4
        · rw [plUp_ap]; simp; exact c23
        · rw [plUp_ap]; simp; rw [c24, eL]
        · rw [plUp_ap]; simp; rw [r51, eL]; simp
        · rw [plUp_ap, plUp_ap]; simp; rw [er3]; simp; rw [ec, er]; simp
        · rw [plUp_ap]; simp; rw [ec]; simp; exact hb
        · rw [plUp_ap]; simp; rw [ec]; simp; exact a14
        · rw [plUp_ap]; simp; rw [er3]; simp; rw [er]; simp; exact a15
        · rw [plUp_ap, plUp_ap]; simp; rw [er3]; simp; rw [ec, er]; simp; rw [a17]
        · refine a18.ext (fun k => ?_) (fun k => ?_) (fun k => ?_)
          · rw [plUp_ap]; simp; rw [ec]; simp
          · rw [plUp_ap]; simp; rw [ec]; simp
          · rw [plUp_ap]; simp; rw [er3]; simp; rw [er]; simp
    · rw [if_neg (fun z => eL (q43.mp z)), if_neg (fun z => eL (q51.mp z))]
      have q6 : 6 < c2 21 4 ↔ 6 < D + 1 := by rw [c24, show (6 : Int32) = nI 6 from rfl, nI_ltI (by omega) (by omega)]
      have e41 : c2 21 4 - 1 = nI D := by rw [c24, show (1 : Int32) = nI 1 from rfl, pk_sub (by omega)]; congr 1
      obtain ⟨c3, hc3⟩ : ∃ c3, c3 = plUp (if 6 < D + 1 then c2 else plUp c2 22 D pl) 21 6 (K_CO_hash (c 21 6 ^^^ pl)) := ⟨_, rfl⟩
      have ec3 : ∀ i k, c3 i k = if i = 21 ∧ k = 6 then K_CO_hash (c 21 6 ^^^ pl) else if i = 22 ∧ k = D ∧ ¬ 6 < D + 1 then pl else c2 i k := by
        intro i k
        rw [hc3, plUp_ap]
        by_cases z : i = 21 ∧ k = 6
        · rw [if_pos z, if_pos z]
        · rw [if_neg z, if_neg z]
          by_cases y : 6 < D + 1
          · rw [if_pos y, if_neg (fun w => w.2.2 y)]
          · rw [if_neg y, plUp_ap]
            by_cases x : i = 22 ∧ k = D
            · rw [if_pos x, if_pos ⟨x.1, x.2, y⟩]
            · rw [if_neg x, if_neg (fun w => x ⟨w.1, w.2.1⟩)]
      have c26 : c2 21 6 = c 21 6 := by rw [ec]; simp
      have k3 : (if 6 < c2 21 4 then K_SR_takeFrameByte_69 c2 pl else K_SR_takeFrameByte_69 (plUp c2 22 (plIx (c2 21 4 - 1)) pl) pl) = c3 := by
        unfold K_SR_takeFrameByte_69
        rw [hc3, e41, plIx_nI (by omega)]
        by_cases y : 6 < D + 1
        · rw [if_pos (q6.mpr y), if_pos y, c26]
        · rw [if_neg (fun z => y (q6.mp z)), if_neg y]
          congr 3
      rw [k3]
      refine ⟨fun _ => ⟨fun z => absurd (q43.mp z) eL, fun _ => ⟨fun _ => plH_P _, fun z => ⟨?_, plH_P _⟩⟩⟩, prr (fun z => absurd (q51.mp z) eL), ?_⟩
      · rw [e41]; exact vp_in_nI (by have h6 : ¬ 6 < D + 1 := fun w => z (q6.mpr w); omega) (by omega)
      refine ⟨2, L, D + 1, G, by omega, ?_, ?_, ?_, by omega, a6, ?_, ?_, r51, fun _ => hS0, fun _ _ => ⟨?_, ?_, fun i i1 i2 => ?_, fun y => ?_⟩, ?_, ?_, ?_, ?_, by omega, ?_, ?_⟩
      · rw [ec3]; simp; exact c20
      · rw [er3]; simp; exact r49
      · rw [ec3, ec3, er3]; simp; rw [ec, ec, er]; simp; exact a4
      · rw [ec3]; simp; exact c23
      · rw [ec3]; simp; exact c24
      · rw [er3]; simp
      · rw [er3]; simp; rw [er]; simp; exact b2
      · have x1 : c3 22 i = if 22 = 22 ∧ i = D ∧ ¬ 6 < D + 1 then pl else c2 22 i := by rw [ec3, if_neg (by omega)]
        have x2 : r3 17 i = if 17 = 17 ∧ i = D ∧ ¬ 7 ≤ D then pl else r2 17 i := by rw [er3, if_neg (by omega)]
        rw [x1, x2]
        by_cases hi : i = D
        · rw [if_pos ⟨rfl, hi, by omega⟩, if_pos ⟨rfl, hi, by omega⟩]
        · rw [if_neg (fun w => hi w.2.1), if_neg (fun w => hi w.2.1), ec, er]; simp
          exact b3 i (by omega) i2
      · show c3 21 6 = K_CO_hash (plChk (r3 17) D ^^^ r3 17 D)
        rw [ec3, if_pos ⟨rfl, rfl⟩, ch (by omega), er3, if_neg (by omega), if_pos ⟨rfl, rfl, by omega⟩]
      · rw [ec3, er3]; simp; rw [ec, er]; simp
      · rw [ec3]; simp; rw [ec]; simp; exact hb
      · rw [ec3]; simp; rw [ec]; simp; exact a14
      · rw [er3]; simp; rw [er]; simp; exact a15
      · rw [ec3, er3]; simp; rw [ec, er]; simp; exact a17
      · refine a18.ext (fun k => ?_) (fun k => ?_) (fun k => ?_)
        · rw [ec3]; simp; rw [ec]; simp
        · rw [ec3]; simp; rw [ec]; simp
        · rw [er3]; simp; rw [er]; simp
theorem plStr_give {c r : plS} {B : Nat} (h : plStr c r B) (hB : B < 2 ^ 28) {b : Int32} (hb : plBy b) : P_SR_give c b ∧ P_RM_take r b ∧ plStr (K_SR_give c b) (K_RM_take r b) (B + 1) := by
  have h0 := h
  obtain ⟨S, L, D, G, hX⟩ := h
  have hX0 := hX
  obtain ⟨a1, a2, a3, a4, a5, a6, a7, a8, a9, a10, a11, a12, a13, a14, a15, a16, a17, a18⟩ := hX
  have q1 : c 21 3 ≤ c 21 4 ↔ L ≤ D := by rw [a7, a8, nI_leI (by omega) (by omega)]
  have q2 : r 0 51 ≤ 0 ↔ L ≤ D := by rw [a9, show (0 : Int32) = nI 0 from rfl, nI_leI (by omega) (by omega)]; omega
  unfold K_SR_give P_SR_give K_RM_take P_RM_take K_SR_give_39 K_SR_give_44 K_RM_take_39
  by_cases hLD : L ≤ D
  · rw [if_pos (q1.mpr hLD), if_pos (q2.mpr hLD)]
    rcases a4 with ⟨e1, e2⟩ | ⟨e1, e2, e3⟩
    · rw [if_pos e1, if_neg (by rw [e2]; decide)]
      refine ⟨⟨fun _ z => absurd e1 z, fun z => absurd (q1.mpr hLD) z⟩, ⟨fun _ z => absurd z (by rw [e2]; decide), fun z => absurd (q2.mpr hLD) z⟩, S, L, D, G, a1, ?_, ?_, Or.inr ⟨?_, ?_, ?_⟩, a5, a6, ?_, ?_, ?_, a10, fun _ z => absurd z (by omega), ?_, ?_, ?_, ?_, by omega, ?_, ?_⟩
      · simp [plUp_ap, a2]
      · simp [plUp_ap, a3]
      · simp [plUp_ap]
      · simp [plUp_ap]; exact hb
      · simp [plUp_ap]
      · simp [plUp_ap, a7]
      · simp [plUp_ap, a8]
      · simp [plUp_ap, a9]
      · simp [plUp_ap, a12]
      · simp [plUp_ap, a13]
      · simp [plUp_ap, a14]
      · simp [plUp_ap, a15]
      · simp [plUp_ap, a17]
      · exact a18.ext (fun k => by simp [plUp_ap]) (fun k => by simp [plUp_ap]) (fun k => by simp [plUp_ap])
    · rw [if_neg (by rw [e1]; decide), e3, if_pos e2.ge]
      obtain ⟨p1, p2, p3⟩ := plStr_header hX0 e1 e2 hb
      exact ⟨⟨fun _ _ => p1, fun z => absurd (q1.mpr hLD) z⟩, ⟨fun _ _ => p2, fun z => absurd (q2.mpr hLD) z⟩, p3.mono (by omega)⟩
  · rw [if_neg (fun z => hLD (q1.mp z)), if_neg (fun z => hLD (q2.mp z))]
    obtain ⟨p1, p2, p3⟩ := plStr_byte hX0 hB (by omega) hb
    exact ⟨⟨fun z => absurd (q1.mp z) hLD, fun _ => p1⟩, ⟨fun z => absurd (q2.mp z) hLD, fun _ => p2⟩, p3⟩
