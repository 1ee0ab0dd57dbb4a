/-! the client frames that wait, and the stream made of them -/
def plVb (v : Int64) (i : Nat) : Int32 := (Int64.toInt32 (v >>> (Int32.toInt64 (8 * nI i) &&& 63))) &&& 255
theorem plVb_by (v : Int64) (i : Nat) : plBy (plVb v i) := plBy.and _
theorem plVb_r (v : Int64) (i : Nat) : Int64.toInt32 ((v >>> (Int32.toInt64 (8 * nI i) &&& 63)) &&& 255) = plVb v i := by
  unfold plVb
  rw [Int64.toInt32_and]
  rfl
def plEnt (c r : plS) (o : Nat) (N : Nat → Nat) (s : Nat → Int32) (j : Nat) : Prop := 1 ≤ N j ∧ N j ≤ 6 ∧ r 2 (7 * j) = nI (N j) ∧ (∀ i, i < N j → plBy (r 2 (7 * j + 1 + i))) ∧ s (j + 1) = plSx (s j) (fun i => r 2 (7 * j + 1 + i)) (N j) (N j + 1) ∧ c 3 ((o + j) % 8) = nI (N j + 3) ∧ ∀ p, p < N j + 3 → c 2 (9 * ((o + j) % 8) + p) = plFb (s j) (fun i => r 2 (7 * j + 1 + i)) (N j) p
def plSrcX (c r : plS) (o w L P : Nat) (N : Nat → Nat) (s : Nat → Int32) : Prop := o < 8 ∧ w ≤ 8 ∧ c 1 2 = nI o ∧ c 1 3 = nI w ∧ r 0 4 = nI w ∧ c 1 4 = s w ∧ r 0 9 = s 0 ∧ plBy (s 0) ∧ (∀ j, j < w → plEnt c r o N s j) ∧ P ≤ L ∧ L ≤ 9 ∧ c 1 6 = nI L ∧ r 0 7 = nI L ∧ c 1 7 = nI P ∧ r 0 8 = nI P ∧ ∀ p, P ≤ p → p < L → c 4 p = r 3 p ∧ plBy (c 4 p)
def plSrc (c r : plS) : Prop := ∃ (o w L P : Nat) (N : Nat → Nat) (s : Nat → Int32), plSrcX c r o w L P N s
theorem plSrc.ext {c c' r r' : plS} (h : plSrc c r) (e1 : ∀ k, c' 1 k = c 1 k) (e2 : ∀ k, c' 2 k = c 2 k) (e3 : ∀ k, c' 3 k = c 3 k) (e4 : ∀ k, c' 4 k = c 4 k) (g : ∀ k, k = 4 ∨ k = 7 ∨ k = 8 ∨ k = 9 → r' 0 k = r 0 k) (g2 : ∀ k, r' 2 k = r 2 k) (g3 : ∀ k, r' 3 k = r 3 k) : plSrc c' r' := by
  obtain ⟨o, w, L, P, N, s, a1, a2, a3, a4, a5, a6, a7, a8, a9, a10, a11, a12, a13, a14, a15, a16⟩ := h
  refine ⟨o, w, L, P, N, s, a1, a2, by rw [e1]; exact a3, by rw [e1]; exact a4, by rw [g 4 (by omega)]; exact a5, by rw [e1]; exact a6, by rw [g 9 (by omega)]; exact a7, a8, fun j hj => ?_, a10, a11, by rw [e1]; exact a12, by rw [g 7 (by omega)]; exact a13, by rw [e1]; exact a14, by rw [g 8 (by omega)]; exact a15, fun p p1 p2 => by rw [e4, g3]; exact a16 p p1 p2⟩
  obtain ⟨b1, b2, b3, b4, b5, b6, b7⟩ := a9 j hj
  exact ⟨b1, b2, by rw [g2]; exact b3, fun i hi => by rw [g2]; exact b4 i hi, by rw [b5]; exact plSx_ext (fun i _ => (g2 _).symm), by rw [e3]; exact b6, fun p hp => by rw [e2, b7 p hp]; exact plFb_ext (fun i _ => (g2 _).symm)⟩
theorem plReadyC {c : plS} {start n : Nat} {v : Int64} (hs : start + 9 ≤ 72) (hn : 1 ≤ n) (hn6 : n ≤ 6) : P_SS_makeReady c (nI start) (nI n) v ∧ ∀ i k, K_SS_makeReady c (nI start) (nI n) v i k = if i = 1 ∧ k = 4 then plSx (c 1 4) (plVb v) n (n + 1) else if i = 2 ∧ start ≤ k ∧ k < start + (n + 3) then plFb (c 1 4) (plVb v) n (k - start) else c i k := by
  obtain ⟨c1, hc1⟩ : ∃ c1, c1 = plUp (plUp c 2 start (nI (n + 1) ^^^ 182)) 2 (start + 1) (K_CO_hash (nI (n + 1)) ^^^ 171) := ⟨_, rfl⟩
  have e1 : ∀ i k, c1 i k = if i = 2 ∧ start ≤ k ∧ k < start + 2 then plFb (c 1 4) (plVb v) n (k - start) else c i k := by
    intro i k
    rw [hc1, plUp_ap, plUp_ap]
    by_cases z1 : i = 2 ∧ k = start + 1
    · rw [if_pos z1, if_pos (by omega), show k - start = 1 by omega]; rfl
    · rw [if_neg z1]
      by_cases z0 : i = 2 ∧ k = start
      · rw [if_pos z0, if_pos (by omega), show k - start = 0 by omega]; rfl
      · rw [if_neg z0, if_neg (by omega)]
  have a2 : ∀ j, nI start + 2 + nI j = nI (start + 2 + j) := fun j => by rw [show (2 : Int32) = nI 2 from rfl, nI_add, nI_add]
  obtain ⟨l1, c2, x2, l2, l3, l4⟩ := plL1 (G_SS_makeReady_39 (nI start) (nI n) v) (F_SS_makeReady_39 (nI start) (nI n) v) (fun q x => ∃ c2 x2, x = (c2, x2, nI q) ∧ x2 = plChk (plVb v) q ∧ ∀ i k, c2 i k = if i = 1 ∧ k = 4 then plScr (c 1 4) (plVb v) q else if i = 2 ∧ start + 2 ≤ k ∧ k < start + 2 + q then plFb (c 1 4) (plVb v) n (k - start) else c1 i k) n (by
    rintro q _ hq ⟨c2, x2, rfl, rfl, hI⟩
    have nq : ¬ nI n ≤ nI q := by rw [nI_leI (by omega) (by omega)]; omega
    have q4 : c2 1 4 ^^^ plVb v q = plScr (c 1 4) (plVb v) (q + 1) := by rw [hI, if_pos ⟨rfl, rfl⟩]; rfl
    have kf : F_SS_makeReady_39 (nI start) (nI n) v (c2, plChk (plVb v) q, nI q) = (true, (plUp (plUp c2 1 4 (plScr (c 1 4) (plVb v) (q + 1))) 2 (start + 2 + q) (plScr (c 1 4) (plVb v) (q + 1)), plChk (plVb v) (q + 1), nI (q + 1))) := by
      show K_SS_makeReady_39L c2 (nI start) (nI n) v (plChk (plVb v) q) (nI q) = _
      unfold K_SS_makeReady_39L
      rw [if_neg nq]
      show K_SS_makeReady_39L80 (plUp c2 1 4 (c2 1 4 ^^^ plVb v q)) (nI start) (nI n) v (K_CO_hash (plChk (plVb v) q ^^^ plVb v q)) (nI q) = _
      rw [q4]
      unfold K_SS_makeReady_39L80
      rw [a2, nI_1, plIx_nI (by omega), show plUp c2 1 4 (plScr (c 1 4) (plVb v) (q + 1)) 1 4 = plScr (c 1 4) (plVb v) (q + 1) by simp [plUp_ap]]
      rfl
    refine ⟨fun _ => ⟨plH_P _, ?_⟩, by rw [kf], _, _, by rw [kf], rfl, fun i k => ?_⟩
    · show vp_in (nI start + 2 + nI q) 72
      rw [a2]; exact vp_in_nI (by omega) (by omega)
    · rw [plUp_ap, plUp_ap]
      by_cases y3 : i = 2 ∧ k = start + 2 + q
      · rw [if_pos y3, if_neg (by omega), if_pos (by omega), show k - start = q + 2 by omega]
        unfold plFb plSx
        rw [if_neg (by omega), if_neg (by omega), show q + 2 - 1 = q + 1 by omega, if_pos (by omega)]
      · rw [if_neg y3]
        by_cases y9 : i = 1 ∧ k = 4
        · rw [if_pos y9, if_pos y9]
        · rw [if_neg y9, if_neg y9, hI, if_neg y9]
          by_cases y : i = 2 ∧ start + 2 ≤ k ∧ k < start + 2 + q
          · rw [if_pos y, if_pos (by omega)]
          · rw [if_neg y, if_neg (by omega)]) (by
    rintro _ ⟨c2, x2, rfl, rfl, hI⟩
    have le : nI n ≤ nI n := by rw [nI_leI (by omega) (by omega)]; omega
    refine ⟨fun w => absurd le w, ?_⟩
    show K_SS_makeReady_39L c2 (nI start) (nI n) v _ (nI n) = _
    unfold K_SS_makeReady_39L
    rw [if_pos le]) 64 0 (c1, 255, nI 0) (by omega) (by omega) ⟨c1, 255, rfl, rfl, fun i k => by
      by_cases y9 : i = 1 ∧ k = 4
      · rw [if_pos y9, e1, if_neg (by omega), y9.1, y9.2]; rfl
      · rw [if_neg y9, if_neg (by omega)]⟩
  have x1 : plIx (nI start) = start := plIx_nI (by omega)
  have x3 : plIx (nI start + 1) = start + 1 := by rw [nI_1]; exact plIx_nI (by omega)
  have fin : c2 1 4 ^^^ x2 = plSx (c 1 4) (plVb v) n (n + 1) := by
    rw [l4, if_pos ⟨rfl, rfl⟩, l3]
    unfold plSx
    rw [if_neg (by omega)]
  have kk : K_SS_makeReady c (nI start) (nI n) v = plUp (plUp c2 1 4 (plSx (c 1 4) (plVb v) n (n + 1))) 2 (start + 2 + n) (plSx (c 1 4) (plVb v) n (n + 1)) := by
    unfold K_SS_makeReady K_SS_makeReady_13
    rw [nI_1, x1, x3, ← hc1, show lpR (F_SS_makeReady_39 (nI start) (nI n) v) 64 (c1, 255, 0) = (c2, x2, nI n) from l2]
    unfold K_SS_makeReady_39X K_SS_makeReady_112
    show plUp (plUp c2 1 4 (c2 1 4 ^^^ x2)) 2 (plIx (nI start + 2 + nI n)) (plUp c2 1 4 (c2 1 4 ^^^ x2) 1 4) = _
    rw [fin, a2, plIx_nI (by omega), show plUp c2 1 4 (plSx (c 1 4) (plVb v) n (n + 1)) 1 4 = plSx (c 1 4) (plVb v) n (n + 1) by simp [plUp_ap]]
  refine ⟨?_, fun i k => ?_⟩
  · unfold P_SS_makeReady P_SS_makeReady_13
    rw [nI_1, x1, x3, ← hc1, show lpR (F_SS_makeReady_39 (nI start) (nI n) v) 64 (c1, 255, 0) = (c2, x2, nI n) from l2]
    refine ⟨vp_in_nI (by omega) (by omega), plH_P _, by rw [nI_1]; exact vp_in_nI (by omega) (by omega), l1, ?_⟩
    show vp_in (nI start + 2 + nI n) 72
    rw [a2]; exact vp_in_nI (by omega) (by omega)
  · rw [kk, plUp_ap, plUp_ap]
    by_cases y3 : i = 2 ∧ k = start + 2 + n
    · rw [if_pos y3, if_neg (by omega), if_pos (by omega), show k - start = n + 2 by omega]
      unfold plFb
      rw [if_neg (by omega), if_neg (by omega), show n + 2 - 1 = n + 1 by omega]
    · rw [if_neg y3]
      by_cases y9 : i = 1 ∧ k = 4
      · rw [if_pos y9, if_pos y9]
      · rw [if_neg y9, if_neg y9, l4, if_neg y9]
        by_cases y : i = 2 ∧ start + 2 ≤ k ∧ k < start + 2 + n
        · rw [if_pos y, if_pos (by omega)]
        · rw [if_neg y, e1]
          by_cases y0 : i = 2 ∧ start ≤ k ∧ k < start + 2
          · rw [if_pos y0, if_pos (by omega)]
          · rw [if_neg y0, if_neg (by omega)]
theorem plSendR {r : plS} {n w : Nat} {v : Int64} (hw : w < 8) (h4 : r 0 4 = nI w) (hn : 1 ≤ n) (hn6 : n ≤ 6) : P_RM_send r (nI n) v ∧ (K_RM_send r (nI n) v).1 = 1 ∧ ∀ i k, (K_RM_send r (nI n) v).2 i k = if i = 0 ∧ k = 4 then nI (w + 1) else if i = 2 ∧ k = 7 * w then nI n else if i = 2 ∧ 7 * w + 1 ≤ k ∧ k < 7 * w + 1 + n then plVb v (k - (7 * w + 1)) else r i k := by
  have m7 : (7 : Int32) * r 0 4 = nI (7 * w) := by rw [h4, show (7 : Int32) = nI 7 from rfl, pk_mul]
  have n1 : ¬ nI n < 1 := by rw [show (1 : Int32) = nI 1 from rfl, nI_ltI (by omega) (by omega)]; omega
  have n6 : ¬ 6 < nI n := by rw [show (6 : Int32) = nI 6 from rfl, nI_ltI (by omega) (by omega)]; omega
  have w8 : r 0 4 < 8 := by rw [h4, show (8 : Int32) = nI 8 from rfl, nI_ltI (by omega) (by omega)]; omega
  have x7 : plIx (7 * r 0 4) = 7 * w := by rw [m7]; exact plIx_nI (by omega)
  obtain ⟨w1, r2, w2, w3⟩ := plWr2 (F_RM_send_38 (nI n) v) (G_RM_send_38 (nI n) v) 2 (7 * w + 1) (plVb v) (plUp r 2 (7 * w) (nI n)) 0 n (by omega) (by omega) (fun st' j _ h hf => by
    have e04 : (7 : Int32) * st' 0 4 + 1 + nI j = nI (7 * w + 1 + j) := by rw [hf 0 4 (by omega), plUp_ap, if_neg (by omega), m7, nI_1, nI_add]
    have le : ¬ nI n ≤ nI j := by rw [nI_leI (by omega) (by omega)]; omega
    refine ⟨fun _ => ?_, ?_⟩
    · show vp_in (7 * st' 0 4 + 1 + nI j) 56
      rw [e04]; exact vp_in_nI (by omega) (by omega)
    · show K_RM_send_38L st' (nI n) v (nI j) = _
      unfold K_RM_send_38L
      rw [if_neg le, e04, nI_1, plIx_nI (by omega), plVb_r]) (fun st' hf => by
    have le : nI n ≤ nI n := by rw [nI_leI (by omega) (by omega)]; omega
    refine ⟨fun y => absurd le y, ?_⟩
    show K_RM_send_38L st' (nI n) v (nI n) = _
    unfold K_RM_send_38L
    rw [if_pos le])
  have kk : K_RM_send r (nI n) v = (1, plUp r2 0 4 (r2 0 4 + 1)) := by
    unfold K_RM_send
    rw [if_neg n1, if_neg n6, if_pos w8, x7, show lpR (F_RM_send_38 (nI n) v) 64 (plUp r 2 (7 * w) (nI n), 0) = (r2, nI n) from w2]
    rfl
  refine ⟨fun _ _ _ => ⟨?_, ?_⟩, by rw [kk], fun i k => ?_⟩
  · rw [m7]; exact vp_in_nI (by omega) (by omega)
  · rw [x7]; exact w1
  · rw [kk]
    show plUp r2 0 4 (r2 0 4 + 1) i k = _
    have e24 : r2 0 4 = nI w := by rw [w3, if_neg (by omega), plUp_ap, if_neg (by omega)]; exact h4
    rw [plUp_ap, e24, nI_1, w3, plUp_ap]
    by_cases y4 : i = 0 ∧ k = 4
    · rw [if_pos y4, if_pos y4]
    · rw [if_neg y4, if_neg y4]
      by_cases y7 : i = 2 ∧ k = 7 * w
      · rw [if_neg (by omega), if_pos y7, if_pos y7]
      · rw [if_neg y7, if_neg y7]
theorem plSend {c r : plS} (v1 : Int32) (v : Int64) (H : plSrc c r) : P_PL_send c v1 v ∧ P_RM_send r v1 v ∧ (K_PL_send c v1 v).1 = (K_RM_send r v1 v).1 ∧ plSrc (K_PL_send c v1 v).2 (K_RM_send r v1 v).2 := by
  obtain ⟨o, w, L, P, N, s, a1, a2, a3, a4, a5, a6, a7, a8, a9, a10, a11, a12, a13, a14, a15, a16⟩ := H
  have c8 : c 1 3 < 8 ↔ w < 8 := by rw [a4, show (8 : Int32) = nI 8 from rfl, nI_ltI (by omega) (by omega)]
  have r8 : r 0 4 < 8 ↔ w < 8 := by rw [a5, show (8 : Int32) = nI 8 from rfl, nI_ltI (by omega) (by omega)]
  by_cases z : ¬ v1 < 1 ∧ ¬ 6 < v1 ∧ w < 8
  · obtain ⟨z1, z6, z8⟩ := z
    obtain ⟨n, hn, rfl⟩ := nI_of (x := v1) (fun y => z1 (by rw [Int32.lt_iff_toInt_lt] at y ⊢; rw [show (0 : Int32).toInt = 0 from rfl] at y; rw [show (1 : Int32).toInt = 1 from rfl]; omega))
    have n1 : 1 ≤ n := by
      rw [show (1 : Int32) = nI 1 from rfl, nI_ltI (by omega) (by omega)] at z1; omega
    have n6 : n ≤ 6 := by
      rw [show (6 : Int32) = nI 6 from rfl, nI_ltI (by omega) (by omega)] at z6; omega
    obtain ⟨pr, kr1, kr⟩ := plSendR (v := v) z8 a5 n1 n6
    obtain ⟨sl, hsl⟩ : ∃ sl, sl = (o + w) % 8 := ⟨_, rfl⟩
    have es : (c 1 2 + c 1 3) - (c 1 2 + c 1 3) / 8 * 8 = nI sl := by
      rw [a3, a4, nI_add, show (8 : Int32) = nI 8 from rfl, pk_rem (by omega) (by omega) (by omega), hsl]
    have es9 : nI sl * 9 = nI (9 * sl) := by rw [show (9 : Int32) = nI 9 from rfl, pk_mul, Nat.mul_comm]
    obtain ⟨pm, km⟩ := plReadyC (c := c) (start := 9 * sl) (v := v) (by omega) n1 n6
    have kc0 : K_SS_enqueue c (nI n) v = (1, plUp (plUp (K_SS_makeReady c (nI (9 * sl)) (nI n) v) 3 sl (nI (n + 3))) 1 3 (nI (w + 1))) := by
      unfold K_SS_enqueue
      rw [if_neg z1, if_neg z6, if_pos (c8.mpr z8), es, es9]
      unfold K_SS_enqueue_47 K_SS_enqueue_57
      rw [plIx_nI (by omega), show nI n + 3 = nI (n + 3) by rw [show (3 : Int32) = nI 3 from rfl, nI_add], show plUp (K_SS_makeReady c (nI (9 * sl)) (nI n) v) 3 sl (nI (n + 3)) 1 3 = nI w by rw [plUp_ap, if_neg (by omega), km, if_neg (by omega), if_neg (by omega)]; exact a4, nI_1]
    have kc1 : K_PL_send c (nI n) v = (1, plUp (plUp (K_SS_makeReady c (nI (9 * sl)) (nI n) v) 3 sl (nI (n + 3))) 1 3 (nI (w + 1))) := by
      unfold K_PL_send
      rw [kc0]
      rfl
    have kc : ∀ i k, (K_PL_send c (nI n) v).2 i k = if i = 1 ∧ k = 3 then nI (w + 1) else if i = 3 ∧ k = sl then nI (n + 3) else if i = 1 ∧ k = 4 then plSx (c 1 4) (plVb v) n (n + 1) else if i = 2 ∧ 9 * sl ≤ k ∧ k < 9 * sl + (n + 3) then plFb (c 1 4) (plVb v) n (k - 9 * sl) else c i k := fun i k => by
      rw [kc1]
      show plUp (plUp (K_SS_makeReady c (nI (9 * sl)) (nI n) v) 3 sl (nI (n + 3))) 1 3 (nI (w + 1)) i k = _
      rw [plUp_ap, plUp_ap, km]
    refine ⟨⟨?_, ?_⟩, pr, by rw [kc1, kr1], ?_⟩
    · intro _ _ _
      rw [es, es9]
      exact ⟨pm, vp_in_nI (by omega) (by omega)⟩
    · rw [kc0]; exact Or.inr rfl
    · obtain ⟨c', hc'⟩ : ∃ c', c' = (K_PL_send c (nI n) v).2 := ⟨_, rfl⟩
      obtain ⟨r', hr'⟩ : ∃ r', r' = (K_RM_send r (nI n) v).2 := ⟨_, rfl⟩
      rw [← hc'] at kc ⊢
      rw [← hr'] at kr ⊢
      have f2 : ∀ i, i < n → r' 2 (7 * w + 1 + i) = plVb v i := fun i hi => by
        rw [kr, if_neg (by omega), if_neg (by omega), if_pos (by omega), show 7 * w + 1 + i - (7 * w + 1) = i by omega]
      refine ⟨o, w + 1, L, P, fun j => if j = w then n else N j, fun j => if j = w + 1 then plSx (c 1 4) (plVb v) n (n + 1) else s j, a1, by omega, ?_, ?_, ?_, ?_, ?_, ?_, fun j hj => ?_, a10, a11, ?_, ?_, ?_, ?_, fun p p1 p2 => ?_⟩
      · rw [kc, if_neg (by omega), if_neg (by omega), if_neg (by omega), if_neg (by omega)]; exact a3
      · rw [kc, if_pos ⟨rfl, rfl⟩]
      · rw [kr, if_pos ⟨rfl, rfl⟩]
      · rw [kc, if_neg (by omega), if_neg (by omega), if_pos ⟨rfl, rfl⟩]
        show _ = if w + 1 = w + 1 then _ else _
        rw [if_pos rfl]
      · rw [kr, if_neg (by omega), if_neg (by omega), if_neg (by omega)]
        show _ = if 0 = w + 1 then _ else _
        rw [if_neg (by omega)]; exact a7
      · show plBy (if 0 = w + 1 then _ else _)
        rw [if_neg (by omega)]; exact a8
      · by_cases e : j = w
        · subst e
          unfold plEnt
          simp only [if_pos trivial, if_true]
          rw [if_neg (show ¬ j = j + 1 by omega)]
          refine ⟨n1, n6, ?_, fun i hi => ?_, ?_, ?_, fun p hp => ?_⟩
          · rw [kr, if_neg (by omega), if_pos ⟨rfl, rfl⟩]
          · rw [f2 i hi]; exact plVb_by _ _
          · rw [a6]; exact plSx_ext (fun i hi => (f2 i hi).symm)
          · rw [← hsl, kc, if_neg (by omega), if_pos ⟨rfl, rfl⟩]
          · rw [← hsl, kc, if_neg (by omega), if_neg (by omega), if_neg (by omega), if_pos ⟨rfl, by omega, by omega⟩, show 9 * sl + p - 9 * sl = p by omega, a6]
            exact plFb_ext (fun i hi => (f2 i hi).symm)
        · obtain ⟨b1, b2, b3, b4, b5, b6, b7⟩ := a9 j (by omega)
          unfold plEnt
          simp only [if_neg e]
          rw [if_neg (show ¬ j + 1 = w + 1 by omega), if_neg (show ¬ j = w + 1 by omega)]
          have g2 : ∀ i, i < N j → r' 2 (7 * j + 1 + i) = r 2 (7 * j + 1 + i) := fun i hi => by rw [kr, if_neg (by omega), if_neg (by omega), if_neg (by omega)]
          refine ⟨b1, b2, ?_, fun i hi => ?_, ?_, ?_, fun p hp => ?_⟩
          · rw [kr, if_neg (by omega), if_neg (by omega), if_neg (by omega)]; exact b3
          · rw [g2 i hi]; exact b4 i hi
          · rw [b5]; exact plSx_ext (fun i hi => (g2 i hi).symm)
          · rw [kc, if_neg (by omega), if_neg (by omega), if_neg (by omega), if_neg (by omega)]; exact b6
          · rw [kc, if_neg (by omega), if_neg (by omega), if_neg (by omega), if_neg (by omega), b7 p hp]
            exact plFb_ext (fun i hi => (g2 i hi).symm)
      · rw [kc, if_neg (by omega), if_neg (by omega), if_neg (by omega), if_neg (by omega)]; exact a12
      · rw [kr, if_neg (by omega), if_neg (by omega), if_neg (by omega)]; exact a13
      · rw [kc, if_neg (by omega), if_neg (by omega), if_neg (by omega), if_neg (by omega)]; exact a14
      · rw [kr, if_neg (by omega), if_neg (by omega), if_neg (by omega)]; exact a15
      · rw [kc, if_neg (by omega), if_neg (by omega), if_neg (by omega), if_neg (by omega), kr, if_neg (by omega), if_neg (by omega), if_neg (by omega)]; exact a16 p p1 p2
  · have kc0 : K_SS_enqueue c v1 v = (0, c) := by
      unfold K_SS_enqueue K_SS_enqueue_20
      by_cases y1 : v1 < 1
      · rw [if_pos y1]
      · rw [if_neg y1]
        by_cases y6 : 6 < v1
        · rw [if_pos y6]
        · rw [if_neg y6, if_neg (fun y => z ⟨y1, y6, c8.mp y⟩)]
    have kr0 : K_RM_send r v1 v = (0, r) := by
      unfold K_RM_send K_RM_send_20
      by_cases y1 : v1 < 1
      · rw [if_pos y1]
      · rw [if_neg y1]
        by_cases y6 : 6 < v1
        · rw [if_pos y6]
        · rw [if_neg y6, if_neg (fun y => z ⟨y1, y6, r8.mp y⟩)]
    have kc1 : K_PL_send c v1 v = (0, c) := by
      unfold K_PL_send
      rw [kc0]
      rfl
    refine ⟨⟨fun y1 y6 y8 => absurd ⟨y1, y6, c8.mp y8⟩ z, by rw [kc0]; exact Or.inl rfl⟩, fun y1 y6 y8 => absurd ⟨y1, y6, r8.mp y8⟩ z, by rw [kc1, kr0], ?_⟩
    rw [kc1, kr0]
    exact ⟨o, w, L, P, N, s, a1, a2, a3, a4, a5, a6, a7, a8, a9, a10, a11, a12, a13, a14, a15, a16⟩
