/-! client frames: framed and scrambled -/
def plScr (s : Int32) (f : Nat → Int32) : Nat → Int32
  | 0 => s
  | k + 1 => plScr s f k ^^^ f k
def plSx (s : Int32) (f : Nat → Int32) (n q : Nat) : Int32 := if q ≤ n then plScr s f q else plScr s f n ^^^ plChk f n
def plFb (s : Int32) (f : Nat → Int32) (n p : Nat) : Int32 := if p = 0 then nI (n + 1) ^^^ 182 else if p = 1 then K_CO_hash (nI (n + 1)) ^^^ 171 else plSx s f n (p - 1)
theorem plScr_ext {s : Int32} {f g : Nat → Int32} : ∀ n, (∀ i, i < n → f i = g i) → plScr s f n = plScr s g n := by
  intro n
  induction n with
  | zero => intro _; rfl
  | succ n ih =>
    intro h
    show plScr s f n ^^^ f n = plScr s g n ^^^ g n
    rw [ih (fun i hi => h i (by omega)), h n (by omega)]
theorem plSx_ext {s : Int32} {f g : Nat → Int32} {n q : Nat} (h : ∀ i, i < n → f i = g i) : plSx s f n q = plSx s g n q := by
  unfold plSx
  by_cases z : q ≤ n
  · rw [if_pos z, if_pos z]; exact plScr_ext q (fun i hi => h i (by omega))
  · rw [if_neg z, if_neg z, plScr_ext n h, plChk_ext n h]
theorem plFb_ext {s : Int32} {f g : Nat → Int32} {n p : Nat} (h : ∀ i, i < n → f i = g i) : plFb s f n p = plFb s g n p := by
  unfold plFb
  rw [plSx_ext h]
theorem plScr_by {s : Int32} {f : Nat → Int32} (hs : plBy s) : ∀ n, (∀ i, i < n → plBy (f i)) → plBy (plScr s f n) := by
  intro n
  induction n with
  | zero => intro _; exact hs
  | succ n ih => exact fun h => (ih (fun i hi => h i (by omega))).xor (h n (by omega))
theorem plChk_by {f : Nat → Int32} : ∀ n, (∀ i, i < n → plBy (f i)) → plBy (plChk f n) := by
  intro n
  induction n with
  | zero => exact fun _ => ⟨255, by omega, rfl⟩
  | succ n ih => exact fun h => ((ih (fun i hi => h i (by omega))).xor (h n (by omega))).hash
theorem plSx_by {s : Int32} {f : Nat → Int32} {n q : Nat} (hs : plBy s) (h : ∀ i, i < n → plBy (f i)) : plBy (plSx s f n q) := by
  unfold plSx
  split
  · exact plScr_by hs q (fun i hi => h i (by omega))
  · exact (plScr_by hs n h).xor (plChk_by n h)
theorem plFb_by {s : Int32} {f : Nat → Int32} {n p : Nat} (hn : n ≤ 6) (hs : plBy s) (h : ∀ i, i < n → plBy (f i)) : plBy (plFb s f n p) := by
  unfold plFb
  split
  · exact (plBy.lit (by omega)).xor ⟨182, by omega, rfl⟩
  · split
    · exact (plBy.hash (plBy.lit (by omega))).xor ⟨171, by omega, rfl⟩
    · exact plSx_by hs h
theorem plWr2 (f : plS × Int32 → Bool × (plS × Int32)) (p : plS × Int32 → Prop) (ρ o : Nat) (val : Nat → Int32) (st : plS) (a N : Nat) (ha : a ≤ N) (hN : N - a < 64) (step : ∀ st' j, a ≤ j → j < N → (∀ i k, ¬ (i = ρ ∧ o + a ≤ k ∧ k < o + j) → st' i k = st i k) → p (st', nI j) ∧ f (st', nI j) = (true, (plUp st' ρ (o + j) (val j), nI (j + 1)))) (stop : ∀ st', (∀ i k, ¬ (i = ρ ∧ o + a ≤ k ∧ k < o + N) → st' i k = st i k) → p (st', nI N) ∧ f (st', nI N) = (false, (st', nI N))) : lpP p f 64 (st, nI a) ∧ ∃ st', lpR f 64 (st, nI a) = (st', nI N) ∧ ∀ i k, st' i k = if i = ρ ∧ o + a ≤ k ∧ k < o + N then val (k - o) else st i k := by
  obtain ⟨h1, st', h2, h3⟩ := plL1 p f (fun q c => ∃ st', c = (st', nI (a + q)) ∧ ∀ i k, st' i k = if i = ρ ∧ o + a ≤ k ∧ k < o + (a + q) then val (k - o) else st i k) (N - a) (by
    rintro q _ hq ⟨st', rfl, hI⟩
    obtain ⟨s1, s2⟩ := step st' (a + q) (by omega) (by omega) (fun i k hn => by rw [hI, if_neg hn])
    refine ⟨s1, by rw [s2], plUp st' ρ (o + (a + q)) (val (a + q)), by rw [s2]; rfl, fun i k => ?_⟩
    rw [plUp_ap, hI]
    by_cases e : i = ρ ∧ k = o + (a + q)
    · rw [if_pos e, if_pos ⟨e.1, by omega, by omega⟩, show k - o = a + q by omega]
    · rw [if_neg e]
      by_cases e2 : i = ρ ∧ o + a ≤ k ∧ k < o + (a + q)
      · rw [if_pos e2, if_pos ⟨e2.1, by omega, by omega⟩]
      · rw [if_neg e2, if_neg (by omega)]) (by
    rintro _ ⟨st', rfl, hI⟩
    rw [show a + (N - a) = N by omega] at hI ⊢
    exact stop st' (fun i k hn => by rw [hI, if_neg hn])) 64 0 (st, nI a) (by omega) (by omega) ⟨st, rfl, fun i k => by rw [if_neg (by omega)]⟩
  rw [show a + (N - a) = N by omega] at h2 h3
  exact ⟨h1, st', h2, h3⟩
theorem plLoadR {r : plS} {n w : Nat} (hw : 1 ≤ w) (hw8 : w ≤ 8) (h4 : r 0 4 = nI w) (hn : 1 ≤ n) (hn6 : n ≤ 6) (h20 : r 2 0 = nI n) : P_RM_load r ∧ ∀ i k, K_RM_load r i k = if i = 0 ∧ k = 4 then nI (w - 1) else if i = 0 ∧ k = 7 then nI (n + 3) else if i = 0 ∧ k = 8 then 0 else if i = 0 ∧ k = 9 then plSx (r 0 9) (fun i => r 2 (1 + i)) n (n + 1) else if i = 3 ∧ k < n + 3 then plFb (r 0 9) (fun i => r 2 (1 + i)) n k else if i = 2 ∧ k < 7 * (w - 1) then r 2 (k + 7) else r i k := by
  obtain ⟨f, hf⟩ : ∃ f : Nat → Int32, f = fun i => r 2 (1 + i) := ⟨_, rfl⟩
  have fi : ∀ i, f i = r 2 (1 + i) := fun i => by rw [hf]
  rw [← hf]
  have q4 : ¬ nI w ≤ 0 := nI_nle (by omega) (by omega)
  have qn : ¬ nI n ≤ 0 := nI_nle (by omega) (by omega)
  have qn0 : ¬ nI n = 0 := nI_ne0 (by omega) (by omega)
  obtain ⟨r1, hr1⟩ : ∃ r1, r1 = plUp (plUp r 3 0 (nI (n + 1) ^^^ 182)) 3 1 (K_RM_hash (nI (n + 1)) ^^^ 171) := ⟨_, rfl⟩
  have e1 : ∀ i k, r1 i k = if i = 3 ∧ k < 2 then plFb (r 0 9) f n k else r i k := by
    intro i k
    rw [hr1, plUp_ap, plUp_ap]
    by_cases z1 : i = 3 ∧ k = 1
    · rw [if_pos z1, if_pos (by omega), z1.2]; rfl
    · rw [if_neg z1]
      by_cases z0 : i = 3 ∧ k = 0
      · rw [if_pos z0, if_pos (by omega), z0.2]; rfl
      · rw [if_neg z0, if_neg (by omega)]
  obtain ⟨l1, r2, x2, l2, l3⟩ := plL1 (G_RM_load_62 (nI n) (nI (n + 1))) (F_RM_load_62 (nI n) (nI (n + 1))) (fun q x => ∃ r2 x2, x = (r2, x2, nI q) ∧ x2 = plChk f (min q n) ∧ ∀ i k, r2 i k = if i = 0 ∧ k = 9 then plSx (r 0 9) f n q else if i = 3 ∧ 2 ≤ k ∧ k < 2 + q then plFb (r 0 9) f n k else r1 i k) (n + 1) (by
    rintro q _ hq ⟨r2, x2, rfl, rfl, hI⟩
    have nq : ¬ nI (n + 1) ≤ nI q := by rw [nI_leI (by omega) (by omega)]; omega
    have q9 : r2 0 9 = plSx (r 0 9) f n q := by rw [hI, if_pos ⟨rfl, rfl⟩]
    have i2 : ∀ j, r2 2 j = r 2 j := fun j => by rw [hI, if_neg (by omega), if_neg (by omega), e1, if_neg (by omega)]
    have a1 : (1 : Int32) + nI q = nI (1 + q) := by rw [show (1 : Int32) = nI 1 from rfl, nI_add]
    have a2 : (2 : Int32) + nI q = nI (2 + q) := by rw [show (2 : Int32) = nI 2 from rfl, nI_add]
    have p118 : ∀ st v w, P_RM_load_62L118 st (nI n) (nI (n + 1)) v (nI q) → P_RM_load_62L118 st (nI n) (nI (n + 1)) w (nI q) := fun _ _ _ p => p
    have v9 : vp_in (2 + nI q) 9 := by rw [a2]; exact vp_in_nI (by omega) (by omega)
    by_cases z : n ≤ q
    · have zq : q = n := by omega
      have le : nI n ≤ nI q := by rw [nI_leI (by omega) (by omega)]; exact z
      have kf : F_RM_load_62 (nI n) (nI (n + 1)) (r2, plChk f (min q n), nI q) = (true, (plUp (plUp r2 0 9 (r2 0 9 ^^^ plChk f (min q n))) 3 (2 + q) (r2 0 9 ^^^ plChk f (min q n)), plChk f (min q n), nI (q + 1))) := by
        show K_RM_load_62L r2 (nI n) (nI (n + 1)) (plChk f (min q n)) (nI q) = _
        unfold K_RM_load_62L K_RM_load_62L87 K_RM_load_62L106 K_RM_load_62L118
        rw [if_neg nq, if_pos le, if_pos le, a2, nI_1, plIx_nI (by omega), show plUp r2 0 9 (r2 0 9 ^^^ plChk f (min q n)) 0 9 = r2 0 9 ^^^ plChk f (min q n) by simp [plUp_ap]]
      have sx : r2 0 9 ^^^ plChk f (min q n) = plSx (r 0 9) f n (q + 1) := by
        rw [q9]
        unfold plSx
        rw [if_pos (by omega), if_neg (by omega), zq, show min n n = n by omega]
      refine ⟨fun _ => ⟨fun _ => ⟨fun _ => v9, fun w => absurd le w⟩, fun w => absurd le w⟩, by rw [kf], _, _, by rw [kf], by rw [show min (q + 1) n = min q n by omega], fun i k => ?_⟩
      rw [sx, plUp_ap, plUp_ap]
      by_cases y3 : i = 3 ∧ k = 2 + q
      · rw [if_pos y3, if_neg (by omega), if_pos (by omega), y3.2]
        unfold plFb
        rw [if_neg (by omega), if_neg (by omega), show 2 + q - 1 = q + 1 by omega]
      · rw [if_neg y3]
        by_cases y9 : i = 0 ∧ k = 9
        · rw [if_pos y9, if_pos y9]
        · rw [if_neg y9, if_neg y9, hI, if_neg y9]
          by_cases y : i = 3 ∧ 2 ≤ k ∧ k < 2 + q
          · rw [if_pos y, if_pos (by omega)]
          · rw [if_neg y, if_neg (by omega)]
    · have le : ¬ nI n ≤ nI q := by rw [nI_leI (by omega) (by omega)]; exact z
      have b : r2 2 (plIx (1 + nI q)) = f q := by rw [a1, plIx_nI (by omega), i2, fi]
      have kf : F_RM_load_62 (nI n) (nI (n + 1)) (r2, plChk f (min q n), nI q) = (true, (plUp (plUp r2 0 9 (r2 0 9 ^^^ f q)) 3 (2 + q) (r2 0 9 ^^^ f q), K_RM_hash (plChk f (min q n) ^^^ f q), nI (q + 1))) := by
        show K_RM_load_62L r2 (nI n) (nI (n + 1)) (plChk f (min q n)) (nI q) = _
        unfold K_RM_load_62L K_RM_load_62L87 K_RM_load_62L106 K_RM_load_62L118
        rw [if_neg nq, if_neg le, if_neg le, b, a2, nI_1, plIx_nI (by omega), show plUp r2 0 9 (r2 0 9 ^^^ f q) 0 9 = r2 0 9 ^^^ f q by simp [plUp_ap]]
      have sx : r2 0 9 ^^^ f q = plSx (r 0 9) f n (q + 1) := by
        rw [q9]
        unfold plSx
        rw [if_pos (by omega), if_pos (by omega)]
        rfl
      refine ⟨fun _ => ⟨fun w => absurd w le, fun _ => ⟨?_, fun w => absurd w le, fun _ => ⟨plH_P2 _, v9⟩⟩⟩, by rw [kf], _, _, by rw [kf], ?_, fun i k => ?_⟩
      · show vp_in (1 + nI q) 56
        rw [a1]; exact vp_in_nI (by omega) (by omega)
      · rw [show min q n = q by omega, show min (q + 1) n = q + 1 by omega]; rfl
      rw [sx, plUp_ap, plUp_ap]
      by_cases y3 : i = 3 ∧ k = 2 + q
      · rw [if_pos y3, if_neg (by omega), if_pos (by omega), y3.2]
        unfold plFb
        rw [if_neg (by omega), if_neg (by omega), show 2 + q - 1 = q + 1 by omega]
      · rw [if_neg y3]
        by_cases y9 : i = 0 ∧ k = 9
        · rw [if_pos y9, if_pos y9]
        · rw [if_neg y9, if_neg y9, hI, if_neg y9]
          by_cases y : i = 3 ∧ 2 ≤ k ∧ k < 2 + q
          · rw [if_pos y, if_pos (by omega)]
          · rw [if_neg y, if_neg (by omega)]) (by
    rintro _ ⟨r2, x2, rfl, rfl, hI⟩
    have le : nI (n + 1) ≤ nI (n + 1) := by rw [nI_leI (by omega) (by omega)]; omega
    refine ⟨fun w => absurd le w, ?_⟩
    show K_RM_load_62L r2 (nI n) (nI (n + 1)) _ (nI (n + 1)) = _
    unfold K_RM_load_62L
    rw [if_pos le]) 64 0 (r1, 255, nI 0) (by omega) (by omega) ⟨r1, 255, rfl, rfl, fun i k => by
      by_cases y9 : i = 0 ∧ k = 9
      · rw [if_pos y9, e1, if_neg (by omega), y9.1, y9.2]; rfl
      · rw [if_neg y9, if_neg (by omega)]⟩
  obtain ⟨r3, hr3⟩ : ∃ r3, r3 = plUp (plUp (plUp r2 0 7 (nI (n + 3))) 0 8 0) 0 4 (nI (w - 1)) := ⟨_, rfl⟩
  have e3 : ∀ i k, r3 i k = if i = 0 ∧ k = 4 then nI (w - 1) else if i = 0 ∧ k = 8 then 0 else if i = 0 ∧ k = 7 then nI (n + 3) else r2 i k := fun i k => by rw [hr3, plUp_ap, plUp_ap, plUp_ap]
  have e32 : ∀ k, r3 2 k = r 2 k := fun k => by rw [e3, if_neg (by omega), if_neg (by omega), if_neg (by omega), l3.2, if_neg (by omega), if_neg (by omega), e1, if_neg (by omega)]
  obtain ⟨w1, r4, w2, w3⟩ := plWr2 F_RM_load_167 G_RM_load_167 2 0 (fun k => r 2 (k + 7)) r3 0 (7 * (w - 1)) (by omega) (by omega) (fun st' j _ h hf => by
    have e04 : (7 : Int32) * st' 0 4 = nI (7 * (w - 1)) := by rw [hf 0 4 (by omega), e3, if_pos ⟨rfl, rfl⟩, show (7 : Int32) = nI 7 from rfl, pk_mul]
    have le : ¬ (7 : Int32) * st' 0 4 ≤ nI j := by rw [e04, nI_leI (by omega) (by omega)]; omega
    have a7 : nI j + 7 = nI (j + 7) := by rw [show (7 : Int32) = nI 7 from rfl, nI_add]
    refine ⟨fun _ => ⟨?_, vp_in_nI (by omega) (by omega)⟩, ?_⟩
    · show vp_in (nI j + 7) 56
      rw [a7]; exact vp_in_nI (by omega) (by omega)
    · show K_RM_load_167L st' (nI j) = _
      unfold K_RM_load_167L
      rw [if_neg le, a7, nI_1, plIx_nI (by omega), plIx_nI (by omega), hf 2 (j + 7) (by omega), e32, show 0 + j = j by omega]) (fun st' hf => by
    have e04 : (7 : Int32) * st' 0 4 = nI (7 * (w - 1)) := by rw [hf 0 4 (by omega), e3, if_pos ⟨rfl, rfl⟩, show (7 : Int32) = nI 7 from rfl, pk_mul]
    have le : (7 : Int32) * st' 0 4 ≤ nI (7 * (w - 1)) := by rw [e04, nI_leI (by omega) (by omega)]; omega
    refine ⟨fun y => absurd le y, ?_⟩
    show K_RM_load_167L st' (nI (7 * (w - 1))) = _
    unfold K_RM_load_167L
    rw [if_pos le])
  have a2 : (2 : Int32) + nI (n + 1) = nI (n + 3) := by rw [show (2 : Int32) = nI 2 from rfl, nI_add, show 2 + (n + 1) = n + 3 by omega]
  have h24 : plUp (plUp r2 0 7 (nI (n + 3))) 0 8 0 0 4 - 1 = nI (w - 1) := by
    rw [plUp_ap, if_neg (by omega), plUp_ap, if_neg (by omega), l3.2, if_neg (by omega), if_neg (by omega), e1, if_neg (by omega), h4, show (1 : Int32) = nI 1 from rfl, pk_sub hw]
  have kk : K_RM_load r = r4 := by
    unfold K_RM_load
    rw [h4, if_neg q4, show plIx 0 = 0 from rfl, h20]
    unfold K_RM_load_17
    rw [if_neg qn, nI_1]
    unfold K_RM_load_29 K_RM_load_41
    rw [show plIx 0 = 0 from rfl, show plIx 1 = 1 from rfl, ← hr1, show lpR (F_RM_load_62 (nI n) (nI (n + 1))) 64 (r1, 255, 0) = (r2, x2, nI (n + 1)) from l2]
    unfold K_RM_load_62X K_RM_load_144 K_RM_load_149
    rw [if_neg qn0, a2]
    show K_RM_load_167X (lpR F_RM_load_167 64 (plUp (plUp (plUp r2 0 7 (nI (n + 3))) 0 8 0) 0 4 (plUp (plUp r2 0 7 (nI (n + 3))) 0 8 0 0 4 - 1), nI 0)) = _
    rw [h24, ← hr3, w2]
    rfl
  have pp : P_RM_load r := by
    unfold P_RM_load
    rw [h4, show plIx 0 = 0 from rfl, h20]
    refine ⟨fun y => absurd y q4, fun _ => ⟨fun y => absurd y qn, fun _ => ?_⟩⟩
    rw [nI_1]
    unfold P_RM_load_29 P_RM_load_41
    rw [show plIx 0 = 0 from rfl, show plIx 1 = 1 from rfl, ← hr1, show lpR (F_RM_load_62 (nI n) (nI (n + 1))) 64 (r1, 255, 0) = (r2, x2, nI (n + 1)) from l2]
    refine ⟨plH_P2 _, l1, ?_⟩
    unfold P_RM_load_62X P_RM_load_144 P_RM_load_149
    intro _
    rw [a2]
    show lpP _ _ 64 (plUp (plUp (plUp r2 0 7 (nI (n + 3))) 0 8 0) 0 4 (plUp (plUp r2 0 7 (nI (n + 3))) 0 8 0 0 4 - 1), nI 0)
    rw [h24, ← hr3]
    exact w1
  refine ⟨pp, fun i k => ?_⟩
  rw [kk, w3, e3, l3.2, e1]
  by_cases y2 : i = 2
  · subst y2
    by_cases y : k < 7 * (w - 1)
    · rw [if_pos ⟨rfl, by omega, by omega⟩, if_neg (by omega), if_neg (by omega), if_neg (by omega), if_neg (by omega), if_neg (by omega), if_pos ⟨rfl, y⟩]; rfl
    · simp [y]
  · rw [if_neg (fun z => y2 z.1)]
    by_cases z4 : i = 0 ∧ k = 4
    · rw [if_pos z4, if_pos z4]
    · rw [if_neg z4, if_neg z4]
      by_cases z7 : i = 0 ∧ k = 7
      · rw [if_neg (by omega), if_pos z7, if_pos z7]
      · rw [if_neg z7, if_neg z7]
        by_cases z8 : i = 0 ∧ k = 8
        · rw [if_pos z8, if_pos z8]
        · rw [if_neg z8, if_neg z8]
          by_cases z9 : i = 0 ∧ k = 9
          · rw [if_pos z9, if_pos z9]
          · rw [if_neg z9, if_neg z9, if_neg (show ¬ (i = 2 ∧ k < 7 * (w - 1)) from fun z => y2 z.1)]
            by_cases y : i = 3 ∧ k < n + 3
            · rw [if_pos y]
              by_cases y3 : k < 2
              · rw [if_neg (by omega), if_pos ⟨y.1, y3⟩]
              · rw [if_pos (by omega)]
            · rw [if_neg y, if_neg (by omega), if_neg (by omega)]
theorem plLoad0 {r : plS} (h4 : r 0 4 = 0) : P_RM_load r ∧ ∀ i k, K_RM_load r i k = if i = 0 ∧ k = 7 then 2 else if i = 0 ∧ k = 8 then 0 else if i = 3 ∧ k = 0 then 182 else if i = 3 ∧ k = 1 then 171 else r i k := by
  obtain ⟨r1, hr1⟩ : ∃ r1, r1 = plUp (plUp r 3 0 182) 3 1 171 := ⟨_, rfl⟩
  have z : ∀ st, K_RM_load_62L st 0 0 255 0 = (false, (st, 255, 0)) := fun st => by unfold K_RM_load_62L; rw [if_pos (show (0 : Int32) ≤ 0 by decide)]
  have l0 : lpR (F_RM_load_62 0 0) 64 (r1, 255, 0) = (r1, 255, 0) := by
    unfold lpR
    rw [show F_RM_load_62 0 0 (r1, 255, 0) = (false, (r1, 255, 0)) from z r1]
    rfl
  have h0 : K_RM_hash 0 ^^^ 171 = 171 := by decide +kernel
  have h1 : (0 : Int32) ^^^ 182 = 182 := by decide
  have le0 : (0 : Int32) ≤ 0 := by decide
  constructor
  · unfold P_RM_load
    rw [h4]
    refine ⟨fun _ => ⟨fun _ => ?_, fun y => absurd le0 y⟩, fun y => absurd le0 y⟩
    unfold P_RM_load_29 P_RM_load_41
    rw [show plIx 0 = 0 from rfl, show plIx 1 = 1 from rfl, h0, h1, ← hr1, l0]
    refine ⟨plH_P2 _, ?_, fun y => absurd rfl y⟩
    unfold lpP
    refine ⟨fun y => absurd le0 y, fun y => ?_⟩
    rw [show F_RM_load_62 0 0 (r1, 255, 0) = (false, (r1, 255, 0)) from z r1] at y
    cases y
  · intro i k
    unfold K_RM_load
    rw [h4, if_pos le0]
    unfold K_RM_load_17
    rw [if_pos le0]
    unfold K_RM_load_29 K_RM_load_41
    rw [show plIx 0 = 0 from rfl, show plIx 1 = 1 from rfl, h0, h1, ← hr1, l0]
    unfold K_RM_load_62X K_RM_load_144 K_RM_load_149
    rw [if_pos rfl]
    show plUp (plUp r1 0 7 (2 + 0)) 0 8 0 i k = _
    rw [plUp_ap, plUp_ap, hr1, plUp_ap, plUp_ap]
    by_cases z7 : i = 0 ∧ k = 7
    · rw [if_neg (by omega), if_pos z7, if_pos z7]; rfl
    · rw [if_neg z7, if_neg z7]
      by_cases z8 : i = 0 ∧ k = 8
      · rw [if_pos z8, if_pos z8]
      · rw [if_neg z8, if_neg z8]
        by_cases y0 : i = 3 ∧ k = 0
        · rw [if_neg (by omega), if_pos y0, if_pos y0]
        · rw [if_neg y0, if_neg y0]
