/-! THE CLAIM OUT OF ONE WALK OF THE LAW'S BODY. Your part is whole_start (and what it stands on); all else here is the same for every law, but numbers. -/
def R_law : String := "ProtectedLineLaw"
def lw_P (b : Addr) (xs : List Int32) (args : Array Value) (s : State) : Prop := args = #[.ref b] ∧ s.IntsAt b xs ∧ xs.length ≤ 2052 ∧ (Jvm.Cond.and given_1 narrow_1).before args s = true
def lw_Q (_ : Array Value) (s : State) (o : Outcome) (t : State) : Prop := o = .returned (some (.int 1)) ∧ Framed s o t [] 45 969
def lw_Z (below : List Frame) (a : Array Value) (s : State) : State → Prop := fun t => ∃ o, t.status = .running ∧ Ended t below o ∧ lw_Q a s o t
/-- the law's own end, with 1 on the stack, nothing written that was there before, its room as the claim has it -/
theorem lw_ret {p : Program} {l : Launch} {e : Env} {s : State} {m : MethodId} {below : List Frame} {meth : Method} {c : Code} {b : Nat} (hx : p.tables.exec = Jvm.exec) (hb : c.code = code) (hr : meth.sig.returnType = ret) (hlocks : meth.locks = false) {pc : Nat} {H : Heap} {ls : Array Slot} (hdg : decode code pc = .ok (.ireturn, 1)) : W p l e room_1 s m #[Value.ref b] below meth c H [] 45 969 (lw_Z below #[Value.ref b] s) (F0 m pc ls [.int 1]) := by
  intro T hT X
  obtain ⟨fs, hret, hrun, hended, hW, hframe⟩ := X.leave (v := some (.int 1)) (hlocks := hlocks) (fun h => by rw [hr] at h; cases h)
  have hmeth' : T.vm.method? m = some meth := X.method'
  refine ⟨T.setFrames fs, ?_, .returned (some (.int 1)), hrun, hended, rfl, ⟨_, rfl⟩, hW, hframe⟩
  jvm_step X.here [X.here.top, hx, hb, hdg, hmeth', hr, ret, narrow_b1]
  (try refine ⟨rfl, ?_⟩); (try refine ⟨rfl, ?_⟩)
  first | (intro acts; rw [hret _ acts rfl rfl rfl]) | rw [hret _ _ rfl rfl rfl]
  exact Steps.refl _
/-- what holds at the law's entry: the machine, the code, the tables' words (any of lw_tbl by 'hts w (by decide +kernel)'), the script of L ints xs at the cell b, what the Statement gives of the start (any of its parts by flat_of_before) -/
def lw_At (p : Program) (s : State) (m : MethodId) (meth : Method) (c : Code) (b L : Nat) (xs : Nat → Int32) : Prop :=
  p.tables.exec = Jvm.exec ∧ c.code = code ∧ meth.sig.returnType = ret ∧ c.maxLocals = 4 ∧ s.vm.findClass R_law = some m.cls ∧ (∀ w ∈ lw_tbl, w.before #[Value.ref b] s = true) ∧ va_X b L xs s s.heap ∧ b < s.heap.size ∧ meth.locks = false ∧ (Jvm.Cond.and given_1 narrow_1).before #[Value.ref b] s = true

theorem plWG_in (w : Cond) (h : w ∈ plWG) : w ∈ lw_tbl := (List.mem_filter.mp h).1
set_option maxHeartbeats 4000000 in
set_option maxRecDepth 20000 in
theorem whole_open {R : plS → plS → Nat → Prop} (hSim : plSim R) {p : Program} {e : Env} {s : State} {m : MethodId} {below : List Frame} {meth : Method} {c : Code} (l : Launch) {b L : Nat} {xs : Nat → Int32} (hL : L ≤ 2052) (C0 : lw_At p s m meth c b L xs) : W p l e room_1 s m #[Value.ref b] below meth c s.heap [] 0 0 (lw_Z below #[Value.ref b] s) (entryFrame m ([Value.ref b] : List Value).toArray 4) := by
  obtain ⟨hx, hb, hr, hml, hown, hts, hsc, hbl, hlocks, hgv⟩ := C0
  have hfl := flat_of_before _ hgv
  obtain ⟨c0, i0, k0⟩ := u_known hts (fun w h => plWG_in w (in_PL w h)) (hts (.instantiable "ProtectedLine" 8) (List.mem_append_right _ (List.mem_of_getElem? (i := 17) (by decide +kernel))))
  obtain ⟨c1, i1, k1⟩ := u_known hts (fun w h => plWG_in w (in_SS w h)) (hts (.instantiable "ProtectedLine$StreamSource" 8) (List.mem_append_right _ (List.mem_of_getElem? (i := 25) (by decide +kernel))))
  obtain ⟨c2, i2, k2⟩ := u_known hts (fun w h => plWG_in w (in_NA w h)) (hts (.instantiable "ProtectedLine$NodeA" 6) (List.mem_append_right _ (List.mem_of_getElem? (i := 58) (by decide +kernel))))
  obtain ⟨c3, i3, k3⟩ := u_known hts (fun w h => plWG_in w (in_CS w h)) (hts (.instantiable "ProtectedLine$ContainerSource" 3) (List.mem_append_right _ (List.mem_of_getElem? (i := 60) (by decide +kernel))))
  obtain ⟨c4, i4, k4⟩ := u_known hts (fun w h => plWG_in w (in_LI w h)) (hts (.instantiable "ProtectedLine$Listener" 3) (List.mem_append_right _ (List.mem_of_getElem? (i := 80) (by decide +kernel))))
  obtain ⟨c5, i5, k5⟩ := u_known hts (fun w h => plWG_in w (in_LN w h)) (hts (.instantiable "ProtectedLine$Line" 12) (List.mem_append_right _ (List.mem_of_getElem? (i := 118) (by decide +kernel))))
  obtain ⟨c6, i6, k6⟩ := u_known hts (fun w h => plWG_in w (in_BL w h)) (hts (.instantiable "ProtectedLine$BackLine" 3) (List.mem_append_right _ (List.mem_of_getElem? (i := 168) (by decide +kernel))))
  obtain ⟨c7, i7, k7⟩ := u_known hts (fun w h => plWG_in w (in_SW w h)) (hts (.instantiable "ProtectedLine$Switch" 8) (List.mem_append_right _ (List.mem_of_getElem? (i := 184) (by decide +kernel))))
  obtain ⟨c8, i8, k8⟩ := u_known hts (fun w h => plWG_in w (in_SR w h)) (hts (.instantiable "ProtectedLine$StreamReader" 12) (List.mem_append_right _ (List.mem_of_getElem? (i := 221) (by decide +kernel))))
  obtain ⟨c9, i9, k9⟩ := u_known hts (fun w h => plWG_in w (in_PR w h)) (hts (.instantiable "ProtectedLine$PointerReader" 9) (List.mem_append_right _ (List.mem_of_getElem? (i := 267) (by decide +kernel))))
  obtain ⟨c10, i10, k10⟩ := u_known hts (fun w h => plWG_in w (in_RM w h)) (hts (.instantiable "ProtectedLineModel" 59) (List.mem_append_right _ (List.mem_of_getElem? (i := 637) (by decide +kernel))))
  obtain ⟨cI, kI, compI, hI1, hI2, hI3⟩ := Cond.arrayClass_spec (hts (.arrayClass .int) (List.mem_append_right _ (List.mem_of_getElem? (i := 56) (by decide +kernel))))
  obtain ⟨cZ, kZ, compZ, hZ1, hZ2, hZ3⟩ := Cond.arrayClass_spec (hts (.arrayClass .boolean) (List.mem_append_right _ (List.mem_of_getElem? (i := 820) (by decide +kernel))))
  have hA0 : ∀ q : Nat, q < s.heap.size → ¬ (fun q => s.heap.size ≤ q) q := fun q h1 h2 => Nat.not_le.mpr h1 h2
  obtain ⟨tROW, hvROW, hTROW⟩ := va_Tof (args := #[Value.ref b]) (s := s) (tm := .static "ProtectedLine$Line" "ROW" "[I") (ty := .int) (N := 10) (f := fun j => .int (plROW j)) (A := fun q => s.heap.size ≤ q) (by decide) (hfl _ (by decide +kernel)) (va_eqt (hfl (Cond.eq (.length (.static "ProtectedLine$Line" "ROW" "[I")) (.int 10)) (by decide +kernel))) (fun j hj => by
    rcases (show j = 0 ∨ j = 1 ∨ j = 2 ∨ j = 3 ∨ j = 4 ∨ j = 5 ∨ j = 6 ∨ j = 7 ∨ j = 8 ∨ j = 9 by omega) with rfl | rfl | rfl | rfl | rfl | rfl | rfl | rfl | rfl | rfl
    · exact va_eqt (hfl (Cond.eq (.elem (.static "ProtectedLine$Line" "ROW" "[I") (.int 0)) (.int 254)) (by decide +kernel))
    · exact va_eqt (hfl (Cond.eq (.elem (.static "ProtectedLine$Line" "ROW" "[I") (.int 1)) (.int 4)) (by decide +kernel))
    · exact va_eqt (hfl (Cond.eq (.elem (.static "ProtectedLine$Line" "ROW" "[I") (.int 2)) (.int 24)) (by decide +kernel))
    · exact va_eqt (hfl (Cond.eq (.elem (.static "ProtectedLine$Line" "ROW" "[I") (.int 3)) (.int 81)) (by decide +kernel))
    · exact va_eqt (hfl (Cond.eq (.elem (.static "ProtectedLine$Line" "ROW" "[I") (.int 4)) (.int 228)) (by decide +kernel))
    · exact va_eqt (hfl (Cond.eq (.elem (.static "ProtectedLine$Line" "ROW" "[I") (.int 5)) (.int 89)) (by decide +kernel))
    · exact va_eqt (hfl (Cond.eq (.elem (.static "ProtectedLine$Line" "ROW" "[I") (.int 6)) (.int 212)) (by decide +kernel))
    · exact va_eqt (hfl (Cond.eq (.elem (.static "ProtectedLine$Line" "ROW" "[I") (.int 7)) (.int 250)) (by decide +kernel))
    · exact va_eqt (hfl (Cond.eq (.elem (.static "ProtectedLine$Line" "ROW" "[I") (.int 8)) (.int 28)) (by decide +kernel))
    · exact va_eqt (hfl (Cond.eq (.elem (.static "ProtectedLine$Line" "ROW" "[I") (.int 9)) (.int 73)) (by decide +kernel))) hA0
  have hzROW := va_Zof (A := fun q => s.heap.size ≤ q) (hts (.laysStatic "ProtectedLine$Line" "ROW" "[I") (List.mem_append_right _ (List.mem_of_getElem? (i := 400) (by decide +kernel)))) (hts (.initialized "ProtectedLine$Line") (List.mem_append_right _ (List.mem_of_getElem? (i := 6) (by decide +kernel)))) hvROW hA0
  obtain ⟨tEMPTY, hvEMPTY, hTEMPTY⟩ := va_Tof (args := #[Value.ref b]) (s := s) (tm := .static "ProtectedLine$NodeA" "EMPTY" "[I") (ty := .int) (N := 8) (f := fun j => .int (plEMPTY j)) (A := fun q => s.heap.size ≤ q) (by decide) (hfl _ (by decide +kernel)) (va_eqt (hfl (Cond.eq (.length (.static "ProtectedLine$NodeA" "EMPTY" "[I")) (.int 8)) (by decide +kernel))) (fun j hj => by
    rcases (show j = 0 ∨ j = 1 ∨ j = 2 ∨ j = 3 ∨ j = 4 ∨ j = 5 ∨ j = 6 ∨ j = 7 by omega) with rfl | rfl | rfl | rfl | rfl | rfl | rfl | rfl
    · exact va_eqt (hfl (Cond.eq (.elem (.static "ProtectedLine$NodeA" "EMPTY" "[I") (.int 0)) (.int 255)) (by decide +kernel))
    · exact va_eqt (hfl (Cond.eq (.elem (.static "ProtectedLine$NodeA" "EMPTY" "[I") (.int 1)) (.int 255)) (by decide +kernel))
    · exact va_eqt (hfl (Cond.eq (.elem (.static "ProtectedLine$NodeA" "EMPTY" "[I") (.int 2)) (.int 255)) (by decide +kernel))
    · exact va_eqt (hfl (Cond.eq (.elem (.static "ProtectedLine$NodeA" "EMPTY" "[I") (.int 3)) (.int 255)) (by decide +kernel))
    · exact va_eqt (hfl (Cond.eq (.elem (.static "ProtectedLine$NodeA" "EMPTY" "[I") (.int 4)) (.int 255)) (by decide +kernel))
    · exact va_eqt (hfl (Cond.eq (.elem (.static "ProtectedLine$NodeA" "EMPTY" "[I") (.int 5)) (.int 255)) (by decide +kernel))
    · exact va_eqt (hfl (Cond.eq (.elem (.static "ProtectedLine$NodeA" "EMPTY" "[I") (.int 6)) (.int 255)) (by decide +kernel))
    · exact va_eqt (hfl (Cond.eq (.elem (.static "ProtectedLine$NodeA" "EMPTY" "[I") (.int 7)) (.int 255)) (by decide +kernel))) hA0
  have hzEMPTY := va_Zof (A := fun q => s.heap.size ≤ q) (hts (.laysStatic "ProtectedLine$NodeA" "EMPTY" "[I") (List.mem_append_right _ (List.mem_of_getElem? (i := 405) (by decide +kernel)))) (hts (.initialized "ProtectedLine$NodeA") (List.mem_append_right _ (List.mem_of_getElem? (i := 3) (by decide +kernel)))) hvEMPTY hA0
  have hE : ∃ E : plE, E = ((l, ((fun k => ([c0, c1, c2, c3, c4, c5, c6, c7, c8, c9, c10] : List ClassId).getD k 0), (fun k => ([i0, i1, i2, i3, i4, i5, i6, i7, i8, i9, i10] : List (Nat → Nat)).getD k (fun _ => 0))), (fun q => s.heap.size ≤ q), tROW, tEMPTY, cI, cZ), p, e, room_1, s, m, #[Value.ref b], below, meth, c, lw_Z below #[Value.ref b] s) := ⟨_, rfl⟩
  obtain ⟨E, hE⟩ := hE
  have X : plX E code "ProtectedLineLaw" 4 (some .boolean) 11 412 := by
    rw [hE]
    refine ⟨hx, hb, hml, hown, fun w h => hts w (plWG_in w h), ⟨fun k q hq => ?_, fun k q hq => ?_⟩, hlocks, hr, ⟨Nat.le_refl _, Nat.le_refl _⟩, fun q hq => ?_, fun q hq => ?_, hzROW, hTROW, hzEMPTY, hTEMPTY⟩
    · have hk : k < 11 := (List.getElem?_eq_some_iff.mp hq).1
      rcases (show k = 0 ∨ k = 1 ∨ k = 2 ∨ k = 3 ∨ k = 4 ∨ k = 5 ∨ k = 6 ∨ k = 7 ∨ k = 8 ∨ k = 9 ∨ k = 10 by omega) with rfl | rfl | rfl | rfl | rfl | rfl | rfl | rfl | rfl | rfl | rfl
      · cases hq; exact k0
      · cases hq; exact k1
      · cases hq; exact k2
      · cases hq; exact k3
      · cases hq; exact k4
      · cases hq; exact k5
      · cases hq; exact k6
      · cases hq; exact k7
      · cases hq; exact k8
      · cases hq; exact k9
      · cases hq; exact k10
    · have hk : k < 2 := (List.getElem?_eq_some_iff.mp hq).1
      rcases (show k = 0 ∨ k = 1 by omega) with rfl | rfl
      · cases hq; exact ⟨fun n z => ⟨fun k h => (by cases h), kI, hI2, compI, hI3⟩, hI1⟩
      · cases hq; exact ⟨fun n z => ⟨fun k h => (by cases h), kZ, hZ2, compZ, hZ3⟩, hZ1⟩
    · obtain ⟨k, hk⟩ := List.getElem?_of_mem hq
      have hk2 : k < 17 := (List.getElem?_eq_some_iff.mp hk).1
      rcases (show k = 0 ∨ k = 1 ∨ k = 2 ∨ k = 3 ∨ k = 4 ∨ k = 5 ∨ k = 6 ∨ k = 7 ∨ k = 8 ∨ k = 9 ∨ k = 10 ∨ k = 11 ∨ k = 12 ∨ k = 13 ∨ k = 14 ∨ k = 15 ∨ k = 16 by omega) with rfl | rfl | rfl | rfl | rfl | rfl | rfl | rfl | rfl | rfl | rfl | rfl | rfl | rfl | rfl | rfl | rfl
      · cases hk; exact va_Nw.of rfl (hts _ (List.mem_append_right _ (List.mem_of_getElem? (i := 34) (by decide +kernel))))
      · cases hk; exact va_Nw.of rfl (hts _ (List.mem_append_right _ (List.mem_of_getElem? (i := 86) (by decide +kernel))))
      · cases hk; exact va_Nw.of rfl (hts _ (List.mem_append_right _ (List.mem_of_getElem? (i := 87) (by decide +kernel))))
      · cases hk; exact va_Nw.of rfl (hts _ (List.mem_append_right _ (List.mem_of_getElem? (i := 99) (by decide +kernel))))
      · cases hk; exact va_Nw.of rfl (hts _ (List.mem_append_right _ (List.mem_of_getElem? (i := 131) (by decide +kernel))))
      · cases hk; exact va_Nw.of rfl (hts _ (List.mem_append_right _ (List.mem_of_getElem? (i := 133) (by decide +kernel))))
      · cases hk; exact va_Nw.of rfl (hts _ (List.mem_append_right _ (List.mem_of_getElem? (i := 138) (by decide +kernel))))
      · cases hk; exact va_Nw.of rfl (hts _ (List.mem_append_right _ (List.mem_of_getElem? (i := 141) (by decide +kernel))))
      · cases hk; exact va_Nw.of rfl (hts _ (List.mem_append_right _ (List.mem_of_getElem? (i := 194) (by decide +kernel))))
      · cases hk; exact va_Nw.of rfl (hts _ (List.mem_append_right _ (List.mem_of_getElem? (i := 196) (by decide +kernel))))
      · cases hk; exact va_Nw.of rfl (hts _ (List.mem_append_right _ (List.mem_of_getElem? (i := 200) (by decide +kernel))))
      · cases hk; exact va_Nw.of rfl (hts _ (List.mem_append_right _ (List.mem_of_getElem? (i := 202) (by decide +kernel))))
      · cases hk; exact va_Nw.of rfl (hts _ (List.mem_append_right _ (List.mem_of_getElem? (i := 227) (by decide +kernel))))
      · cases hk; exact va_Nw.of rfl (hts _ (List.mem_append_right _ (List.mem_of_getElem? (i := 236) (by decide +kernel))))
      · cases hk; exact va_Nw.of rfl (hts _ (List.mem_append_right _ (List.mem_of_getElem? (i := 238) (by decide +kernel))))
      · cases hk; exact va_Nw.of rfl (hts _ (List.mem_append_right _ (List.mem_of_getElem? (i := 274) (by decide +kernel))))
      · cases hk; exact va_Nw.of rfl (hts _ (List.mem_append_right _ (List.mem_of_getElem? (i := 282) (by decide +kernel))))
    · obtain ⟨k, hk⟩ := List.getElem?_of_mem hq
      have hk2 : k < 4 := (List.getElem?_eq_some_iff.mp hk).1
      rcases (show k = 0 ∨ k = 1 ∨ k = 2 ∨ k = 3 by omega) with rfl | rfl | rfl | rfl
      · cases hk; exact va_Nw.of rfl (hts _ (List.mem_append_right _ (List.mem_of_getElem? (i := 26) (by decide +kernel))))
      · cases hk; exact va_Nw.of rfl (hts _ (List.mem_append_right _ (List.mem_of_getElem? (i := 81) (by decide +kernel))))
      · cases hk; exact va_Nw.of rfl (hts _ (List.mem_append_right _ (List.mem_of_getElem? (i := 190) (by decide +kernel))))
      · cases hk; exact va_Nw.of rfl (hts _ (List.mem_append_right _ (List.mem_of_getElem? (i := 222) (by decide +kernel))))
  have hA : plNew E := by rw [hE]; exact fun q h => h
  have hcs : 45 ≤ (eR E).cells ∧ 969 ≤ (eR E).slots := by rw [hE]; exact ⟨Nat.le_refl _, Nat.le_refl _⟩
  have hX : plSc E b L xs := by rw [hE]; exact ⟨hsc, hbl, hA0 b hbl⟩
  have hend : ∀ (w : va_W) (lv : List (Nat × Value)), plJ E 4 w 45 969 lv 623 [] := by
    intro w lv
    refine j_iconst (pc := 623) X d_LAW_law_623 ic_1 ?_
    rw [hE]
    intro H locs ls hl hP hD hS
    refine va_forget (fun q hq => hS.2.2 q hq) ?_
    exact lw_ret hx hb hr hlocks d_LAW_law_624
  have J := law_begin X hA hcs hX hL hSim hend
  have hl := lv_entry [.ref b] (n := 4) (Nat.le_of_ble_eq_true rfl)
  rw [lg_entry_eq]
  generalize (lg_sl [.ref b] ++ List.replicate (4 - (lg_sl [.ref b]).length) Slot.unset).toArray = ls at hl ⊢
  have K := J s.heap [] ls
  rw [hE] at K
  exact K hl (fun k q h => (by cases h)) ⟨fun i j p q hi => (by cases hi), fun k q h => (by cases h)⟩ va_S.rf

