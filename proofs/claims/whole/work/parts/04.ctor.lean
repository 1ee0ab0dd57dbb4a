/-! constructors: worlds that grow -/
section
variable {E : plE} {cc : ByteArray} {own : String} {nL : Nat} {ret : Option FieldType} {fr lo : Nat} {w w' : va_W} {k n : Nat} {lv : List (Nat × Value)} {pc : Nat} {st : List Value}
theorem j_objInit (X : plX E cc own nL ret fr lo) {i a : Nat} (hl : Cond.methodLink own i objectInit ∈ plWG ∧ Cond.instanceMethod objectInit ∈ plWG ∧ Cond.code objectInit ⟨#[0xb1]⟩ 1 none ∈ plWG) (hfr : 1 ≤ fr) (hlo : (st.map fun v => v.category).sum + 12 ≤ lo) (d : decode cc pc = .ok (.invokespecial i, 3)) (kk : plJ E nL w k n lv (pc + 3) st) : plJ E nL w k n lv pc (.ref a :: st) := by
  intro H locs ls hl' hP hD hS
  have hz : 2 * (F0 (eM E) pc ls (.ref a :: st)).monitorRoom + (st.map fun v => v.category).sum + 12 ≤ (eR E).locals := by
    have h0 : (F0 (eM E) pc ls (.ref a :: st)).monitorRoom = 0 := rfl
    rw [h0]
    have := X.2.2.2.2.2.2.2.2.1.2
    omega
  refine W.objInit X.1 X.2.1 X.2.2.2.1 (X.2.2.2.2.1 _ hl.1) (X.2.2.2.2.1 _ hl.2.1) (X.2.2.2.2.1 _ hl.2.2) rfl (by rw [X.2.2.1]; exact hl'.1) rfl d (Nat.le_trans hfr X.2.2.2.2.2.2.2.2.1.1) hz ?_
  exact W.eq (g2 := F0 (eM E) (pc + 3) ls st) rfl (kk H locs ls hl' hP hD hS)
/-- new cells may be written -/
def plNew (E : plE) : Prop := ∀ q, (eS E).heap.size ≤ q → plgA (plg E) q
theorem j_new (X : plX E cc own nL ret fr lo) (hA : plNew E) {C : String} {T : u_T} {N ci index : Nat} {fs : List Value} {w2 : Nat → va_W} {ty : Nat → FieldType} (hin : ∀ x ∈ u_ws C T N, x ∈ plWG) (hc : plCl[ci]? = some (C, T, N)) (hty : ∀ k, k < N → parseFieldDescriptor (T k).2.2.1 = some (ty k)) (hfs : ∀ j, j < N → defaultValue (ty j) = vp_V fs j) (hl : Cond.classLink own index C ∈ plWG ∧ Cond.instantiable C N ∈ plWG ∧ Cond.initialized C ∈ plWG) (hcs : k + 1 ≤ (eR E).cells ∧ n + N ≤ (eR E).slots) (hw : ∀ q, w ++ [(q, .inr (ci, fs))] = w2 q) (d : decode cc pc = .ok (.new index, 3))
    (kk : ∀ q : Nat, plJ E nL (w2 q) (k + 1) (n + N) lv (pc + 3) (.ref q :: st)) : plJ E nL w k n lv pc st := by
  intro H locs ls hl' hP hD hS
  refine va_new X.1 X.2.1 X.2.2.2.2.1 hin ty hty X.2.2.2.1 (X.2.2.2.2.1 _ hl.1) (X.2.2.2.2.1 _ hl.2.1) (X.2.2.2.2.1 _ hl.2.2) X.2.2.2.2.2.1 hP hD hS hA hc hfs hcs.1 hcs.2 d (fun q H1 hP1 hD1 hS1 => ?_)
  rw [hw q] at hP1 hD1
  exact kk q H1 locs ls hl' hP1 hD1 hS1
theorem plK_inj {D : va_G} {cl : List vw_C} {tys : List (ClassId × FieldType)} {s : State} {c1 c2 : ClassId} {ty : FieldType} (hne : ∀ C, ty ≠ .object C) (h : va_K D cl tys s) {i j : Nat} (hi : tys[i]? = some (c1, ty)) (hj : tys[j]? = some (c2, ty)) : c1 = c2 := by
  have h1 := (h.2 i _ hi).2
  have h2 := (h.2 j _ hj).2
  cases ty with
  | object C => exact absurd rfl (hne C)
  | _ => exact Option.some.inj (h1.symm.trans h2)
theorem j_newI (X : plX E cc own nL ret fr lo) (hA : plNew E) (harr : Cond.arrayClass .int ∈ plWG) {m : Int32} {N : Nat} {w2 : Nat → va_W} (hn : ¬ m < 0) (hN : m.toNatClampNeg = N) (hb : N * 4 ≤ 536870912) (hcs : k + 1 ≤ (eR E).cells ∧ n + N ≤ (eR E).slots) (hw : ∀ q, w ++ [(q, .inl (plgI (plg E), N, .inl (fun _ => 0)))] = w2 q) (d : decode cc pc = .ok (.newarray .int, 2))
    (kk : ∀ q : Nat, plJ E nL (w2 q) (k + 1) (n + N) lv (pc + 2) (.ref q :: st)) : plJ E nL w k n lv pc (.int m :: st) := by
  intro H locs ls hl' hP hD hS
  refine va_newa (atype := .int) (ty := .int) (a0 := (N, .inl (fun _ => 0))) X.1 X.2.1 (X.2.2.2.2.1 _ harr) rfl X.2.2.2.2.2.1 hP hD hS hA (fun cA => rfl) hn hN hb hcs.1 hcs.2 d (fun q cA H1 hK1 hP1 hD1 hS1 => ?_)
  have e : cA = plgI (plg E) := plK_inj (ty := .int) (fun C h => by cases h) hK1 (i := 2) (j := 0) rfl rfl
  subst e
  rw [hw q] at hP1 hD1
  exact kk q H1 locs ls hl' hP1 hD1 hS1
theorem j_newZ (X : plX E cc own nL ret fr lo) (hA : plNew E) (harr : Cond.arrayClass .boolean ∈ plWG) {m : Int32} {N : Nat} {w2 : Nat → va_W} (hn : ¬ m < 0) (hN : m.toNatClampNeg = N) (hb : N * 1 ≤ 536870912) (hcs : k + 1 ≤ (eR E).cells ∧ n + N ≤ (eR E).slots) (hw : ∀ q, w ++ [(q, .inl (plgZ (plg E), N, .inl (fun _ => 0)))] = w2 q) (d : decode cc pc = .ok (.newarray .boolean, 2))
    (kk : ∀ q : Nat, plJ E nL (w2 q) (k + 1) (n + N) lv (pc + 2) (.ref q :: st)) : plJ E nL w k n lv pc (.int m :: st) := by
  intro H locs ls hl' hP hD hS
  refine va_newa (atype := .boolean) (ty := .boolean) (a0 := (N, .inl (fun _ => 0))) X.1 X.2.1 (X.2.2.2.2.1 _ harr) rfl X.2.2.2.2.2.1 hP hD hS hA (fun cA => rfl) hn hN hb hcs.1 hcs.2 d (fun q cA H1 hK1 hP1 hD1 hS1 => ?_)
  have e : cA = plgZ (plg E) := plK_inj (ty := .boolean) (fun C h => by cases h) hK1 (i := 2) (j := 1) rfl rfl
  subst e
  rw [hw q] at hP1 hD1
  exact kk q H1 locs ls hl' hP1 hD1 hS1
theorem j_putF (X : plX E cc own nL ret fr lo) (hin2 : (eT E).name = "<init>") {C : String} {T : u_T} {N ci index q0 kf a : Nat} {fs : List Value} {v : Value} {w2 : va_W} {ty0 : Nat → FieldType} {ty : FieldType} (hin : ∀ x ∈ u_ws C T N, x ∈ plWG) (hc : plCl[ci]? = some (C, T, N)) (hk : kf < N) (hT : (T kf).1 = own) (hty : ∀ k, k < N → parseFieldDescriptor (T k).2.2.1 = some (ty0 k)) (hnm : ∀ a, a < N → ∀ b, b < N → a ≠ b → (T a).2.1 ≠ (T b).2.1) (hfin : (T kf).2.2.2 = true) (hd : parseFieldDescriptor (T kf).2.2.1 = some ty)
    (he : w[q0]? = some (a, .inr (ci, fs))) (hlen : kf < fs.length) (hw : w.set q0 (a, .inr (ci, fs.set kf v)) = w2) (hn : narrow ty v = v) (hfit : fits ty v = true) (hl : Cond.fieldLink own index own (T kf).2.1 (T kf).2.2.1 ∈ plWG) (d : decode cc pc = .ok (.putfield index, 3))
    (kk : plJ E nL w2 k n lv (pc + 3) st) : plJ E nL w k n lv pc (v :: .ref a :: st) := by
  subst hw
  intro H locs ls hl' hP hD hS
  exact va_putF X.1 X.2.1 X.2.2.2.2.1 hin ty0 hty hnm X.2.2.2.1 X.2.2.2.2.2.1 hP hD hS q0 he hc kf hk (X.2.2.2.2.1 _ hl) (fun x hx => by rw [← hT]; exact hx) hfin hin2 hT hd hn hfit hlen d (fun H1 locs1 hP1 hD1 hS1 => kk H1 locs1 ls hl' hP1 hD1 hS1)
end
/-- a constructor's contract: on a cell e0 at h0, it makes mc cells of ms slots; u: the new cells' addresses; 'post u': the world behind it -/
def plMc (g : plG) (y : MethodName) (b : ByteArray) (mL : Nat) (fr lo mc ms : Nat) (args : List Value) (h0 : Nat) (e0 : va_E) (cnt : Nat) (post : List Nat → va_W) : Prop :=
  ∀ sz : Nat, Met (plgL g) y (.code y b mL none :: plWG) { frames := fr, cells := mc, slots := ms, locals := lo } (va_Pc args (fun U => U.heap.size = sz ∧ plIn (g.1, g.2.1, va_A [(h0, e0)] sz, g.2.2.2) [(h0, e0)] U)) (va_Qv (fun (u : List Nat) => u.length = cnt) (fun u t => plOut (g.1, g.2.1, va_A [(h0, e0)] sz, g.2.2.2) (post u) t) (va_A [(h0, e0)] sz)) mc ms (va_A [(h0, e0)] sz)
def plRc (E : plE) (mc ms cnt : Nat) (post : List Nat → va_W) : Prop := eQ E = MQ (eB E) (va_Qv (fun (u : List Nat) => u.length = cnt) (fun u t => plOut (plg E) (post u) t) (plgA (plg E))) (eA E) (eS E) mc ms (plgA (plg E))
theorem plMc.of {g : plG} {y : MethodName} {b : ByteArray} {mL : Nat} {fr lo mc ms : Nat} {args : List Value} {h0 : Nat} {e0 : va_E} {cnt : Nat} {post : List Nat → va_W} {own : String} {lv : List (Nat × Value)} (hy : plainName y.cls = true) (hyn : y.name = "<init>") (ho : y.cls = own) (hn : (lg_sl args).length ≤ mL) (hlv : lv_args 0 args = lv)
    (body : ∀ E : plE, plgL (plg E) = plgL g → plgD (plg E) = plgD g → plgI (plg E) = plgI g → plgZ (plg E) = plgZ g → plX E b own mL none fr lo → plNew E → (eT E).name = "<init>" → (mc ≤ (eR E).cells ∧ ms ≤ (eR E).slots) → plRc E mc ms cnt post → plJ E mL [(h0, e0)] 0 0 lv 0 []) : plMc g y b mL fr lo mc ms args h0 e0 cnt post := by
  intro sz
  refine Met.ofW (cc := b) (maxL := mL) (ret := none) hy rfl ?_
  intro p e s m args' below meth c s₁ B hml hv
  obtain ⟨rfl, hsz, hP, hK, hD, hX⟩ := hv
  have hts := atoms_spec (ws := .code y b mL none :: plWG) B.pre
  have hown := findClass_of_methodNamed B.named
  have hnm : meth.name = y.name := (name_of_methodNamed B.named B.method).1
  have hl := lv_entry args (n := mL) hn
  rw [lg_entry_eq]
  generalize (lg_sl args ++ List.replicate (mL - (lg_sl args).length) Slot.unset).toArray = ls at hl ⊢
  rw [hlv] at hl
  subst ho
  exact body ((g.1, g.2.1, va_A [(h0, e0)] sz, g.2.2.2), p, e, (headSpec (.code y b mL none :: plWG) { frames := fr, cells := mc, slots := ms, locals := lo }).room, s, m, args.toArray, below, meth, c, MQ below (va_Qv (fun (u : List Nat) => u.length = cnt) (fun u t => plOut (g.1, g.2.1, va_A [(h0, e0)] sz, g.2.2.2) (post u) t) (va_A [(h0, e0)] sz)) args.toArray s mc ms (va_A [(h0, e0)] sz)) rfl rfl rfl rfl ⟨B.exec, B.bytes, hml, hown, fun x h => hts x (List.mem_cons_of_mem _ h), hK, B.notSynchronized, B.returns, ⟨Nat.le_refl _, Nat.le_refl _⟩, hX⟩ (fun q h => Or.inr (by rw [← hsz]; exact h)) (hnm.trans hyn) ⟨Nat.le_refl _, Nat.le_refl _⟩ rfl s.heap [] ls hl hP hD va_S.rf
/-- what a constructor's call needs of the words -/
def plCI (own : String) (index : Nat) (y : MethodName) (b : ByteArray) (mL : Nat) (n : Nat) : Prop :=
  (Cond.methodLink own index y ∈ plWG ∨ ∃ host : String, (own, index, y, host) ∈ plNM) ∧ Cond.instanceMethod y ∈ plWG ∧ Cond.initialized y.cls ∈ plWG ∧ Cond.code y b mL none ∈ plWG ∧ y.name = "<init>" ∧ plMN y n
section
variable {E : plE} {cc : ByteArray} {own : String} {nL : Nat} {ret : Option FieldType} {fr lo : Nat} {w : va_W} {k n : Nat} {lv : List (Nat × Value)} {pc : Nat}
theorem j_retc (X : plX E cc own nL none fr lo) {cnt : Nat} {post : List Nat → va_W} (hQ : plRc E k n cnt post) (u : List Nat) (hu : u.length = cnt) (hw : w = post u) (d : decode cc pc = .ok (.return_, 1)) : plJ E nL w k n lv pc [] := by
  intro H locs ls hl hP hD hS
  unfold plRc at hQ
  rw [hQ]
  subst hw
  exact W.vret X.1 X.2.1 X.2.2.2.2.2.2.2.1 (fun t ht hW => ⟨⟨u, rfl, hu, by rw [ht]; exact hP, hD⟩, hS.F ht⟩) hS.2.2 d X.2.2.2.2.2.2.1
theorem plExt.narrow {g : plG} {B : Nat → Prop} {U : State} {H : Heap} (h : plExt g U H) (hB : ∀ q, B q → plgA g q) : plExt (g.1, g.2.1, B, g.2.2.2) U H := by
  obtain ⟨h1, h2, h3, h4, h5, h6⟩ := h
  exact ⟨h1, h2, h3.narrow hB, h4.narrow hB, h5.narrow hB, h6.narrow hB⟩
theorem j_callI (X : plX E cc own nL ret fr lo) (hA : plNew E) {y : MethodName} {b : ByteArray} {mL fr' lo' mc ms m index cnt h0 : Nat} {e0 : va_E} {post : List Nat → va_W} {As rest stk : List Value} (p0 : Nat) (isR : List Nat) {wr : va_W} {w2 : List Nat → va_W}
    (hM : plMc (plg E) y b mL fr' lo' mc ms (.ref h0 :: As) h0 e0 cnt post) (hL : plCI own index y b mL m) (hR : fr' + 1 ≤ fr ∧ 8 + (mL + 11) + lo' ≤ lo) (hcs : k + mc ≤ (eR E).cells ∧ n + ms ≤ (eR E).slots)
    (hC : [w[p0]?] = [some (h0, e0)]) (hRs : isR.map (fun i => w[i]?) = wr.map some) (hnd : va_nd isR = true) (hdis : ∀ i ∈ isR, i ∉ [p0]) (hw : ∀ u, wr ++ post u = w2 u) (hn : As.length = m) (hst : stk = As.reverse ++ .ref h0 :: rest) (hW : (rest.map fun v => v.category).sum ≤ 8) (d : decode cc pc = .ok (.invokespecial index, 3))
    (kk : ∀ u : List Nat, u.length = cnt → plJ E nL (w2 u) (k + mc) (n + ms) lv (pc + 3) rest) : plJ E nL w k n lv pc stk := by
  intro H locs ls hl hP hD hS
  obtain ⟨hlk, hi, hini, hcd, hyn, hmn⟩ := hL
  have hts := X.2.2.2.2.1
  have hC' : [p0].map (fun i => w[i]?) = [(h0, e0)].map some := hC
  have hF := va_free (wc := [(h0, e0)]) hD hS hA [p0] hC'
  have hPc : va_P (plgD (plg E)) plCl [(h0, e0)] H := fun j q hj => by
    cases j with
    | zero =>
      cases hj
      exact hP p0 _ (List.cons.inj hC).1
    | succ j => cases hj
  have hDc : va_D (va_A [(h0, e0)] H.size) [(h0, e0)] := (hD.sub [p0] rfl hC').self
  have hpre : PreS (eS E) H (va_Pc (.ref h0 :: As) (fun U => U.heap.size = H.size ∧ plIn ((plg E).1, (plg E).2.1, va_A [(h0, e0)] H.size, (plg E).2.2.2) [(h0, e0)] U)) (.ref h0 :: As) :=
    ⟨fun a U g mk q => ⟨q.1, q.2.1, q.2.2.blind⟩, fun U hU hW => ⟨rfl, by rw [hU], by rw [hU]; exact hPc, va_K.moved hW.alike X.2.2.2.2.2.1, hDc, (X.2.2.2.2.2.2.2.2.2.go hW hS hU).narrow hF⟩⟩
  have hRR : fr' + 1 ≤ (eR E).frames ∧ 8 + (mL + 11) + lo' ≤ (eR E).locals := ⟨Nat.le_trans hR.1 X.2.2.2.2.2.2.2.2.1.1, Nat.le_trans hR.2 X.2.2.2.2.2.2.2.2.1.2⟩
  have hrun : va_Run (eP E) (plgL (plg E)) (eE E) (eR E) (eS E) (eM E) (eA E) (eB E) (eT E) (eC E) H locs k n mc ms (F0 (eM E) pc ls stk) rest (va_Qv (fun (u : List Nat) => u.length = cnt) (fun u t => plOut ((plg E).1, (plg E).2.1, va_A [(h0, e0)] H.size, (plg E).2.2.2) (post u) t) (va_A [(h0, e0)] H.size) (Value.ref h0 :: As).toArray) (va_A [(h0, e0)] H.size) := by
    rcases hlk with hlk | ⟨host, hlk⟩
    · exact va_runI (As := As) (rest := rest) ⟨X.1, X.2.1, X.2.2.1, X.2.2.2.1, hts⟩ (hM H.size) (cwI m hts (plGoodIn hcd) rfl rfl rfl (hts _ hini) (hts _ hlk) (hts _ hi) hyn hmn hRR) hpre rfl hn hl.1 hst (lv_room hW) d hcs
    · exact va_runIN (As := As) (rest := rest) (host := host) ⟨X.1, X.2.1, X.2.2.1, X.2.2.2.1, hts⟩ (hM H.size) ⟨va_cnB m hts (plGoodIn hcd) rfl rfl rfl (X.2.2.2.2.2.2.2.2.2.2.1 _ hlk) (hts _ hini) hmn hRR, hyn, hts _ hi⟩ hpre rfl hn hl.1 hst (lv_room hW) d hcs
  refine va_callv hrun hS (fun q _ h => hF q h) hF (fun u t H1 locs1 ht hvm hp hB hz hk hS1 => ?_)
  subst ht
  obtain ⟨hP2, hD2⟩ := va_join (wr := wr) (w1 := post u) hP hD [p0] isR hC' hRs hnd hdis hk hF hB.1 hB.2
  rw [hw u] at hP2 hD2
  exact kk u hp t.heap locs1 ls hl hP2 hD2 hS1
end
theorem j_wsub {E : plE} {nL : Nat} {w w2 : va_W} {k n : Nat} {lv : List (Nat × Value)} {pc : Nat} {st : List Value} (is : List Nat) (hn : va_nd is = true) (hs : is.map (fun i => w[i]?) = w2.map some) (kk : plJ E nL w2 k n lv pc st) : plJ E nL w k n lv pc st := by
  intro H locs ls hl hP hD hS
  refine kk H locs ls hl (fun j q hj => ?_) (hD.sub is hn hs) hS
  have h1 : (is.map (fun i => w[i]?))[j]? = some (some q) := by rw [hs, List.getElem?_map, hj]; rfl
  rw [List.getElem?_map] at h1
  cases hi : is[j]? with
  | none => rw [hi] at h1; cases h1
  | some i => rw [hi] at h1; exact hP i q (Option.some.inj h1)
theorem plL_0 {u : List Nat} (h : u.length = 0) : u = [] := List.eq_nil_of_length_eq_zero h
theorem plL_1 {u : List Nat} (h : u.length = 1) : ∃ a, u = [a] := by
  match u, h with
  | [a], _ => exact ⟨a, rfl⟩
theorem plL_2 {u : List Nat} (h : u.length = 2) : ∃ a b, u = [a, b] := by
  match u, h with
  | [a, b], _ => exact ⟨a, b, rfl⟩
theorem plL_3 {u : List Nat} (h : u.length = 3) : ∃ a b c, u = [a, b, c] := by
  match u, h with
  | [a, b, c], _ => exact ⟨a, b, c, rfl⟩

