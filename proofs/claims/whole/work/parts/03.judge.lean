/-! The judgement plJ: W with heap, written places and locals hidden; the two object graphs are lists of cells over one pure state -/
abbrev plS : Type := Nat → Nat → Int32
def plUp (st : plS) (i k : Nat) (v : Int32) : plS := fun j => if j = i then upd (st i) k v else st j
def plCp (st : plS) (i j sp dp n : Nat) : plS := fun q => if q = j then va_cpy (st i) (st j) sp dp n else st q
abbrev plIx (x : Int32) : Nat := x.toNatClampNeg
def plUshr (x y : Int32) : Int32 := (x.toUInt32 >>> (y.toUInt32 &&& Int32.toUInt32 31)).toInt32
def plB (v : Int32) : Prop := v = 0 ∨ v = 1
def plCpOK (n0 n1 : Nat) (sp dp n : Int32) : Prop := ¬ sp < 0 ∧ ¬ dp < 0 ∧ ¬ n < 0 ∧ plIx sp + plIx n ≤ n0 ∧ plIx dp + plIx n ≤ n1
/-- a loop: the step says whether it goes on -/
def lpR {C : Type} (f : C → Bool × C) : Nat → C → C
  | 0, c => c
  | n + 1, c => if (f c).1 = true then lpR f n (f c).2 else (f c).2
def lpP {C : Type} (p : C → Prop) (f : C → Bool × C) : Nat → C → Prop
  | 0, _ => False
  | n + 1, c => p c ∧ ((f c).1 = true → lpP p f n (f c).2)
theorem lpJ {C : Type} (p : C → Prop) (f : C → Bool × C) (Jh Jx : C → Prop) (hb : ∀ c, p c → (∀ c', f c = (true, c') → Jh c') → (∀ c', f c = (false, c') → Jx c') → Jh c) : ∀ n c, lpP p f n c → Jx (lpR f n c) → Jh c := by
  intro n
  induction n with
  | zero => intro c h _; exact False.elim h
  | succ n ih =>
    intro c h hx
    unfold lpP at h
    unfold lpR at hx
    refine hb c h.1 (fun c' e => ?_) (fun c' e => ?_)
    · have h1 : (f c).1 = true := by rw [e]
      have h2 := h.2 h1
      rw [if_pos h1] at hx
      rw [e] at h2 hx
      exact ih c' h2 hx
    · have h1 : ¬ (f c).1 = true := by rw [e]; exact Bool.false_ne_true
      rw [if_neg h1, e] at hx
      exact hx
/-! what a side fixes: launch, tables, what may be written, the two static tables, the array classes -/
abbrev plG : Type := Launch × va_G × (Nat → Prop) × Nat × Nat × ClassId × ClassId
abbrev plgL (g : plG) : Launch := g.1
abbrev plgD (g : plG) : va_G := g.2.1
abbrev plgA (g : plG) : Nat → Prop := g.2.2.1
abbrev plaROW (g : plG) : Nat := g.2.2.2.1
abbrev plaEMPTY (g : plG) : Nat := g.2.2.2.2.1
abbrev plgI (g : plG) : ClassId := g.2.2.2.2.2.1
abbrev plgZ (g : plG) : ClassId := g.2.2.2.2.2.2
abbrev plTy (g : plG) : List (ClassId × FieldType) := [(plgI g, .int), (plgZ g, .boolean)]
def plROW (j : Nat) : Int32 := ([254, 4, 24, 81, 228, 89, 212, 250, 28, 73] : List Int32).getD j 0
def plEMPTY (_ : Nat) : Int32 := 255
abbrev plE : Type := plG × Program × Env × Room × State × MethodId × Array Value × List Frame × Method × Code × (State → Prop)
abbrev plg (E : plE) : plG := E.1
abbrev eP (E : plE) : Program := E.2.1
abbrev eE (E : plE) : Env := E.2.2.1
abbrev eR (E : plE) : Room := E.2.2.2.1
abbrev eS (E : plE) : State := E.2.2.2.2.1
abbrev eM (E : plE) : MethodId := E.2.2.2.2.2.1
abbrev eA (E : plE) : Array Value := E.2.2.2.2.2.2.1
abbrev eB (E : plE) : List Frame := E.2.2.2.2.2.2.2.1
abbrev eT (E : plE) : Method := E.2.2.2.2.2.2.2.2.1
abbrev eC (E : plE) : Code := E.2.2.2.2.2.2.2.2.2.1
abbrev eQ (E : plE) : State → Prop := E.2.2.2.2.2.2.2.2.2.2
def plExt (g : plG) (U : State) (H : Heap) : Prop :=
  (∀ q ∈ plNF, va_Nw (.fieldLinkNest q.1 q.2.1 q.2.2.1 q.2.2.2.1 q.2.2.2.2.1 q.2.2.2.2.2) U) ∧ (∀ q ∈ plNM, va_Nw (.methodLinkNest q.1 q.2.1 q.2.2.1 q.2.2.2) U) ∧
  va_Z "ProtectedLine$Line" "ROW" "[I" (.ref (plaROW g)) (plgA g) U H ∧ va_T .int (plaROW g) 10 (fun j => .int (plROW j)) (plgA g) U H ∧
  va_Z "ProtectedLine$NodeA" "EMPTY" "[I" (.ref (plaEMPTY g)) (plgA g) U H ∧ va_T .int (plaEMPTY g) 8 (fun j => .int (plEMPTY j)) (plgA g) U H
theorem plExt.go {g : plG} {s U : State} {H : Heap} {locs : List Loc} (h : plExt g s s.heap) (hW : s.WarmedH U.vm) (hS : va_S (plgA g) s.heap H locs) (hU : U.heap = H) : plExt g U U.heap := by
  obtain ⟨h1, h2, h3, h4, h5, h6⟩ := h
  subst hU
  have hq : ∀ a : Nat, a < s.heap.size → ¬ plgA g a → U.heap[a]? = s.heap[a]? := hS.2.1
  exact ⟨fun q m => (h1 q m).warmF hW, fun q m => (h2 q m).warmM hW, (h3.kept hq).moved hW.alike, (h4.kept hq).moved hW.alike, (h5.kept hq).moved hW.alike, (h6.kept hq).moved hW.alike⟩
def plIn (g : plG) (w : va_W) (U : State) : Prop := va_P (plgD g) plCl w U.heap ∧ va_K (plgD g) plCl (plTy g) U ∧ va_D (plgA g) w ∧ plExt g U U.heap
def plOut (g : plG) (w : va_W) (t : State) : Prop := va_P (plgD g) plCl w t.heap ∧ va_D (plgA g) w
theorem plIn.blind {g : plG} {w : va_W} {U : State} {gg : JFrame} {mk : MethodId} {a : Array Value} (h : plIn g w U) : plIn g w (U.calling gg mk a) := by
  obtain ⟨hP, hK, hD, h1, h2, h3, h4, h5, h6⟩ := h
  refine ⟨hP, va_K.moved (u := U) (U := U.calling gg mk a) (Vm.Alike.refl U.vm) hK, hD, fun q m => (h1 q m).same rfl rfl, fun q m => (h2 q m).same rfl rfl, ?_, ?_, ?_, ?_⟩
  · exact va_Z.moved (u := U) (U := U.calling gg mk a) (Vm.Alike.refl U.vm) h3
  · exact va_T.moved (u := U) (U := U.calling gg mk a) (Vm.Alike.refl U.vm) h4
  · exact va_Z.moved (u := U) (U := U.calling gg mk a) (Vm.Alike.refl U.vm) h5
  · exact va_T.moved (u := U) (U := U.calling gg mk a) (Vm.Alike.refl U.vm) h6
def plX (E : plE) (cc : ByteArray) (own : String) (nL : Nat) (ret : Option FieldType) (fr lo : Nat) : Prop :=
  (eP E).tables.exec = Jvm.exec ∧ (eC E).code = cc ∧ (eC E).maxLocals = nL ∧ (eS E).vm.findClass own = some (eM E).cls ∧ (∀ w ∈ plWG, w.before (eA E) (eS E) = true) ∧
  va_K (plgD (plg E)) plCl (plTy (plg E)) (eS E) ∧ (eT E).locks = false ∧ (eT E).sig.returnType = ret ∧ (fr ≤ (eR E).frames ∧ lo ≤ (eR E).locals) ∧ plExt (plg E) (eS E) (eS E).heap
def plJ (E : plE) (nL : Nat) (w : va_W) (k n : Nat) (lv : List (Nat × Value)) (pc : Nat) (st : List Value) : Prop :=
  ∀ (H : Heap) (locs : List Loc) (ls : Array Slot), lv_has ls nL lv → va_P (plgD (plg E)) plCl w H → va_D (plgA (plg E)) w → va_S (plgA (plg E)) (eS E).heap H locs →
    W (eP E) (plgL (plg E)) (eE E) (eR E) (eS E) (eM E) (eA E) (eB E) (eT E) (eC E) H locs k n (eQ E) (F0 (eM E) pc ls st)
section
variable {E : plE} {cc : ByteArray} {own : String} {nL : Nat} {ret : Option FieldType} {fr lo : Nat} {w : va_W} {k n : Nat} {lv lv' : List (Nat × Value)} {pc : Nat} {st : List Value}
theorem j_sub (ks : List Nat) (h : lv_pick lv ks = lv') (kk : plJ E nL w k n lv' pc st) : plJ E nL w k n lv pc st := fun H locs ls hl hP hD hS => kk H locs ls (lv_sub hl ks h) hP hD hS
theorem j_iconst (X : plX E cc own nL ret fr lo) {z : Int} {v : Int32} (d : decode cc pc = .ok (.iconst z, 1)) (hv : Int32.ofInt z = v) (kk : plJ E nL w k n lv (pc + 1) (.int v :: st)) : plJ E nL w k n lv pc st := fun H locs ls hl hP hD hS => lv_iconst X.1 X.2.1 d hv (kk H locs ls hl hP hD hS)
theorem j_bipush (X : plX E cc own nL ret fr lo) {z : Int} {v : Int32} (d : decode cc pc = .ok (.bipush z, 2)) (hv : (Int8.ofInt z).toInt32 = v) (kk : plJ E nL w k n lv (pc + 2) (.int v :: st)) : plJ E nL w k n lv pc st := fun H locs ls hl hP hD hS => lv_bipush X.1 X.2.1 d hv (kk H locs ls hl hP hD hS)
theorem j_sipush (X : plX E cc own nL ret fr lo) {z : Int} {v : Int32} (d : decode cc pc = .ok (.sipush z, 3)) (hv : (Int16.ofInt z).toInt32 = v) (kk : plJ E nL w k n lv (pc + 3) (.int v :: st)) : plJ E nL w k n lv pc st := fun H locs ls hl hP hD hS => lv_sipush X.1 X.2.1 d hv (kk H locs ls hl hP hD hS)
theorem j_iload_n (X : plX E cc own nL ret fr lo) {f : Fin 4} {i : Nat} {x : Int32} (d : decode cc pc = .ok (.iload_n f, 1)) (hi : (f : Nat) = i) (q : Nat) (hq : lv[q]? = some (i, .int x)) (kk : plJ E nL w k n lv (pc + 1) (.int x :: st)) : plJ E nL w k n lv pc st := fun H locs ls hl hP hD hS => lv_iload_n X.1 X.2.1 d hi (lv_at hl q hq) (kk H locs ls hl hP hD hS)
theorem j_iload (X : plX E cc own nL ret fr lo) {i : Nat} {x : Int32} (d : decode cc pc = .ok (.iload i, 2)) (q : Nat) (hq : lv[q]? = some (i, .int x)) (kk : plJ E nL w k n lv (pc + 2) (.int x :: st)) : plJ E nL w k n lv pc st := fun H locs ls hl hP hD hS => lv_iload X.1 X.2.1 d (lv_at hl q hq) (kk H locs ls hl hP hD hS)
theorem j_lload_n (X : plX E cc own nL ret fr lo) {f : Fin 4} {i : Nat} {x : Int64} (d : decode cc pc = .ok (.lload_n f, 1)) (hi : (f : Nat) = i) (q : Nat) (hq : lv[q]? = some (i, .long x)) (kk : plJ E nL w k n lv (pc + 1) (.long x :: st)) : plJ E nL w k n lv pc st := fun H locs ls hl hP hD hS => lv_lload_n X.1 X.2.1 d hi (lv_at hl q hq) (kk H locs ls hl hP hD hS)
theorem j_lload (X : plX E cc own nL ret fr lo) {i : Nat} {x : Int64} (d : decode cc pc = .ok (.lload i, 2)) (q : Nat) (hq : lv[q]? = some (i, .long x)) (kk : plJ E nL w k n lv (pc + 2) (.long x :: st)) : plJ E nL w k n lv pc st := fun H locs ls hl hP hD hS => lv_lload X.1 X.2.1 d (lv_at hl q hq) (kk H locs ls hl hP hD hS)
theorem j_aload_n (X : plX E cc own nL ret fr lo) {f : Fin 4} {i : Nat} {x : Nat} (d : decode cc pc = .ok (.aload_n f, 1)) (hi : (f : Nat) = i) (q : Nat) (hq : lv[q]? = some (i, .ref x)) (kk : plJ E nL w k n lv (pc + 1) (.ref x :: st)) : plJ E nL w k n lv pc st := fun H locs ls hl hP hD hS => lv_aload_n X.1 X.2.1 d hi (lv_at hl q hq) (kk H locs ls hl hP hD hS)
theorem j_aload (X : plX E cc own nL ret fr lo) {i : Nat} {x : Nat} (d : decode cc pc = .ok (.aload i, 2)) (q : Nat) (hq : lv[q]? = some (i, .ref x)) (kk : plJ E nL w k n lv (pc + 2) (.ref x :: st)) : plJ E nL w k n lv pc st := fun H locs ls hl hP hD hS => lv_aload X.1 X.2.1 d (lv_at hl q hq) (kk H locs ls hl hP hD hS)
theorem j_istore_n (X : plX E cc own nL ret fr lo) {f : Fin 4} {i : Nat} {x : Int32} (d : decode cc pc = .ok (.istore_n f, 1)) (hi : (f : Nat) = i) (hn : i < nL) (h : (i, Value.int x) :: lv.filter (fun q => !(q.1 == i) && !(q.1 + 1 == i && q.2.category == 2)) = lv') (kk : plJ E nL w k n lv' (pc + 1) st) : plJ E nL w k n lv pc (.int x :: st) := fun H locs ls hl hP hD hS => lv_istore_n X.1 X.2.1 d hi hl hn h (fun ls' hl' => kk H locs ls' hl' hP hD hS)
theorem j_istore (X : plX E cc own nL ret fr lo) {i : Nat} {x : Int32} (d : decode cc pc = .ok (.istore i, 2)) (hn : i < nL) (h : (i, Value.int x) :: lv.filter (fun q => !(q.1 == i) && !(q.1 + 1 == i && q.2.category == 2)) = lv') (kk : plJ E nL w k n lv' (pc + 2) st) : plJ E nL w k n lv pc (.int x :: st) := fun H locs ls hl hP hD hS => lv_istore X.1 X.2.1 d hl hn h (fun ls' hl' => kk H locs ls' hl' hP hD hS)
theorem j_astore_n (X : plX E cc own nL ret fr lo) {f : Fin 4} {i x : Nat} (d : decode cc pc = .ok (.astore_n f, 1)) (hi : (f : Nat) = i) (hn : i < nL) (h : (i, Value.ref x) :: lv.filter (fun q => !(q.1 == i) && !(q.1 + 1 == i && q.2.category == 2)) = lv') (kk : plJ E nL w k n lv' (pc + 1) st) : plJ E nL w k n lv pc (.ref x :: st) := fun H locs ls hl hP hD hS => lv_astore_n X.1 X.2.1 d hi hl hn h (fun ls' hl' => kk H locs ls' hl' hP hD hS)
theorem j_astore (X : plX E cc own nL ret fr lo) {i x : Nat} (d : decode cc pc = .ok (.astore i, 2)) (hn : i < nL) (h : (i, Value.ref x) :: lv.filter (fun q => !(q.1 == i) && !(q.1 + 1 == i && q.2.category == 2)) = lv') (kk : plJ E nL w k n lv' (pc + 2) st) : plJ E nL w k n lv pc (.ref x :: st) := fun H locs ls hl hP hD hS => lv_astore X.1 X.2.1 d hl hn h (fun ls' hl' => kk H locs ls' hl' hP hD hS)
theorem j_iinc (X : plX E cc own nL ret fr lo) {i : Nat} {z : Int} {c x : Int32} (d : decode cc pc = .ok (.iinc i z, 3)) (q : Nat) (hq : lv[q]? = some (i, .int x)) (hz : Int32.ofInt z = c) (hn : i < nL) (h : (i, Value.int (x + c)) :: lv.filter (fun q => !(q.1 == i) && !(q.1 + 1 == i && q.2.category == 2)) = lv') (kk : plJ E nL w k n lv' (pc + 3) st) : plJ E nL w k n lv pc st := fun H locs ls hl hP hD hS => lv_iinc X.1 X.2.1 d hl hq (by rw [hz]) hn h (fun ls' hl' => kk H locs ls' hl' hP hD hS)
theorem j_iadd (X : plX E cc own nL ret fr lo) {x y : Int32} (d : decode cc pc = .ok (.iadd, 1)) (kk : plJ E nL w k n lv (pc + 1) (.int (x + y) :: st)) : plJ E nL w k n lv pc (.int y :: .int x :: st) := fun H locs ls hl hP hD hS => lv_iadd X.1 X.2.1 d (kk H locs ls hl hP hD hS)
theorem j_isub (X : plX E cc own nL ret fr lo) {x y : Int32} (d : decode cc pc = .ok (.isub, 1)) (kk : plJ E nL w k n lv (pc + 1) (.int (x - y) :: st)) : plJ E nL w k n lv pc (.int y :: .int x :: st) := fun H locs ls hl hP hD hS => lv_isub X.1 X.2.1 d (kk H locs ls hl hP hD hS)
theorem j_imul (X : plX E cc own nL ret fr lo) {x y : Int32} (d : decode cc pc = .ok (.imul, 1)) (kk : plJ E nL w k n lv (pc + 1) (.int (x * y) :: st)) : plJ E nL w k n lv pc (.int y :: .int x :: st) := fun H locs ls hl hP hD hS => lv_imul X.1 X.2.1 d (kk H locs ls hl hP hD hS)
theorem j_iand (X : plX E cc own nL ret fr lo) {x y : Int32} (d : decode cc pc = .ok (.iand, 1)) (kk : plJ E nL w k n lv (pc + 1) (.int (x &&& y) :: st)) : plJ E nL w k n lv pc (.int y :: .int x :: st) := fun H locs ls hl hP hD hS => lv_iand X.1 X.2.1 d (kk H locs ls hl hP hD hS)
theorem j_ior (X : plX E cc own nL ret fr lo) {x y : Int32} (d : decode cc pc = .ok (.ior, 1)) (kk : plJ E nL w k n lv (pc + 1) (.int (x ||| y) :: st)) : plJ E nL w k n lv pc (.int y :: .int x :: st) := fun H locs ls hl hP hD hS => lv_ior X.1 X.2.1 d (kk H locs ls hl hP hD hS)
theorem j_ixor (X : plX E cc own nL ret fr lo) {x y : Int32} (d : decode cc pc = .ok (.ixor, 1)) (kk : plJ E nL w k n lv (pc + 1) (.int (x ^^^ y) :: st)) : plJ E nL w k n lv pc (.int y :: .int x :: st) := fun H locs ls hl hP hD hS => lv_ixor X.1 X.2.1 d (kk H locs ls hl hP hD hS)
theorem j_ishl (X : plX E cc own nL ret fr lo) {x y : Int32} (d : decode cc pc = .ok (.ishl, 1)) (kk : plJ E nL w k n lv (pc + 1) (.int (x <<< (y &&& 31)) :: st)) : plJ E nL w k n lv pc (.int y :: .int x :: st) := fun H locs ls hl hP hD hS => lv_ishl X.1 X.2.1 d (kk H locs ls hl hP hD hS)
theorem j_ishr (X : plX E cc own nL ret fr lo) {x y : Int32} (d : decode cc pc = .ok (.ishr, 1)) (kk : plJ E nL w k n lv (pc + 1) (.int (x >>> (y &&& 31)) :: st)) : plJ E nL w k n lv pc (.int y :: .int x :: st) := fun H locs ls hl hP hD hS => lv_ishr X.1 X.2.1 d (kk H locs ls hl hP hD hS)
theorem j_iushr (X : plX E cc own nL ret fr lo) {x y : Int32} (d : decode cc pc = .ok (.iushr, 1)) (kk : plJ E nL w k n lv (pc + 1) (.int (plUshr x y) :: st)) : plJ E nL w k n lv pc (.int y :: .int x :: st) := fun H locs ls hl hP hD hS => lv_iushr X.1 X.2.1 d rfl (kk H locs ls hl hP hD hS)
theorem j_idiv (X : plX E cc own nL ret fr lo) {x y : Int32} (d : decode cc pc = .ok (.idiv, 1)) (hy : ¬ y = 0) (kk : plJ E nL w k n lv (pc + 1) (.int (x / y) :: st)) : plJ E nL w k n lv pc (.int y :: .int x :: st) := fun H locs ls hl hP hD hS => lv_idiv X.1 X.2.1 d hy (kk H locs ls hl hP hD hS)
theorem j_irem (X : plX E cc own nL ret fr lo) {x y : Int32} (d : decode cc pc = .ok (.irem, 1)) (hy : ¬ y = 0) (kk : plJ E nL w k n lv (pc + 1) (.int (x - x / y * y) :: st)) : plJ E nL w k n lv pc (.int y :: .int x :: st) := fun H locs ls hl hP hD hS => lv_irem X.1 X.2.1 d hy (kk H locs ls hl hP hD hS)
theorem j_i2l (X : plX E cc own nL ret fr lo) {x : Int32} (d : decode cc pc = .ok (.i2l, 1)) (kk : plJ E nL w k n lv (pc + 1) (.long (Int32.toInt64 x) :: st)) : plJ E nL w k n lv pc (.int x :: st) := fun H locs ls hl hP hD hS => lv_i2l X.1 X.2.1 d rfl (kk H locs ls hl hP hD hS)
theorem j_l2i (X : plX E cc own nL ret fr lo) {x : Int64} (d : decode cc pc = .ok (.l2i, 1)) (kk : plJ E nL w k n lv (pc + 1) (.int (Int64.toInt32 x) :: st)) : plJ E nL w k n lv pc (.long x :: st) := fun H locs ls hl hP hD hS => lv_l2i X.1 X.2.1 d rfl (kk H locs ls hl hP hD hS)
theorem j_lshr (X : plX E cc own nL ret fr lo) {x : Int64} {y : Int32} (d : decode cc pc = .ok (.lshr, 1)) (kk : plJ E nL w k n lv (pc + 1) (.long (x >>> (Int32.toInt64 y &&& 63)) :: st)) : plJ E nL w k n lv pc (.int y :: .long x :: st) := fun H locs ls hl hP hD hS => lv_lshr X.1 X.2.1 d rfl (kk H locs ls hl hP hD hS)
theorem j_lshl (X : plX E cc own nL ret fr lo) {x : Int64} {y : Int32} (d : decode cc pc = .ok (.lshl, 1)) (kk : plJ E nL w k n lv (pc + 1) (.long (x <<< (Int32.toInt64 y &&& 63)) :: st)) : plJ E nL w k n lv pc (.int y :: .long x :: st) := fun H locs ls hl hP hD hS => lv_lshl X.1 X.2.1 d rfl (kk H locs ls hl hP hD hS)
theorem j_land (X : plX E cc own nL ret fr lo) {x y : Int64} (d : decode cc pc = .ok (.land, 1)) (kk : plJ E nL w k n lv (pc + 1) (.long (x &&& y) :: st)) : plJ E nL w k n lv pc (.long y :: .long x :: st) := fun H locs ls hl hP hD hS => lv_land X.1 X.2.1 d (kk H locs ls hl hP hD hS)
theorem j_lor (X : plX E cc own nL ret fr lo) {x y : Int64} (d : decode cc pc = .ok (.lor, 1)) (kk : plJ E nL w k n lv (pc + 1) (.long (x ||| y) :: st)) : plJ E nL w k n lv pc (.long y :: .long x :: st) := fun H locs ls hl hP hD hS => lv_lor X.1 X.2.1 d (kk H locs ls hl hP hD hS)
theorem j_ldc2 (X : plX E cc own nL ret fr lo) {i : Nat} {v : Int64} (hc : Cond.constantLong own i v ∈ plWG) (d : decode cc pc = .ok (.ldc2_w i, 3)) (kk : plJ E nL w k n lv (pc + 3) (.long v :: st)) : plJ E nL w k n lv pc st := fun H locs ls hl hP hD hS => lv_ldc2 X.1 X.2.1 X.2.2.2.1 (X.2.2.2.2.1 _ hc) d (kk H locs ls hl hP hD hS)
theorem j_ldc (X : plX E cc own nL ret fr lo) {i : Nat} {v : Int32} (hc : Cond.constant own i v ∈ plWG) (d : decode cc pc = .ok (.ldc i, 2)) (kk : plJ E nL w k n lv (pc + 2) (.int v :: st)) : plJ E nL w k n lv pc st := fun H locs ls hl hP hD hS => lv_ldc X.1 X.2.1 X.2.2.2.1 (X.2.2.2.2.1 _ hc) d (kk H locs ls hl hP hD hS)
theorem j_ldcw (X : plX E cc own nL ret fr lo) {i : Nat} {v : Int32} (hc : Cond.constant own i v ∈ plWG) (d : decode cc pc = .ok (.ldc_w i, 3)) (kk : plJ E nL w k n lv (pc + 3) (.int v :: st)) : plJ E nL w k n lv pc st := fun H locs ls hl hP hD hS => lv_ldcw X.1 X.2.1 X.2.2.2.1 (X.2.2.2.2.1 _ hc) d (kk H locs ls hl hP hD hS)
theorem j_dup (X : plX E cc own nL ret fr lo) {v : Value} (d : decode cc pc = .ok (.dup, 1)) (hv : v.category = 1) (kk : plJ E nL w k n lv (pc + 1) (v :: v :: st)) : plJ E nL w k n lv pc (v :: st) := fun H locs ls hl hP hD hS => lv_dup X.1 X.2.1 d hv (kk H locs ls hl hP hD hS)
theorem j_dup2 (X : plX E cc own nL ret fr lo) {v u : Value} (d : decode cc pc = .ok (.dup2, 1)) (hv : v.category = 1) (hu : u.category = 1) (kk : plJ E nL w k n lv (pc + 1) (v :: u :: v :: u :: st)) : plJ E nL w k n lv pc (v :: u :: st) := fun H locs ls hl hP hD hS => lv_dup2_11 X.1 X.2.1 d hv hu (kk H locs ls hl hP hD hS)
theorem j_goto (X : plX E cc own nL ret fr lo) {off : Int} {tgt : Nat} (d : decode cc pc = .ok (.goto off, 3)) (ht : (pc : Int) + off = (tgt : Int)) (kk : plJ E nL w k n lv tgt st) : plJ E nL w k n lv pc st := fun H locs ls hl hP hD hS => lv_goto X.1 X.2.1 d ht (kk H locs ls hl hP hD hS)
theorem j_if_eq (X : plX E cc own nL ret fr lo) {x : Int32} {off : Int} {tgt : Nat} (d : decode cc pc = .ok (.ifCond .eq off, 3)) (ht : (pc : Int) + off = (tgt : Int)) (kt : x = 0 → plJ E nL w k n lv tgt st) (kf : ¬ x = 0 → plJ E nL w k n lv (pc + 3) st) : plJ E nL w k n lv pc (.int x :: st) := fun H locs ls hl hP hD hS => lv_if_eq X.1 X.2.1 d ht (fun hc => kt hc H locs ls hl hP hD hS) (fun hc => kf hc H locs ls hl hP hD hS)
theorem j_if_ne (X : plX E cc own nL ret fr lo) {x : Int32} {off : Int} {tgt : Nat} (d : decode cc pc = .ok (.ifCond .ne off, 3)) (ht : (pc : Int) + off = (tgt : Int)) (kt : ¬ x = 0 → plJ E nL w k n lv tgt st) (kf : x = 0 → plJ E nL w k n lv (pc + 3) st) : plJ E nL w k n lv pc (.int x :: st) := fun H locs ls hl hP hD hS => lv_if_ne X.1 X.2.1 d ht (fun hc => kt hc H locs ls hl hP hD hS) (fun hc => kf hc H locs ls hl hP hD hS)
theorem j_if_lt (X : plX E cc own nL ret fr lo) {x : Int32} {off : Int} {tgt : Nat} (d : decode cc pc = .ok (.ifCond .lt off, 3)) (ht : (pc : Int) + off = (tgt : Int)) (kt : x < 0 → plJ E nL w k n lv tgt st) (kf : ¬ x < 0 → plJ E nL w k n lv (pc + 3) st) : plJ E nL w k n lv pc (.int x :: st) := fun H locs ls hl hP hD hS => lv_if_lt X.1 X.2.1 d ht (fun hc => kt hc H locs ls hl hP hD hS) (fun hc => kf hc H locs ls hl hP hD hS)
theorem j_if_ge (X : plX E cc own nL ret fr lo) {x : Int32} {off : Int} {tgt : Nat} (d : decode cc pc = .ok (.ifCond .ge off, 3)) (ht : (pc : Int) + off = (tgt : Int)) (kt : 0 ≤ x → plJ E nL w k n lv tgt st) (kf : ¬ 0 ≤ x → plJ E nL w k n lv (pc + 3) st) : plJ E nL w k n lv pc (.int x :: st) := fun H locs ls hl hP hD hS => lv_if_ge X.1 X.2.1 d ht (fun hc => kt hc H locs ls hl hP hD hS) (fun hc => kf hc H locs ls hl hP hD hS)
theorem j_if_gt (X : plX E cc own nL ret fr lo) {x : Int32} {off : Int} {tgt : Nat} (d : decode cc pc = .ok (.ifCond .gt off, 3)) (ht : (pc : Int) + off = (tgt : Int)) (kt : 0 < x → plJ E nL w k n lv tgt st) (kf : ¬ 0 < x → plJ E nL w k n lv (pc + 3) st) : plJ E nL w k n lv pc (.int x :: st) := fun H locs ls hl hP hD hS => lv_if_gt X.1 X.2.1 d ht (fun hc => kt hc H locs ls hl hP hD hS) (fun hc => kf hc H locs ls hl hP hD hS)
theorem j_if_le (X : plX E cc own nL ret fr lo) {x : Int32} {off : Int} {tgt : Nat} (d : decode cc pc = .ok (.ifCond .le off, 3)) (ht : (pc : Int) + off = (tgt : Int)) (kt : x ≤ 0 → plJ E nL w k n lv tgt st) (kf : ¬ x ≤ 0 → plJ E nL w k n lv (pc + 3) st) : plJ E nL w k n lv pc (.int x :: st) := fun H locs ls hl hP hD hS => lv_if_le X.1 X.2.1 d ht (fun hc => kt hc H locs ls hl hP hD hS) (fun hc => kf hc H locs ls hl hP hD hS)
theorem j_icmp_eq (X : plX E cc own nL ret fr lo) {x y : Int32} {off : Int} {tgt : Nat} (d : decode cc pc = .ok (.if_icmp .eq off, 3)) (ht : (pc : Int) + off = (tgt : Int)) (kt : x = y → plJ E nL w k n lv tgt st) (kf : ¬ x = y → plJ E nL w k n lv (pc + 3) st) : plJ E nL w k n lv pc (.int y :: .int x :: st) := fun H locs ls hl hP hD hS => lv_icmp_eq X.1 X.2.1 d ht (fun hc => kt hc H locs ls hl hP hD hS) (fun hc => kf hc H locs ls hl hP hD hS)
theorem j_icmp_ne (X : plX E cc own nL ret fr lo) {x y : Int32} {off : Int} {tgt : Nat} (d : decode cc pc = .ok (.if_icmp .ne off, 3)) (ht : (pc : Int) + off = (tgt : Int)) (kt : ¬ x = y → plJ E nL w k n lv tgt st) (kf : x = y → plJ E nL w k n lv (pc + 3) st) : plJ E nL w k n lv pc (.int y :: .int x :: st) := fun H locs ls hl hP hD hS => lv_icmp_ne X.1 X.2.1 d ht (fun hc => kt hc H locs ls hl hP hD hS) (fun hc => kf hc H locs ls hl hP hD hS)
theorem j_icmp_lt (X : plX E cc own nL ret fr lo) {x y : Int32} {off : Int} {tgt : Nat} (d : decode cc pc = .ok (.if_icmp .lt off, 3)) (ht : (pc : Int) + off = (tgt : Int)) (kt : x < y → plJ E nL w k n lv tgt st) (kf : ¬ x < y → plJ E nL w k n lv (pc + 3) st) : plJ E nL w k n lv pc (.int y :: .int x :: st) := fun H locs ls hl hP hD hS => lv_icmp_lt X.1 X.2.1 d ht (fun hc => kt hc H locs ls hl hP hD hS) (fun hc => kf hc H locs ls hl hP hD hS)
theorem j_icmp_ge (X : plX E cc own nL ret fr lo) {x y : Int32} {off : Int} {tgt : Nat} (d : decode cc pc = .ok (.if_icmp .ge off, 3)) (ht : (pc : Int) + off = (tgt : Int)) (kt : y ≤ x → plJ E nL w k n lv tgt st) (kf : ¬ y ≤ x → plJ E nL w k n lv (pc + 3) st) : plJ E nL w k n lv pc (.int y :: .int x :: st) := fun H locs ls hl hP hD hS => lv_icmp_ge X.1 X.2.1 d ht (fun hc => kt hc H locs ls hl hP hD hS) (fun hc => kf hc H locs ls hl hP hD hS)
theorem j_icmp_gt (X : plX E cc own nL ret fr lo) {x y : Int32} {off : Int} {tgt : Nat} (d : decode cc pc = .ok (.if_icmp .gt off, 3)) (ht : (pc : Int) + off = (tgt : Int)) (kt : y < x → plJ E nL w k n lv tgt st) (kf : ¬ y < x → plJ E nL w k n lv (pc + 3) st) : plJ E nL w k n lv pc (.int y :: .int x :: st) := fun H locs ls hl hP hD hS => lv_icmp_gt X.1 X.2.1 d ht (fun hc => kt hc H locs ls hl hP hD hS) (fun hc => kf hc H locs ls hl hP hD hS)
theorem j_icmp_le (X : plX E cc own nL ret fr lo) {x y : Int32} {off : Int} {tgt : Nat} (d : decode cc pc = .ok (.if_icmp .le off, 3)) (ht : (pc : Int) + off = (tgt : Int)) (kt : x ≤ y → plJ E nL w k n lv tgt st) (kf : ¬ x ≤ y → plJ E nL w k n lv (pc + 3) st) : plJ E nL w k n lv pc (.int y :: .int x :: st) := fun H locs ls hl hP hD hS => lv_icmp_le X.1 X.2.1 d ht (fun hc => kt hc H locs ls hl hP hD hS) (fun hc => kf hc H locs ls hl hP hD hS)
/-- a field's link: plain, or a nest mate's -/
def plFL (own : String) (index : Nat) (C nm ds : String) : Prop := Cond.fieldLink own index C nm ds ∈ plWG ∨ ∃ host : String, (own, index, C, nm, ds, host) ∈ plNF
theorem j_get (X : plX E cc own nL ret fr lo) {C : String} {T : u_T} {N ci index q0 kf a : Nat} {fs : List Value} {v : Value} (hin : ∀ x ∈ u_ws C T N, x ∈ plWG) (hc : plCl[ci]? = some (C, T, N)) (hk : kf < N) (hT : (T kf).1 = C) (he : w[q0]? = some (a, .inr (ci, fs))) (hv : fs[kf]? = some v) (hl : plFL own index C (T kf).2.1 (T kf).2.2.1) (d : decode cc pc = .ok (.getfield index, 3))
    (kk : plJ E nL w k n lv (pc + 3) (v :: st)) : plJ E nL w k n lv pc (.ref a :: st) := by
  intro H locs ls hl' hP hD hS
  rcases hl with hl | ⟨host, hl⟩
  · exact va_get X.1 X.2.1 X.2.2.2.2.1 hin X.2.2.2.1 X.2.2.2.2.2.1 hP q0 he hc kf hk (X.2.2.2.2.1 _ hl) (fun x hx => by rw [← hT]; exact hx) hv d (kk H locs ls hl' hP hD hS)
  · exact va_getN X.1 X.2.1 X.2.2.2.2.1 hin X.2.2.2.1 X.2.2.2.2.2.1 hP q0 he hc kf hk ((X.2.2.2.2.2.2.2.2.2.1 _ hl).use rfl) (fun x hx => by rw [← hT]; exact hx) hv d (kk H locs ls hl' hP hD hS)
theorem j_put (X : plX E cc own nL ret fr lo) {C : String} {T : u_T} {N ci index q0 kf a : Nat} {fs : List Value} {v : Value} {w' : va_W} {ty0 : Nat → FieldType} {ty : FieldType} (hin : ∀ x ∈ u_ws C T N, x ∈ plWG) (hc : plCl[ci]? = some (C, T, N)) (hk : kf < N) (hT : (T kf).1 = C) (hty : ∀ k, k < N → parseFieldDescriptor (T k).2.2.1 = some (ty0 k)) (hnm : ∀ a, a < N → ∀ b, b < N → a ≠ b → (T a).2.1 ≠ (T b).2.1) (hfin : (T kf).2.2.2 = false) (hd : parseFieldDescriptor (T kf).2.2.1 = some ty)
    (he : w[q0]? = some (a, .inr (ci, fs))) (hlen : kf < fs.length) (hw : w.set q0 (a, .inr (ci, fs.set kf v)) = w') (hn : narrow ty v = v) (hfit : fits ty v = true) (hl : plFL own index C (T kf).2.1 (T kf).2.2.1) (d : decode cc pc = .ok (.putfield index, 3))
    (kk : plJ E nL w' k n lv (pc + 3) st) : plJ E nL w k n lv pc (v :: .ref a :: st) := by
  subst hw
  intro H locs ls hl' hP hD hS
  rcases hl with hl | ⟨host, hl⟩
  · exact va_put X.1 X.2.1 X.2.2.2.2.1 hin ty0 hty hnm X.2.2.2.1 X.2.2.2.2.2.1 hP hD hS q0 he hc kf hk (X.2.2.2.2.1 _ hl) (fun x hx => by rw [← hT]; exact hx) hfin hd hn hfit hlen d (fun H1 locs1 hP1 hD1 hS1 => kk H1 locs1 ls hl' hP1 hD1 hS1)
  · exact va_putN X.1 X.2.1 X.2.2.2.2.1 hin ty0 hty hnm X.2.2.2.1 X.2.2.2.2.2.1 hP hD hS q0 he hc kf hk ((X.2.2.2.2.2.2.2.2.2.1 _ hl).use rfl) (fun x hx => by rw [← hT]; exact hx) hfin hd hn hfit hlen d (fun H1 locs1 hP1 hD1 hS1 => kk H1 locs1 ls hl' hP1 hD1 hS1)
theorem plB.narrow {v : Int32} (h : plB v) : narrow .boolean (.int v) = .int v := by rcases h with rfl | rfl <;> rfl
theorem plB.fits {v : Int32} (h : plB v) : fits .boolean (.int v) = true := by rcases h with rfl | rfl <;> rfl
theorem plB.nar {v : Int32} (h : plB v) : vp_nar .boolean v = v := by rcases h with rfl | rfl <;> rfl
theorem j_ald (X : plX E cc own nL ret fr lo) {q0 a len : Nat} {f : Nat → Int32} {i : Int32} (ha : w[q0]? = some (a, .inl (plgI (plg E), len, .inl f))) (hin : vp_in i len) (d : decode cc pc = .ok (.iaload, 1))
    (kk : plJ E nL w k n lv (pc + 1) (.int (f (plIx i)) :: st)) : plJ E nL w k n lv pc (.int i :: .ref a :: st) := fun H locs ls hl hP hD hS => va_iald X.1 X.2.1 X.2.2.2.2.2.1 hP q0 0 ha rfl hin d (kk H locs ls hl hP hD hS)
theorem j_zald (X : plX E cc own nL ret fr lo) {q0 a len : Nat} {f : Nat → Int32} {i : Int32} (ha : w[q0]? = some (a, .inl (plgZ (plg E), len, .inl f))) (hin : vp_in i len) (d : decode cc pc = .ok (.baload, 1))
    (kk : plJ E nL w k n lv (pc + 1) (.int (f (plIx i)) :: st)) : plJ E nL w k n lv pc (.int i :: .ref a :: st) := fun H locs ls hl hP hD hS => va_zald X.1 X.2.1 X.2.2.2.2.2.1 hP q0 1 ha rfl hin d (kk H locs ls hl hP hD hS)
theorem j_ast (X : plX E cc own nL ret fr lo) {q0 a len : Nat} {f : Nat → Int32} {i v : Int32} {w' : va_W} (ha : w[q0]? = some (a, .inl (plgI (plg E), len, .inl f))) (hw : w.set q0 (a, .inl (plgI (plg E), len, .inl (upd f (plIx i) v))) = w') (hin : vp_in i len) (d : decode cc pc = .ok (.iastore, 1))
    (kk : plJ E nL w' k n lv (pc + 1) st) : plJ E nL w k n lv pc (.int v :: .int i :: .ref a :: st) := by
  subst hw
  exact fun H locs ls hl hP hD hS => va_iast X.1 X.2.1 X.2.2.2.2.2.1 hP hD hS q0 0 ha rfl hin d (fun H1 locs1 hP1 hD1 hS1 => kk H1 locs1 ls hl hP1 hD1 hS1)
theorem j_zast (X : plX E cc own nL ret fr lo) {q0 a len : Nat} {f : Nat → Int32} {i v : Int32} {w' : va_W} (ha : w[q0]? = some (a, .inl (plgZ (plg E), len, .inl f))) (hw : w.set q0 (a, .inl (plgZ (plg E), len, .inl (upd f (plIx i) v))) = w') (hin : plB v ∧ vp_in i len) (d : decode cc pc = .ok (.bastore, 1))
    (kk : plJ E nL w' k n lv (pc + 1) st) : plJ E nL w k n lv pc (.int v :: .int i :: .ref a :: st) := by
  subst hw
  intro H locs ls hl hP hD hS
  have h := va_zast (x := v) (locs := locs) (ls := ls) (l := plgL (plg E)) (e := eE E) (R := eR E) (below := eB E) (meth := eT E) (args := eA E) (cells := k) (slots := n) (Q := eQ E) (rest := st) (pc := pc) (m := eM E) X.1 X.2.1 X.2.2.2.2.2.1 hP hD hS q0 1 ha rfl hin.2 d
  rw [hin.1.nar] at h
  exact h (fun H1 locs1 hP1 hD1 hS1 => kk H1 locs1 ls hl hP1 hD1 hS1)
theorem j_len (X : plX E cc own nL ret fr lo) {q0 a : Nat} {x : vp_A} {v : Int32} (ha : w[q0]? = some (a, .inl (plgI (plg E), x))) (hv : Int32.ofNat x.1 = v) (d : decode cc pc = .ok (.arraylength, 1))
    (kk : plJ E nL w k n lv (pc + 1) (.int v :: st)) : plJ E nL w k n lv pc (.ref a :: st) := fun H locs ls hl hP hD hS => va_alen X.1 X.2.1 X.2.2.2.2.2.1 hP q0 0 ha rfl hv d (kk H locs ls hl hP hD hS)
theorem j_getROW (X : plX E cc own nL ret fr lo) {index : Nat} (hl : Cond.fieldLink own index "ProtectedLine$Line" "ROW" "[I" ∈ plWG) (d : decode cc pc = .ok (.getstatic index, 3))
    (kk : plJ E nL w k n lv (pc + 3) (.ref (plaROW (plg E)) :: st)) : plJ E nL w k n lv pc st := fun H locs ls hl' hP hD hS => va_gets X.1 X.2.1 X.2.2.2.2.2.2.2.2.2.2.2.1 hS X.2.2.2.1 (X.2.2.2.2.1 _ hl) (fun x hx => hx) d (kk H locs ls hl' hP hD hS)
theorem j_getEMPTY (X : plX E cc own nL ret fr lo) {index : Nat} (hl : Cond.fieldLink own index "ProtectedLine$NodeA" "EMPTY" "[I" ∈ plWG) (d : decode cc pc = .ok (.getstatic index, 3))
    (kk : plJ E nL w k n lv (pc + 3) (.ref (plaEMPTY (plg E)) :: st)) : plJ E nL w k n lv pc st := fun H locs ls hl' hP hD hS => va_gets X.1 X.2.1 X.2.2.2.2.2.2.2.2.2.2.2.2.2.1 hS X.2.2.2.1 (X.2.2.2.2.1 _ hl) (fun x hx => hx) d (kk H locs ls hl' hP hD hS)
theorem j_aldROW (X : plX E cc own nL ret fr lo) {i : Int32} (hin : vp_in i 10) (d : decode cc pc = .ok (.iaload, 1)) (kk : plJ E nL w k n lv (pc + 1) (.int (plROW (plIx i)) :: st)) : plJ E nL w k n lv pc (.int i :: .ref (plaROW (plg E)) :: st) := fun H locs ls hl hP hD hS => va_ti X.1 X.2.1 X.2.2.2.2.2.2.2.2.2.2.2.2.1 hS hin rfl d (kk H locs ls hl hP hD hS)
theorem j_aldEMPTY (X : plX E cc own nL ret fr lo) {i : Int32} (hin : vp_in i 8) (d : decode cc pc = .ok (.iaload, 1)) (kk : plJ E nL w k n lv (pc + 1) (.int (plEMPTY (plIx i)) :: st)) : plJ E nL w k n lv pc (.int i :: .ref (plaEMPTY (plg E)) :: st) := fun H locs ls hl hP hD hS => va_ti X.1 X.2.1 X.2.2.2.2.2.2.2.2.2.2.2.2.2.2 hS hin rfl d (kk H locs ls hl hP hD hS)
theorem j_copy (X : plX E cc own nL ret fr lo) {index q0 q1 a0 a1 n0 n1 : Nat} {f g : Nat → Int32} {sp dp m : Int32} {w' : va_W} (ha0 : w[q0]? = some (a0, .inl (plgI (plg E), n0, .inl f))) (ha1 : w[q1]? = some (a1, .inl (plgI (plg E), n1, .inl g))) (hw : w.set q1 (a1, .inl (plgI (plg E), n1, .inl (va_cpy f g (plIx sp) (plIx dp) (plIx m)))) = w')
    (hl : Cond.methodLink own index arraycopyName ∈ plWG ∧ Cond.native arraycopyName ∈ plWG ∧ Cond.static arraycopyName ∈ plWG ∧ Cond.initialized "java/lang/System" ∈ plWG) (h : plCpOK n0 n1 sp dp m) (hfr : 1 ≤ fr) (hlo : (st.map fun v => v.category).sum + (nativeFrameWords "java/lang/System" "arraycopy" 5 + 11) ≤ lo) (d : decode cc pc = .ok (.invokestatic index, 3))
    (kk : plJ E nL w' k n lv (pc + 3) st) : plJ E nL w k n lv pc (.int m :: .int dp :: .ref a1 :: .int sp :: .ref a0 :: st) := by
  subst hw
  intro H locs ls hl' hP hD hS
  exact va_copyi X.1 X.2.1 (X.2.2.1.trans hl'.1.symm) X.2.2.2.1 (X.2.2.2.2.1 _ hl.1) (X.2.2.2.2.1 _ hl.2.1) (X.2.2.2.2.1 _ hl.2.2.1) (X.2.2.2.2.1 _ hl.2.2.2) X.2.2.2.2.2.1 hP hD hS q0 q1 0 0 ha0 ha1 rfl rfl rfl h.1 h.2.1 h.2.2.1 h.2.2.2.1 h.2.2.2.2 (fun i _ => rfl) (Nat.le_trans hfr X.2.2.2.2.2.2.2.2.1.1) (Nat.le_trans hlo X.2.2.2.2.2.2.2.2.1.2) d (fun H1 locs1 hP1 hD1 hS1 => kk H1 locs1 ls hl' hP1 hD1 hS1)
end
/-! contracts: an int and a state; an int (nothing changes); a state; a reference -/
def plMi (g : plG) (y : MethodName) (b : ByteArray) (mL : Nat) (rt : Option FieldType) (fr lo : Nat) (args : List Value) (wf : plS → va_W) (st : plS) (T : Int32 × plS) : Prop :=
  Met (plgL g) y (.code y b mL rt :: plWG) { frames := fr, cells := 0, slots := 0, locals := lo } (va_Pc args (plIn g (wf st))) (va_Qi (fun (r : Int32) (u : plS) => (r, u) = T) (fun u t => plOut g (wf u) t) (plgA g)) 0 0 (plgA g)
def plMp (g : plG) (y : MethodName) (b : ByteArray) (mL : Nat) (rt : Option FieldType) (fr lo : Nat) (args : List Value) (wf : plS → va_W) (st : plS) (T : Int32) : Prop :=
  Met (plgL g) y (.code y b mL rt :: plWG) { frames := fr, cells := 0, slots := 0, locals := lo } (va_Pc args (plIn g (wf st))) (va_Qi (fun (r : Int32) (u : plS) => r = T ∧ u = st) (fun u t => plOut g (wf u) t) (plgA g)) 0 0 (plgA g)
def plMv (g : plG) (y : MethodName) (b : ByteArray) (mL : Nat) (rt : Option FieldType) (fr lo : Nat) (args : List Value) (wf : plS → va_W) (st : plS) (T : plS) : Prop :=
  Met (plgL g) y (.code y b mL rt :: plWG) { frames := fr, cells := 0, slots := 0, locals := lo } (va_Pc args (plIn g (wf st))) (va_Qv (fun (u : plS) => u = T) (fun u t => plOut g (wf u) t) (plgA g)) 0 0 (plgA g)
def plMr (g : plG) (y : MethodName) (b : ByteArray) (mL : Nat) (rt : Option FieldType) (fr lo : Nat) (args : List Value) (wf : plS → va_W) (st : plS) (ra : Nat) : Prop :=
  Met (plgL g) y (.code y b mL rt :: plWG) { frames := fr, cells := 0, slots := 0, locals := lo } (va_Pc args (plIn g (wf st))) (va_Qr (fun (u : plS) => u = st) (fun u q t => q = ra ∧ plOut g (wf u) t) (plgA g)) 0 0 (plgA g)
def plRi (E : plE) (wf : plS → va_W) (T : Int32 × plS) : Prop := eQ E = MQ (eB E) (va_Qi (fun (r : Int32) (u : plS) => (r, u) = T) (fun u t => plOut (plg E) (wf u) t) (plgA (plg E))) (eA E) (eS E) 0 0 (plgA (plg E))
def plRp (E : plE) (wf : plS → va_W) (st : plS) (T : Int32) : Prop := eQ E = MQ (eB E) (va_Qi (fun (r : Int32) (u : plS) => r = T ∧ u = st) (fun u t => plOut (plg E) (wf u) t) (plgA (plg E))) (eA E) (eS E) 0 0 (plgA (plg E))
def plRv (E : plE) (wf : plS → va_W) (T : plS) : Prop := eQ E = MQ (eB E) (va_Qv (fun (u : plS) => u = T) (fun u t => plOut (plg E) (wf u) t) (plgA (plg E))) (eA E) (eS E) 0 0 (plgA (plg E))
def plRr (E : plE) (wf : plS → va_W) (st : plS) (ra : Nat) : Prop := eQ E = MQ (eB E) (va_Qr (fun (u : plS) => u = st) (fun u q t => q = ra ∧ plOut (plg E) (wf u) t) (plgA (plg E))) (eA E) (eS E) 0 0 (plgA (plg E))
section
variable {E : plE} {cc : ByteArray} {own : String} {nL : Nat} {ret : Option FieldType} {fr lo : Nat} {wf : plS → va_W} {lv : List (Nat × Value)} {pc : Nat} {s0 s1 : plS}
theorem j_reti {T : Int32 × plS} {v : Int32} (X : plX E cc own nL (some .int) fr lo) (hQ : plRi E wf T) (d : decode cc pc = .ok (.ireturn, 1)) (hk : T = (v, s1)) : plJ E nL (wf s1) 0 0 lv pc [.int v] := by
  intro H locs ls hl hP hD hS
  unfold plRi at hQ
  rw [hQ]
  exact W.iret X.1 X.2.1 X.2.2.2.2.2.2.2.1 (fun t ht hW => ⟨⟨v, s1, rfl, hk.symm, by rw [ht]; exact hP, hD⟩, hS.F ht⟩) hS.2.2 d X.2.2.2.2.2.2.1
theorem j_retz {T : Int32 × plS} {v : Int32} (X : plX E cc own nL (some .boolean) fr lo) (hQ : plRi E wf T) (d : decode cc pc = .ok (.ireturn, 1)) (hz : plB v) (hk : T = (v, s1)) : plJ E nL (wf s1) 0 0 lv pc [.int v] := by
  intro H locs ls hl hP hD hS
  unfold plRi at hQ
  rw [hQ]
  exact W.zret X.1 X.2.1 X.2.2.2.2.2.2.2.1 hz.narrow (fun t ht hW => ⟨⟨v, s1, rfl, hk.symm, by rw [ht]; exact hP, hD⟩, hS.F ht⟩) hS.2.2 d X.2.2.2.2.2.2.1
theorem j_retip {T : Int32} {v : Int32} (X : plX E cc own nL (some .int) fr lo) (hQ : plRp E wf s0 T) (d : decode cc pc = .ok (.ireturn, 1)) (hk : T = v) : plJ E nL (wf s0) 0 0 lv pc [.int v] := by
  intro H locs ls hl hP hD hS
  unfold plRp at hQ
  rw [hQ]
  exact W.iret X.1 X.2.1 X.2.2.2.2.2.2.2.1 (fun t ht hW => ⟨⟨v, s0, rfl, ⟨hk.symm, rfl⟩, by rw [ht]; exact hP, hD⟩, hS.F ht⟩) hS.2.2 d X.2.2.2.2.2.2.1
theorem j_retzp {T : Int32} {v : Int32} (X : plX E cc own nL (some .boolean) fr lo) (hQ : plRp E wf s0 T) (d : decode cc pc = .ok (.ireturn, 1)) (hz : plB v) (hk : T = v) : plJ E nL (wf s0) 0 0 lv pc [.int v] := by
  intro H locs ls hl hP hD hS
  unfold plRp at hQ
  rw [hQ]
  exact W.zret X.1 X.2.1 X.2.2.2.2.2.2.2.1 hz.narrow (fun t ht hW => ⟨⟨v, s0, rfl, ⟨hk.symm, rfl⟩, by rw [ht]; exact hP, hD⟩, hS.F ht⟩) hS.2.2 d X.2.2.2.2.2.2.1
theorem j_retv {T : plS} (X : plX E cc own nL none fr lo) (hQ : plRv E wf T) (d : decode cc pc = .ok (.return_, 1)) (hk : T = s1) : plJ E nL (wf s1) 0 0 lv pc [] := by
  intro H locs ls hl hP hD hS
  unfold plRv at hQ
  rw [hQ]
  exact W.vret X.1 X.2.1 X.2.2.2.2.2.2.2.1 (fun t ht hW => ⟨⟨s1, rfl, hk.symm, by rw [ht]; exact hP, hD⟩, hS.F ht⟩) hS.2.2 d X.2.2.2.2.2.2.1
theorem j_reta {ra : Nat} {C : String} (X : plX E cc own nL (some (.object C)) fr lo) (hQ : plRr E wf s0 ra) (d : decode cc pc = .ok (.areturn, 1)) : plJ E nL (wf s0) 0 0 lv pc [.ref ra] := by
  intro H locs ls hl hP hD hS
  unfold plRr at hQ
  rw [hQ]
  exact W.aret X.1 X.2.1 X.2.2.2.2.2.2.2.1 (Or.inl ⟨C, rfl⟩) (Or.inr ⟨ra, rfl⟩) (fun t ht hW => ⟨⟨s0, ra, rfl, rfl, rfl, by rw [ht]; exact hP, hD⟩, hS.F ht⟩) hS.2.2 d X.2.2.2.2.2.2.1
end
/-! calls -/
theorem plGoodIn {y : MethodName} {b : ByteArray} {mL : Nat} {rt : Option FieldType} (hc : Cond.code y b mL rt ∈ plWG) : GoodIn plWG (.code y b mL rt :: plWG) := by
  intro x hx
  rcases List.mem_cons.mp hx with rfl | h
  · exact ⟨hc, plGood _ hc⟩
  · exact ⟨h, plGood _ h⟩
def plMN (y : MethodName) (n : Nat) : Prop := y.cls ≠ "java/lang/invoke/MethodHandle" ∧ y.cls ≠ "java/lang/invoke/VarHandle" ∧ (parseMethodDescriptor y.desc).map (fun d => d.parameters.length) = some n
/-- what a virtual, a static call needs of the words -/
def plCV (own : String) (index : Nat) (y : MethodName) (b : ByteArray) (mL : Nat) (rt : Option FieldType) (n : Nat) : Prop :=
  (Cond.methodLink own index y ∈ plWG ∨ ∃ host : String, (own, index, y, host) ∈ plNM) ∧ Cond.instanceMethod y ∈ plWG ∧ Cond.selects y.cls y y ∈ plWG ∧ Cond.initialized y.cls ∈ plWG ∧ Cond.code y b mL rt ∈ plWG ∧ plMN y n
def plCS (own : String) (index : Nat) (y : MethodName) (b : ByteArray) (mL : Nat) (rt : Option FieldType) (n : Nat) : Prop :=
  (Cond.methodLink own index y ∈ plWG ∨ ∃ host : String, (own, index, y, host) ∈ plNM) ∧ Cond.static y ∈ plWG ∧ Cond.initialized y.cls ∈ plWG ∧ Cond.code y b mL rt ∈ plWG ∧ plMN y n
section
variable {E : plE} {cc : ByteArray} {own : String} {nL : Nat} {ret : Option FieldType} {fr lo : Nat} {lv : List (Nat × Value)} {pc : Nat} {y : MethodName} {b : ByteArray} {mL : Nat} {rt : Option FieldType} {fr' lo' : Nat} {index m : Nat} {As rest stk : List Value} {w : va_W} {k n : Nat}
theorem plRunV (X : plX E cc own nL ret fr lo) {Qc : Array Value → State → Outcome → State → Prop} {ba : Nat} (hM : Met (plgL (plg E)) y (.code y b mL rt :: plWG) { frames := fr', cells := 0, slots := 0, locals := lo' } (va_Pc (.ref ba :: As) (plIn (plg E) w)) Qc 0 0 (plgA (plg E))) (hL : plCV own index y b mL rt m) {q0 ci : Nat} {fs : List Value} (hb : w[q0]? = some (ba, .inr (ci, fs))) {TT : u_T} {N : Nat} (hc : plCl[ci]? = some (y.cls, TT, N)) (hR : fr' + 1 ≤ fr ∧ 8 + (mL + 11) + lo' ≤ lo) (hn : As.length = m) (hst : stk = As.reverse ++ .ref ba :: rest) (hW : (rest.map fun v => v.category).sum ≤ 8) (d : decode cc pc = .ok (.invokevirtual index, 3))
    {H : Heap} {locs : List Loc} {ls : Array Slot} (hl : lv_has ls nL lv) (hP : va_P (plgD (plg E)) plCl w H) (hD : va_D (plgA (plg E)) w) (hS : va_S (plgA (plg E)) (eS E).heap H locs) :
    va_Run (eP E) (plgL (plg E)) (eE E) (eR E) (eS E) (eM E) (eA E) (eB E) (eT E) (eC E) H locs 0 0 0 0 (F0 (eM E) pc ls stk) rest (Qc (Value.ref ba :: As).toArray) (plgA (plg E)) := by
  obtain ⟨hlk, hi, hs, hini, hcd, hmn⟩ := hL
  have hts := X.2.2.2.2.1
  have hpre : PreV (eS E) H y.cls ba (va_Pc (.ref ba :: As) (plIn (plg E) w)) As := ⟨fun a U g mk q => ⟨q.1, q.2.blind⟩, va_recv X.2.2.2.2.2.1 hP hc hb, fun U hU hW => ⟨rfl, by rw [hU]; exact hP, va_K.moved hW.alike X.2.2.2.2.2.1, hD, X.2.2.2.2.2.2.2.2.2.go hW hS hU⟩⟩
  have hRR : fr' + 1 ≤ (eR E).frames ∧ 8 + (mL + 11) + lo' ≤ (eR E).locals := ⟨Nat.le_trans hR.1 X.2.2.2.2.2.2.2.2.1.1, Nat.le_trans hR.2 X.2.2.2.2.2.2.2.2.1.2⟩
  rcases hlk with hlk | ⟨host, hlk⟩
  · refine va_runV (As := As) (rest := rest) (C := y.cls) ⟨X.1, X.2.1, X.2.2.1, X.2.2.2.1, hts⟩ hM (cwV m hts (fun x hx => ?_) rfl rfl rfl ⟨rfl, hmn⟩ hRR) hpre rfl hn hl.1 hst (lv_room hW) d ⟨Nat.zero_le _, Nat.zero_le _⟩
    unfold wsV at hx
    rcases List.mem_append.mp hx with h | h
    · simp only [List.mem_cons, List.not_mem_nil, or_false] at h
      rcases h with rfl | rfl | rfl | rfl
      · exact ⟨hlk, plGood _ hlk⟩
      · exact ⟨hi, plGood _ hi⟩
      · exact ⟨hs, plGood _ hs⟩
      · exact ⟨hini, plGood _ hini⟩
    · exact plGoodIn hcd x h
  · exact va_runVN (As := As) (rest := rest) (C := y.cls) (host := host) ⟨X.1, X.2.1, X.2.2.1, X.2.2.2.1, hts⟩ hM ⟨va_cnB m hts (plGoodIn hcd) rfl rfl rfl (X.2.2.2.2.2.2.2.2.2.2.1 _ hlk) (hts _ hini) hmn hRR, hts _ hi, hts _ hs⟩ hpre rfl hn hl.1 hst (lv_room hW) d ⟨Nat.zero_le _, Nat.zero_le _⟩
theorem plRunS (X : plX E cc own nL ret fr lo) {Qc : Array Value → State → Outcome → State → Prop} (hM : Met (plgL (plg E)) y (.code y b mL rt :: plWG) { frames := fr', cells := 0, slots := 0, locals := lo' } (va_Pc As (plIn (plg E) w)) Qc 0 0 (plgA (plg E))) (hL : plCS own index y b mL rt m) (hR : fr' + 1 ≤ fr ∧ 8 + (mL + 11) + lo' ≤ lo) (hn : As.length = m) (hst : stk = As.reverse ++ rest) (hW : (rest.map fun v => v.category).sum ≤ 8) (d : decode cc pc = .ok (.invokestatic index, 3))
    {H : Heap} {locs : List Loc} {ls : Array Slot} (hl : lv_has ls nL lv) (hP : va_P (plgD (plg E)) plCl w H) (hD : va_D (plgA (plg E)) w) (hS : va_S (plgA (plg E)) (eS E).heap H locs) :
    va_Run (eP E) (plgL (plg E)) (eE E) (eR E) (eS E) (eM E) (eA E) (eB E) (eT E) (eC E) H locs 0 0 0 0 (F0 (eM E) pc ls stk) rest (Qc As.toArray) (plgA (plg E)) := by
  obtain ⟨hlk, hs, hini, hcd, hmn⟩ := hL
  have hts := X.2.2.2.2.1
  have hpre : PreS (eS E) H (va_Pc As (plIn (plg E) w)) As := ⟨fun a U g mk q => ⟨q.1, q.2.blind⟩, fun U hU hW => ⟨rfl, by rw [hU]; exact hP, va_K.moved hW.alike X.2.2.2.2.2.1, hD, X.2.2.2.2.2.2.2.2.2.go hW hS hU⟩⟩
  have hRR : fr' + 1 ≤ (eR E).frames ∧ 8 + (mL + 11) + lo' ≤ (eR E).locals := ⟨Nat.le_trans hR.1 X.2.2.2.2.2.2.2.2.1.1, Nat.le_trans hR.2 X.2.2.2.2.2.2.2.2.1.2⟩
  rcases hlk with hlk | ⟨host, hlk⟩
  · refine va_runS (As := As) (rest := rest) ⟨X.1, X.2.1, X.2.2.1, X.2.2.2.1, hts⟩ hM (va_cwS m hts (fun x hx => ?_) rfl rfl rfl hmn hRR) hpre rfl hn hl.1 hst (lv_room hW) d ⟨Nat.zero_le _, Nat.zero_le _⟩
    unfold va_wsS at hx
    rcases List.mem_append.mp hx with h | h
    · simp only [List.mem_cons, List.not_mem_nil, or_false] at h
      rcases h with rfl | rfl | rfl
      · exact ⟨hlk, plGood _ hlk⟩
      · exact ⟨hs, plGood _ hs⟩
      · exact ⟨hini, plGood _ hini⟩
    · exact plGoodIn hcd x h
  · exact va_runSN (As := As) (rest := rest) (host := host) ⟨X.1, X.2.1, X.2.2.1, X.2.2.2.1, hts⟩ hM ⟨va_cnB m hts (plGoodIn hcd) rfl rfl rfl (X.2.2.2.2.2.2.2.2.2.2.1 _ hlk) (hts _ hini) hmn hRR, hts _ hs, trivial⟩ hpre rfl hn hl.1 hst (lv_room hW) d ⟨Nat.zero_le _, Nat.zero_le _⟩
variable {wf : plS → va_W} {s0 : plS}
theorem j_callVi {T : Int32 × plS} (X : plX E cc own nL ret fr lo) {ba : Nat} (hM : plMi (plg E) y b mL rt fr' lo' (.ref ba :: As) wf s0 T) (hL : plCV own index y b mL rt m) (q0 : Nat) {ci : Nat} {fs : List Value} (hb : (wf s0)[q0]? = some (ba, .inr (ci, fs))) {TT : u_T} {N : Nat} (hc : plCl[ci]? = some (y.cls, TT, N)) (hR : fr' + 1 ≤ fr ∧ 8 + (mL + 11) + lo' ≤ lo) (hn : As.length = m) (hst : stk = As.reverse ++ .ref ba :: rest) (hW : (rest.map fun v => v.category).sum ≤ 8) (d : decode cc pc = .ok (.invokevirtual index, 3))
    (kk : plJ E nL (wf T.2) 0 0 lv (pc + 3) (.int T.1 :: rest)) : plJ E nL (wf s0) 0 0 lv pc stk := by
  intro H locs ls hl hP hD hS
  refine va_calli (plRunV X hM hL hb hc hR hn hst hW d hl hP hD hS) hS (fun q _ h => h) (fun q h => h) (fun r u t H1 locs1 ht hvm hp hB hz hk hS1 => ?_)
  cases hp
  subst ht
  exact kk t.heap locs1 ls hl hB.1 hB.2 hS1
theorem j_callVp {T : Int32} (X : plX E cc own nL ret fr lo) {ba : Nat} (hM : plMp (plg E) y b mL rt fr' lo' (.ref ba :: As) wf s0 T) (hL : plCV own index y b mL rt m) (q0 : Nat) {ci : Nat} {fs : List Value} (hb : (wf s0)[q0]? = some (ba, .inr (ci, fs))) {TT : u_T} {N : Nat} (hc : plCl[ci]? = some (y.cls, TT, N)) (hR : fr' + 1 ≤ fr ∧ 8 + (mL + 11) + lo' ≤ lo) (hn : As.length = m) (hst : stk = As.reverse ++ .ref ba :: rest) (hW : (rest.map fun v => v.category).sum ≤ 8) (d : decode cc pc = .ok (.invokevirtual index, 3))
    (kk : plJ E nL (wf s0) 0 0 lv (pc + 3) (.int T :: rest)) : plJ E nL (wf s0) 0 0 lv pc stk := by
  intro H locs ls hl hP hD hS
  refine va_calli (plRunV X hM hL hb hc hR hn hst hW d hl hP hD hS) hS (fun q _ h => h) (fun q h => h) (fun r u t H1 locs1 ht hvm hp hB hz hk hS1 => ?_)
  obtain ⟨rfl, rfl⟩ := hp
  subst ht
  exact kk t.heap locs1 ls hl hB.1 hB.2 hS1
theorem j_callVv {T : plS} (X : plX E cc own nL ret fr lo) {ba : Nat} (hM : plMv (plg E) y b mL rt fr' lo' (.ref ba :: As) wf s0 T) (hL : plCV own index y b mL rt m) (q0 : Nat) {ci : Nat} {fs : List Value} (hb : (wf s0)[q0]? = some (ba, .inr (ci, fs))) {TT : u_T} {N : Nat} (hc : plCl[ci]? = some (y.cls, TT, N)) (hR : fr' + 1 ≤ fr ∧ 8 + (mL + 11) + lo' ≤ lo) (hn : As.length = m) (hst : stk = As.reverse ++ .ref ba :: rest) (hW : (rest.map fun v => v.category).sum ≤ 8) (d : decode cc pc = .ok (.invokevirtual index, 3))
    (kk : plJ E nL (wf T) 0 0 lv (pc + 3) rest) : plJ E nL (wf s0) 0 0 lv pc stk := by
  intro H locs ls hl hP hD hS
  refine va_callv (plRunV X hM hL hb hc hR hn hst hW d hl hP hD hS) hS (fun q _ h => h) (fun q h => h) (fun u t H1 locs1 ht hvm hp hB hz hk hS1 => ?_)
  subst hp
  subst ht
  exact kk t.heap locs1 ls hl hB.1 hB.2 hS1
theorem j_callVr {ra : Nat} (X : plX E cc own nL ret fr lo) {ba : Nat} (hM : plMr (plg E) y b mL rt fr' lo' (.ref ba :: As) wf s0 ra) (hL : plCV own index y b mL rt m) (q0 : Nat) {ci : Nat} {fs : List Value} (hb : (wf s0)[q0]? = some (ba, .inr (ci, fs))) {TT : u_T} {N : Nat} (hc : plCl[ci]? = some (y.cls, TT, N)) (hR : fr' + 1 ≤ fr ∧ 8 + (mL + 11) + lo' ≤ lo) (hn : As.length = m) (hst : stk = As.reverse ++ .ref ba :: rest) (hW : (rest.map fun v => v.category).sum ≤ 8) (d : decode cc pc = .ok (.invokevirtual index, 3))
    (kk : plJ E nL (wf s0) 0 0 lv (pc + 3) (.ref ra :: rest)) : plJ E nL (wf s0) 0 0 lv pc stk := by
  intro H locs ls hl hP hD hS
  refine va_callr (plRunV X hM hL hb hc hR hn hst hW d hl hP hD hS) hS (fun q _ h => h) (fun q h => h) (fun u q t H1 locs1 ht hvm hp hB hz hk hS1 => ?_)
  subst hp
  obtain ⟨rfl, hB⟩ := hB
  subst ht
  exact kk t.heap locs1 ls hl hB.1 hB.2 hS1
theorem j_callSi {T : Int32 × plS} (X : plX E cc own nL ret fr lo) (hM : plMi (plg E) y b mL rt fr' lo' As wf s0 T) (hL : plCS own index y b mL rt m) (hR : fr' + 1 ≤ fr ∧ 8 + (mL + 11) + lo' ≤ lo) (hn : As.length = m) (hst : stk = As.reverse ++ rest) (hW : (rest.map fun v => v.category).sum ≤ 8) (d : decode cc pc = .ok (.invokestatic index, 3))
    (kk : plJ E nL (wf T.2) 0 0 lv (pc + 3) (.int T.1 :: rest)) : plJ E nL (wf s0) 0 0 lv pc stk := by
  intro H locs ls hl hP hD hS
  refine va_calli (plRunS X hM hL hR hn hst hW d hl hP hD hS) hS (fun q _ h => h) (fun q h => h) (fun r u t H1 locs1 ht hvm hp hB hz hk hS1 => ?_)
  cases hp
  subst ht
  exact kk t.heap locs1 ls hl hB.1 hB.2 hS1
theorem j_callSp {T : Int32} (X : plX E cc own nL ret fr lo) (hM : plMp (plg E) y b mL rt fr' lo' As wf s0 T) (hL : plCS own index y b mL rt m) (hR : fr' + 1 ≤ fr ∧ 8 + (mL + 11) + lo' ≤ lo) (hn : As.length = m) (hst : stk = As.reverse ++ rest) (hW : (rest.map fun v => v.category).sum ≤ 8) (d : decode cc pc = .ok (.invokestatic index, 3))
    (kk : plJ E nL (wf s0) 0 0 lv (pc + 3) (.int T :: rest)) : plJ E nL (wf s0) 0 0 lv pc stk := by
  intro H locs ls hl hP hD hS
  refine va_calli (plRunS X hM hL hR hn hst hW d hl hP hD hS) hS (fun q _ h => h) (fun q h => h) (fun r u t H1 locs1 ht hvm hp hB hz hk hS1 => ?_)
  obtain ⟨rfl, rfl⟩ := hp
  subst ht
  exact kk t.heap locs1 ls hl hB.1 hB.2 hS1
theorem j_callSv {T : plS} (X : plX E cc own nL ret fr lo) (hM : plMv (plg E) y b mL rt fr' lo' As wf s0 T) (hL : plCS own index y b mL rt m) (hR : fr' + 1 ≤ fr ∧ 8 + (mL + 11) + lo' ≤ lo) (hn : As.length = m) (hst : stk = As.reverse ++ rest) (hW : (rest.map fun v => v.category).sum ≤ 8) (d : decode cc pc = .ok (.invokestatic index, 3))
    (kk : plJ E nL (wf T) 0 0 lv (pc + 3) rest) : plJ E nL (wf s0) 0 0 lv pc stk := by
  intro H locs ls hl hP hD hS
  refine va_callv (plRunS X hM hL hR hn hst hW d hl hP hD hS) hS (fun q _ h => h) (fun q h => h) (fun u t H1 locs1 ht hvm hp hB hz hk hS1 => ?_)
  subst hp
  subst ht
  exact kk t.heap locs1 ls hl hB.1 hB.2 hS1
theorem j_callSr {ra : Nat} (X : plX E cc own nL ret fr lo) (hM : plMr (plg E) y b mL rt fr' lo' As wf s0 ra) (hL : plCS own index y b mL rt m) (hR : fr' + 1 ≤ fr ∧ 8 + (mL + 11) + lo' ≤ lo) (hn : As.length = m) (hst : stk = As.reverse ++ rest) (hW : (rest.map fun v => v.category).sum ≤ 8) (d : decode cc pc = .ok (.invokestatic index, 3))
    (kk : plJ E nL (wf s0) 0 0 lv (pc + 3) (.ref ra :: rest)) : plJ E nL (wf s0) 0 0 lv pc stk := by
  intro H locs ls hl hP hD hS
  refine va_callr (plRunS X hM hL hR hn hst hW d hl hP hD hS) hS (fun q _ h => h) (fun q h => h) (fun u q t H1 locs1 ht hvm hp hB hz hk hS1 => ?_)
  subst hp
  obtain ⟨rfl, hB⟩ := hB
  subst ht
  exact kk t.heap locs1 ls hl hB.1 hB.2 hS1
end
theorem plMi.of {g : plG} {y : MethodName} {b : ByteArray} {mL : Nat} {rt : Option FieldType} {fr lo : Nat} {args : List Value} {wf : plS → va_W} {s0 : plS} {T : Int32 × plS} {own : String} {lv : List (Nat × Value)} (hy : plainName y.cls = true) (ho : y.cls = own) (hn : (lg_sl args).length ≤ mL) (hlv : lv_args 0 args = lv)
    (body : ∀ E : plE, plg E = g → plX E b own mL rt fr lo → plRi E wf T → plJ E mL (wf s0) 0 0 lv 0 []) : plMi g y b mL rt fr lo args wf s0 T := by
  unfold plMi
  refine Met.ofW (cc := b) (maxL := mL) (ret := rt) hy rfl ?_
  intro p e s m args' below meth c s₁ B hml hv
  obtain ⟨rfl, hP, hK, hD, hX⟩ := hv
  have hts := atoms_spec (ws := .code y b mL rt :: plWG) B.pre
  have hown := findClass_of_methodNamed B.named
  have hl := lv_entry args (n := mL) hn
  rw [lg_entry_eq]
  generalize (lg_sl args ++ List.replicate (mL - (lg_sl args).length) Slot.unset).toArray = ls at hl ⊢
  rw [hlv] at hl
  subst ho
  exact body (g, p, e, (headSpec (.code y b mL rt :: plWG) { frames := fr, cells := 0, slots := 0, locals := lo }).room, s, m, args.toArray, below, meth, c, MQ below (va_Qi (fun (r : Int32) (u : plS) => (r, u) = T) (fun u t => plOut g (wf u) t) (plgA g)) args.toArray s 0 0 (plgA g)) rfl ⟨B.exec, B.bytes, hml, hown, fun x h => hts x (List.mem_cons_of_mem _ h), hK, B.notSynchronized, B.returns, ⟨Nat.le_refl _, Nat.le_refl _⟩, hX⟩ rfl s.heap [] ls hl hP hD va_S.rf
theorem plMp.of {g : plG} {y : MethodName} {b : ByteArray} {mL : Nat} {rt : Option FieldType} {fr lo : Nat} {args : List Value} {wf : plS → va_W} {s0 : plS} {T : Int32} {own : String} {lv : List (Nat × Value)} (hy : plainName y.cls = true) (ho : y.cls = own) (hn : (lg_sl args).length ≤ mL) (hlv : lv_args 0 args = lv)
    (body : ∀ E : plE, plg E = g → plX E b own mL rt fr lo → plRp E wf s0 T → plJ E mL (wf s0) 0 0 lv 0 []) : plMp g y b mL rt fr lo args wf s0 T := by
  unfold plMp
  refine Met.ofW (cc := b) (maxL := mL) (ret := rt) hy rfl ?_
  intro p e s m args' below meth c s₁ B hml hv
  obtain ⟨rfl, hP, hK, hD, hX⟩ := hv
  have hts := atoms_spec (ws := .code y b mL rt :: plWG) B.pre
  have hown := findClass_of_methodNamed B.named
  have hl := lv_entry args (n := mL) hn
  rw [lg_entry_eq]
  generalize (lg_sl args ++ List.replicate (mL - (lg_sl args).length) Slot.unset).toArray = ls at hl ⊢
  rw [hlv] at hl
  subst ho
  exact body (g, p, e, (headSpec (.code y b mL rt :: plWG) { frames := fr, cells := 0, slots := 0, locals := lo }).room, s, m, args.toArray, below, meth, c, MQ below (va_Qi (fun (r : Int32) (u : plS) => r = T ∧ u = s0) (fun u t => plOut g (wf u) t) (plgA g)) args.toArray s 0 0 (plgA g)) rfl ⟨B.exec, B.bytes, hml, hown, fun x h => hts x (List.mem_cons_of_mem _ h), hK, B.notSynchronized, B.returns, ⟨Nat.le_refl _, Nat.le_refl _⟩, hX⟩ rfl s.heap [] ls hl hP hD va_S.rf
theorem plMv.of {g : plG} {y : MethodName} {b : ByteArray} {mL : Nat} {rt : Option FieldType} {fr lo : Nat} {args : List Value} {wf : plS → va_W} {s0 : plS} {T : plS} {own : String} {lv : List (Nat × Value)} (hy : plainName y.cls = true) (ho : y.cls = own) (hn : (lg_sl args).length ≤ mL) (hlv : lv_args 0 args = lv)
    (body : ∀ E : plE, plg E = g → plX E b own mL rt fr lo → plRv E wf T → plJ E mL (wf s0) 0 0 lv 0 []) : plMv g y b mL rt fr lo args wf s0 T := by
  unfold plMv
  refine Met.ofW (cc := b) (maxL := mL) (ret := rt) hy rfl ?_
  intro p e s m args' below meth c s₁ B hml hv
  obtain ⟨rfl, hP, hK, hD, hX⟩ := hv
  have hts := atoms_spec (ws := .code y b mL rt :: plWG) B.pre
  have hown := findClass_of_methodNamed B.named
  have hl := lv_entry args (n := mL) hn
  rw [lg_entry_eq]
  generalize (lg_sl args ++ List.replicate (mL - (lg_sl args).length) Slot.unset).toArray = ls at hl ⊢
  rw [hlv] at hl
  subst ho
  exact body (g, p, e, (headSpec (.code y b mL rt :: plWG) { frames := fr, cells := 0, slots := 0, locals := lo }).room, s, m, args.toArray, below, meth, c, MQ below (va_Qv (fun (u : plS) => u = T) (fun u t => plOut g (wf u) t) (plgA g)) args.toArray s 0 0 (plgA g)) rfl ⟨B.exec, B.bytes, hml, hown, fun x h => hts x (List.mem_cons_of_mem _ h), hK, B.notSynchronized, B.returns, ⟨Nat.le_refl _, Nat.le_refl _⟩, hX⟩ rfl s.heap [] ls hl hP hD va_S.rf
theorem plMr.of {g : plG} {y : MethodName} {b : ByteArray} {mL : Nat} {rt : Option FieldType} {fr lo : Nat} {args : List Value} {wf : plS → va_W} {s0 : plS} {ra : Nat} {own : String} {lv : List (Nat × Value)} (hy : plainName y.cls = true) (ho : y.cls = own) (hn : (lg_sl args).length ≤ mL) (hlv : lv_args 0 args = lv)
    (body : ∀ E : plE, plg E = g → plX E b own mL rt fr lo → plRr E wf s0 ra → plJ E mL (wf s0) 0 0 lv 0 []) : plMr g y b mL rt fr lo args wf s0 ra := by
  unfold plMr
  refine Met.ofW (cc := b) (maxL := mL) (ret := rt) hy rfl ?_
  intro p e s m args' below meth c s₁ B hml hv
  obtain ⟨rfl, hP, hK, hD, hX⟩ := hv
  have hts := atoms_spec (ws := .code y b mL rt :: plWG) B.pre
  have hown := findClass_of_methodNamed B.named
  have hl := lv_entry args (n := mL) hn
  rw [lg_entry_eq]
  generalize (lg_sl args ++ List.replicate (mL - (lg_sl args).length) Slot.unset).toArray = ls at hl ⊢
  rw [hlv] at hl
  subst ho
  exact body (g, p, e, (headSpec (.code y b mL rt :: plWG) { frames := fr, cells := 0, slots := 0, locals := lo }).room, s, m, args.toArray, below, meth, c, MQ below (va_Qr (fun (u : plS) => u = s0) (fun u q t => q = ra ∧ plOut g (wf u) t) (plgA g)) args.toArray s 0 0 (plgA g)) rfl ⟨B.exec, B.bytes, hml, hown, fun x h => hts x (List.mem_cons_of_mem _ h), hK, B.notSynchronized, B.returns, ⟨Nat.le_refl _, Nat.le_refl _⟩, hX⟩ rfl s.heap [] ls hl hP hD va_S.rf

