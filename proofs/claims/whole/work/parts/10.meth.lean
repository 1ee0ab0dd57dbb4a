theorem d_CO_hash_0 : decode b_CO_hash 0 = .ok (.iload_n 0, 1) := by decide +kernel
theorem d_CO_hash_1 : decode b_CO_hash 1 = .ok (.istore_n 1, 1) := by decide +kernel
theorem d_CO_hash_2 : decode b_CO_hash 2 = .ok (.iconst 0, 1) := by decide +kernel
theorem d_CO_hash_3 : decode b_CO_hash 3 = .ok (.istore_n 2, 1) := by decide +kernel
theorem d_CO_hash_4 : decode b_CO_hash 4 = .ok (.iload_n 2, 1) := by decide +kernel
theorem d_CO_hash_5 : decode b_CO_hash 5 = .ok (.bipush (8), 2) := by decide +kernel
theorem d_CO_hash_7 : decode b_CO_hash 7 = .ok (.if_icmp .ge (33), 3) := by decide +kernel
theorem d_CO_hash_10 : decode b_CO_hash 10 = .ok (.iload_n 1, 1) := by decide +kernel
theorem d_CO_hash_11 : decode b_CO_hash 11 = .ok (.sipush (128), 3) := by decide +kernel
theorem d_CO_hash_14 : decode b_CO_hash 14 = .ok (.if_icmp .lt (16), 3) := by decide +kernel
theorem d_CO_hash_17 : decode b_CO_hash 17 = .ok (.iconst 2, 1) := by decide +kernel
theorem d_CO_hash_18 : decode b_CO_hash 18 = .ok (.iload_n 1, 1) := by decide +kernel
theorem d_CO_hash_19 : decode b_CO_hash 19 = .ok (.imul, 1) := by decide +kernel
theorem d_CO_hash_20 : decode b_CO_hash 20 = .ok (.bipush (7), 2) := by decide +kernel
theorem d_CO_hash_22 : decode b_CO_hash 22 = .ok (.ixor, 1) := by decide +kernel
theorem d_CO_hash_23 : decode b_CO_hash 23 = .ok (.sipush (255), 3) := by decide +kernel
theorem d_CO_hash_26 : decode b_CO_hash 26 = .ok (.iand, 1) := by decide +kernel
theorem d_CO_hash_27 : decode b_CO_hash 27 = .ok (.goto (6), 3) := by decide +kernel
theorem d_CO_hash_30 : decode b_CO_hash 30 = .ok (.iconst 2, 1) := by decide +kernel
theorem d_CO_hash_31 : decode b_CO_hash 31 = .ok (.iload_n 1, 1) := by decide +kernel
theorem d_CO_hash_32 : decode b_CO_hash 32 = .ok (.imul, 1) := by decide +kernel
theorem d_CO_hash_33 : decode b_CO_hash 33 = .ok (.istore_n 1, 1) := by decide +kernel
theorem d_CO_hash_34 : decode b_CO_hash 34 = .ok (.iinc 2 (1), 3) := by decide +kernel
theorem d_CO_hash_37 : decode b_CO_hash 37 = .ok (.goto (-33), 3) := by decide +kernel
theorem d_CO_hash_40 : decode b_CO_hash 40 = .ok (.iload_n 1, 1) := by decide +kernel
theorem d_CO_hash_41 : decode b_CO_hash 41 = .ok (.ireturn, 1) := by decide +kernel
def K_CO_hash_4L33 (v2 : Int32) (k0 : Int32) : Bool × (Int32 × Int32) := (true, (k0, v2 + 1))
set_option maxRecDepth 20000 in
theorem j_CO_hash_4L33 {E : plE} (X : plX E b_CO_hash "ProtectedLine$Code" 3 (some .int) 0 0) (a : Nat → Nat) (T : Bool × (Int32 × Int32)) (st : plS)  (hb : ∀ (c0 : Int32) (c1 : Int32), T = (true, (c0, c1)) → plJ E 3 (plwC (plg E) a st) 0 0 [(1, .int c0), (2, .int c1)] 4 []) (hx : ∀ (c0 : Int32) (c1 : Int32), T = (false, (c0, c1)) → plJ E 3 (plwC (plg E) a st) 0 0 [(1, .int c0), (2, .int c1)] 40 []) (v2 : Int32) (k0 : Int32) (hk : T = K_CO_hash_4L33 v2 k0) : plJ E 3 (plwC (plg E) a st) 0 0 [(2, .int v2)] 33 [.int k0] := by
  unfold K_CO_hash_4L33 at hk
  refine j_istore_n (pc := 33) X d_CO_hash_33 rfl (lv' := [(1, .int k0), (2, .int v2)]) (Nat.le_of_ble_eq_true rfl) rfl ?_
  refine j_iinc (pc := 34) X d_CO_hash_34 1 rfl ic_1 (lv' := [(2, .int (v2 + 1)), (1, .int k0)]) (Nat.le_of_ble_eq_true rfl) rfl ?_
  refine j_goto (pc := 37) (tgt := 4) X d_CO_hash_37 rfl ?_
  refine j_sub [1, 0] (lv' := [(1, .int k0), (2, .int (v2 + 1))]) rfl ?_
  exact hb k0 (v2 + 1) hk
def K_CO_hash_4L (v1 : Int32) (v2 : Int32) : Bool × (Int32 × Int32) := (if 8 ≤ v2 then (false, (v1, v2)) else (if v1 < 128 then K_CO_hash_4L33 v2 (2 * v1) else K_CO_hash_4L33 v2 (((2 * v1) ^^^ 7) &&& 255)))
set_option maxRecDepth 20000 in
theorem j_CO_hash_4L {E : plE} (X : plX E b_CO_hash "ProtectedLine$Code" 3 (some .int) 0 0) (a : Nat → Nat) (T : Bool × (Int32 × Int32)) (st : plS)  (hb : ∀ (c0 : Int32) (c1 : Int32), T = (true, (c0, c1)) → plJ E 3 (plwC (plg E) a st) 0 0 [(1, .int c0), (2, .int c1)] 4 []) (hx : ∀ (c0 : Int32) (c1 : Int32), T = (false, (c0, c1)) → plJ E 3 (plwC (plg E) a st) 0 0 [(1, .int c0), (2, .int c1)] 40 []) (v1 : Int32) (v2 : Int32) (hk : T = K_CO_hash_4L v1 v2) : plJ E 3 (plwC (plg E) a st) 0 0 [(1, .int v1), (2, .int v2)] 4 [] := by
  unfold K_CO_hash_4L at hk
  refine j_iload_n (pc := 4) X d_CO_hash_4 rfl 1 rfl ?_
  refine j_bipush (pc := 5) X d_CO_hash_5 bp_8 ?_
  refine j_icmp_ge (pc := 7) (tgt := 40) X d_CO_hash_7 rfl (fun hc => ?_) (fun hc => ?_)
  · have hk := hk.trans (if_pos hc)
    exact hx v1 v2 hk
  · have hk := hk.trans (if_neg hc)
    refine j_iload_n (pc := 10) X d_CO_hash_10 rfl 0 rfl ?_
    refine j_sipush (pc := 11) X d_CO_hash_11 sp_128 ?_
    refine j_icmp_lt (pc := 14) (tgt := 30) X d_CO_hash_14 rfl (fun hc => ?_) (fun hc => ?_)
    · have hk := hk.trans (if_pos hc)
      refine j_iconst (pc := 30) X d_CO_hash_30 ic_2 ?_
      refine j_iload_n (pc := 31) X d_CO_hash_31 rfl 0 rfl ?_
      refine j_imul (pc := 32) X d_CO_hash_32 ?_
      refine j_sub [1] (lv' := [(2, .int v2)]) rfl ?_
      exact j_CO_hash_4L33 X a T st  hb hx v2 (2 * v1) hk
    · have hk := hk.trans (if_neg hc)
      refine j_iconst (pc := 17) X d_CO_hash_17 ic_2 ?_
      refine j_iload_n (pc := 18) X d_CO_hash_18 rfl 0 rfl ?_
      refine j_imul (pc := 19) X d_CO_hash_19 ?_
      refine j_bipush (pc := 20) X d_CO_hash_20 bp_7 ?_
      refine j_ixor (pc := 22) X d_CO_hash_22 ?_
      refine j_sipush (pc := 23) X d_CO_hash_23 sp_255 ?_
      refine j_iand (pc := 26) X d_CO_hash_26 ?_
      refine j_goto (pc := 27) (tgt := 33) X d_CO_hash_27 rfl ?_
      refine j_sub [1] (lv' := [(2, .int v2)]) rfl ?_
      exact j_CO_hash_4L33 X a T st  hb hx v2 (((2 * v1) ^^^ 7) &&& 255) hk
def F_CO_hash_4 (c : Int32 × Int32) : Bool × (Int32 × Int32) := K_CO_hash_4L c.1 c.2
def K_CO_hash_4X  (c : Int32 × Int32) : Int32 := c.1
set_option maxRecDepth 20000 in
theorem j_CO_hash_4X {E : plE} (X : plX E b_CO_hash "ProtectedLine$Code" 3 (some .int) 0 0) (a : Nat → Nat) (T : Int32) (st : plS) (hQ : plRp E (plwC (plg E) a) st T)  (c : Int32 × Int32) (hk : T = K_CO_hash_4X c) : plJ E 3 (plwC (plg E) a st) 0 0 [(1, .int c.1), (2, .int c.2)] 40 [] := by
  unfold K_CO_hash_4X at hk
  refine j_iload_n (pc := 40) X d_CO_hash_40 rfl 0 rfl ?_
  exact j_retip (pc := 41) X hQ d_CO_hash_41 hk
def K_CO_hash (v0 : Int32) : Int32 := K_CO_hash_4X (lpR (F_CO_hash_4) 64 (v0, 0))
def P_CO_hash (v0 : Int32) : Prop := lpP (fun _ => True) (F_CO_hash_4) 64 (v0, 0)
set_option maxRecDepth 20000 in
theorem j_CO_hash {E : plE} (X : plX E b_CO_hash "ProtectedLine$Code" 3 (some .int) 0 0) (a : Nat → Nat) (T : Int32) (st : plS) (hQ : plRp E (plwC (plg E) a) st T) (v0 : Int32) (hs : P_CO_hash v0) (hk : T = K_CO_hash v0) : plJ E 3 (plwC (plg E) a st) 0 0 [(0, .int v0)] 0 [] := by
  unfold P_CO_hash at hs
  unfold K_CO_hash at hk
  refine j_iload_n (pc := 0) X d_CO_hash_0 rfl 0 rfl ?_
  refine j_istore_n (pc := 1) X d_CO_hash_1 rfl (lv' := [(1, .int v0), (0, .int v0)]) (Nat.le_of_ble_eq_true rfl) rfl ?_
  refine j_iconst (pc := 2) X d_CO_hash_2 ic_0 ?_
  refine j_istore_n (pc := 3) X d_CO_hash_3 rfl (lv' := [(2, .int 0), (1, .int v0), (0, .int v0)]) (Nat.le_of_ble_eq_true rfl) rfl ?_
  refine j_sub [1, 0] (lv' := [(1, .int v0), (2, .int 0)]) rfl ?_
  exact lpJ (fun _ => True) (F_CO_hash_4) (fun c => plJ E 3 (plwC (plg E) a st) 0 0 [(1, .int c.1), (2, .int c.2)] 4 []) (fun c => plJ E 3 (plwC (plg E) a st) 0 0 [(1, .int c.1), (2, .int c.2)] 40 []) (fun c hp h1 h2 => j_CO_hash_4L X a (F_CO_hash_4 c) st (fun c0 c1 => h1 (c0, c1)) (fun c0 c1 => h2 (c0, c1)) c.1 c.2 rfl) 64 (v0, 0) hs (j_CO_hash_4X X a T st hQ (lpR (F_CO_hash_4) 64 (v0, 0)) hk)
set_option maxRecDepth 20000 in
theorem c_CO_hash (g : plG) (a : Nat → Nat) (st : plS) (v0 : Int32) (hs : P_CO_hash v0) : plMp g y_CO_hash b_CO_hash 3 (some .int) 0 0 [.int v0] (plwC g a) st (K_CO_hash v0) := by
  refine plMp.of (own := "ProtectedLine$Code") (lv := [(0, .int v0)]) rfl rfl (Nat.le_of_ble_eq_true rfl) rfl (fun E hE X hQ => ?_)
  subst hE
  exact j_CO_hash X a _ st hQ v0 hs rfl
theorem d_SS_makeReady_0 : decode b_SS_makeReady 0 = .ok (.aload_n 0, 1) := by decide +kernel
theorem d_SS_makeReady_1 : decode b_SS_makeReady 1 = .ok (.getfield 11, 3) := by decide +kernel
theorem d_SS_makeReady_4 : decode b_SS_makeReady 4 = .ok (.iload_n 1, 1) := by decide +kernel
theorem d_SS_makeReady_5 : decode b_SS_makeReady 5 = .ok (.iload_n 2, 1) := by decide +kernel
theorem d_SS_makeReady_6 : decode b_SS_makeReady 6 = .ok (.iconst 1, 1) := by decide +kernel
theorem d_SS_makeReady_7 : decode b_SS_makeReady 7 = .ok (.iadd, 1) := by decide +kernel
theorem d_SS_makeReady_8 : decode b_SS_makeReady 8 = .ok (.sipush (182), 3) := by decide +kernel
theorem d_SS_makeReady_11 : decode b_SS_makeReady 11 = .ok (.ixor, 1) := by decide +kernel
theorem d_SS_makeReady_12 : decode b_SS_makeReady 12 = .ok (.iastore, 1) := by decide +kernel
theorem d_SS_makeReady_13 : decode b_SS_makeReady 13 = .ok (.aload_n 0, 1) := by decide +kernel
theorem d_SS_makeReady_14 : decode b_SS_makeReady 14 = .ok (.getfield 11, 3) := by decide +kernel
theorem d_SS_makeReady_17 : decode b_SS_makeReady 17 = .ok (.iload_n 1, 1) := by decide +kernel
theorem d_SS_makeReady_18 : decode b_SS_makeReady 18 = .ok (.iconst 1, 1) := by decide +kernel
theorem d_SS_makeReady_19 : decode b_SS_makeReady 19 = .ok (.iadd, 1) := by decide +kernel
theorem d_SS_makeReady_20 : decode b_SS_makeReady 20 = .ok (.iload_n 2, 1) := by decide +kernel
theorem d_SS_makeReady_21 : decode b_SS_makeReady 21 = .ok (.iconst 1, 1) := by decide +kernel
theorem d_SS_makeReady_22 : decode b_SS_makeReady 22 = .ok (.iadd, 1) := by decide +kernel
theorem d_SS_makeReady_23 : decode b_SS_makeReady 23 = .ok (.invokestatic 32, 3) := by decide +kernel
theorem d_SS_makeReady_26 : decode b_SS_makeReady 26 = .ok (.sipush (171), 3) := by decide +kernel
theorem d_SS_makeReady_29 : decode b_SS_makeReady 29 = .ok (.ixor, 1) := by decide +kernel
theorem d_SS_makeReady_30 : decode b_SS_makeReady 30 = .ok (.iastore, 1) := by decide +kernel
theorem d_SS_makeReady_31 : decode b_SS_makeReady 31 = .ok (.sipush (255), 3) := by decide +kernel
theorem d_SS_makeReady_34 : decode b_SS_makeReady 34 = .ok (.istore 5, 2) := by decide +kernel
theorem d_SS_makeReady_36 : decode b_SS_makeReady 36 = .ok (.iconst 0, 1) := by decide +kernel
theorem d_SS_makeReady_37 : decode b_SS_makeReady 37 = .ok (.istore 6, 2) := by decide +kernel
theorem d_SS_makeReady_39 : decode b_SS_makeReady 39 = .ok (.iload 6, 2) := by decide +kernel
theorem d_SS_makeReady_41 : decode b_SS_makeReady 41 = .ok (.iload_n 2, 1) := by decide +kernel
theorem d_SS_makeReady_42 : decode b_SS_makeReady 42 = .ok (.if_icmp .ge (59), 3) := by decide +kernel
theorem d_SS_makeReady_45 : decode b_SS_makeReady 45 = .ok (.lload_n 3, 1) := by decide +kernel
theorem d_SS_makeReady_46 : decode b_SS_makeReady 46 = .ok (.bipush (8), 2) := by decide +kernel
theorem d_SS_makeReady_48 : decode b_SS_makeReady 48 = .ok (.iload 6, 2) := by decide +kernel
theorem d_SS_makeReady_50 : decode b_SS_makeReady 50 = .ok (.imul, 1) := by decide +kernel
theorem d_SS_makeReady_51 : decode b_SS_makeReady 51 = .ok (.lshr, 1) := by decide +kernel
theorem d_SS_makeReady_52 : decode b_SS_makeReady 52 = .ok (.l2i, 1) := by decide +kernel
theorem d_SS_makeReady_53 : decode b_SS_makeReady 53 = .ok (.sipush (255), 3) := by decide +kernel
theorem d_SS_makeReady_56 : decode b_SS_makeReady 56 = .ok (.iand, 1) := by decide +kernel
theorem d_SS_makeReady_57 : decode b_SS_makeReady 57 = .ok (.istore 7, 2) := by decide +kernel
theorem d_SS_makeReady_59 : decode b_SS_makeReady 59 = .ok (.iload 5, 2) := by decide +kernel
theorem d_SS_makeReady_61 : decode b_SS_makeReady 61 = .ok (.iload 7, 2) := by decide +kernel
theorem d_SS_makeReady_63 : decode b_SS_makeReady 63 = .ok (.ixor, 1) := by decide +kernel
theorem d_SS_makeReady_64 : decode b_SS_makeReady 64 = .ok (.invokestatic 32, 3) := by decide +kernel
theorem d_SS_makeReady_67 : decode b_SS_makeReady 67 = .ok (.istore 5, 2) := by decide +kernel
theorem d_SS_makeReady_69 : decode b_SS_makeReady 69 = .ok (.aload_n 0, 1) := by decide +kernel
theorem d_SS_makeReady_70 : decode b_SS_makeReady 70 = .ok (.dup, 1) := by decide +kernel
theorem d_SS_makeReady_71 : decode b_SS_makeReady 71 = .ok (.getfield 36, 3) := by decide +kernel
theorem d_SS_makeReady_74 : decode b_SS_makeReady 74 = .ok (.iload 7, 2) := by decide +kernel
theorem d_SS_makeReady_76 : decode b_SS_makeReady 76 = .ok (.ixor, 1) := by decide +kernel
theorem d_SS_makeReady_77 : decode b_SS_makeReady 77 = .ok (.putfield 36, 3) := by decide +kernel
theorem d_SS_makeReady_80 : decode b_SS_makeReady 80 = .ok (.aload_n 0, 1) := by decide +kernel
theorem d_SS_makeReady_81 : decode b_SS_makeReady 81 = .ok (.getfield 11, 3) := by decide +kernel
theorem d_SS_makeReady_84 : decode b_SS_makeReady 84 = .ok (.iload_n 1, 1) := by decide +kernel
theorem d_SS_makeReady_85 : decode b_SS_makeReady 85 = .ok (.iconst 2, 1) := by decide +kernel
theorem d_SS_makeReady_86 : decode b_SS_makeReady 86 = .ok (.iadd, 1) := by decide +kernel
theorem d_SS_makeReady_87 : decode b_SS_makeReady 87 = .ok (.iload 6, 2) := by decide +kernel
theorem d_SS_makeReady_89 : decode b_SS_makeReady 89 = .ok (.iadd, 1) := by decide +kernel
theorem d_SS_makeReady_90 : decode b_SS_makeReady 90 = .ok (.aload_n 0, 1) := by decide +kernel
theorem d_SS_makeReady_91 : decode b_SS_makeReady 91 = .ok (.getfield 36, 3) := by decide +kernel
theorem d_SS_makeReady_94 : decode b_SS_makeReady 94 = .ok (.iastore, 1) := by decide +kernel
theorem d_SS_makeReady_95 : decode b_SS_makeReady 95 = .ok (.iinc 6 (1), 3) := by decide +kernel
theorem d_SS_makeReady_98 : decode b_SS_makeReady 98 = .ok (.goto (-59), 3) := by decide +kernel
theorem d_SS_makeReady_101 : decode b_SS_makeReady 101 = .ok (.aload_n 0, 1) := by decide +kernel
theorem d_SS_makeReady_102 : decode b_SS_makeReady 102 = .ok (.dup, 1) := by decide +kernel
theorem d_SS_makeReady_103 : decode b_SS_makeReady 103 = .ok (.getfield 36, 3) := by decide +kernel
theorem d_SS_makeReady_106 : decode b_SS_makeReady 106 = .ok (.iload 5, 2) := by decide +kernel
theorem d_SS_makeReady_108 : decode b_SS_makeReady 108 = .ok (.ixor, 1) := by decide +kernel
theorem d_SS_makeReady_109 : decode b_SS_makeReady 109 = .ok (.putfield 36, 3) := by decide +kernel
theorem d_SS_makeReady_112 : decode b_SS_makeReady 112 = .ok (.aload_n 0, 1) := by decide +kernel
theorem d_SS_makeReady_113 : decode b_SS_makeReady 113 = .ok (.getfield 11, 3) := by decide +kernel
theorem d_SS_makeReady_116 : decode b_SS_makeReady 116 = .ok (.iload_n 1, 1) := by decide +kernel
theorem d_SS_makeReady_117 : decode b_SS_makeReady 117 = .ok (.iconst 2, 1) := by decide +kernel
theorem d_SS_makeReady_118 : decode b_SS_makeReady 118 = .ok (.iadd, 1) := by decide +kernel
theorem d_SS_makeReady_119 : decode b_SS_makeReady 119 = .ok (.iload_n 2, 1) := by decide +kernel
theorem d_SS_makeReady_120 : decode b_SS_makeReady 120 = .ok (.iadd, 1) := by decide +kernel
theorem d_SS_makeReady_121 : decode b_SS_makeReady 121 = .ok (.aload_n 0, 1) := by decide +kernel
theorem d_SS_makeReady_122 : decode b_SS_makeReady 122 = .ok (.getfield 36, 3) := by decide +kernel
theorem d_SS_makeReady_125 : decode b_SS_makeReady 125 = .ok (.iastore, 1) := by decide +kernel
theorem d_SS_makeReady_126 : decode b_SS_makeReady 126 = .ok (.return_, 1) := by decide +kernel
def K_SS_makeReady_39L80 (st : plS) (v1 : Int32) (v2 : Int32) (v3 : Int64) (v5 : Int32) (v6 : Int32) : Bool × (plS × Int32 × Int32) := (true, (plUp st 2 (plIx ((v1 + 2) + v6)) (st 1 4), v5, v6 + 1))
def P_SS_makeReady_39L80 (st : plS) (v1 : Int32) (v2 : Int32) (v3 : Int64) (v5 : Int32) (v6 : Int32) : Prop := vp_in ((v1 + 2) + v6) 72
set_option maxRecDepth 20000 in
theorem j_SS_makeReady_39L80 {E : plE} (X : plX E b_SS_makeReady "ProtectedLine$StreamSource" 8 none 1 22) (a : Nat → Nat) (T : Bool × (plS × Int32 × Int32)) (v1 : Int32) (v2 : Int32) (v3 : Int64) (hb : ∀ (c0 : plS) (c1 : Int32) (c2 : Int32), T = (true, (c0, c1, c2)) → plJ E 8 (plwC (plg E) a c0) 0 0 [(0, .ref (a 1)), (1, .int v1), (2, .int v2), (3, .long v3), (5, .int c1), (6, .int c2)] 39 []) (hx : ∀ (c0 : plS) (c1 : Int32) (c2 : Int32), T = (false, (c0, c1, c2)) → plJ E 8 (plwC (plg E) a c0) 0 0 [(0, .ref (a 1)), (1, .int v1), (2, .int v2), (3, .long v3), (5, .int c1), (6, .int c2)] 101 []) (st : plS) (v5 : Int32) (v6 : Int32) (hs : P_SS_makeReady_39L80 st v1 v2 v3 v5 v6) (hk : T = K_SS_makeReady_39L80 st v1 v2 v3 v5 v6) : plJ E 8 (plwC (plg E) a st) 0 0 [(0, .ref (a 1)), (1, .int v1), (2, .int v2), (3, .long v3), (5, .int v5), (6, .int v6)] 80 [] := by
  unfold P_SS_makeReady_39L80 at hs
  unfold K_SS_makeReady_39L80 at hk
  refine j_aload_n (pc := 80) X d_SS_makeReady_80 rfl 0 rfl ?_
  refine get_SS_ready (pc := 81) X fl_SS_11 d_SS_makeReady_81 ?_
  refine j_iload_n (pc := 84) X d_SS_makeReady_84 rfl 1 rfl ?_
  refine j_iconst (pc := 85) X d_SS_makeReady_85 ic_2 ?_
  refine j_iadd (pc := 86) X d_SS_makeReady_86 ?_
  refine j_iload (pc := 87) X d_SS_makeReady_87 5 rfl ?_
  refine j_iadd (pc := 89) X d_SS_makeReady_89 ?_
  refine j_aload_n (pc := 90) X d_SS_makeReady_90 rfl 0 rfl ?_
  refine get_SS_before (pc := 91) X fl_SS_36 d_SS_makeReady_91 ?_
  refine ast_SSr (pc := 94) X hs d_SS_makeReady_94 ?_
  refine j_iinc (pc := 95) X d_SS_makeReady_95 5 rfl ic_1 (lv' := [(6, .int (v6 + 1)), (0, .ref (a 1)), (1, .int v1), (2, .int v2), (3, .long v3), (5, .int v5)]) (Nat.le_of_ble_eq_true rfl) rfl ?_
  refine j_goto (pc := 98) (tgt := 39) X d_SS_makeReady_98 rfl ?_
  refine j_sub [1, 2, 3, 4, 5, 0] (lv' := [(0, .ref (a 1)), (1, .int v1), (2, .int v2), (3, .long v3), (5, .int v5), (6, .int (v6 + 1))]) rfl ?_
  exact hb (plUp st 2 (plIx ((v1 + 2) + v6)) (st 1 4)) v5 (v6 + 1) hk
def K_SS_makeReady_39L (st : plS) (v1 : Int32) (v2 : Int32) (v3 : Int64) (v5 : Int32) (v6 : Int32) : Bool × (plS × Int32 × Int32) := (if v2 ≤ v6 then (false, (st, v5, v6)) else K_SS_makeReady_39L80 (plUp st 1 4 ((st 1 4) ^^^ ((Int64.toInt32 (v3 >>> (Int32.toInt64 (8 * v6) &&& 63))) &&& 255))) v1 v2 v3 (K_CO_hash (v5 ^^^ ((Int64.toInt32 (v3 >>> (Int32.toInt64 (8 * v6) &&& 63))) &&& 255))) v6)
def P_SS_makeReady_39L (st : plS) (v1 : Int32) (v2 : Int32) (v3 : Int64) (v5 : Int32) (v6 : Int32) : Prop := (¬ v2 ≤ v6 → (P_CO_hash (v5 ^^^ ((Int64.toInt32 (v3 >>> (Int32.toInt64 (8 * v6) &&& 63))) &&& 255)) ∧ P_SS_makeReady_39L80 (plUp st 1 4 ((st 1 4) ^^^ ((Int64.toInt32 (v3 >>> (Int32.toInt64 (8 * v6) &&& 63))) &&& 255))) v1 v2 v3 (K_CO_hash (v5 ^^^ ((Int64.toInt32 (v3 >>> (Int32.toInt64 (8 * v6) &&& 63))) &&& 255))) v6))
set_option maxRecDepth 20000 in
theorem j_SS_makeReady_39L {E : plE} (X : plX E b_SS_makeReady "ProtectedLine$StreamSource" 8 none 1 22) (a : Nat → Nat) (T : Bool × (plS × Int32 × Int32)) (v1 : Int32) (v2 : Int32) (v3 : Int64) (hb : ∀ (c0 : plS) (c1 : Int32) (c2 : Int32), T = (true, (c0, c1, c2)) → plJ E 8 (plwC (plg E) a c0) 0 0 [(0, .ref (a 1)), (1, .int v1), (2, .int v2), (3, .long v3), (5, .int c1), (6, .int c2)] 39 []) (hx : ∀ (c0 : plS) (c1 : Int32) (c2 : Int32), T = (false, (c0, c1, c2)) → plJ E 8 (plwC (plg E) a c0) 0 0 [(0, .ref (a 1)), (1, .int v1), (2, .int v2), (3, .long v3), (5, .int c1), (6, .int c2)] 101 []) (st : plS) (v5 : Int32) (v6 : Int32) (hs : P_SS_makeReady_39L st v1 v2 v3 v5 v6) (hk : T = K_SS_makeReady_39L st v1 v2 v3 v5 v6) : plJ E 8 (plwC (plg E) a st) 0 0 [(0, .ref (a 1)), (1, .int v1), (2, .int v2), (3, .long v3), (5, .int v5), (6, .int v6)] 39 [] := by
  unfold P_SS_makeReady_39L at hs
  unfold K_SS_makeReady_39L at hk
  refine j_iload (pc := 39) X d_SS_makeReady_39 5 rfl ?_
  refine j_iload_n (pc := 41) X d_SS_makeReady_41 rfl 2 rfl ?_
  refine j_icmp_ge (pc := 42) (tgt := 101) X d_SS_makeReady_42 rfl (fun hc => ?_) (fun hc => ?_)
  · have hk := hk.trans (if_pos hc)
    exact hx st v5 v6 hk
  · have hk := hk.trans (if_neg hc)
    have hs := hs hc
    refine j_lload_n (pc := 45) X d_SS_makeReady_45 rfl 3 rfl ?_
    refine j_bipush (pc := 46) X d_SS_makeReady_46 bp_8 ?_
    refine j_iload (pc := 48) X d_SS_makeReady_48 5 rfl ?_
    refine j_imul (pc := 50) X d_SS_makeReady_50 ?_
    refine j_lshr (pc := 51) X d_SS_makeReady_51 ?_
    refine j_l2i (pc := 52) X d_SS_makeReady_52 ?_
    refine j_sipush (pc := 53) X d_SS_makeReady_53 sp_255 ?_
    refine j_iand (pc := 56) X d_SS_makeReady_56 ?_
    refine j_istore (pc := 57) X d_SS_makeReady_57 (lv' := [(7, .int ((Int64.toInt32 (v3 >>> (Int32.toInt64 (8 * v6) &&& 63))) &&& 255)), (0, .ref (a 1)), (1, .int v1), (2, .int v2), (3, .long v3), (5, .int v5), (6, .int v6)]) (Nat.le_of_ble_eq_true rfl) rfl ?_
    refine j_iload (pc := 59) X d_SS_makeReady_59 5 rfl ?_
    refine j_iload (pc := 61) X d_SS_makeReady_61 0 rfl ?_
    refine j_ixor (pc := 63) X d_SS_makeReady_63 ?_
    refine j_callSp (pc := 64) (As := [.int (v5 ^^^ ((Int64.toInt32 (v3 >>> (Int32.toInt64 (8 * v6) &&& 63))) &&& 255))]) (rest := []) X (c_CO_hash (plg E) a st (v5 ^^^ ((Int64.toInt32 (v3 >>> (Int32.toInt64 (8 * v6) &&& 63))) &&& 255)) hs.1) ml_SS_32 ⟨Nat.le_of_ble_eq_true rfl, Nat.le_of_ble_eq_true rfl⟩ rfl rfl (Nat.le_of_ble_eq_true rfl) d_SS_makeReady_64 ?_
    have hs := hs.2
    refine j_istore (pc := 67) X d_SS_makeReady_67 (lv' := [(5, .int (K_CO_hash (v5 ^^^ ((Int64.toInt32 (v3 >>> (Int32.toInt64 (8 * v6) &&& 63))) &&& 255)))), (7, .int ((Int64.toInt32 (v3 >>> (Int32.toInt64 (8 * v6) &&& 63))) &&& 255)), (0, .ref (a 1)), (1, .int v1), (2, .int v2), (3, .long v3), (6, .int v6)]) (Nat.le_of_ble_eq_true rfl) rfl ?_
    refine j_aload_n (pc := 69) X d_SS_makeReady_69 rfl 2 rfl ?_
    refine j_dup (pc := 70) X d_SS_makeReady_70 rfl ?_
    refine get_SS_before (pc := 71) X fl_SS_36 d_SS_makeReady_71 ?_
    refine j_iload (pc := 74) X d_SS_makeReady_74 1 rfl ?_
    refine j_ixor (pc := 76) X d_SS_makeReady_76 ?_
    refine put_SS_before (pc := 77) X fl_SS_36 d_SS_makeReady_77 ?_
    refine j_sub [2, 3, 4, 5, 0, 6] (lv' := [(0, .ref (a 1)), (1, .int v1), (2, .int v2), (3, .long v3), (5, .int (K_CO_hash (v5 ^^^ ((Int64.toInt32 (v3 >>> (Int32.toInt64 (8 * v6) &&& 63))) &&& 255)))), (6, .int v6)]) rfl ?_
    exact j_SS_makeReady_39L80 X a T v1 v2 v3 hb hx (plUp st 1 4 ((st 1 4) ^^^ ((Int64.toInt32 (v3 >>> (Int32.toInt64 (8 * v6) &&& 63))) &&& 255))) (K_CO_hash (v5 ^^^ ((Int64.toInt32 (v3 >>> (Int32.toInt64 (8 * v6) &&& 63))) &&& 255))) v6 hs hk
def F_SS_makeReady_39 (v1 : Int32) (v2 : Int32) (v3 : Int64) (c : plS × Int32 × Int32) : Bool × (plS × Int32 × Int32) := K_SS_makeReady_39L c.1 v1 v2 v3 c.2.1 c.2.2
def G_SS_makeReady_39 (v1 : Int32) (v2 : Int32) (v3 : Int64) (c : plS × Int32 × Int32) : Prop := P_SS_makeReady_39L c.1 v1 v2 v3 c.2.1 c.2.2
def K_SS_makeReady_112 (st : plS) (v1 : Int32) (v2 : Int32) : plS := plUp st 2 (plIx ((v1 + 2) + v2)) (st 1 4)
def P_SS_makeReady_112 (st : plS) (v1 : Int32) (v2 : Int32) : Prop := vp_in ((v1 + 2) + v2) 72
set_option maxRecDepth 20000 in
theorem j_SS_makeReady_112 {E : plE} (X : plX E b_SS_makeReady "ProtectedLine$StreamSource" 8 none 1 22) (a : Nat → Nat) (T : plS) (hQ : plRv E (plwC (plg E) a) T) (st : plS) (v1 : Int32) (v2 : Int32) (hs : P_SS_makeReady_112 st v1 v2) (hk : T = K_SS_makeReady_112 st v1 v2) : plJ E 8 (plwC (plg E) a st) 0 0 [(0, .ref (a 1)), (1, .int v1), (2, .int v2)] 112 [] := by
  unfold P_SS_makeReady_112 at hs
  unfold K_SS_makeReady_112 at hk
  refine j_aload_n (pc := 112) X d_SS_makeReady_112 rfl 0 rfl ?_
  refine get_SS_ready (pc := 113) X fl_SS_11 d_SS_makeReady_113 ?_
  refine j_iload_n (pc := 116) X d_SS_makeReady_116 rfl 1 rfl ?_
  refine j_iconst (pc := 117) X d_SS_makeReady_117 ic_2 ?_
  refine j_iadd (pc := 118) X d_SS_makeReady_118 ?_
  refine j_iload_n (pc := 119) X d_SS_makeReady_119 rfl 2 rfl ?_
  refine j_iadd (pc := 120) X d_SS_makeReady_120 ?_
  refine j_aload_n (pc := 121) X d_SS_makeReady_121 rfl 0 rfl ?_
  refine get_SS_before (pc := 122) X fl_SS_36 d_SS_makeReady_122 ?_
  refine ast_SSr (pc := 125) X hs d_SS_makeReady_125 ?_
  exact j_retv (pc := 126) X hQ d_SS_makeReady_126 hk
def K_SS_makeReady_39X (v1 : Int32) (v2 : Int32) (v3 : Int64) (c : plS × Int32 × Int32) : plS := K_SS_makeReady_112 (plUp c.1 1 4 ((c.1 1 4) ^^^ c.2.1)) v1 v2
def P_SS_makeReady_39X (v1 : Int32) (v2 : Int32) (v3 : Int64) (c : plS × Int32 × Int32) : Prop := P_SS_makeReady_112 (plUp c.1 1 4 ((c.1 1 4) ^^^ c.2.1)) v1 v2
set_option maxRecDepth 20000 in
theorem j_SS_makeReady_39X {E : plE} (X : plX E b_SS_makeReady "ProtectedLine$StreamSource" 8 none 1 22) (a : Nat → Nat) (T : plS) (hQ : plRv E (plwC (plg E) a) T) (v1 : Int32) (v2 : Int32) (v3 : Int64) (c : plS × Int32 × Int32) (hs : P_SS_makeReady_39X v1 v2 v3 c) (hk : T = K_SS_makeReady_39X v1 v2 v3 c) : plJ E 8 (plwC (plg E) a c.1) 0 0 [(0, .ref (a 1)), (1, .int v1), (2, .int v2), (3, .long v3), (5, .int c.2.1), (6, .int c.2.2)] 101 [] := by
  unfold P_SS_makeReady_39X at hs
  unfold K_SS_makeReady_39X at hk
  refine j_aload_n (pc := 101) X d_SS_makeReady_101 rfl 0 rfl ?_
  refine j_dup (pc := 102) X d_SS_makeReady_102 rfl ?_
  refine get_SS_before (pc := 103) X fl_SS_36 d_SS_makeReady_103 ?_
  refine j_iload (pc := 106) X d_SS_makeReady_106 4 rfl ?_
  refine j_ixor (pc := 108) X d_SS_makeReady_108 ?_
  refine put_SS_before (pc := 109) X fl_SS_36 d_SS_makeReady_109 ?_
  refine j_sub [0, 1, 2] (lv' := [(0, .ref (a 1)), (1, .int v1), (2, .int v2)]) rfl ?_
  exact j_SS_makeReady_112 X a T hQ (plUp c.1 1 4 ((c.1 1 4) ^^^ c.2.1)) v1 v2 hs hk
def K_SS_makeReady_13 (st : plS) (v1 : Int32) (v2 : Int32) (v3 : Int64) : plS := K_SS_makeReady_39X v1 v2 v3 (lpR (F_SS_makeReady_39 v1 v2 v3) 64 (plUp st 2 (plIx (v1 + 1)) ((K_CO_hash (v2 + 1)) ^^^ 171), 255, 0))
def P_SS_makeReady_13 (st : plS) (v1 : Int32) (v2 : Int32) (v3 : Int64) : Prop := (P_CO_hash (v2 + 1) ∧ (vp_in (v1 + 1) 72 ∧ (lpP (G_SS_makeReady_39 v1 v2 v3) (F_SS_makeReady_39 v1 v2 v3) 64 (plUp st 2 (plIx (v1 + 1)) ((K_CO_hash (v2 + 1)) ^^^ 171), 255, 0) ∧ P_SS_makeReady_39X v1 v2 v3 (lpR (F_SS_makeReady_39 v1 v2 v3) 64 (plUp st 2 (plIx (v1 + 1)) ((K_CO_hash (v2 + 1)) ^^^ 171), 255, 0)))))
set_option maxRecDepth 20000 in
theorem j_SS_makeReady_13 {E : plE} (X : plX E b_SS_makeReady "ProtectedLine$StreamSource" 8 none 1 22) (a : Nat → Nat) (T : plS) (hQ : plRv E (plwC (plg E) a) T) (st : plS) (v1 : Int32) (v2 : Int32) (v3 : Int64) (hs : P_SS_makeReady_13 st v1 v2 v3) (hk : T = K_SS_makeReady_13 st v1 v2 v3) : plJ E 8 (plwC (plg E) a st) 0 0 [(0, .ref (a 1)), (1, .int v1), (2, .int v2), (3, .long v3)] 13 [] := by
  unfold P_SS_makeReady_13 at hs
  unfold K_SS_makeReady_13 at hk
  refine j_aload_n (pc := 13) X d_SS_makeReady_13 rfl 0 rfl ?_
  refine get_SS_ready (pc := 14) X fl_SS_11 d_SS_makeReady_14 ?_
  refine j_iload_n (pc := 17) X d_SS_makeReady_17 rfl 1 rfl ?_
  refine j_iconst (pc := 18) X d_SS_makeReady_18 ic_1 ?_
  refine j_iadd (pc := 19) X d_SS_makeReady_19 ?_
  refine j_iload_n (pc := 20) X d_SS_makeReady_20 rfl 2 rfl ?_
  refine j_iconst (pc := 21) X d_SS_makeReady_21 ic_1 ?_
  refine j_iadd (pc := 22) X d_SS_makeReady_22 ?_
  refine j_callSp (pc := 23) (As := [.int (v2 + 1)]) (rest := [.int (v1 + 1), .ref (a 2)]) X (c_CO_hash (plg E) a st (v2 + 1) hs.1) ml_SS_32 ⟨Nat.le_of_ble_eq_true rfl, Nat.le_of_ble_eq_true rfl⟩ rfl rfl (Nat.le_of_ble_eq_true rfl) d_SS_makeReady_23 ?_
  have hs := hs.2
  refine j_sipush (pc := 26) X d_SS_makeReady_26 sp_171 ?_
  refine j_ixor (pc := 29) X d_SS_makeReady_29 ?_
  refine ast_SSr (pc := 30) X hs.1 d_SS_makeReady_30 ?_
  have hs := hs.2
  refine j_sipush (pc := 31) X d_SS_makeReady_31 sp_255 ?_
  refine j_istore (pc := 34) X d_SS_makeReady_34 (lv' := [(5, .int 255), (0, .ref (a 1)), (1, .int v1), (2, .int v2), (3, .long v3)]) (Nat.le_of_ble_eq_true rfl) rfl ?_
  refine j_iconst (pc := 36) X d_SS_makeReady_36 ic_0 ?_
  refine j_istore (pc := 37) X d_SS_makeReady_37 (lv' := [(6, .int 0), (5, .int 255), (0, .ref (a 1)), (1, .int v1), (2, .int v2), (3, .long v3)]) (Nat.le_of_ble_eq_true rfl) rfl ?_
  refine j_sub [2, 3, 4, 5, 1, 0] (lv' := [(0, .ref (a 1)), (1, .int v1), (2, .int v2), (3, .long v3), (5, .int 255), (6, .int 0)]) rfl ?_
  exact lpJ (G_SS_makeReady_39 v1 v2 v3) (F_SS_makeReady_39 v1 v2 v3) (fun c => plJ E 8 (plwC (plg E) a c.1) 0 0 [(0, .ref (a 1)), (1, .int v1), (2, .int v2), (3, .long v3), (5, .int c.2.1), (6, .int c.2.2)] 39 []) (fun c => plJ E 8 (plwC (plg E) a c.1) 0 0 [(0, .ref (a 1)), (1, .int v1), (2, .int v2), (3, .long v3), (5, .int c.2.1), (6, .int c.2.2)] 101 []) (fun c hp h1 h2 => j_SS_makeReady_39L X a (F_SS_makeReady_39 v1 v2 v3 c) v1 v2 v3 (fun c0 c1 c2 => h1 (c0, c1, c2)) (fun c0 c1 c2 => h2 (c0, c1, c2)) c.1 c.2.1 c.2.2 hp rfl) 64 (plUp st 2 (plIx (v1 + 1)) ((K_CO_hash (v2 + 1)) ^^^ 171), 255, 0) hs.1 (j_SS_makeReady_39X X a T hQ v1 v2 v3 (lpR (F_SS_makeReady_39 v1 v2 v3) 64 (plUp st 2 (plIx (v1 + 1)) ((K_CO_hash (v2 + 1)) ^^^ 171), 255, 0)) hs.2 hk)
def K_SS_makeReady (st : plS) (v1 : Int32) (v2 : Int32) (v3 : Int64) : plS := K_SS_makeReady_13 (plUp st 2 (plIx v1) ((v2 + 1) ^^^ 182)) v1 v2 v3
def P_SS_makeReady (st : plS) (v1 : Int32) (v2 : Int32) (v3 : Int64) : Prop := (vp_in v1 72 ∧ P_SS_makeReady_13 (plUp st 2 (plIx v1) ((v2 + 1) ^^^ 182)) v1 v2 v3)
set_option maxRecDepth 20000 in
theorem j_SS_makeReady {E : plE} (X : plX E b_SS_makeReady "ProtectedLine$StreamSource" 8 none 1 22) (a : Nat → Nat) (T : plS) (hQ : plRv E (plwC (plg E) a) T) (st : plS) (v1 : Int32) (v2 : Int32) (v3 : Int64) (hs : P_SS_makeReady st v1 v2 v3) (hk : T = K_SS_makeReady st v1 v2 v3) : plJ E 8 (plwC (plg E) a st) 0 0 [(0, .ref (a 1)), (1, .int v1), (2, .int v2), (3, .long v3)] 0 [] := by
  unfold P_SS_makeReady at hs
  unfold K_SS_makeReady at hk
  refine j_aload_n (pc := 0) X d_SS_makeReady_0 rfl 0 rfl ?_
  refine get_SS_ready (pc := 1) X fl_SS_11 d_SS_makeReady_1 ?_
  refine j_iload_n (pc := 4) X d_SS_makeReady_4 rfl 1 rfl ?_
  refine j_iload_n (pc := 5) X d_SS_makeReady_5 rfl 2 rfl ?_
  refine j_iconst (pc := 6) X d_SS_makeReady_6 ic_1 ?_
  refine j_iadd (pc := 7) X d_SS_makeReady_7 ?_
  refine j_sipush (pc := 8) X d_SS_makeReady_8 sp_182 ?_
  refine j_ixor (pc := 11) X d_SS_makeReady_11 ?_
  refine ast_SSr (pc := 12) X hs.1 d_SS_makeReady_12 ?_
  have hs := hs.2
  exact j_SS_makeReady_13 X a T hQ (plUp st 2 (plIx v1) ((v2 + 1) ^^^ 182)) v1 v2 v3 hs hk
set_option maxRecDepth 20000 in
theorem c_SS_makeReady (g : plG) (a : Nat → Nat) (st : plS) (v1 : Int32) (v2 : Int32) (v3 : Int64) (hs : P_SS_makeReady st v1 v2 v3) : plMv g y_SS_makeReady b_SS_makeReady 8 none 1 22 [.ref (a 1), .int v1, .int v2, .long v3] (plwC g a) st (K_SS_makeReady st v1 v2 v3) := by
  refine plMv.of (own := "ProtectedLine$StreamSource") (lv := [(0, .ref (a 1)), (1, .int v1), (2, .int v2), (3, .long v3)]) rfl rfl (Nat.le_of_ble_eq_true rfl) rfl (fun E hE X hQ => ?_)
  subst hE
  exact j_SS_makeReady X a _ hQ st v1 v2 v3 hs rfl
theorem d_SS_enqueue_0 : decode b_SS_enqueue 0 = .ok (.iload_n 1, 1) := by decide +kernel
theorem d_SS_enqueue_1 : decode b_SS_enqueue 1 = .ok (.iconst 1, 1) := by decide +kernel
theorem d_SS_enqueue_2 : decode b_SS_enqueue 2 = .ok (.if_icmp .lt (18), 3) := by decide +kernel
theorem d_SS_enqueue_5 : decode b_SS_enqueue 5 = .ok (.iload_n 1, 1) := by decide +kernel
theorem d_SS_enqueue_6 : decode b_SS_enqueue 6 = .ok (.bipush (6), 2) := by decide +kernel
theorem d_SS_enqueue_8 : decode b_SS_enqueue 8 = .ok (.if_icmp .gt (12), 3) := by decide +kernel
theorem d_SS_enqueue_11 : decode b_SS_enqueue 11 = .ok (.aload_n 0, 1) := by decide +kernel
theorem d_SS_enqueue_12 : decode b_SS_enqueue 12 = .ok (.getfield 21, 3) := by decide +kernel
theorem d_SS_enqueue_15 : decode b_SS_enqueue 15 = .ok (.bipush (8), 2) := by decide +kernel
theorem d_SS_enqueue_17 : decode b_SS_enqueue 17 = .ok (.if_icmp .lt (5), 3) := by decide +kernel
theorem d_SS_enqueue_20 : decode b_SS_enqueue 20 = .ok (.iconst 0, 1) := by decide +kernel
theorem d_SS_enqueue_21 : decode b_SS_enqueue 21 = .ok (.ireturn, 1) := by decide +kernel
theorem d_SS_enqueue_22 : decode b_SS_enqueue 22 = .ok (.aload_n 0, 1) := by decide +kernel
theorem d_SS_enqueue_23 : decode b_SS_enqueue 23 = .ok (.getfield 25, 3) := by decide +kernel
theorem d_SS_enqueue_26 : decode b_SS_enqueue 26 = .ok (.aload_n 0, 1) := by decide +kernel
theorem d_SS_enqueue_27 : decode b_SS_enqueue 27 = .ok (.getfield 21, 3) := by decide +kernel
theorem d_SS_enqueue_30 : decode b_SS_enqueue 30 = .ok (.iadd, 1) := by decide +kernel
theorem d_SS_enqueue_31 : decode b_SS_enqueue 31 = .ok (.bipush (8), 2) := by decide +kernel
theorem d_SS_enqueue_33 : decode b_SS_enqueue 33 = .ok (.irem, 1) := by decide +kernel
theorem d_SS_enqueue_34 : decode b_SS_enqueue 34 = .ok (.istore 4, 2) := by decide +kernel
theorem d_SS_enqueue_36 : decode b_SS_enqueue 36 = .ok (.aload_n 0, 1) := by decide +kernel
theorem d_SS_enqueue_37 : decode b_SS_enqueue 37 = .ok (.iload 4, 2) := by decide +kernel
theorem d_SS_enqueue_39 : decode b_SS_enqueue 39 = .ok (.bipush (9), 2) := by decide +kernel
theorem d_SS_enqueue_41 : decode b_SS_enqueue 41 = .ok (.imul, 1) := by decide +kernel
theorem d_SS_enqueue_42 : decode b_SS_enqueue 42 = .ok (.iload_n 1, 1) := by decide +kernel
theorem d_SS_enqueue_43 : decode b_SS_enqueue 43 = .ok (.lload_n 2, 1) := by decide +kernel
theorem d_SS_enqueue_44 : decode b_SS_enqueue 44 = .ok (.invokevirtual 28, 3) := by decide +kernel
theorem d_SS_enqueue_47 : decode b_SS_enqueue 47 = .ok (.aload_n 0, 1) := by decide +kernel
theorem d_SS_enqueue_48 : decode b_SS_enqueue 48 = .ok (.getfield 15, 3) := by decide +kernel
theorem d_SS_enqueue_51 : decode b_SS_enqueue 51 = .ok (.iload 4, 2) := by decide +kernel
theorem d_SS_enqueue_53 : decode b_SS_enqueue 53 = .ok (.iload_n 1, 1) := by decide +kernel
theorem d_SS_enqueue_54 : decode b_SS_enqueue 54 = .ok (.iconst 3, 1) := by decide +kernel
theorem d_SS_enqueue_55 : decode b_SS_enqueue 55 = .ok (.iadd, 1) := by decide +kernel
theorem d_SS_enqueue_56 : decode b_SS_enqueue 56 = .ok (.iastore, 1) := by decide +kernel
theorem d_SS_enqueue_57 : decode b_SS_enqueue 57 = .ok (.aload_n 0, 1) := by decide +kernel
theorem d_SS_enqueue_58 : decode b_SS_enqueue 58 = .ok (.dup, 1) := by decide +kernel
theorem d_SS_enqueue_59 : decode b_SS_enqueue 59 = .ok (.getfield 21, 3) := by decide +kernel
theorem d_SS_enqueue_62 : decode b_SS_enqueue 62 = .ok (.iconst 1, 1) := by decide +kernel
theorem d_SS_enqueue_63 : decode b_SS_enqueue 63 = .ok (.iadd, 1) := by decide +kernel
theorem d_SS_enqueue_64 : decode b_SS_enqueue 64 = .ok (.putfield 21, 3) := by decide +kernel
theorem d_SS_enqueue_67 : decode b_SS_enqueue 67 = .ok (.iconst 1, 1) := by decide +kernel
theorem d_SS_enqueue_68 : decode b_SS_enqueue 68 = .ok (.ireturn, 1) := by decide +kernel
def K_SS_enqueue_20 (st : plS) : Int32 × plS := (0, st)
set_option maxRecDepth 20000 in
theorem j_SS_enqueue_20 {E : plE} (X : plX E b_SS_enqueue "ProtectedLine$StreamSource" 5 (some .boolean) 2 49) (a : Nat → Nat) (T : Int32 × plS) (hQ : plRi E (plwC (plg E) a) T) (st : plS)  (hk : T = K_SS_enqueue_20 st) : plJ E 5 (plwC (plg E) a st) 0 0 [] 20 [] := by
  unfold K_SS_enqueue_20 at hk
  refine j_iconst (pc := 20) X d_SS_enqueue_20 ic_0 ?_
  exact j_retz (pc := 21) X hQ d_SS_enqueue_21 (Or.inl rfl) hk
def K_SS_enqueue_57 (st : plS) : Int32 × plS := (1, plUp st 1 3 ((st 1 3) + 1))
set_option maxRecDepth 20000 in
theorem j_SS_enqueue_57 {E : plE} (X : plX E b_SS_enqueue "ProtectedLine$StreamSource" 5 (some .boolean) 2 49) (a : Nat → Nat) (T : Int32 × plS) (hQ : plRi E (plwC (plg E) a) T) (st : plS)  (hk : T = K_SS_enqueue_57 st) : plJ E 5 (plwC (plg E) a st) 0 0 [(0, .ref (a 1))] 57 [] := by
  unfold K_SS_enqueue_57 at hk
  refine j_aload_n (pc := 57) X d_SS_enqueue_57 rfl 0 rfl ?_
  refine j_dup (pc := 58) X d_SS_enqueue_58 rfl ?_
  refine get_SS_queued (pc := 59) X fl_SS_21 d_SS_enqueue_59 ?_
  refine j_iconst (pc := 62) X d_SS_enqueue_62 ic_1 ?_
  refine j_iadd (pc := 63) X d_SS_enqueue_63 ?_
  refine put_SS_queued (pc := 64) X fl_SS_21 d_SS_enqueue_64 ?_
  refine j_iconst (pc := 67) X d_SS_enqueue_67 ic_1 ?_
  exact j_retz (pc := 68) X hQ d_SS_enqueue_68 (Or.inr rfl) hk
def K_SS_enqueue_47 (st : plS) (v1 : Int32) (v4 : Int32) : Int32 × plS := K_SS_enqueue_57 (plUp st 3 (plIx v4) (v1 + 3))
def P_SS_enqueue_47 (st : plS) (v1 : Int32) (v4 : Int32) : Prop := vp_in v4 8
set_option maxRecDepth 20000 in
theorem j_SS_enqueue_47 {E : plE} (X : plX E b_SS_enqueue "ProtectedLine$StreamSource" 5 (some .boolean) 2 49) (a : Nat → Nat) (T : Int32 × plS) (hQ : plRi E (plwC (plg E) a) T) (st : plS) (v1 : Int32) (v4 : Int32) (hs : P_SS_enqueue_47 st v1 v4) (hk : T = K_SS_enqueue_47 st v1 v4) : plJ E 5 (plwC (plg E) a st) 0 0 [(0, .ref (a 1)), (1, .int v1), (4, .int v4)] 47 [] := by
  unfold P_SS_enqueue_47 at hs
  unfold K_SS_enqueue_47 at hk
  refine j_aload_n (pc := 47) X d_SS_enqueue_47 rfl 0 rfl ?_
  refine get_SS_lengths (pc := 48) X fl_SS_15 d_SS_enqueue_48 ?_
  refine j_iload (pc := 51) X d_SS_enqueue_51 2 rfl ?_
  refine j_iload_n (pc := 53) X d_SS_enqueue_53 rfl 1 rfl ?_
  refine j_iconst (pc := 54) X d_SS_enqueue_54 ic_3 ?_
  refine j_iadd (pc := 55) X d_SS_enqueue_55 ?_
  refine ast_SSl (pc := 56) X hs d_SS_enqueue_56 ?_
  refine j_sub [0] (lv' := [(0, .ref (a 1))]) rfl ?_
  exact j_SS_enqueue_57 X a T hQ (plUp st 3 (plIx v4) (v1 + 3)) hk
def K_SS_enqueue (st : plS) (v1 : Int32) (v2 : Int64) : Int32 × plS := (if v1 < 1 then K_SS_enqueue_20 st else (if 6 < v1 then K_SS_enqueue_20 st else (if (st 1 3) < 8 then K_SS_enqueue_47 (K_SS_makeReady st ((((st 1 2) + (st 1 3)) - ((st 1 2) + (st 1 3)) / 8 * 8) * 9) v1 v2) v1 (((st 1 2) + (st 1 3)) - ((st 1 2) + (st 1 3)) / 8 * 8) else K_SS_enqueue_20 st)))
def P_SS_enqueue (st : plS) (v1 : Int32) (v2 : Int64) : Prop := (¬ v1 < 1 → (¬ 6 < v1 → ((st 1 3) < 8 → (P_SS_makeReady st ((((st 1 2) + (st 1 3)) - ((st 1 2) + (st 1 3)) / 8 * 8) * 9) v1 v2 ∧ P_SS_enqueue_47 (K_SS_makeReady st ((((st 1 2) + (st 1 3)) - ((st 1 2) + (st 1 3)) / 8 * 8) * 9) v1 v2) v1 (((st 1 2) + (st 1 3)) - ((st 1 2) + (st 1 3)) / 8 * 8)))))
set_option maxRecDepth 20000 in
theorem j_SS_enqueue {E : plE} (X : plX E b_SS_enqueue "ProtectedLine$StreamSource" 5 (some .boolean) 2 49) (a : Nat → Nat) (T : Int32 × plS) (hQ : plRi E (plwC (plg E) a) T) (st : plS) (v1 : Int32) (v2 : Int64) (hs : P_SS_enqueue st v1 v2) (hk : T = K_SS_enqueue st v1 v2) : plJ E 5 (plwC (plg E) a st) 0 0 [(0, .ref (a 1)), (1, .int v1), (2, .long v2)] 0 [] := by
  unfold P_SS_enqueue at hs
  unfold K_SS_enqueue at hk
  refine j_iload_n (pc := 0) X d_SS_enqueue_0 rfl 1 rfl ?_
  refine j_iconst (pc := 1) X d_SS_enqueue_1 ic_1 ?_
  refine j_icmp_lt (pc := 2) (tgt := 20) X d_SS_enqueue_2 rfl (fun hc => ?_) (fun hc => ?_)
  · have hk := hk.trans (if_pos hc)
    refine j_sub [] (lv' := []) rfl ?_
    exact j_SS_enqueue_20 X a T hQ st hk
  · have hk := hk.trans (if_neg hc)
    have hs := hs hc
    refine j_iload_n (pc := 5) X d_SS_enqueue_5 rfl 1 rfl ?_
    refine j_bipush (pc := 6) X d_SS_enqueue_6 bp_6 ?_
    refine j_icmp_gt (pc := 8) (tgt := 20) X d_SS_enqueue_8 rfl (fun hc => ?_) (fun hc => ?_)
    · have hk := hk.trans (if_pos hc)
      refine j_sub [] (lv' := []) rfl ?_
      exact j_SS_enqueue_20 X a T hQ st hk
    · have hk := hk.trans (if_neg hc)
      have hs := hs hc
      refine j_aload_n (pc := 11) X d_SS_enqueue_11 rfl 0 rfl ?_
      refine get_SS_queued (pc := 12) X fl_SS_21 d_SS_enqueue_12 ?_
      refine j_bipush (pc := 15) X d_SS_enqueue_15 bp_8 ?_
      refine j_icmp_lt (pc := 17) (tgt := 22) X d_SS_enqueue_17 rfl (fun hc => ?_) (fun hc => ?_)
      · have hk := hk.trans (if_pos hc)
        have hs := hs hc
        refine j_aload_n (pc := 22) X d_SS_enqueue_22 rfl 0 rfl ?_
        refine get_SS_oldest (pc := 23) X fl_SS_25 d_SS_enqueue_23 ?_
        refine j_aload_n (pc := 26) X d_SS_enqueue_26 rfl 0 rfl ?_
        refine get_SS_queued (pc := 27) X fl_SS_21 d_SS_enqueue_27 ?_
        refine j_iadd (pc := 30) X d_SS_enqueue_30 ?_
        refine j_bipush (pc := 31) X d_SS_enqueue_31 bp_8 ?_
        refine j_irem (pc := 33) X d_SS_enqueue_33 nz_8 ?_
        refine j_istore (pc := 34) X d_SS_enqueue_34 (lv' := [(4, .int (((st 1 2) + (st 1 3)) - ((st 1 2) + (st 1 3)) / 8 * 8)), (0, .ref (a 1)), (1, .int v1), (2, .long v2)]) (Nat.le_of_ble_eq_true rfl) rfl ?_
        refine j_aload_n (pc := 36) X d_SS_enqueue_36 rfl 1 rfl ?_
        refine j_iload (pc := 37) X d_SS_enqueue_37 0 rfl ?_
        refine j_bipush (pc := 39) X d_SS_enqueue_39 bp_9 ?_
        refine j_imul (pc := 41) X d_SS_enqueue_41 ?_
        refine j_iload_n (pc := 42) X d_SS_enqueue_42 rfl 2 rfl ?_
        refine j_lload_n (pc := 43) X d_SS_enqueue_43 rfl 3 rfl ?_
        refine j_callVv (pc := 44) (As := [.int ((((st 1 2) + (st 1 3)) - ((st 1 2) + (st 1 3)) / 8 * 8) * 9), .int v1, .long v2]) (rest := []) X (c_SS_makeReady (plg E) a st ((((st 1 2) + (st 1 3)) - ((st 1 2) + (st 1 3)) / 8 * 8) * 9) v1 v2 hs.1) ml_SS_28 1 rfl rfl ⟨Nat.le_of_ble_eq_true rfl, Nat.le_of_ble_eq_true rfl⟩ rfl rfl (Nat.le_of_ble_eq_true rfl) d_SS_enqueue_44 ?_
        have hs := hs.2
        refine j_sub [1, 2, 0] (lv' := [(0, .ref (a 1)), (1, .int v1), (4, .int (((st 1 2) + (st 1 3)) - ((st 1 2) + (st 1 3)) / 8 * 8))]) rfl ?_
        exact j_SS_enqueue_47 X a T hQ (K_SS_makeReady st ((((st 1 2) + (st 1 3)) - ((st 1 2) + (st 1 3)) / 8 * 8) * 9) v1 v2) v1 (((st 1 2) + (st 1 3)) - ((st 1 2) + (st 1 3)) / 8 * 8) hs hk
      · have hk := hk.trans (if_neg hc)
        refine j_sub [] (lv' := []) rfl ?_
        exact j_SS_enqueue_20 X a T hQ st hk
set_option maxRecDepth 20000 in
theorem c_SS_enqueue (g : plG) (a : Nat → Nat) (st : plS) (v1 : Int32) (v2 : Int64) (hs : P_SS_enqueue st v1 v2) : plMi g y_SS_enqueue b_SS_enqueue 5 (some .boolean) 2 49 [.ref (a 1), .int v1, .long v2] (plwC g a) st (K_SS_enqueue st v1 v2) := by
  refine plMi.of (own := "ProtectedLine$StreamSource") (lv := [(0, .ref (a 1)), (1, .int v1), (2, .long v2)]) rfl rfl (Nat.le_of_ble_eq_true rfl) rfl (fun E hE X hQ => ?_)
  subst hE
  exact j_SS_enqueue X a _ hQ st v1 v2 hs rfl
theorem d_PL_send_0 : decode b_PL_send 0 = .ok (.aload_n 0, 1) := by decide +kernel
theorem d_PL_send_1 : decode b_PL_send 1 = .ok (.getfield 10, 3) := by decide +kernel
theorem d_PL_send_4 : decode b_PL_send 4 = .ok (.iload_n 1, 1) := by decide +kernel
theorem d_PL_send_5 : decode b_PL_send 5 = .ok (.lload_n 2, 1) := by decide +kernel
theorem d_PL_send_6 : decode b_PL_send 6 = .ok (.invokevirtual 78, 3) := by decide +kernel
theorem d_PL_send_9 : decode b_PL_send 9 = .ok (.ireturn, 1) := by decide +kernel
def K_PL_send_9q  (q : Int32 × plS) : Int32 × plS := (q.1, q.2)
def P_PL_send_9q  (q : Int32 × plS) : Prop := plB q.1
set_option maxRecDepth 20000 in
theorem j_PL_send_9q {E : plE} (X : plX E b_PL_send "ProtectedLine" 4 (some .boolean) 3 73) (a : Nat → Nat) (T : Int32 × plS) (hQ : plRi E (plwC (plg E) a) T)  (q : Int32 × plS) (hs : P_PL_send_9q  q) (hk : T = K_PL_send_9q  q) : plJ E 4 (plwC (plg E) a q.2) 0 0 [] 9 [.int q.1] := by
  unfold P_PL_send_9q at hs
  unfold K_PL_send_9q at hk
  exact j_retz (pc := 9) X hQ d_PL_send_9 hs hk
def K_PL_send (st : plS) (v1 : Int32) (v2 : Int64) : Int32 × plS := K_PL_send_9q (K_SS_enqueue st v1 v2)
def P_PL_send (st : plS) (v1 : Int32) (v2 : Int64) : Prop := (P_SS_enqueue st v1 v2 ∧ P_PL_send_9q (K_SS_enqueue st v1 v2))
set_option maxRecDepth 20000 in
theorem j_PL_send {E : plE} (X : plX E b_PL_send "ProtectedLine" 4 (some .boolean) 3 73) (a : Nat → Nat) (T : Int32 × plS) (hQ : plRi E (plwC (plg E) a) T) (st : plS) (v1 : Int32) (v2 : Int64) (hs : P_PL_send st v1 v2) (hk : T = K_PL_send st v1 v2) : plJ E 4 (plwC (plg E) a st) 0 0 [(0, .ref (a 0)), (1, .int v1), (2, .long v2)] 0 [] := by
  unfold P_PL_send at hs
  unfold K_PL_send at hk
  refine j_aload_n (pc := 0) X d_PL_send_0 rfl 0 rfl ?_
  refine get_PL_source (pc := 1) X fl_PL_10 d_PL_send_1 ?_
  refine j_iload_n (pc := 4) X d_PL_send_4 rfl 1 rfl ?_
  refine j_lload_n (pc := 5) X d_PL_send_5 rfl 2 rfl ?_
  refine j_callVi (pc := 6) (As := [.int v1, .long v2]) (rest := []) X (c_SS_enqueue (plg E) a st v1 v2 hs.1) ml_PL_78 1 rfl rfl ⟨Nat.le_of_ble_eq_true rfl, Nat.le_of_ble_eq_true rfl⟩ rfl rfl (Nat.le_of_ble_eq_true rfl) d_PL_send_6 ?_
  refine j_sub [] (lv' := []) rfl ?_
  exact j_PL_send_9q X a T hQ (K_SS_enqueue st v1 v2) hs.2 hk
set_option maxRecDepth 20000 in
theorem c_PL_send (g : plG) (a : Nat → Nat) (st : plS) (v1 : Int32) (v2 : Int64) (hs : P_PL_send st v1 v2) : plMi g y_PL_send b_PL_send 4 (some .boolean) 3 73 [.ref (a 0), .int v1, .long v2] (plwC g a) st (K_PL_send st v1 v2) := by
  refine plMi.of (own := "ProtectedLine") (lv := [(0, .ref (a 0)), (1, .int v1), (2, .long v2)]) rfl rfl (Nat.le_of_ble_eq_true rfl) rfl (fun E hE X hQ => ?_)
  subst hE
  exact j_PL_send X a _ hQ st v1 v2 hs rfl
theorem d_BL_arriving_0 : decode b_BL_arriving 0 = .ok (.iload_n 1, 1) := by decide +kernel
theorem d_BL_arriving_1 : decode b_BL_arriving 1 = .ok (.ifCond .ne (14), 3) := by decide +kernel
theorem d_BL_arriving_4 : decode b_BL_arriving 4 = .ok (.aload_n 0, 1) := by decide +kernel
theorem d_BL_arriving_5 : decode b_BL_arriving 5 = .ok (.getfield 19, 3) := by decide +kernel
theorem d_BL_arriving_8 : decode b_BL_arriving 8 = .ok (.aload_n 0, 1) := by decide +kernel
theorem d_BL_arriving_9 : decode b_BL_arriving 9 = .ok (.getfield 15, 3) := by decide +kernel
theorem d_BL_arriving_12 : decode b_BL_arriving 12 = .ok (.if_icmp .ge (7), 3) := by decide +kernel
theorem d_BL_arriving_15 : decode b_BL_arriving 15 = .ok (.iconst (-1), 1) := by decide +kernel
theorem d_BL_arriving_16 : decode b_BL_arriving 16 = .ok (.goto (20), 3) := by decide +kernel
theorem d_BL_arriving_19 : decode b_BL_arriving 19 = .ok (.aload_n 0, 1) := by decide +kernel
theorem d_BL_arriving_20 : decode b_BL_arriving 20 = .ok (.getfield 11, 3) := by decide +kernel
theorem d_BL_arriving_23 : decode b_BL_arriving 23 = .ok (.aload_n 0, 1) := by decide +kernel
theorem d_BL_arriving_24 : decode b_BL_arriving 24 = .ok (.getfield 19, 3) := by decide +kernel
theorem d_BL_arriving_27 : decode b_BL_arriving 27 = .ok (.aload_n 0, 1) := by decide +kernel
theorem d_BL_arriving_28 : decode b_BL_arriving 28 = .ok (.getfield 15, 3) := by decide +kernel
theorem d_BL_arriving_31 : decode b_BL_arriving 31 = .ok (.isub, 1) := by decide +kernel
theorem d_BL_arriving_32 : decode b_BL_arriving 32 = .ok (.bipush (7), 2) := by decide +kernel
theorem d_BL_arriving_34 : decode b_BL_arriving 34 = .ok (.iand, 1) := by decide +kernel
theorem d_BL_arriving_35 : decode b_BL_arriving 35 = .ok (.iaload, 1) := by decide +kernel
theorem d_BL_arriving_36 : decode b_BL_arriving 36 = .ok (.ireturn, 1) := by decide +kernel
def K_BL_arriving_36 (st : plS) (k0 : Int32) : Int32 := k0
set_option maxRecDepth 20000 in
theorem j_BL_arriving_36 {E : plE} (X : plX E b_BL_arriving "ProtectedLine$BackLine" 2 (some .int) 0 0) (a : Nat → Nat) (T : Int32) (st : plS) (hQ : plRp E (plwC (plg E) a) st T) (k0 : Int32) (hk : T = K_BL_arriving_36 st k0) : plJ E 2 (plwC (plg E) a st) 0 0 [] 36 [.int k0] := by
  unfold K_BL_arriving_36 at hk
  exact j_retip (pc := 36) X hQ d_BL_arriving_36 hk
def K_BL_arriving_15 (st : plS) : Int32 := K_BL_arriving_36 st ((-1))
set_option maxRecDepth 20000 in
theorem j_BL_arriving_15 {E : plE} (X : plX E b_BL_arriving "ProtectedLine$BackLine" 2 (some .int) 0 0) (a : Nat → Nat) (T : Int32) (st : plS) (hQ : plRp E (plwC (plg E) a) st T)  (hk : T = K_BL_arriving_15 st) : plJ E 2 (plwC (plg E) a st) 0 0 [] 15 [] := by
  unfold K_BL_arriving_15 at hk
  refine j_iconst (pc := 15) X d_BL_arriving_15 ic_m1 ?_
  refine j_goto (pc := 16) (tgt := 36) X d_BL_arriving_16 rfl ?_
  exact j_BL_arriving_36 X a T st hQ ((-1)) hk
def K_BL_arriving (st : plS) (v1 : Int32) : Int32 := (if v1 = 0 then (if (st 17 0) ≤ (st 17 2) then K_BL_arriving_36 st (st 18 (plIx (((st 17 2) - (st 17 0)) &&& 7))) else K_BL_arriving_15 st) else K_BL_arriving_15 st)
def P_BL_arriving (st : plS) (v1 : Int32) : Prop := (v1 = 0 → ((st 17 0) ≤ (st 17 2) → vp_in (((st 17 2) - (st 17 0)) &&& 7) 8))
set_option maxRecDepth 20000 in
theorem j_BL_arriving {E : plE} (X : plX E b_BL_arriving "ProtectedLine$BackLine" 2 (some .int) 0 0) (a : Nat → Nat) (T : Int32) (st : plS) (hQ : plRp E (plwC (plg E) a) st T) (v1 : Int32) (hs : P_BL_arriving st v1) (hk : T = K_BL_arriving st v1) : plJ E 2 (plwC (plg E) a st) 0 0 [(0, .ref (a 17)), (1, .int v1)] 0 [] := by
  unfold P_BL_arriving at hs
  unfold K_BL_arriving at hk
  refine j_iload_n (pc := 0) X d_BL_arriving_0 rfl 1 rfl ?_
  refine j_if_ne (pc := 1) (tgt := 15) X d_BL_arriving_1 rfl (fun hc => ?_) (fun hc => ?_)
  · have hk := hk.trans (if_neg hc)
    refine j_sub [] (lv' := []) rfl ?_
    exact j_BL_arriving_15 X a T st hQ hk
  · have hk := hk.trans (if_pos hc)
    have hs := hs hc
    refine j_aload_n (pc := 4) X d_BL_arriving_4 rfl 0 rfl ?_
    refine get_BL_launched (pc := 5) X fl_BL_19 d_BL_arriving_5 ?_
    refine j_aload_n (pc := 8) X d_BL_arriving_8 rfl 0 rfl ?_
    refine get_BL_delay (pc := 9) X fl_BL_15 d_BL_arriving_9 ?_
    refine j_icmp_ge (pc := 12) (tgt := 19) X d_BL_arriving_12 rfl (fun hc => ?_) (fun hc => ?_)
    · have hk := hk.trans (if_pos hc)
      have hs := hs hc
      refine j_aload_n (pc := 19) X d_BL_arriving_19 rfl 0 rfl ?_
      refine get_BL_underWay (pc := 20) X fl_BL_11 d_BL_arriving_20 ?_
      refine j_aload_n (pc := 23) X d_BL_arriving_23 rfl 0 rfl ?_
      refine get_BL_launched (pc := 24) X fl_BL_19 d_BL_arriving_24 ?_
      refine j_aload_n (pc := 27) X d_BL_arriving_27 rfl 0 rfl ?_
      refine get_BL_delay (pc := 28) X fl_BL_15 d_BL_arriving_28 ?_
      refine j_isub (pc := 31) X d_BL_arriving_31 ?_
      refine j_bipush (pc := 32) X d_BL_arriving_32 bp_7 ?_
      refine j_iand (pc := 34) X d_BL_arriving_34 ?_
      refine ald_BLu (pc := 35) X hs d_BL_arriving_35 ?_
      refine j_sub [] (lv' := []) rfl ?_
      exact j_BL_arriving_36 X a T st hQ (st 18 (plIx (((st 17 2) - (st 17 0)) &&& 7))) hk
    · have hk := hk.trans (if_neg hc)
      refine j_sub [] (lv' := []) rfl ?_
      exact j_BL_arriving_15 X a T st hQ hk
set_option maxRecDepth 20000 in
theorem c_BL_arriving (g : plG) (a : Nat → Nat) (st : plS) (v1 : Int32) (hs : P_BL_arriving st v1) : plMp g y_BL_arriving b_BL_arriving 2 (some .int) 0 0 [.ref (a 17), .int v1] (plwC g a) st (K_BL_arriving st v1) := by
  refine plMp.of (own := "ProtectedLine$BackLine") (lv := [(0, .ref (a 17)), (1, .int v1)]) rfl rfl (Nat.le_of_ble_eq_true rfl) rfl (fun E hE X hQ => ?_)
  subst hE
  exact j_BL_arriving X a _ st hQ v1 hs rfl
theorem d_LI_hear_0 : decode b_LI_hear 0 = .ok (.aload_n 0, 1) := by decide +kernel
theorem d_LI_hear_1 : decode b_LI_hear 1 = .ok (.iload_n 1, 1) := by decide +kernel
theorem d_LI_hear_2 : decode b_LI_hear 2 = .ok (.aload_n 0, 1) := by decide +kernel
theorem d_LI_hear_3 : decode b_LI_hear 3 = .ok (.getfield 9, 3) := by decide +kernel
theorem d_LI_hear_6 : decode b_LI_hear 6 = .ok (.if_icmp .ne (12), 3) := by decide +kernel
theorem d_LI_hear_9 : decode b_LI_hear 9 = .ok (.aload_n 0, 1) := by decide +kernel
theorem d_LI_hear_10 : decode b_LI_hear 10 = .ok (.getfield 15, 3) := by decide +kernel
theorem d_LI_hear_13 : decode b_LI_hear 13 = .ok (.iconst 1, 1) := by decide +kernel
theorem d_LI_hear_14 : decode b_LI_hear 14 = .ok (.iadd, 1) := by decide +kernel
theorem d_LI_hear_15 : decode b_LI_hear 15 = .ok (.goto (4), 3) := by decide +kernel
theorem d_LI_hear_18 : decode b_LI_hear 18 = .ok (.iconst 1, 1) := by decide +kernel
theorem d_LI_hear_19 : decode b_LI_hear 19 = .ok (.putfield 15, 3) := by decide +kernel
theorem d_LI_hear_22 : decode b_LI_hear 22 = .ok (.aload_n 0, 1) := by decide +kernel
theorem d_LI_hear_23 : decode b_LI_hear 23 = .ok (.iload_n 1, 1) := by decide +kernel
theorem d_LI_hear_24 : decode b_LI_hear 24 = .ok (.putfield 9, 3) := by decide +kernel
theorem d_LI_hear_27 : decode b_LI_hear 27 = .ok (.aload_n 0, 1) := by decide +kernel
theorem d_LI_hear_28 : decode b_LI_hear 28 = .ok (.getfield 15, 3) := by decide +kernel
theorem d_LI_hear_31 : decode b_LI_hear 31 = .ok (.iconst 3, 1) := by decide +kernel
theorem d_LI_hear_32 : decode b_LI_hear 32 = .ok (.if_icmp .lt (13), 3) := by decide +kernel
theorem d_LI_hear_35 : decode b_LI_hear 35 = .ok (.iload_n 1, 1) := by decide +kernel
theorem d_LI_hear_36 : decode b_LI_hear 36 = .ok (.iconst (-1), 1) := by decide +kernel
theorem d_LI_hear_37 : decode b_LI_hear 37 = .ok (.if_icmp .eq (8), 3) := by decide +kernel
theorem d_LI_hear_40 : decode b_LI_hear 40 = .ok (.aload_n 0, 1) := by decide +kernel
theorem d_LI_hear_41 : decode b_LI_hear 41 = .ok (.iload_n 1, 1) := by decide +kernel
theorem d_LI_hear_42 : decode b_LI_hear 42 = .ok (.putfield 18, 3) := by decide +kernel
theorem d_LI_hear_45 : decode b_LI_hear 45 = .ok (.return_, 1) := by decide +kernel
def K_LA_hear_45 (st : plS) : plS := st
set_option maxRecDepth 20000 in
theorem j_LA_hear_45 {E : plE} (X : plX E b_LI_hear "ProtectedLine$Listener" 2 none 0 0) (a : Nat → Nat) (T : plS) (hQ : plRv E (plwC (plg E) a) T) (st : plS)  (hk : T = K_LA_hear_45 st) : plJ E 2 (plwC (plg E) a st) 0 0 [] 45 [] := by
  unfold K_LA_hear_45 at hk
  exact j_retv (pc := 45) X hQ d_LI_hear_45 hk
def K_LA_hear_27 (st : plS) (v1 : Int32) : plS := (if (st 7 2) < 3 then K_LA_hear_45 st else (if v1 = ((-1)) then K_LA_hear_45 st else K_LA_hear_45 (plUp st 7 0 v1)))
set_option maxRecDepth 20000 in
theorem j_LA_hear_27 {E : plE} (X : plX E b_LI_hear "ProtectedLine$Listener" 2 none 0 0) (a : Nat → Nat) (T : plS) (hQ : plRv E (plwC (plg E) a) T) (st : plS) (v1 : Int32) (hk : T = K_LA_hear_27 st v1) : plJ E 2 (plwC (plg E) a st) 0 0 [(0, .ref (a 7)), (1, .int v1)] 27 [] := by
  unfold K_LA_hear_27 at hk
  refine j_aload_n (pc := 27) X d_LI_hear_27 rfl 0 rfl ?_
  refine get_LA_row (pc := 28) X fl_LI_15 d_LI_hear_28 ?_
  refine j_iconst (pc := 31) X d_LI_hear_31 ic_3 ?_
  refine j_icmp_lt (pc := 32) (tgt := 45) X d_LI_hear_32 rfl (fun hc => ?_) (fun hc => ?_)
  · have hk := hk.trans (if_pos hc)
    refine j_sub [] (lv' := []) rfl ?_
    exact j_LA_hear_45 X a T hQ st hk
  · have hk := hk.trans (if_neg hc)
    refine j_iload_n (pc := 35) X d_LI_hear_35 rfl 1 rfl ?_
    refine j_iconst (pc := 36) X d_LI_hear_36 ic_m1 ?_
    refine j_icmp_eq (pc := 37) (tgt := 45) X d_LI_hear_37 rfl (fun hc => ?_) (fun hc => ?_)
    · have hk := hk.trans (if_pos hc)
      refine j_sub [] (lv' := []) rfl ?_
      exact j_LA_hear_45 X a T hQ st hk
    · have hk := hk.trans (if_neg hc)
      refine j_aload_n (pc := 40) X d_LI_hear_40 rfl 0 rfl ?_
      refine j_iload_n (pc := 41) X d_LI_hear_41 rfl 1 rfl ?_
      refine put_LA_accepted (pc := 42) X fl_LI_18 d_LI_hear_42 ?_
      refine j_sub [] (lv' := []) rfl ?_
      exact j_LA_hear_45 X a T hQ (plUp st 7 0 v1) hk
def K_LA_hear_22 (st : plS) (v1 : Int32) : plS := K_LA_hear_27 (plUp st 7 1 v1) v1
set_option maxRecDepth 20000 in
theorem j_LA_hear_22 {E : plE} (X : plX E b_LI_hear "ProtectedLine$Listener" 2 none 0 0) (a : Nat → Nat) (T : plS) (hQ : plRv E (plwC (plg E) a) T) (st : plS) (v1 : Int32) (hk : T = K_LA_hear_22 st v1) : plJ E 2 (plwC (plg E) a st) 0 0 [(0, .ref (a 7)), (1, .int v1)] 22 [] := by
  unfold K_LA_hear_22 at hk
  refine j_aload_n (pc := 22) X d_LI_hear_22 rfl 0 rfl ?_
  refine j_iload_n (pc := 23) X d_LI_hear_23 rfl 1 rfl ?_
  refine put_LA_latest (pc := 24) X fl_LI_9 d_LI_hear_24 ?_
  exact j_LA_hear_27 X a T hQ (plUp st 7 1 v1) v1 hk
def K_LA_hear_19 (st : plS) (v1 : Int32) (k0 : Int32) : plS := K_LA_hear_22 (plUp st 7 2 k0) v1
set_option maxRecDepth 20000 in
theorem j_LA_hear_19 {E : plE} (X : plX E b_LI_hear "ProtectedLine$Listener" 2 none 0 0) (a : Nat → Nat) (T : plS) (hQ : plRv E (plwC (plg E) a) T) (st : plS) (v1 : Int32) (k0 : Int32) (hk : T = K_LA_hear_19 st v1 k0) : plJ E 2 (plwC (plg E) a st) 0 0 [(0, .ref (a 7)), (1, .int v1)] 19 [.int k0, .ref (a 7)] := by
  unfold K_LA_hear_19 at hk
  refine put_LA_row (pc := 19) X fl_LI_15 d_LI_hear_19 ?_
  exact j_LA_hear_22 X a T hQ (plUp st 7 2 k0) v1 hk
def K_LA_hear (st : plS) (v1 : Int32) : plS := (if v1 = (st 7 1) then K_LA_hear_19 st v1 ((st 7 2) + 1) else K_LA_hear_19 st v1 1)
set_option maxRecDepth 20000 in
theorem j_LA_hear {E : plE} (X : plX E b_LI_hear "ProtectedLine$Listener" 2 none 0 0) (a : Nat → Nat) (T : plS) (hQ : plRv E (plwC (plg E) a) T) (st : plS) (v1 : Int32) (hk : T = K_LA_hear st v1) : plJ E 2 (plwC (plg E) a st) 0 0 [(0, .ref (a 7)), (1, .int v1)] 0 [] := by
  unfold K_LA_hear at hk
  refine j_aload_n (pc := 0) X d_LI_hear_0 rfl 0 rfl ?_
  refine j_iload_n (pc := 1) X d_LI_hear_1 rfl 1 rfl ?_
  refine j_aload_n (pc := 2) X d_LI_hear_2 rfl 0 rfl ?_
  refine get_LA_latest (pc := 3) X fl_LI_9 d_LI_hear_3 ?_
  refine j_icmp_ne (pc := 6) (tgt := 18) X d_LI_hear_6 rfl (fun hc => ?_) (fun hc => ?_)
  · have hk := hk.trans (if_neg hc)
    refine j_iconst (pc := 18) X d_LI_hear_18 ic_1 ?_
    exact j_LA_hear_19 X a T hQ st v1 1 hk
  · have hk := hk.trans (if_pos hc)
    refine j_aload_n (pc := 9) X d_LI_hear_9 rfl 0 rfl ?_
    refine get_LA_row (pc := 10) X fl_LI_15 d_LI_hear_10 ?_
    refine j_iconst (pc := 13) X d_LI_hear_13 ic_1 ?_
    refine j_iadd (pc := 14) X d_LI_hear_14 ?_
    refine j_goto (pc := 15) (tgt := 19) X d_LI_hear_15 rfl ?_
    exact j_LA_hear_19 X a T hQ st v1 ((st 7 2) + 1) hk
set_option maxRecDepth 20000 in
theorem c_LA_hear (g : plG) (a : Nat → Nat) (st : plS) (v1 : Int32) : plMv g y_LI_hear b_LI_hear 2 none 0 0 [.ref (a 7), .int v1] (plwC g a) st (K_LA_hear st v1) := by
  refine plMv.of (own := "ProtectedLine$Listener") (lv := [(0, .ref (a 7)), (1, .int v1)]) rfl rfl (Nat.le_of_ble_eq_true rfl) rfl (fun E hE X hQ => ?_)
  subst hE
  exact j_LA_hear X a _ hQ st v1 rfl
