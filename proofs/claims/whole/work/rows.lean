section
-- ===== PART A: goes FIRST, ahead of the names: the tables' words, and 'selects' of the private methods out of them =====
/-- a private method of a class that the tables say can be made, by its rows of tables_1 -/
def lw_okq (q : MethodName × Nat) : Prop := (q.1.cls ≠ "java/lang/invoke/MethodHandle" ∧ q.1.cls ≠ "java/lang/invoke/VarHandle") ∧ Cond.instantiable q.1.cls q.2 ∈ tables_1 ∧ Cond.privateMethod q.1 ∈ tables_1 ∧ Cond.instanceMethod q.1 ∈ tables_1
theorem lw_p0 : lw_okq (⟨"ProtectedLine$StreamSource", "makeReady", "(IIJ)V"⟩, 8) := ⟨⟨by decide +kernel, by decide +kernel⟩, List.mem_of_getElem? (i := 25) (by decide +kernel), List.mem_of_getElem? (i := 336) (by decide +kernel), List.mem_of_getElem? (i := 337) (by decide +kernel)⟩
theorem lw_p1 : lw_okq (⟨"ProtectedLine", "passTick", "()V"⟩, 8) := ⟨⟨by decide +kernel, by decide +kernel⟩, List.mem_of_getElem? (i := 17) (by decide +kernel), List.mem_of_getElem? (i := 347) (by decide +kernel), List.mem_of_getElem? (i := 348) (by decide +kernel)⟩
theorem lw_p2 : lw_okq (⟨"ProtectedLine$NodeA", "justification", "()I"⟩, 6) := ⟨⟨by decide +kernel, by decide +kernel⟩, List.mem_of_getElem? (i := 58) (by decide +kernel), List.mem_of_getElem? (i := 363) (by decide +kernel), List.mem_of_getElem? (i := 364) (by decide +kernel)⟩
theorem lw_p3 : lw_okq (⟨"ProtectedLine$NodeA", "fill", "(I)V"⟩, 6) := ⟨⟨by decide +kernel, by decide +kernel⟩, List.mem_of_getElem? (i := 58) (by decide +kernel), List.mem_of_getElem? (i := 367) (by decide +kernel), List.mem_of_getElem? (i := 368) (by decide +kernel)⟩
theorem lw_p4 : lw_okq (⟨"ProtectedLine$StreamSource", "begin", "()V"⟩, 8) := ⟨⟨by decide +kernel, by decide +kernel⟩, List.mem_of_getElem? (i := 25) (by decide +kernel), List.mem_of_getElem? (i := 382) (by decide +kernel), List.mem_of_getElem? (i := 383) (by decide +kernel)⟩
theorem lw_p5 : lw_okq (⟨"ProtectedLine$Line", "bringIn", "(I)V"⟩, 12) := ⟨⟨by decide +kernel, by decide +kernel⟩, List.mem_of_getElem? (i := 118) (by decide +kernel), List.mem_of_getElem? (i := 411) (by decide +kernel), List.mem_of_getElem? (i := 412) (by decide +kernel)⟩
theorem lw_p6 : lw_okq (⟨"ProtectedLine$Line", "align", "(Z)V"⟩, 12) := ⟨⟨by decide +kernel, by decide +kernel⟩, List.mem_of_getElem? (i := 118) (by decide +kernel), List.mem_of_getElem? (i := 418) (by decide +kernel), List.mem_of_getElem? (i := 419) (by decide +kernel)⟩
theorem lw_p7 : lw_okq (⟨"ProtectedLine$Switch", "pressing", "(Z)I"⟩, 8) := ⟨⟨by decide +kernel, by decide +kernel⟩, List.mem_of_getElem? (i := 184) (by decide +kernel), List.mem_of_getElem? (i := 446) (by decide +kernel), List.mem_of_getElem? (i := 447) (by decide +kernel)⟩
theorem lw_p8 : lw_okq (⟨"ProtectedLine$Switch", "waitOn", "()I"⟩, 8) := ⟨⟨by decide +kernel, by decide +kernel⟩, List.mem_of_getElem? (i := 184) (by decide +kernel), List.mem_of_getElem? (i := 450) (by decide +kernel), List.mem_of_getElem? (i := 451) (by decide +kernel)⟩
theorem lw_p9 : lw_okq (⟨"ProtectedLine", "lineAt", "(I)LProtectedLine$Line;"⟩, 8) := ⟨⟨by decide +kernel, by decide +kernel⟩, List.mem_of_getElem? (i := 17) (by decide +kernel), List.mem_of_getElem? (i := 454) (by decide +kernel), List.mem_of_getElem? (i := 455) (by decide +kernel)⟩
theorem lw_p10 : lw_okq (⟨"ProtectedLine$PointerReader", "follow", "(I)I"⟩, 9) := ⟨⟨by decide +kernel, by decide +kernel⟩, List.mem_of_getElem? (i := 267) (by decide +kernel), List.mem_of_getElem? (i := 463) (by decide +kernel), List.mem_of_getElem? (i := 464) (by decide +kernel)⟩
theorem lw_p11 : lw_okq (⟨"ProtectedLine$PointerReader", "seek", "(I)V"⟩, 9) := ⟨⟨by decide +kernel, by decide +kernel⟩, List.mem_of_getElem? (i := 267) (by decide +kernel), List.mem_of_getElem? (i := 467) (by decide +kernel), List.mem_of_getElem? (i := 468) (by decide +kernel)⟩
theorem lw_p12 : lw_okq (⟨"ProtectedLine$PointerReader", "countPlain", "(I)V"⟩, 9) := ⟨⟨by decide +kernel, by decide +kernel⟩, List.mem_of_getElem? (i := 267) (by decide +kernel), List.mem_of_getElem? (i := 471) (by decide +kernel), List.mem_of_getElem? (i := 472) (by decide +kernel)⟩
theorem lw_p13 : lw_okq (⟨"ProtectedLine$PointerReader", "endRows", "()V"⟩, 9) := ⟨⟨by decide +kernel, by decide +kernel⟩, List.mem_of_getElem? (i := 267) (by decide +kernel), List.mem_of_getElem? (i := 479) (by decide +kernel), List.mem_of_getElem? (i := 480) (by decide +kernel)⟩
theorem lw_p14 : lw_okq (⟨"ProtectedLine$PointerReader", "shiftIn", "(I)I"⟩, 9) := ⟨⟨by decide +kernel, by decide +kernel⟩, List.mem_of_getElem? (i := 267) (by decide +kernel), List.mem_of_getElem? (i := 483) (by decide +kernel), List.mem_of_getElem? (i := 484) (by decide +kernel)⟩
theorem lw_p15 : lw_okq (⟨"ProtectedLine$PointerReader", "doubt", "(I)V"⟩, 9) := ⟨⟨by decide +kernel, by decide +kernel⟩, List.mem_of_getElem? (i := 267) (by decide +kernel), List.mem_of_getElem? (i := 489) (by decide +kernel), List.mem_of_getElem? (i := 490) (by decide +kernel)⟩
def lw_privs_1 : List (MethodName × Nat) := [(⟨"ProtectedLine$StreamSource", "makeReady", "(IIJ)V"⟩, 8), (⟨"ProtectedLine", "passTick", "()V"⟩, 8), (⟨"ProtectedLine$NodeA", "justification", "()I"⟩, 6), (⟨"ProtectedLine$NodeA", "fill", "(I)V"⟩, 6), (⟨"ProtectedLine$StreamSource", "begin", "()V"⟩, 8), (⟨"ProtectedLine$Line", "bringIn", "(I)V"⟩, 12), (⟨"ProtectedLine$Line", "align", "(Z)V"⟩, 12), (⟨"ProtectedLine$Switch", "pressing", "(Z)I"⟩, 8), (⟨"ProtectedLine$Switch", "waitOn", "()I"⟩, 8), (⟨"ProtectedLine", "lineAt", "(I)LProtectedLine$Line;"⟩, 8), (⟨"ProtectedLine$PointerReader", "follow", "(I)I"⟩, 9), (⟨"ProtectedLine$PointerReader", "seek", "(I)V"⟩, 9), (⟨"ProtectedLine$PointerReader", "countPlain", "(I)V"⟩, 9), (⟨"ProtectedLine$PointerReader", "endRows", "()V"⟩, 9), (⟨"ProtectedLine$PointerReader", "shiftIn", "(I)I"⟩, 9), (⟨"ProtectedLine$PointerReader", "doubt", "(I)V"⟩, 9)]
theorem lw_r1 : ∀ q ∈ lw_privs_1, lw_okq q := List.forall_mem_cons.mpr ⟨lw_p0, List.forall_mem_cons.mpr ⟨lw_p1, List.forall_mem_cons.mpr ⟨lw_p2, List.forall_mem_cons.mpr ⟨lw_p3, List.forall_mem_cons.mpr ⟨lw_p4, List.forall_mem_cons.mpr ⟨lw_p5, List.forall_mem_cons.mpr ⟨lw_p6, List.forall_mem_cons.mpr ⟨lw_p7, List.forall_mem_cons.mpr ⟨lw_p8, List.forall_mem_cons.mpr ⟨lw_p9, List.forall_mem_cons.mpr ⟨lw_p10, List.forall_mem_cons.mpr ⟨lw_p11, List.forall_mem_cons.mpr ⟨lw_p12, List.forall_mem_cons.mpr ⟨lw_p13, List.forall_mem_cons.mpr ⟨lw_p14, List.forall_mem_cons.mpr ⟨lw_p15, fun _ h => absurd h List.not_mem_nil⟩⟩⟩⟩⟩⟩⟩⟩⟩⟩⟩⟩⟩⟩⟩⟩
theorem lw_p16 : lw_okq (⟨"ProtectedLine$PointerReader", "breakOff", "()V"⟩, 9) := ⟨⟨by decide +kernel, by decide +kernel⟩, List.mem_of_getElem? (i := 267) (by decide +kernel), List.mem_of_getElem? (i := 493) (by decide +kernel), List.mem_of_getElem? (i := 494) (by decide +kernel)⟩
theorem lw_p17 : lw_okq (⟨"ProtectedLine$PointerReader", "beginContainer", "(I)V"⟩, 9) := ⟨⟨by decide +kernel, by decide +kernel⟩, List.mem_of_getElem? (i := 267) (by decide +kernel), List.mem_of_getElem? (i := 501) (by decide +kernel), List.mem_of_getElem? (i := 502) (by decide +kernel)⟩
theorem lw_p18 : lw_okq (⟨"ProtectedLine$StreamReader", "takeFrameByte", "(I)V"⟩, 12) := ⟨⟨by decide +kernel, by decide +kernel⟩, List.mem_of_getElem? (i := 221) (by decide +kernel), List.mem_of_getElem? (i := 509) (by decide +kernel), List.mem_of_getElem? (i := 510) (by decide +kernel)⟩
theorem lw_p19 : lw_okq (⟨"ProtectedLine$StreamReader", "endFrame", "(I)V"⟩, 12) := ⟨⟨by decide +kernel, by decide +kernel⟩, List.mem_of_getElem? (i := 221) (by decide +kernel), List.mem_of_getElem? (i := 513) (by decide +kernel), List.mem_of_getElem? (i := 514) (by decide +kernel)⟩
theorem lw_p20 : lw_okq (⟨"ProtectedLine$StreamReader", "takeHeader", "(I)V"⟩, 12) := ⟨⟨by decide +kernel, by decide +kernel⟩, List.mem_of_getElem? (i := 221) (by decide +kernel), List.mem_of_getElem? (i := 522) (by decide +kernel), List.mem_of_getElem? (i := 523) (by decide +kernel)⟩
theorem lw_p21 : lw_okq (⟨"ProtectedLineModel", "hear", "()V"⟩, 59) := ⟨⟨by decide +kernel, by decide +kernel⟩, List.mem_of_getElem? (i := 637) (by decide +kernel), List.mem_of_getElem? (i := 853) (by decide +kernel), List.mem_of_getElem? (i := 854) (by decide +kernel)⟩
theorem lw_p22 : lw_okq (⟨"ProtectedLineModel", "build", "()V"⟩, 59) := ⟨⟨by decide +kernel, by decide +kernel⟩, List.mem_of_getElem? (i := 637) (by decide +kernel), List.mem_of_getElem? (i := 857) (by decide +kernel), List.mem_of_getElem? (i := 858) (by decide +kernel)⟩
theorem lw_p23 : lw_okq (⟨"ProtectedLineModel", "contained", "()I"⟩, 59) := ⟨⟨by decide +kernel, by decide +kernel⟩, List.mem_of_getElem? (i := 637) (by decide +kernel), List.mem_of_getElem? (i := 861) (by decide +kernel), List.mem_of_getElem? (i := 862) (by decide +kernel)⟩
theorem lw_p24 : lw_okq (⟨"ProtectedLineModel", "streamed", "()I"⟩, 59) := ⟨⟨by decide +kernel, by decide +kernel⟩, List.mem_of_getElem? (i := 637) (by decide +kernel), List.mem_of_getElem? (i := 865) (by decide +kernel), List.mem_of_getElem? (i := 866) (by decide +kernel)⟩
theorem lw_p25 : lw_okq (⟨"ProtectedLineModel", "load", "()V"⟩, 59) := ⟨⟨by decide +kernel, by decide +kernel⟩, List.mem_of_getElem? (i := 637) (by decide +kernel), List.mem_of_getElem? (i := 869) (by decide +kernel), List.mem_of_getElem? (i := 870) (by decide +kernel)⟩
theorem lw_p26 : lw_okq (⟨"ProtectedLineModel", "put", "(I)V"⟩, 59) := ⟨⟨by decide +kernel, by decide +kernel⟩, List.mem_of_getElem? (i := 637) (by decide +kernel), List.mem_of_getElem? (i := 876) (by decide +kernel), List.mem_of_getElem? (i := 877) (by decide +kernel)⟩
theorem lw_p27 : lw_okq (⟨"ProtectedLineModel", "arrive", "()V"⟩, 59) := ⟨⟨by decide +kernel, by decide +kernel⟩, List.mem_of_getElem? (i := 637) (by decide +kernel), List.mem_of_getElem? (i := 880) (by decide +kernel), List.mem_of_getElem? (i := 881) (by decide +kernel)⟩
theorem lw_p28 : lw_okq (⟨"ProtectedLineModel", "align", "(I)V"⟩, 59) := ⟨⟨by decide +kernel, by decide +kernel⟩, List.mem_of_getElem? (i := 637) (by decide +kernel), List.mem_of_getElem? (i := 884) (by decide +kernel), List.mem_of_getElem? (i := 885) (by decide +kernel)⟩
theorem lw_p29 : lw_okq (⟨"ProtectedLineModel", "listen", "()V"⟩, 59) := ⟨⟨by decide +kernel, by decide +kernel⟩, List.mem_of_getElem? (i := 637) (by decide +kernel), List.mem_of_getElem? (i := 891) (by decide +kernel), List.mem_of_getElem? (i := 892) (by decide +kernel)⟩
theorem lw_p30 : lw_okq (⟨"ProtectedLineModel", "decide", "()V"⟩, 59) := ⟨⟨by decide +kernel, by decide +kernel⟩, List.mem_of_getElem? (i := 637) (by decide +kernel), List.mem_of_getElem? (i := 895) (by decide +kernel), List.mem_of_getElem? (i := 896) (by decide +kernel)⟩
theorem lw_p31 : lw_okq (⟨"ProtectedLineModel", "select", "()V"⟩, 59) := ⟨⟨by decide +kernel, by decide +kernel⟩, List.mem_of_getElem? (i := 637) (by decide +kernel), List.mem_of_getElem? (i := 899) (by decide +kernel), List.mem_of_getElem? (i := 900) (by decide +kernel)⟩
def lw_privs_2 : List (MethodName × Nat) := [(⟨"ProtectedLine$PointerReader", "breakOff", "()V"⟩, 9), (⟨"ProtectedLine$PointerReader", "beginContainer", "(I)V"⟩, 9), (⟨"ProtectedLine$StreamReader", "takeFrameByte", "(I)V"⟩, 12), (⟨"ProtectedLine$StreamReader", "endFrame", "(I)V"⟩, 12), (⟨"ProtectedLine$StreamReader", "takeHeader", "(I)V"⟩, 12), (⟨"ProtectedLineModel", "hear", "()V"⟩, 59), (⟨"ProtectedLineModel", "build", "()V"⟩, 59), (⟨"ProtectedLineModel", "contained", "()I"⟩, 59), (⟨"ProtectedLineModel", "streamed", "()I"⟩, 59), (⟨"ProtectedLineModel", "load", "()V"⟩, 59), (⟨"ProtectedLineModel", "put", "(I)V"⟩, 59), (⟨"ProtectedLineModel", "arrive", "()V"⟩, 59), (⟨"ProtectedLineModel", "align", "(I)V"⟩, 59), (⟨"ProtectedLineModel", "listen", "()V"⟩, 59), (⟨"ProtectedLineModel", "decide", "()V"⟩, 59), (⟨"ProtectedLineModel", "select", "()V"⟩, 59)]
theorem lw_r2 : ∀ q ∈ lw_privs_2, lw_okq q := List.forall_mem_cons.mpr ⟨lw_p16, List.forall_mem_cons.mpr ⟨lw_p17, List.forall_mem_cons.mpr ⟨lw_p18, List.forall_mem_cons.mpr ⟨lw_p19, List.forall_mem_cons.mpr ⟨lw_p20, List.forall_mem_cons.mpr ⟨lw_p21, List.forall_mem_cons.mpr ⟨lw_p22, List.forall_mem_cons.mpr ⟨lw_p23, List.forall_mem_cons.mpr ⟨lw_p24, List.forall_mem_cons.mpr ⟨lw_p25, List.forall_mem_cons.mpr ⟨lw_p26, List.forall_mem_cons.mpr ⟨lw_p27, List.forall_mem_cons.mpr ⟨lw_p28, List.forall_mem_cons.mpr ⟨lw_p29, List.forall_mem_cons.mpr ⟨lw_p30, List.forall_mem_cons.mpr ⟨lw_p31, fun _ h => absurd h List.not_mem_nil⟩⟩⟩⟩⟩⟩⟩⟩⟩⟩⟩⟩⟩⟩⟩⟩
theorem lw_p32 : lw_okq (⟨"ProtectedLineModel", "read", "(II)V"⟩, 59) := ⟨⟨by decide +kernel, by decide +kernel⟩, List.mem_of_getElem? (i := 637) (by decide +kernel), List.mem_of_getElem? (i := 903) (by decide +kernel), List.mem_of_getElem? (i := 904) (by decide +kernel)⟩
theorem lw_p33 : lw_okq (⟨"ProtectedLineModel", "third", "(I)Z"⟩, 59) := ⟨⟨by decide +kernel, by decide +kernel⟩, List.mem_of_getElem? (i := 637) (by decide +kernel), List.mem_of_getElem? (i := 910) (by decide +kernel), List.mem_of_getElem? (i := 911) (by decide +kernel)⟩
theorem lw_p34 : lw_okq (⟨"ProtectedLineModel", "hunt", "()V"⟩, 59) := ⟨⟨by decide +kernel, by decide +kernel⟩, List.mem_of_getElem? (i := 637) (by decide +kernel), List.mem_of_getElem? (i := 914) (by decide +kernel), List.mem_of_getElem? (i := 915) (by decide +kernel)⟩
theorem lw_p35 : lw_okq (⟨"ProtectedLineModel", "found", "(I)V"⟩, 59) := ⟨⟨by decide +kernel, by decide +kernel⟩, List.mem_of_getElem? (i := 637) (by decide +kernel), List.mem_of_getElem? (i := 918) (by decide +kernel), List.mem_of_getElem? (i := 919) (by decide +kernel)⟩
theorem lw_p36 : lw_okq (⟨"ProtectedLineModel", "unread", "(I)Z"⟩, 59) := ⟨⟨by decide +kernel, by decide +kernel⟩, List.mem_of_getElem? (i := 637) (by decide +kernel), List.mem_of_getElem? (i := 922) (by decide +kernel), List.mem_of_getElem? (i := 923) (by decide +kernel)⟩
theorem lw_p37 : lw_okq (⟨"ProtectedLineModel", "lose", "()V"⟩, 59) := ⟨⟨by decide +kernel, by decide +kernel⟩, List.mem_of_getElem? (i := 637) (by decide +kernel), List.mem_of_getElem? (i := 926) (by decide +kernel), List.mem_of_getElem? (i := 927) (by decide +kernel)⟩
theorem lw_p38 : lw_okq (⟨"ProtectedLineModel", "give", "(IZ)V"⟩, 59) := ⟨⟨by decide +kernel, by decide +kernel⟩, List.mem_of_getElem? (i := 637) (by decide +kernel), List.mem_of_getElem? (i := 930) (by decide +kernel), List.mem_of_getElem? (i := 931) (by decide +kernel)⟩
theorem lw_p39 : lw_okq (⟨"ProtectedLineModel", "take", "(I)V"⟩, 59) := ⟨⟨by decide +kernel, by decide +kernel⟩, List.mem_of_getElem? (i := 637) (by decide +kernel), List.mem_of_getElem? (i := 934) (by decide +kernel), List.mem_of_getElem? (i := 935) (by decide +kernel)⟩
theorem lw_p40 : lw_okq (⟨"ProtectedLineModel", "content", "(I)V"⟩, 59) := ⟨⟨by decide +kernel, by decide +kernel⟩, List.mem_of_getElem? (i := 637) (by decide +kernel), List.mem_of_getElem? (i := 938) (by decide +kernel), List.mem_of_getElem? (i := 939) (by decide +kernel)⟩
theorem lw_p41 : lw_okq (⟨"ProtectedLineModel", "finish", "()V"⟩, 59) := ⟨⟨by decide +kernel, by decide +kernel⟩, List.mem_of_getElem? (i := 637) (by decide +kernel), List.mem_of_getElem? (i := 942) (by decide +kernel), List.mem_of_getElem? (i := 943) (by decide +kernel)⟩
theorem lw_p42 : lw_okq (⟨"ProtectedLineModel", "pair", "(II)V"⟩, 59) := ⟨⟨by decide +kernel, by decide +kernel⟩, List.mem_of_getElem? (i := 637) (by decide +kernel), List.mem_of_getElem? (i := 946) (by decide +kernel), List.mem_of_getElem? (i := 947) (by decide +kernel)⟩
theorem lw_p43 : lw_okq (⟨"ProtectedLineModel", "enter", "(I)V"⟩, 59) := ⟨⟨by decide +kernel, by decide +kernel⟩, List.mem_of_getElem? (i := 637) (by decide +kernel), List.mem_of_getElem? (i := 953) (by decide +kernel), List.mem_of_getElem? (i := 954) (by decide +kernel)⟩
theorem lw_p44 : lw_okq (⟨"ProtectedLineModel", "mend", "(II)V"⟩, 59) := ⟨⟨by decide +kernel, by decide +kernel⟩, List.mem_of_getElem? (i := 637) (by decide +kernel), List.mem_of_getElem? (i := 957) (by decide +kernel), List.mem_of_getElem? (i := 958) (by decide +kernel)⟩
theorem lw_p45 : lw_okq (⟨"ProtectedLineModel", "gap", "()V"⟩, 59) := ⟨⟨by decide +kernel, by decide +kernel⟩, List.mem_of_getElem? (i := 637) (by decide +kernel), List.mem_of_getElem? (i := 961) (by decide +kernel), List.mem_of_getElem? (i := 962) (by decide +kernel)⟩
def lw_privs_3 : List (MethodName × Nat) := [(⟨"ProtectedLineModel", "read", "(II)V"⟩, 59), (⟨"ProtectedLineModel", "third", "(I)Z"⟩, 59), (⟨"ProtectedLineModel", "hunt", "()V"⟩, 59), (⟨"ProtectedLineModel", "found", "(I)V"⟩, 59), (⟨"ProtectedLineModel", "unread", "(I)Z"⟩, 59), (⟨"ProtectedLineModel", "lose", "()V"⟩, 59), (⟨"ProtectedLineModel", "give", "(IZ)V"⟩, 59), (⟨"ProtectedLineModel", "take", "(I)V"⟩, 59), (⟨"ProtectedLineModel", "content", "(I)V"⟩, 59), (⟨"ProtectedLineModel", "finish", "()V"⟩, 59), (⟨"ProtectedLineModel", "pair", "(II)V"⟩, 59), (⟨"ProtectedLineModel", "enter", "(I)V"⟩, 59), (⟨"ProtectedLineModel", "mend", "(II)V"⟩, 59), (⟨"ProtectedLineModel", "gap", "()V"⟩, 59)]
theorem lw_r3 : ∀ q ∈ lw_privs_3, lw_okq q := List.forall_mem_cons.mpr ⟨lw_p32, List.forall_mem_cons.mpr ⟨lw_p33, List.forall_mem_cons.mpr ⟨lw_p34, List.forall_mem_cons.mpr ⟨lw_p35, List.forall_mem_cons.mpr ⟨lw_p36, List.forall_mem_cons.mpr ⟨lw_p37, List.forall_mem_cons.mpr ⟨lw_p38, List.forall_mem_cons.mpr ⟨lw_p39, List.forall_mem_cons.mpr ⟨lw_p40, List.forall_mem_cons.mpr ⟨lw_p41, List.forall_mem_cons.mpr ⟨lw_p42, List.forall_mem_cons.mpr ⟨lw_p43, List.forall_mem_cons.mpr ⟨lw_p44, List.forall_mem_cons.mpr ⟨lw_p45, fun _ h => absurd h List.not_mem_nil⟩⟩⟩⟩⟩⟩⟩⟩⟩⟩⟩⟩⟩⟩
def lw_privs : List (MethodName × Nat) := lw_privs_1 ++ (lw_privs_2 ++ (lw_privs_3))
def lw_tbl : List Cond := k2_sels lw_privs ++ tables_1
theorem lw_privs_ok : ∀ q ∈ lw_privs, lw_okq q := by
  show ∀ q ∈ lw_privs_1 ++ (lw_privs_2 ++ (lw_privs_3)), lw_okq q
  exact List.forall_mem_append.mpr ⟨lw_r1, List.forall_mem_append.mpr ⟨lw_r2, lw_r3⟩⟩
end
section
def F_PL : u_T := fun k => match k with
  | 0 => ("ProtectedLine", "source", "LProtectedLine$StreamSource;", true)
  | 1 => ("ProtectedLine", "nodeA", "LProtectedLine$NodeA;", true)
  | 2 => ("ProtectedLine", "working", "LProtectedLine$Line;", true)
  | 3 => ("ProtectedLine", "protection", "LProtectedLine$Line;", true)
  | 4 => ("ProtectedLine", "back", "LProtectedLine$BackLine;", true)
  | 5 => ("ProtectedLine", "nodeB", "LProtectedLine$Switch;", true)
  | 6 => ("ProtectedLine", "stream", "LProtectedLine$StreamReader;", true)
  | _ => ("ProtectedLine", "reader", "LProtectedLine$PointerReader;", true)
def t_PL : Nat → FieldType := fun k => match k with
  | 0 => .object "ProtectedLine$StreamSource"
  | 1 => .object "ProtectedLine$NodeA"
  | 2 => .object "ProtectedLine$Line"
  | 3 => .object "ProtectedLine$Line"
  | 4 => .object "ProtectedLine$BackLine"
  | 5 => .object "ProtectedLine$Switch"
  | 6 => .object "ProtectedLine$StreamReader"
  | _ => .object "ProtectedLine$PointerReader"
def F_SS : u_T := fun k => match k with
  | 0 => ("ProtectedLine$StreamSource", "ready", "[I", true)
  | 1 => ("ProtectedLine$StreamSource", "lengths", "[I", true)
  | 2 => ("ProtectedLine$StreamSource", "oldest", "I", false)
  | 3 => ("ProtectedLine$StreamSource", "queued", "I", false)
  | 4 => ("ProtectedLine$StreamSource", "before", "I", false)
  | 5 => ("ProtectedLine$StreamSource", "current", "[I", true)
  | 6 => ("ProtectedLine$StreamSource", "length", "I", false)
  | _ => ("ProtectedLine$StreamSource", "position", "I", false)
def t_SS : Nat → FieldType := fun k => match k with
  | 0 => .array .int
  | 1 => .array .int
  | 2 => .int
  | 3 => .int
  | 4 => .int
  | 5 => .array .int
  | 6 => .int
  | _ => .int
def F_NA : u_T := fun k => match k with
  | 0 => ("ProtectedLine$NodeA", "containers", "LProtectedLine$ContainerSource;", true)
  | 1 => ("ProtectedLine$NodeA", "heard", "LProtectedLine$Listener;", true)
  | 2 => ("ProtectedLine$NodeA", "content", "[I", true)
  | 3 => ("ProtectedLine$NodeA", "p", "I", false)
  | 4 => ("ProtectedLine$NodeA", "debt", "I", false)
  | _ => ("ProtectedLine$NodeA", "rest", "I", false)
def t_NA : Nat → FieldType := fun k => match k with
  | 0 => .object "ProtectedLine$ContainerSource"
  | 1 => .object "ProtectedLine$Listener"
  | 2 => .array .int
  | 3 => .int
  | 4 => .int
  | _ => .int
def F_CS : u_T := fun k => match k with
  | 0 => ("ProtectedLine$ContainerSource", "source", "LProtectedLine$StreamSource;", true)
  | 1 => ("ProtectedLine$ContainerSource", "place", "I", false)
  | _ => ("ProtectedLine$ContainerSource", "joined", "I", false)
def t_CS : Nat → FieldType := fun k => match k with
  | 0 => .object "ProtectedLine$StreamSource"
  | 1 => .int
  | _ => .int
def F_LI : u_T := fun k => match k with
  | 0 => ("ProtectedLine$Listener", "accepted", "I", false)
  | 1 => ("ProtectedLine$Listener", "latest", "I", false)
  | _ => ("ProtectedLine$Listener", "row", "I", false)
def t_LI : Nat → FieldType := fun k => match k with
  | 0 => .int
  | 1 => .int
  | _ => .int
def F_LN : u_T := fun k => match k with
  | 0 => ("ProtectedLine$Line", "delay", "I", true)
  | 1 => ("ProtectedLine$Line", "underWay", "[I", true)
  | 2 => ("ProtectedLine$Line", "launched", "I", false)
  | 3 => ("ProtectedLine$Line", "joinedSent", "I", false)
  | 4 => ("ProtectedLine$Line", "broken", "Z", false)
  | 5 => ("ProtectedLine$Line", "harm", "[I", true)
  | 6 => ("ProtectedLine$Line", "arrived", "[I", true)
  | 7 => ("ProtectedLine$Line", "hasArrived", "Z", false)
  | 8 => ("ProtectedLine$Line", "joinedArrived", "I", false)
  | 9 => ("ProtectedLine$Line", "state", "I", false)
  | 10 => ("ProtectedLine$Line", "badRow", "I", false)
  | _ => ("ProtectedLine$Line", "errorBits", "I", false)
def t_LN : Nat → FieldType := fun k => match k with
  | 0 => .int
  | 1 => .array .int
  | 2 => .int
  | 3 => .int
  | 4 => .boolean
  | 5 => .array .int
  | 6 => .array .int
  | 7 => .boolean
  | 8 => .int
  | 9 => .int
  | 10 => .int
  | _ => .int
def F_BL : u_T := fun k => match k with
  | 0 => ("ProtectedLine$BackLine", "delay", "I", true)
  | 1 => ("ProtectedLine$BackLine", "underWay", "[I", true)
  | _ => ("ProtectedLine$BackLine", "launched", "I", false)
def t_BL : Nat → FieldType := fun k => match k with
  | 0 => .int
  | 1 => .array .int
  | _ => .int
def F_SW : u_T := fun k => match k with
  | 0 => ("ProtectedLine$Switch", "hold", "I", true)
  | 1 => ("ProtectedLine$Switch", "wait", "I", true)
  | 2 => ("ProtectedLine$Switch", "heard", "LProtectedLine$Listener;", true)
  | 3 => ("ProtectedLine$Switch", "order", "I", false)
  | 4 => ("ProtectedLine$Switch", "failedFor", "I", false)
  | 5 => ("ProtectedLine$Switch", "waitLeft", "I", false)
  | 6 => ("ProtectedLine$Switch", "asked", "I", false)
  | _ => ("ProtectedLine$Switch", "chosen", "I", false)
def t_SW : Nat → FieldType := fun k => match k with
  | 0 => .int
  | 1 => .int
  | 2 => .object "ProtectedLine$Listener"
  | 3 => .int
  | 4 => .int
  | 5 => .int
  | 6 => .int
  | _ => .int
def F_SR : u_T := fun k => match k with
  | 0 => ("ProtectedLine$StreamReader", "state", "I", false)
  | 1 => ("ProtectedLine$StreamReader", "half", "Z", false)
  | 2 => ("ProtectedLine$StreamReader", "first", "I", false)
  | 3 => ("ProtectedLine$StreamReader", "length", "I", false)
  | 4 => ("ProtectedLine$StreamReader", "done", "I", false)
  | 5 => ("ProtectedLine$StreamReader", "before", "I", false)
  | 6 => ("ProtectedLine$StreamReader", "check", "I", false)
  | 7 => ("ProtectedLine$StreamReader", "frame", "[I", true)
  | 8 => ("ProtectedLine$StreamReader", "good", "I", false)
  | 9 => ("ProtectedLine$StreamReader", "bad", "I", false)
  | 10 => ("ProtectedLine$StreamReader", "sizes", "[I", true)
  | _ => ("ProtectedLine$StreamReader", "contents", "[I", true)
def t_SR : Nat → FieldType := fun k => match k with
  | 0 => .int
  | 1 => .boolean
  | 2 => .int
  | 3 => .int
  | 4 => .int
  | 5 => .int
  | 6 => .int
  | 7 => .array .int
  | 8 => .int
  | 9 => .int
  | 10 => .array .int
  | _ => .array .int
def F_PR : u_T := fun k => match k with
  | 0 => ("ProtectedLine$PointerReader", "stream", "LProtectedLine$StreamReader;", true)
  | 1 => ("ProtectedLine$PointerReader", "v", "I", false)
  | 2 => ("ProtectedLine$PointerReader", "gapRow", "I", false)
  | 3 => ("ProtectedLine$PointerReader", "plainRow", "I", false)
  | 4 => ("ProtectedLine$PointerReader", "plainQ", "I", false)
  | 5 => ("ProtectedLine$PointerReader", "strangeRow", "I", false)
  | 6 => ("ProtectedLine$PointerReader", "sinceFirst", "I", false)
  | 7 => ("ProtectedLine$PointerReader", "joined", "I", false)
  | _ => ("ProtectedLine$PointerReader", "errorBits", "I", false)
def t_PR : Nat → FieldType := fun k => match k with
  | 0 => .object "ProtectedLine$StreamReader"
  | 1 => .int
  | 2 => .int
  | 3 => .int
  | 4 => .int
  | 5 => .int
  | 6 => .int
  | 7 => .int
  | _ => .int
def F_RM : u_T := fun k => match k with
  | 0 => ("ProtectedLineModel", "delay", "[I", true)
  | 1 => ("ProtectedLineModel", "hold", "I", true)
  | 2 => ("ProtectedLineModel", "wait", "I", true)
  | 3 => ("ProtectedLineModel", "time", "I", false)
  | 4 => ("ProtectedLineModel", "waiting", "I", false)
  | 5 => ("ProtectedLineModel", "queue", "[I", true)
  | 6 => ("ProtectedLineModel", "going", "[I", true)
  | 7 => ("ProtectedLineModel", "length", "I", false)
  | 8 => ("ProtectedLineModel", "taken", "I", false)
  | 9 => ("ProtectedLineModel", "scrambled", "I", false)
  | 10 => ("ProtectedLineModel", "place", "I", false)
  | 11 => ("ProtectedLineModel", "parity", "I", false)
  | 12 => ("ProtectedLineModel", "joined", "I", false)
  | 13 => ("ProtectedLineModel", "lead", "I", false)
  | 14 => ("ProtectedLineModel", "debt", "I", false)
  | 15 => ("ProtectedLineModel", "quiet", "I", false)
  | 16 => ("ProtectedLineModel", "bridge", "Z", false)
  | 17 => ("ProtectedLineModel", "acceptedA", "I", false)
  | 18 => ("ProtectedLineModel", "sameA", "I", false)
  | 19 => ("ProtectedLineModel", "latestA", "I", false)
  | 20 => ("ProtectedLineModel", "sent", "[I", true)
  | 21 => ("ProtectedLineModel", "back", "[I", true)
  | 22 => ("ProtectedLineModel", "row", "[I", true)
  | 23 => ("ProtectedLineModel", "frame", "[I", true)
  | 24 => ("ProtectedLineModel", "cut", "[Z", true)
  | 25 => ("ProtectedLineModel", "spoil", "[I", true)
  | 26 => ("ProtectedLineModel", "now", "[I", true)
  | 27 => ("ProtectedLineModel", "came", "[Z", true)
  | 28 => ("ProtectedLineModel", "before", "[Z", true)
  | 29 => ("ProtectedLineModel", "was", "[I", true)
  | 30 => ("ProtectedLineModel", "state", "[I", true)
  | 31 => ("ProtectedLineModel", "bad", "[I", true)
  | 32 => ("ProtectedLineModel", "errors", "[I", true)
  | 33 => ("ProtectedLineModel", "failedFor", "I", false)
  | 34 => ("ProtectedLineModel", "acceptedB", "I", false)
  | 35 => ("ProtectedLineModel", "sameB", "I", false)
  | 36 => ("ProtectedLineModel", "latestB", "I", false)
  | 37 => ("ProtectedLineModel", "order", "I", false)
  | 38 => ("ProtectedLineModel", "request", "I", false)
  | 39 => ("ProtectedLineModel", "waits", "I", false)
  | 40 => ("ProtectedLineModel", "selected", "I", false)
  | 41 => ("ProtectedLineModel", "pointer", "I", false)
  | 42 => ("ProtectedLineModel", "gaps", "I", false)
  | 43 => ("ProtectedLineModel", "strange", "I", false)
  | 44 => ("ProtectedLineModel", "rowFor", "I", false)
  | 45 => ("ProtectedLineModel", "rowOf", "I", false)
  | 46 => ("ProtectedLineModel", "chain", "I", false)
  | 47 => ("ProtectedLineModel", "sum", "I", false)
  | 48 => ("ProtectedLineModel", "pathErrors", "I", false)
  | 49 => ("ProtectedLineModel", "sync", "I", false)
  | 50 => ("ProtectedLineModel", "first", "I", false)
  | 51 => ("ProtectedLineModel", "left", "I", false)
  | 52 => ("ProtectedLineModel", "long0", "I", false)
  | 53 => ("ProtectedLineModel", "filled", "I", false)
  | 54 => ("ProtectedLineModel", "memory", "I", false)
  | 55 => ("ProtectedLineModel", "body", "[I", true)
  | 56 => ("ProtectedLineModel", "delivered", "I", false)
  | 57 => ("ProtectedLineModel", "dropped", "I", false)
  | _ => ("ProtectedLineModel", "kept", "[I", true)
def t_RM : Nat → FieldType := fun k => match k with
  | 0 => .array .int
  | 1 => .int
  | 2 => .int
  | 3 => .int
  | 4 => .int
  | 5 => .array .int
  | 6 => .array .int
  | 7 => .int
  | 8 => .int
  | 9 => .int
  | 10 => .int
  | 11 => .int
  | 12 => .int
  | 13 => .int
  | 14 => .int
  | 15 => .int
  | 16 => .boolean
  | 17 => .int
  | 18 => .int
  | 19 => .int
  | 20 => .array .int
  | 21 => .array .int
  | 22 => .array .int
  | 23 => .array .int
  | 24 => .array .boolean
  | 25 => .array .int
  | 26 => .array .int
  | 27 => .array .boolean
  | 28 => .array .boolean
  | 29 => .array .int
  | 30 => .array .int
  | 31 => .array .int
  | 32 => .array .int
  | 33 => .int
  | 34 => .int
  | 35 => .int
  | 36 => .int
  | 37 => .int
  | 38 => .int
  | 39 => .int
  | 40 => .int
  | 41 => .int
  | 42 => .int
  | 43 => .int
  | 44 => .int
  | 45 => .int
  | 46 => .int
  | 47 => .int
  | 48 => .int
  | 49 => .int
  | 50 => .int
  | 51 => .int
  | 52 => .int
  | 53 => .int
  | 54 => .int
  | 55 => .array .int
  | 56 => .int
  | 57 => .int
  | _ => .array .int
abbrev b_PL_init : ByteArray := prog_1_method_1_code
abbrev y_PL_init : MethodName := ⟨"ProtectedLine", "<init>", "(IIII)V"⟩
abbrev b_SS_init : ByteArray := prog_10_method_1_code
abbrev y_SS_init : MethodName := ⟨"ProtectedLine$StreamSource", "<init>", "()V"⟩
abbrev b_CS_init : ByteArray := prog_4_method_1_code
abbrev y_CS_init : MethodName := ⟨"ProtectedLine$ContainerSource", "<init>", "(LProtectedLine$StreamSource;)V"⟩
abbrev b_NA_init : ByteArray := prog_7_method_1_code
abbrev y_NA_init : MethodName := ⟨"ProtectedLine$NodeA", "<init>", "(LProtectedLine$ContainerSource;)V"⟩
abbrev b_LI_init : ByteArray := prog_6_method_1_code
abbrev y_LI_init : MethodName := ⟨"ProtectedLine$Listener", "<init>", "()V"⟩
abbrev b_PL_delayOf : ByteArray := prog_1_method_25_code
abbrev y_PL_delayOf : MethodName := ⟨"ProtectedLine", "delayOf", "(I)I"⟩
abbrev b_LN_init : ByteArray := prog_5_method_1_code
abbrev y_LN_init : MethodName := ⟨"ProtectedLine$Line", "<init>", "(I)V"⟩
abbrev b_BL_init : ByteArray := prog_2_method_1_code
abbrev y_BL_init : MethodName := ⟨"ProtectedLine$BackLine", "<init>", "(I)V"⟩
abbrev b_SW_init : ByteArray := prog_11_method_1_code
abbrev y_SW_init : MethodName := ⟨"ProtectedLine$Switch", "<init>", "(II)V"⟩
abbrev b_SR_init : ByteArray := prog_9_method_1_code
abbrev y_SR_init : MethodName := ⟨"ProtectedLine$StreamReader", "<init>", "()V"⟩
abbrev b_PR_init : ByteArray := prog_8_method_1_code
abbrev y_PR_init : MethodName := ⟨"ProtectedLine$PointerReader", "<init>", "(LProtectedLine$StreamReader;)V"⟩
abbrev b_PL_send : ByteArray := prog_1_method_2_code
abbrev y_PL_send : MethodName := ⟨"ProtectedLine", "send", "(IJ)Z"⟩
abbrev b_SS_enqueue : ByteArray := prog_10_method_2_code
abbrev y_SS_enqueue : MethodName := ⟨"ProtectedLine$StreamSource", "enqueue", "(IJ)Z"⟩
abbrev b_SS_makeReady : ByteArray := prog_10_method_3_code
abbrev y_SS_makeReady : MethodName := ⟨"ProtectedLine$StreamSource", "makeReady", "(IIJ)V"⟩
abbrev b_CO_hash : ByteArray := prog_3_method_2_code
abbrev y_CO_hash : MethodName := ⟨"ProtectedLine$Code", "hash", "(I)I"⟩
abbrev b_PL_tick : ByteArray := prog_1_method_3_code
abbrev y_PL_tick : MethodName := ⟨"ProtectedLine", "tick", "(I)Z"⟩
abbrev b_PL_passTick : ByteArray := prog_1_method_21_code
abbrev y_PL_passTick : MethodName := ⟨"ProtectedLine", "passTick", "()V"⟩
abbrev b_BL_arriving : ByteArray := prog_2_method_2_code
abbrev y_BL_arriving : MethodName := ⟨"ProtectedLine$BackLine", "arriving", "(Z)I"⟩
abbrev b_LI_hear : ByteArray := prog_6_method_2_code
abbrev y_LI_hear : MethodName := ⟨"ProtectedLine$Listener", "hear", "(I)V"⟩
abbrev b_NA_transmit : ByteArray := prog_7_method_4_code
abbrev y_NA_transmit : MethodName := ⟨"ProtectedLine$NodeA", "transmit", "(LProtectedLine$Line;LProtectedLine$Line;)V"⟩
abbrev b_NA_justification : ByteArray := prog_7_method_5_code
abbrev y_NA_justification : MethodName := ⟨"ProtectedLine$NodeA", "justification", "()I"⟩
abbrev b_NA_fill : ByteArray := prog_7_method_6_code
abbrev y_NA_fill : MethodName := ⟨"ProtectedLine$NodeA", "fill", "(I)V"⟩
abbrev b_CO_pointerByte : ByteArray := prog_3_method_5_code
abbrev y_CO_pointerByte : MethodName := ⟨"ProtectedLine$Code", "pointerByte", "(I)I"⟩
abbrev b_CS_nextByte : ByteArray := prog_4_method_2_code
abbrev y_CS_nextByte : MethodName := ⟨"ProtectedLine$ContainerSource", "nextByte", "()I"⟩
abbrev b_SS_nextByte : ByteArray := prog_10_method_4_code
abbrev y_SS_nextByte : MethodName := ⟨"ProtectedLine$StreamSource", "nextByte", "()I"⟩
abbrev b_SS_begin : ByteArray := prog_10_method_5_code
abbrev y_SS_begin : MethodName := ⟨"ProtectedLine$StreamSource", "begin", "()V"⟩
abbrev b_NA_bridgeOn : ByteArray := prog_7_method_3_code
abbrev y_NA_bridgeOn : MethodName := ⟨"ProtectedLine$NodeA", "bridgeOn", "()Z"⟩
abbrev b_LN_launch : ByteArray := prog_5_method_2_code
abbrev y_LN_launch : MethodName := ⟨"ProtectedLine$Line", "launch", "(I[I)V"⟩
abbrev b_LN_slotOf : ByteArray := prog_5_method_10_code
abbrev y_LN_slotOf : MethodName := ⟨"ProtectedLine$Line", "slotOf", "(I)I"⟩
abbrev b_LN_joinedFrom : ByteArray := prog_5_method_11_code
abbrev y_LN_joinedFrom : MethodName := ⟨"ProtectedLine$Line", "joinedFrom", "([II)I"⟩
abbrev b_LN_receive : ByteArray := prog_5_method_4_code
abbrev y_LN_receive : MethodName := ⟨"ProtectedLine$Line", "receive", "()V"⟩
abbrev b_LN_bringIn : ByteArray := prog_5_method_5_code
abbrev y_LN_bringIn : MethodName := ⟨"ProtectedLine$Line", "bringIn", "(I)V"⟩
abbrev b_JA_fill : ByteArray := prog_16_method_103_code
abbrev y_JA_fill : MethodName := ⟨"java/util/Arrays", "fill", "([II)V"⟩
abbrev b_LN_align : ByteArray := prog_5_method_6_code
abbrev y_LN_align : MethodName := ⟨"ProtectedLine$Line", "align", "(Z)V"⟩
abbrev b_LN_readable : ByteArray := prog_5_method_8_code
abbrev y_LN_readable : MethodName := ⟨"ProtectedLine$Line", "readable", "()Z"⟩
abbrev b_LN_plainAt : ByteArray := prog_5_method_9_code
abbrev y_LN_plainAt : MethodName := ⟨"ProtectedLine$Line", "plainAt", "(I)I"⟩
abbrev b_JI_bitCount : ByteArray := prog_14_method_49_code
abbrev y_JI_bitCount : MethodName := ⟨"java/lang/Integer", "bitCount", "(I)I"⟩
abbrev b_LN_failed : ByteArray := prog_5_method_7_code
abbrev y_LN_failed : MethodName := ⟨"ProtectedLine$Line", "failed", "()Z"⟩
abbrev b_SW_decide : ByteArray := prog_11_method_2_code
abbrev y_SW_decide : MethodName := ⟨"ProtectedLine$Switch", "decide", "(ZZ)V"⟩
abbrev b_SW_pressing : ByteArray := prog_11_method_3_code
abbrev y_SW_pressing : MethodName := ⟨"ProtectedLine$Switch", "pressing", "(Z)I"⟩
abbrev b_SW_waitOn : ByteArray := prog_11_method_4_code
abbrev y_SW_waitOn : MethodName := ⟨"ProtectedLine$Switch", "waitOn", "()I"⟩
abbrev b_PL_lineAt : ByteArray := prog_1_method_22_code
abbrev y_PL_lineAt : MethodName := ⟨"ProtectedLine", "lineAt", "(I)LProtectedLine$Line;"⟩
abbrev b_PR_take : ByteArray := prog_8_method_3_code
abbrev y_PR_take : MethodName := ⟨"ProtectedLine$PointerReader", "take", "(LProtectedLine$Line;)V"⟩
abbrev b_PR_follow : ByteArray := prog_8_method_5_code
abbrev y_PR_follow : MethodName := ⟨"ProtectedLine$PointerReader", "follow", "(I)I"⟩
abbrev b_PR_seek : ByteArray := prog_8_method_7_code
abbrev y_PR_seek : MethodName := ⟨"ProtectedLine$PointerReader", "seek", "(I)V"⟩
abbrev b_PR_countPlain : ByteArray := prog_8_method_9_code
abbrev y_PR_countPlain : MethodName := ⟨"ProtectedLine$PointerReader", "countPlain", "(I)V"⟩
abbrev b_CO_plainFor : ByteArray := prog_3_method_6_code
abbrev y_CO_plainFor : MethodName := ⟨"ProtectedLine$Code", "plainFor", "(I)I"⟩
abbrev b_PR_endRows : ByteArray := prog_8_method_10_code
abbrev y_PR_endRows : MethodName := ⟨"ProtectedLine$PointerReader", "endRows", "()V"⟩
abbrev b_PR_shiftIn : ByteArray := prog_8_method_6_code
abbrev y_PR_shiftIn : MethodName := ⟨"ProtectedLine$PointerReader", "shiftIn", "(I)I"⟩
abbrev b_PR_doubt : ByteArray := prog_8_method_8_code
abbrev y_PR_doubt : MethodName := ⟨"ProtectedLine$PointerReader", "doubt", "(I)V"⟩
abbrev b_PR_breakOff : ByteArray := prog_8_method_11_code
abbrev y_PR_breakOff : MethodName := ⟨"ProtectedLine$PointerReader", "breakOff", "()V"⟩
abbrev b_SR_hunt : ByteArray := prog_9_method_2_code
abbrev y_SR_hunt : MethodName := ⟨"ProtectedLine$StreamReader", "hunt", "()V"⟩
abbrev b_PR_beginContainer : ByteArray := prog_8_method_4_code
abbrev y_PR_beginContainer : MethodName := ⟨"ProtectedLine$PointerReader", "beginContainer", "(I)V"⟩
abbrev b_SR_give : ByteArray := prog_9_method_3_code
abbrev y_SR_give : MethodName := ⟨"ProtectedLine$StreamReader", "give", "(I)V"⟩
abbrev b_SR_takeFrameByte : ByteArray := prog_9_method_5_code
abbrev y_SR_takeFrameByte : MethodName := ⟨"ProtectedLine$StreamReader", "takeFrameByte", "(I)V"⟩
abbrev b_SR_endFrame : ByteArray := prog_9_method_6_code
abbrev y_SR_endFrame : MethodName := ⟨"ProtectedLine$StreamReader", "endFrame", "(I)V"⟩
abbrev b_SR_slotOf : ByteArray := prog_9_method_8_code
abbrev y_SR_slotOf : MethodName := ⟨"ProtectedLine$StreamReader", "slotOf", "(I)I"⟩
abbrev b_SR_takeHeader : ByteArray := prog_9_method_4_code
abbrev y_SR_takeHeader : MethodName := ⟨"ProtectedLine$StreamReader", "takeHeader", "(I)V"⟩
abbrev b_CO_lengthRepaired : ByteArray := prog_3_method_4_code
abbrev y_CO_lengthRepaired : MethodName := ⟨"ProtectedLine$Code", "lengthRepaired", "(II)I"⟩
abbrev b_CO_lengthIn : ByteArray := prog_3_method_3_code
abbrev y_CO_lengthIn : MethodName := ⟨"ProtectedLine$Code", "lengthIn", "(II)I"⟩
abbrev b_PR_gap : ByteArray := prog_8_method_2_code
abbrev y_PR_gap : MethodName := ⟨"ProtectedLine$PointerReader", "gap", "()V"⟩
abbrev b_SW_kByte : ByteArray := prog_11_method_5_code
abbrev y_SW_kByte : MethodName := ⟨"ProtectedLine$Switch", "kByte", "()I"⟩
abbrev b_BL_launch : ByteArray := prog_2_method_3_code
abbrev y_BL_launch : MethodName := ⟨"ProtectedLine$BackLine", "launch", "(I)V"⟩
abbrev b_PL_cut : ByteArray := prog_1_method_4_code
abbrev y_PL_cut : MethodName := ⟨"ProtectedLine", "cut", "(IZ)Z"⟩
abbrev b_PL_isLine : ByteArray := prog_1_method_23_code
abbrev y_PL_isLine : MethodName := ⟨"ProtectedLine", "isLine", "(I)Z"⟩
abbrev b_PL_damage : ByteArray := prog_1_method_5_code
abbrev y_PL_damage : MethodName := ⟨"ProtectedLine", "damage", "(III)Z"⟩
abbrev b_PL_isPlace : ByteArray := prog_1_method_24_code
abbrev y_PL_isPlace : MethodName := ⟨"ProtectedLine", "isPlace", "(I)Z"⟩
abbrev b_PL_drift : ByteArray := prog_1_method_6_code
abbrev y_PL_drift : MethodName := ⟨"ProtectedLine", "drift", "(I)Z"⟩
abbrev b_NA_owe : ByteArray := prog_7_method_2_code
abbrev y_NA_owe : MethodName := ⟨"ProtectedLine$NodeA", "owe", "(I)Z"⟩
abbrev b_PL_command : ByteArray := prog_1_method_7_code
abbrev y_PL_command : MethodName := ⟨"ProtectedLine", "command", "(I)Z"⟩
abbrev b_PL_waiting : ByteArray := prog_1_method_8_code
abbrev y_PL_waiting : MethodName := ⟨"ProtectedLine", "waiting", "()I"⟩
abbrev b_PL_sent : ByteArray := prog_1_method_9_code
abbrev y_PL_sent : MethodName := ⟨"ProtectedLine", "sent", "(II)I"⟩
abbrev b_LN_latestByte : ByteArray := prog_5_method_3_code
abbrev y_LN_latestByte : MethodName := ⟨"ProtectedLine$Line", "latestByte", "(I)I"⟩
abbrev b_PL_alignment : ByteArray := prog_1_method_10_code
abbrev y_PL_alignment : MethodName := ⟨"ProtectedLine", "alignment", "(I)I"⟩
abbrev b_PL_errors : ByteArray := prog_1_method_11_code
abbrev y_PL_errors : MethodName := ⟨"ProtectedLine", "errors", "(I)I"⟩
abbrev b_PL_request : ByteArray := prog_1_method_12_code
abbrev y_PL_request : MethodName := ⟨"ProtectedLine", "request", "()I"⟩
abbrev b_PL_bridged : ByteArray := prog_1_method_13_code
abbrev y_PL_bridged : MethodName := ⟨"ProtectedLine", "bridged", "()Z"⟩
abbrev b_PL_selected : ByteArray := prog_1_method_14_code
abbrev y_PL_selected : MethodName := ⟨"ProtectedLine", "selected", "()I"⟩
abbrev b_PL_pointer : ByteArray := prog_1_method_15_code
abbrev y_PL_pointer : MethodName := ⟨"ProtectedLine", "pointer", "()I"⟩
abbrev b_PL_pathErrors : ByteArray := prog_1_method_16_code
abbrev y_PL_pathErrors : MethodName := ⟨"ProtectedLine", "pathErrors", "()I"⟩
abbrev b_PL_sync : ByteArray := prog_1_method_17_code
abbrev y_PL_sync : MethodName := ⟨"ProtectedLine", "sync", "()I"⟩
abbrev b_PL_delivered : ByteArray := prog_1_method_18_code
abbrev y_PL_delivered : MethodName := ⟨"ProtectedLine", "delivered", "()I"⟩
abbrev b_PL_dropped : ByteArray := prog_1_method_19_code
abbrev y_PL_dropped : MethodName := ⟨"ProtectedLine", "dropped", "()I"⟩
abbrev b_PL_got : ByteArray := prog_1_method_20_code
abbrev y_PL_got : MethodName := ⟨"ProtectedLine", "got", "(II)I"⟩
abbrev b_SR_kept : ByteArray := prog_9_method_7_code
abbrev y_SR_kept : MethodName := ⟨"ProtectedLine$StreamReader", "kept", "(II)I"⟩
abbrev b_LAW_cell : ByteArray := method_2_code
abbrev y_LAW_cell : MethodName := ⟨"ProtectedLineLaw", "cell", "([II)I"⟩
abbrev b_RM_init : ByteArray := prog_13_method_1_code
abbrev y_RM_init : MethodName := ⟨"ProtectedLineModel", "<init>", "(IIII)V"⟩
abbrev b_RM_send : ByteArray := prog_13_method_5_code
abbrev y_RM_send : MethodName := ⟨"ProtectedLineModel", "send", "(IJ)Z"⟩
abbrev b_RM_cut : ByteArray := prog_13_method_6_code
abbrev y_RM_cut : MethodName := ⟨"ProtectedLineModel", "cut", "(IZ)Z"⟩
abbrev b_RM_isLine : ByteArray := prog_13_method_3_code
abbrev y_RM_isLine : MethodName := ⟨"ProtectedLineModel", "isLine", "(I)Z"⟩
abbrev b_RM_damage : ByteArray := prog_13_method_7_code
abbrev y_RM_damage : MethodName := ⟨"ProtectedLineModel", "damage", "(III)Z"⟩
abbrev b_RM_isPlace : ByteArray := prog_13_method_4_code
abbrev y_RM_isPlace : MethodName := ⟨"ProtectedLineModel", "isPlace", "(I)Z"⟩
abbrev b_RM_drift : ByteArray := prog_13_method_8_code
abbrev y_RM_drift : MethodName := ⟨"ProtectedLineModel", "drift", "(I)Z"⟩
abbrev b_RM_command : ByteArray := prog_13_method_9_code
abbrev y_RM_command : MethodName := ⟨"ProtectedLineModel", "command", "(I)Z"⟩
abbrev b_RM_tick : ByteArray := prog_13_method_10_code
abbrev y_RM_tick : MethodName := ⟨"ProtectedLineModel", "tick", "(I)Z"⟩
abbrev b_RM_hear : ByteArray := prog_13_method_11_code
abbrev y_RM_hear : MethodName := ⟨"ProtectedLineModel", "hear", "()V"⟩
abbrev b_RM_build : ByteArray := prog_13_method_15_code
abbrev y_RM_build : MethodName := ⟨"ProtectedLineModel", "build", "()V"⟩
abbrev b_RM_contained : ByteArray := prog_13_method_14_code
abbrev y_RM_contained : MethodName := ⟨"ProtectedLineModel", "contained", "()I"⟩
abbrev b_RM_streamed : ByteArray := prog_13_method_13_code
abbrev y_RM_streamed : MethodName := ⟨"ProtectedLineModel", "streamed", "()I"⟩
abbrev b_RM_load : ByteArray := prog_13_method_12_code
abbrev y_RM_load : MethodName := ⟨"ProtectedLineModel", "load", "()V"⟩
abbrev b_RM_hash : ByteArray := prog_13_method_2_code
abbrev y_RM_hash : MethodName := ⟨"ProtectedLineModel", "hash", "(I)I"⟩
abbrev b_RM_put : ByteArray := prog_13_method_16_code
abbrev y_RM_put : MethodName := ⟨"ProtectedLineModel", "put", "(I)V"⟩
abbrev b_RM_arrive : ByteArray := prog_13_method_17_code
abbrev y_RM_arrive : MethodName := ⟨"ProtectedLineModel", "arrive", "()V"⟩
abbrev b_RM_align : ByteArray := prog_13_method_18_code
abbrev y_RM_align : MethodName := ⟨"ProtectedLineModel", "align", "(I)V"⟩
abbrev b_RM_ones : ByteArray := prog_13_method_19_code
abbrev y_RM_ones : MethodName := ⟨"ProtectedLineModel", "ones", "(I)I"⟩
abbrev b_RM_listen : ByteArray := prog_13_method_20_code
abbrev y_RM_listen : MethodName := ⟨"ProtectedLineModel", "listen", "()V"⟩
abbrev b_RM_decide : ByteArray := prog_13_method_21_code
abbrev y_RM_decide : MethodName := ⟨"ProtectedLineModel", "decide", "()V"⟩
abbrev b_RM_select : ByteArray := prog_13_method_22_code
abbrev y_RM_select : MethodName := ⟨"ProtectedLineModel", "select", "()V"⟩
abbrev b_RM_read : ByteArray := prog_13_method_27_code
abbrev y_RM_read : MethodName := ⟨"ProtectedLineModel", "read", "(II)V"⟩
abbrev b_RM_plain : ByteArray := prog_13_method_25_code
abbrev y_RM_plain : MethodName := ⟨"ProtectedLineModel", "plain", "(I)I"⟩
abbrev b_RM_third : ByteArray := prog_13_method_26_code
abbrev y_RM_third : MethodName := ⟨"ProtectedLineModel", "third", "(I)Z"⟩
abbrev b_RM_hunt : ByteArray := prog_13_method_31_code
abbrev y_RM_hunt : MethodName := ⟨"ProtectedLineModel", "hunt", "()V"⟩
abbrev b_RM_found : ByteArray := prog_13_method_28_code
abbrev y_RM_found : MethodName := ⟨"ProtectedLineModel", "found", "(I)V"⟩
abbrev b_RM_unread : ByteArray := prog_13_method_29_code
abbrev y_RM_unread : MethodName := ⟨"ProtectedLineModel", "unread", "(I)Z"⟩
abbrev b_RM_lose : ByteArray := prog_13_method_24_code
abbrev y_RM_lose : MethodName := ⟨"ProtectedLineModel", "lose", "()V"⟩
abbrev b_RM_give : ByteArray := prog_13_method_30_code
abbrev y_RM_give : MethodName := ⟨"ProtectedLineModel", "give", "(IZ)V"⟩
abbrev b_RM_take : ByteArray := prog_13_method_33_code
abbrev y_RM_take : MethodName := ⟨"ProtectedLineModel", "take", "(I)V"⟩
abbrev b_RM_content : ByteArray := prog_13_method_37_code
abbrev y_RM_content : MethodName := ⟨"ProtectedLineModel", "content", "(I)V"⟩
abbrev b_RM_finish : ByteArray := prog_13_method_38_code
abbrev y_RM_finish : MethodName := ⟨"ProtectedLineModel", "finish", "()V"⟩
abbrev b_RM_pair : ByteArray := prog_13_method_34_code
abbrev y_RM_pair : MethodName := ⟨"ProtectedLineModel", "pair", "(II)V"⟩
abbrev b_RM_header : ByteArray := prog_13_method_32_code
abbrev y_RM_header : MethodName := ⟨"ProtectedLineModel", "header", "(II)Z"⟩
abbrev b_RM_enter : ByteArray := prog_13_method_36_code
abbrev y_RM_enter : MethodName := ⟨"ProtectedLineModel", "enter", "(I)V"⟩
abbrev b_RM_mend : ByteArray := prog_13_method_35_code
abbrev y_RM_mend : MethodName := ⟨"ProtectedLineModel", "mend", "(II)V"⟩
abbrev b_RM_gap : ByteArray := prog_13_method_23_code
abbrev y_RM_gap : MethodName := ⟨"ProtectedLineModel", "gap", "()V"⟩
abbrev b_RM_waiting : ByteArray := prog_13_method_39_code
abbrev y_RM_waiting : MethodName := ⟨"ProtectedLineModel", "waiting", "()I"⟩
abbrev b_RM_sent : ByteArray := prog_13_method_40_code
abbrev y_RM_sent : MethodName := ⟨"ProtectedLineModel", "sent", "(II)I"⟩
abbrev b_RM_alignment : ByteArray := prog_13_method_41_code
abbrev y_RM_alignment : MethodName := ⟨"ProtectedLineModel", "alignment", "(I)I"⟩
abbrev b_RM_errors : ByteArray := prog_13_method_42_code
abbrev y_RM_errors : MethodName := ⟨"ProtectedLineModel", "errors", "(I)I"⟩
abbrev b_RM_request : ByteArray := prog_13_method_43_code
abbrev y_RM_request : MethodName := ⟨"ProtectedLineModel", "request", "()I"⟩
abbrev b_RM_bridged : ByteArray := prog_13_method_44_code
abbrev y_RM_bridged : MethodName := ⟨"ProtectedLineModel", "bridged", "()Z"⟩
abbrev b_RM_selected : ByteArray := prog_13_method_45_code
abbrev y_RM_selected : MethodName := ⟨"ProtectedLineModel", "selected", "()I"⟩
abbrev b_RM_pointer : ByteArray := prog_13_method_46_code
abbrev y_RM_pointer : MethodName := ⟨"ProtectedLineModel", "pointer", "()I"⟩
abbrev b_RM_pathErrors : ByteArray := prog_13_method_47_code
abbrev y_RM_pathErrors : MethodName := ⟨"ProtectedLineModel", "pathErrors", "()I"⟩
abbrev b_RM_sync : ByteArray := prog_13_method_48_code
abbrev y_RM_sync : MethodName := ⟨"ProtectedLineModel", "sync", "()I"⟩
abbrev b_RM_delivered : ByteArray := prog_13_method_49_code
abbrev y_RM_delivered : MethodName := ⟨"ProtectedLineModel", "delivered", "()I"⟩
abbrev b_RM_dropped : ByteArray := prog_13_method_50_code
abbrev y_RM_dropped : MethodName := ⟨"ProtectedLineModel", "dropped", "()I"⟩
abbrev b_RM_got : ByteArray := prog_13_method_51_code
abbrev y_RM_got : MethodName := ⟨"ProtectedLineModel", "got", "(II)I"⟩
abbrev plCl : List vw_C := [("ProtectedLine", F_PL, 8), ("ProtectedLine$StreamSource", F_SS, 8), ("ProtectedLine$NodeA", F_NA, 6), ("ProtectedLine$ContainerSource", F_CS, 3), ("ProtectedLine$Listener", F_LI, 3), ("ProtectedLine$Line", F_LN, 12), ("ProtectedLine$BackLine", F_BL, 3), ("ProtectedLine$Switch", F_SW, 8), ("ProtectedLine$StreamReader", F_SR, 12), ("ProtectedLine$PointerReader", F_PR, 9), ("ProtectedLineModel", F_RM, 59)]
def plWG : List Cond := lw_tbl.filter goodWord
theorem plGood (w : Cond) (h : w ∈ plWG) : (w.onTables && w.keeps) = true ∨ ∃ ty, w = .arrayClass ty := good_of_word (List.mem_filter.mp h).2
theorem mt {w : Cond} (i : Nat) (h : tables_1[i]? = some w) (hg : goodWord w = true) : w ∈ plWG := List.mem_filter.mpr ⟨List.mem_append_right _ (List.mem_of_getElem? h), hg⟩
theorem ms {y : MethodName} {n : Nat} (i : Nat) (h : lw_privs[i]? = some (y, n)) : Cond.selects y.cls y y ∈ plWG := List.mem_filter.mpr ⟨List.mem_append_left _ (List.mem_map.mpr ⟨(y, n), List.mem_of_getElem? h, rfl⟩), rfl⟩
def plNF : List (String × Nat × String × String × String × String) := [("ProtectedLine", 111, "ProtectedLine$StreamSource", "queued", "I", "ProtectedLine"), ("ProtectedLine$Switch", 37, "ProtectedLine$Listener", "accepted", "I", "ProtectedLine"), ("ProtectedLine$NodeA", 30, "ProtectedLine$Listener", "accepted", "I", "ProtectedLine"), ("ProtectedLine", 148, "ProtectedLine$NodeA", "heard", "LProtectedLine$Listener;", "ProtectedLine"), ("ProtectedLine", 93, "ProtectedLine$Line", "broken", "Z", "ProtectedLine"), ("ProtectedLine", 100, "ProtectedLine$Line", "harm", "[I", "ProtectedLine"), ("ProtectedLine", 117, "ProtectedLine$Line", "state", "I", "ProtectedLine"), ("ProtectedLine", 120, "ProtectedLine$Line", "errorBits", "I", "ProtectedLine"), ("ProtectedLine", 168, "ProtectedLine$Switch", "heard", "LProtectedLine$Listener;", "ProtectedLine"), ("ProtectedLine", 107, "ProtectedLine$Switch", "order", "I", "ProtectedLine"), ("ProtectedLine", 123, "ProtectedLine$Switch", "asked", "I", "ProtectedLine"), ("ProtectedLine", 130, "ProtectedLine$Switch", "chosen", "I", "ProtectedLine"), ("ProtectedLine", 137, "ProtectedLine$StreamReader", "state", "I", "ProtectedLine"), ("ProtectedLine", 138, "ProtectedLine$StreamReader", "good", "I", "ProtectedLine"), ("ProtectedLine", 141, "ProtectedLine$StreamReader", "bad", "I", "ProtectedLine"), ("ProtectedLine", 133, "ProtectedLine$PointerReader", "v", "I", "ProtectedLine"), ("ProtectedLine", 136, "ProtectedLine$PointerReader", "errorBits", "I", "ProtectedLine")]
def plNM : List (String × Nat × MethodName × String) := [("ProtectedLine", 9, y_SS_init, "ProtectedLine"), ("ProtectedLine$NodeA", 11, y_LI_init, "ProtectedLine"), ("ProtectedLine$Switch", 9, y_LI_init, "ProtectedLine"), ("ProtectedLine", 64, y_SR_init, "ProtectedLine")]
set_option maxRecDepth 20000 in
theorem n_PL : ∀ a, a < 8 → ∀ b, b < 8 → a ≠ b → (F_PL a).2.1 ≠ (F_PL b).2.1 := by decide +kernel
set_option maxRecDepth 20000 in
theorem t_PL_ok : ∀ k, k < 8 → parseFieldDescriptor (F_PL k).2.2.1 = some (t_PL k) := by decide +kernel
set_option maxRecDepth 20000 in
theorem df_PL : ∀ j, j < 8 → defaultValue (t_PL j) = vp_V [.null, .null, .null, .null, .null, .null, .null, .null] j := by
  intro j hj
  rcases (show j = 0 ∨ j = 1 ∨ j = 2 ∨ j = 3 ∨ j = 4 ∨ j = 5 ∨ j = 6 ∨ j = 7 by omega) with rfl | rfl | rfl | rfl | rfl | rfl | rfl | rfl <;> rfl
set_option maxRecDepth 20000 in
theorem in_PL : ∀ w ∈ u_ws "ProtectedLine" F_PL 8, w ∈ plWG := by
  intro w hw
  obtain ⟨k, hk, rfl⟩ := List.mem_map.mp hw
  have hk := List.mem_range.mp hk
  rcases (show k = 0 ∨ k = 1 ∨ k = 2 ∨ k = 3 ∨ k = 4 ∨ k = 5 ∨ k = 6 ∨ k = 7 by omega) with rfl | rfl | rfl | rfl | rfl | rfl | rfl | rfl
  · exact mt 310 (by decide +kernel) rfl
  · exact mt 312 (by decide +kernel) rfl
  · exact mt 314 (by decide +kernel) rfl
  · exact mt 316 (by decide +kernel) rfl
  · exact mt 318 (by decide +kernel) rfl
  · exact mt 320 (by decide +kernel) rfl
  · exact mt 322 (by decide +kernel) rfl
  · exact mt 324 (by decide +kernel) rfl
set_option maxRecDepth 20000 in
theorem n_SS : ∀ a, a < 8 → ∀ b, b < 8 → a ≠ b → (F_SS a).2.1 ≠ (F_SS b).2.1 := by decide +kernel
set_option maxRecDepth 20000 in
theorem t_SS_ok : ∀ k, k < 8 → parseFieldDescriptor (F_SS k).2.2.1 = some (t_SS k) := by decide +kernel
set_option maxRecDepth 20000 in
theorem df_SS : ∀ j, j < 8 → defaultValue (t_SS j) = vp_V [.null, .null, .int 0, .int 0, .int 0, .null, .int 0, .int 0] j := by
  intro j hj
  rcases (show j = 0 ∨ j = 1 ∨ j = 2 ∨ j = 3 ∨ j = 4 ∨ j = 5 ∨ j = 6 ∨ j = 7 by omega) with rfl | rfl | rfl | rfl | rfl | rfl | rfl | rfl <;> rfl
set_option maxRecDepth 20000 in
theorem in_SS : ∀ w ∈ u_ws "ProtectedLine$StreamSource" F_SS 8, w ∈ plWG := by
  intro w hw
  obtain ⟨k, hk, rfl⟩ := List.mem_map.mp hw
  have hk := List.mem_range.mp hk
  rcases (show k = 0 ∨ k = 1 ∨ k = 2 ∨ k = 3 ∨ k = 4 ∨ k = 5 ∨ k = 6 ∨ k = 7 by omega) with rfl | rfl | rfl | rfl | rfl | rfl | rfl | rfl
  · exact mt 39 (by decide +kernel) rfl
  · exact mt 41 (by decide +kernel) rfl
  · exact mt 43 (by decide +kernel) rfl
  · exact mt 45 (by decide +kernel) rfl
  · exact mt 47 (by decide +kernel) rfl
  · exact mt 49 (by decide +kernel) rfl
  · exact mt 51 (by decide +kernel) rfl
  · exact mt 53 (by decide +kernel) rfl
set_option maxRecDepth 20000 in
theorem n_NA : ∀ a, a < 6 → ∀ b, b < 6 → a ≠ b → (F_NA a).2.1 ≠ (F_NA b).2.1 := by decide +kernel
set_option maxRecDepth 20000 in
theorem t_NA_ok : ∀ k, k < 6 → parseFieldDescriptor (F_NA k).2.2.1 = some (t_NA k) := by decide +kernel
set_option maxRecDepth 20000 in
theorem df_NA : ∀ j, j < 6 → defaultValue (t_NA j) = vp_V [.null, .null, .null, .int 0, .int 0, .int 0] j := by
  intro j hj
  rcases (show j = 0 ∨ j = 1 ∨ j = 2 ∨ j = 3 ∨ j = 4 ∨ j = 5 by omega) with rfl | rfl | rfl | rfl | rfl | rfl <;> rfl
set_option maxRecDepth 20000 in
theorem in_NA : ∀ w ∈ u_ws "ProtectedLine$NodeA" F_NA 6, w ∈ plWG := by
  intro w hw
  obtain ⟨k, hk, rfl⟩ := List.mem_map.mp hw
  have hk := List.mem_range.mp hk
  rcases (show k = 0 ∨ k = 1 ∨ k = 2 ∨ k = 3 ∨ k = 4 ∨ k = 5 by omega) with rfl | rfl | rfl | rfl | rfl | rfl
  · exact mt 104 (by decide +kernel) rfl
  · exact mt 106 (by decide +kernel) rfl
  · exact mt 108 (by decide +kernel) rfl
  · exact mt 110 (by decide +kernel) rfl
  · exact mt 112 (by decide +kernel) rfl
  · exact mt 114 (by decide +kernel) rfl
set_option maxRecDepth 20000 in
theorem n_CS : ∀ a, a < 3 → ∀ b, b < 3 → a ≠ b → (F_CS a).2.1 ≠ (F_CS b).2.1 := by decide +kernel
set_option maxRecDepth 20000 in
theorem t_CS_ok : ∀ k, k < 3 → parseFieldDescriptor (F_CS k).2.2.1 = some (t_CS k) := by decide +kernel
set_option maxRecDepth 20000 in
theorem df_CS : ∀ j, j < 3 → defaultValue (t_CS j) = vp_V [.null, .int 0, .int 0] j := by
  intro j hj
  rcases (show j = 0 ∨ j = 1 ∨ j = 2 by omega) with rfl | rfl | rfl <;> rfl
set_option maxRecDepth 20000 in
theorem in_CS : ∀ w ∈ u_ws "ProtectedLine$ContainerSource" F_CS 3, w ∈ plWG := by
  intro w hw
  obtain ⟨k, hk, rfl⟩ := List.mem_map.mp hw
  have hk := List.mem_range.mp hk
  rcases (show k = 0 ∨ k = 1 ∨ k = 2 by omega) with rfl | rfl | rfl
  · exact mt 68 (by decide +kernel) rfl
  · exact mt 70 (by decide +kernel) rfl
  · exact mt 72 (by decide +kernel) rfl
set_option maxRecDepth 20000 in
theorem n_LI : ∀ a, a < 3 → ∀ b, b < 3 → a ≠ b → (F_LI a).2.1 ≠ (F_LI b).2.1 := by decide +kernel
set_option maxRecDepth 20000 in
theorem t_LI_ok : ∀ k, k < 3 → parseFieldDescriptor (F_LI k).2.2.1 = some (t_LI k) := by decide +kernel
set_option maxRecDepth 20000 in
theorem df_LI : ∀ j, j < 3 → defaultValue (t_LI j) = vp_V [.int 0, .int 0, .int 0] j := by
  intro j hj
  rcases (show j = 0 ∨ j = 1 ∨ j = 2 by omega) with rfl | rfl | rfl <;> rfl
set_option maxRecDepth 20000 in
theorem in_LI : ∀ w ∈ u_ws "ProtectedLine$Listener" F_LI 3, w ∈ plWG := by
  intro w hw
  obtain ⟨k, hk, rfl⟩ := List.mem_map.mp hw
  have hk := List.mem_range.mp hk
  rcases (show k = 0 ∨ k = 1 ∨ k = 2 by omega) with rfl | rfl | rfl
  · exact mt 90 (by decide +kernel) rfl
  · exact mt 92 (by decide +kernel) rfl
  · exact mt 94 (by decide +kernel) rfl
set_option maxRecDepth 20000 in
theorem n_LN : ∀ a, a < 12 → ∀ b, b < 12 → a ≠ b → (F_LN a).2.1 ≠ (F_LN b).2.1 := by decide +kernel
set_option maxRecDepth 20000 in
theorem t_LN_ok : ∀ k, k < 12 → parseFieldDescriptor (F_LN k).2.2.1 = some (t_LN k) := by decide +kernel
set_option maxRecDepth 20000 in
theorem df_LN : ∀ j, j < 12 → defaultValue (t_LN j) = vp_V [.int 0, .null, .int 0, .int 0, .int 0, .null, .null, .int 0, .int 0, .int 0, .int 0, .int 0] j := by
  intro j hj
  rcases (show j = 0 ∨ j = 1 ∨ j = 2 ∨ j = 3 ∨ j = 4 ∨ j = 5 ∨ j = 6 ∨ j = 7 ∨ j = 8 ∨ j = 9 ∨ j = 10 ∨ j = 11 by omega) with rfl | rfl | rfl | rfl | rfl | rfl | rfl | rfl | rfl | rfl | rfl | rfl <;> rfl
set_option maxRecDepth 20000 in
theorem in_LN : ∀ w ∈ u_ws "ProtectedLine$Line" F_LN 12, w ∈ plWG := by
  intro w hw
  obtain ⟨k, hk, rfl⟩ := List.mem_map.mp hw
  have hk := List.mem_range.mp hk
  rcases (show k = 0 ∨ k = 1 ∨ k = 2 ∨ k = 3 ∨ k = 4 ∨ k = 5 ∨ k = 6 ∨ k = 7 ∨ k = 8 ∨ k = 9 ∨ k = 10 ∨ k = 11 by omega) with rfl | rfl | rfl | rfl | rfl | rfl | rfl | rfl | rfl | rfl | rfl | rfl
  · exact mt 142 (by decide +kernel) rfl
  · exact mt 144 (by decide +kernel) rfl
  · exact mt 146 (by decide +kernel) rfl
  · exact mt 148 (by decide +kernel) rfl
  · exact mt 150 (by decide +kernel) rfl
  · exact mt 152 (by decide +kernel) rfl
  · exact mt 154 (by decide +kernel) rfl
  · exact mt 156 (by decide +kernel) rfl
  · exact mt 158 (by decide +kernel) rfl
  · exact mt 160 (by decide +kernel) rfl
  · exact mt 162 (by decide +kernel) rfl
  · exact mt 164 (by decide +kernel) rfl
set_option maxRecDepth 20000 in
theorem n_BL : ∀ a, a < 3 → ∀ b, b < 3 → a ≠ b → (F_BL a).2.1 ≠ (F_BL b).2.1 := by decide +kernel
set_option maxRecDepth 20000 in
theorem t_BL_ok : ∀ k, k < 3 → parseFieldDescriptor (F_BL k).2.2.1 = some (t_BL k) := by decide +kernel
set_option maxRecDepth 20000 in
theorem df_BL : ∀ j, j < 3 → defaultValue (t_BL j) = vp_V [.int 0, .null, .int 0] j := by
  intro j hj
  rcases (show j = 0 ∨ j = 1 ∨ j = 2 by omega) with rfl | rfl | rfl <;> rfl
set_option maxRecDepth 20000 in
theorem in_BL : ∀ w ∈ u_ws "ProtectedLine$BackLine" F_BL 3, w ∈ plWG := by
  intro w hw
  obtain ⟨k, hk, rfl⟩ := List.mem_map.mp hw
  have hk := List.mem_range.mp hk
  rcases (show k = 0 ∨ k = 1 ∨ k = 2 by omega) with rfl | rfl | rfl
  · exact mt 176 (by decide +kernel) rfl
  · exact mt 178 (by decide +kernel) rfl
  · exact mt 180 (by decide +kernel) rfl
set_option maxRecDepth 20000 in
theorem n_SW : ∀ a, a < 8 → ∀ b, b < 8 → a ≠ b → (F_SW a).2.1 ≠ (F_SW b).2.1 := by decide +kernel
set_option maxRecDepth 20000 in
theorem t_SW_ok : ∀ k, k < 8 → parseFieldDescriptor (F_SW k).2.2.1 = some (t_SW k) := by decide +kernel
set_option maxRecDepth 20000 in
theorem df_SW : ∀ j, j < 8 → defaultValue (t_SW j) = vp_V [.int 0, .int 0, .null, .int 0, .int 0, .int 0, .int 0, .int 0] j := by
  intro j hj
  rcases (show j = 0 ∨ j = 1 ∨ j = 2 ∨ j = 3 ∨ j = 4 ∨ j = 5 ∨ j = 6 ∨ j = 7 by omega) with rfl | rfl | rfl | rfl | rfl | rfl | rfl | rfl <;> rfl
set_option maxRecDepth 20000 in
theorem in_SW : ∀ w ∈ u_ws "ProtectedLine$Switch" F_SW 8, w ∈ plWG := by
  intro w hw
  obtain ⟨k, hk, rfl⟩ := List.mem_map.mp hw
  have hk := List.mem_range.mp hk
  rcases (show k = 0 ∨ k = 1 ∨ k = 2 ∨ k = 3 ∨ k = 4 ∨ k = 5 ∨ k = 6 ∨ k = 7 by omega) with rfl | rfl | rfl | rfl | rfl | rfl | rfl | rfl
  · exact mt 203 (by decide +kernel) rfl
  · exact mt 205 (by decide +kernel) rfl
  · exact mt 207 (by decide +kernel) rfl
  · exact mt 209 (by decide +kernel) rfl
  · exact mt 211 (by decide +kernel) rfl
  · exact mt 213 (by decide +kernel) rfl
  · exact mt 215 (by decide +kernel) rfl
  · exact mt 217 (by decide +kernel) rfl
set_option maxRecDepth 20000 in
theorem n_SR : ∀ a, a < 12 → ∀ b, b < 12 → a ≠ b → (F_SR a).2.1 ≠ (F_SR b).2.1 := by decide +kernel
set_option maxRecDepth 20000 in
theorem t_SR_ok : ∀ k, k < 12 → parseFieldDescriptor (F_SR k).2.2.1 = some (t_SR k) := by decide +kernel
set_option maxRecDepth 20000 in
theorem df_SR : ∀ j, j < 12 → defaultValue (t_SR j) = vp_V [.int 0, .int 0, .int 0, .int 0, .int 0, .int 0, .int 0, .null, .int 0, .int 0, .null, .null] j := by
  intro j hj
  rcases (show j = 0 ∨ j = 1 ∨ j = 2 ∨ j = 3 ∨ j = 4 ∨ j = 5 ∨ j = 6 ∨ j = 7 ∨ j = 8 ∨ j = 9 ∨ j = 10 ∨ j = 11 by omega) with rfl | rfl | rfl | rfl | rfl | rfl | rfl | rfl | rfl | rfl | rfl | rfl <;> rfl
set_option maxRecDepth 20000 in
theorem in_SR : ∀ w ∈ u_ws "ProtectedLine$StreamReader" F_SR 12, w ∈ plWG := by
  intro w hw
  obtain ⟨k, hk, rfl⟩ := List.mem_map.mp hw
  have hk := List.mem_range.mp hk
  rcases (show k = 0 ∨ k = 1 ∨ k = 2 ∨ k = 3 ∨ k = 4 ∨ k = 5 ∨ k = 6 ∨ k = 7 ∨ k = 8 ∨ k = 9 ∨ k = 10 ∨ k = 11 by omega) with rfl | rfl | rfl | rfl | rfl | rfl | rfl | rfl | rfl | rfl | rfl | rfl
  · exact mt 241 (by decide +kernel) rfl
  · exact mt 243 (by decide +kernel) rfl
  · exact mt 245 (by decide +kernel) rfl
  · exact mt 247 (by decide +kernel) rfl
  · exact mt 249 (by decide +kernel) rfl
  · exact mt 251 (by decide +kernel) rfl
  · exact mt 253 (by decide +kernel) rfl
  · exact mt 255 (by decide +kernel) rfl
  · exact mt 257 (by decide +kernel) rfl
  · exact mt 259 (by decide +kernel) rfl
  · exact mt 261 (by decide +kernel) rfl
  · exact mt 263 (by decide +kernel) rfl
set_option maxRecDepth 20000 in
theorem n_PR : ∀ a, a < 9 → ∀ b, b < 9 → a ≠ b → (F_PR a).2.1 ≠ (F_PR b).2.1 := by decide +kernel
set_option maxRecDepth 20000 in
theorem t_PR_ok : ∀ k, k < 9 → parseFieldDescriptor (F_PR k).2.2.1 = some (t_PR k) := by decide +kernel
set_option maxRecDepth 20000 in
theorem df_PR : ∀ j, j < 9 → defaultValue (t_PR j) = vp_V [.null, .int 0, .int 0, .int 0, .int 0, .int 0, .int 0, .int 0, .int 0] j := by
  intro j hj
  rcases (show j = 0 ∨ j = 1 ∨ j = 2 ∨ j = 3 ∨ j = 4 ∨ j = 5 ∨ j = 6 ∨ j = 7 ∨ j = 8 by omega) with rfl | rfl | rfl | rfl | rfl | rfl | rfl | rfl | rfl <;> rfl
set_option maxRecDepth 20000 in
theorem in_PR : ∀ w ∈ u_ws "ProtectedLine$PointerReader" F_PR 9, w ∈ plWG := by
  intro w hw
  obtain ⟨k, hk, rfl⟩ := List.mem_map.mp hw
  have hk := List.mem_range.mp hk
  rcases (show k = 0 ∨ k = 1 ∨ k = 2 ∨ k = 3 ∨ k = 4 ∨ k = 5 ∨ k = 6 ∨ k = 7 ∨ k = 8 by omega) with rfl | rfl | rfl | rfl | rfl | rfl | rfl | rfl | rfl
  · exact mt 283 (by decide +kernel) rfl
  · exact mt 285 (by decide +kernel) rfl
  · exact mt 287 (by decide +kernel) rfl
  · exact mt 289 (by decide +kernel) rfl
  · exact mt 291 (by decide +kernel) rfl
  · exact mt 293 (by decide +kernel) rfl
  · exact mt 295 (by decide +kernel) rfl
  · exact mt 297 (by decide +kernel) rfl
  · exact mt 299 (by decide +kernel) rfl
set_option maxRecDepth 20000 in
theorem n_RM : ∀ a, a < 59 → ∀ b, b < 59 → a ≠ b → (F_RM a).2.1 ≠ (F_RM b).2.1 := by decide +kernel
set_option maxRecDepth 20000 in
theorem t_RM_ok : ∀ k, k < 59 → parseFieldDescriptor (F_RM k).2.2.1 = some (t_RM k) := by decide +kernel
set_option maxRecDepth 20000 in
theorem df_RM : ∀ j, j < 59 → defaultValue (t_RM j) = vp_V [.null, .int 0, .int 0, .int 0, .int 0, .null, .null, .int 0, .int 0, .int 0, .int 0, .int 0, .int 0, .int 0, .int 0, .int 0, .int 0, .int 0, .int 0, .int 0, .null, .null, .null, .null, .null, .null, .null, .null, .null, .null, .null, .null, .null, .int 0, .int 0, .int 0, .int 0, .int 0, .int 0, .int 0, .int 0, .int 0, .int 0, .int 0, .int 0, .int 0, .int 0, .int 0, .int 0, .int 0, .int 0, .int 0, .int 0, .int 0, .int 0, .null, .int 0, .int 0, .null] j := by
  intro j hj
  rcases (show j = 0 ∨ j = 1 ∨ j = 2 ∨ j = 3 ∨ j = 4 ∨ j = 5 ∨ j = 6 ∨ j = 7 ∨ j = 8 ∨ j = 9 ∨ j = 10 ∨ j = 11 ∨ j = 12 ∨ j = 13 ∨ j = 14 ∨ j = 15 ∨ j = 16 ∨ j = 17 ∨ j = 18 ∨ j = 19 ∨ j = 20 ∨ j = 21 ∨ j = 22 ∨ j = 23 ∨ j = 24 ∨ j = 25 ∨ j = 26 ∨ j = 27 ∨ j = 28 ∨ j = 29 ∨ j = 30 ∨ j = 31 ∨ j = 32 ∨ j = 33 ∨ j = 34 ∨ j = 35 ∨ j = 36 ∨ j = 37 ∨ j = 38 ∨ j = 39 ∨ j = 40 ∨ j = 41 ∨ j = 42 ∨ j = 43 ∨ j = 44 ∨ j = 45 ∨ j = 46 ∨ j = 47 ∨ j = 48 ∨ j = 49 ∨ j = 50 ∨ j = 51 ∨ j = 52 ∨ j = 53 ∨ j = 54 ∨ j = 55 ∨ j = 56 ∨ j = 57 ∨ j = 58 by omega) with rfl | rfl | rfl | rfl | rfl | rfl | rfl | rfl | rfl | rfl | rfl | rfl | rfl | rfl | rfl | rfl | rfl | rfl | rfl | rfl | rfl | rfl | rfl | rfl | rfl | rfl | rfl | rfl | rfl | rfl | rfl | rfl | rfl | rfl | rfl | rfl | rfl | rfl | rfl | rfl | rfl | rfl | rfl | rfl | rfl | rfl | rfl | rfl | rfl | rfl | rfl | rfl | rfl | rfl | rfl | rfl | rfl | rfl | rfl <;> rfl
set_option maxRecDepth 20000 in
theorem in_RM : ∀ w ∈ u_ws "ProtectedLineModel" F_RM 59, w ∈ plWG := by
  intro w hw
  obtain ⟨k, hk, rfl⟩ := List.mem_map.mp hw
  have hk := List.mem_range.mp hk
  rcases (show k = 0 ∨ k = 1 ∨ k = 2 ∨ k = 3 ∨ k = 4 ∨ k = 5 ∨ k = 6 ∨ k = 7 ∨ k = 8 ∨ k = 9 ∨ k = 10 ∨ k = 11 ∨ k = 12 ∨ k = 13 ∨ k = 14 ∨ k = 15 ∨ k = 16 ∨ k = 17 ∨ k = 18 ∨ k = 19 ∨ k = 20 ∨ k = 21 ∨ k = 22 ∨ k = 23 ∨ k = 24 ∨ k = 25 ∨ k = 26 ∨ k = 27 ∨ k = 28 ∨ k = 29 ∨ k = 30 ∨ k = 31 ∨ k = 32 ∨ k = 33 ∨ k = 34 ∨ k = 35 ∨ k = 36 ∨ k = 37 ∨ k = 38 ∨ k = 39 ∨ k = 40 ∨ k = 41 ∨ k = 42 ∨ k = 43 ∨ k = 44 ∨ k = 45 ∨ k = 46 ∨ k = 47 ∨ k = 48 ∨ k = 49 ∨ k = 50 ∨ k = 51 ∨ k = 52 ∨ k = 53 ∨ k = 54 ∨ k = 55 ∨ k = 56 ∨ k = 57 ∨ k = 58 by omega) with rfl | rfl | rfl | rfl | rfl | rfl | rfl | rfl | rfl | rfl | rfl | rfl | rfl | rfl | rfl | rfl | rfl | rfl | rfl | rfl | rfl | rfl | rfl | rfl | rfl | rfl | rfl | rfl | rfl | rfl | rfl | rfl | rfl | rfl | rfl | rfl | rfl | rfl | rfl | rfl | rfl | rfl | rfl | rfl | rfl | rfl | rfl | rfl | rfl | rfl | rfl | rfl | rfl | rfl | rfl | rfl | rfl | rfl | rfl
  · exact mt 701 (by decide +kernel) rfl
  · exact mt 703 (by decide +kernel) rfl
  · exact mt 705 (by decide +kernel) rfl
  · exact mt 707 (by decide +kernel) rfl
  · exact mt 709 (by decide +kernel) rfl
  · exact mt 711 (by decide +kernel) rfl
  · exact mt 713 (by decide +kernel) rfl
  · exact mt 715 (by decide +kernel) rfl
  · exact mt 717 (by decide +kernel) rfl
  · exact mt 719 (by decide +kernel) rfl
  · exact mt 721 (by decide +kernel) rfl
  · exact mt 723 (by decide +kernel) rfl
  · exact mt 725 (by decide +kernel) rfl
  · exact mt 727 (by decide +kernel) rfl
  · exact mt 729 (by decide +kernel) rfl
  · exact mt 731 (by decide +kernel) rfl
  · exact mt 733 (by decide +kernel) rfl
  · exact mt 735 (by decide +kernel) rfl
  · exact mt 737 (by decide +kernel) rfl
  · exact mt 739 (by decide +kernel) rfl
  · exact mt 741 (by decide +kernel) rfl
  · exact mt 743 (by decide +kernel) rfl
  · exact mt 745 (by decide +kernel) rfl
  · exact mt 747 (by decide +kernel) rfl
  · exact mt 749 (by decide +kernel) rfl
  · exact mt 751 (by decide +kernel) rfl
  · exact mt 753 (by decide +kernel) rfl
  · exact mt 755 (by decide +kernel) rfl
  · exact mt 757 (by decide +kernel) rfl
  · exact mt 759 (by decide +kernel) rfl
  · exact mt 761 (by decide +kernel) rfl
  · exact mt 763 (by decide +kernel) rfl
  · exact mt 765 (by decide +kernel) rfl
  · exact mt 767 (by decide +kernel) rfl
  · exact mt 769 (by decide +kernel) rfl
  · exact mt 771 (by decide +kernel) rfl
  · exact mt 773 (by decide +kernel) rfl
  · exact mt 775 (by decide +kernel) rfl
  · exact mt 777 (by decide +kernel) rfl
  · exact mt 779 (by decide +kernel) rfl
  · exact mt 781 (by decide +kernel) rfl
  · exact mt 783 (by decide +kernel) rfl
  · exact mt 785 (by decide +kernel) rfl
  · exact mt 787 (by decide +kernel) rfl
  · exact mt 789 (by decide +kernel) rfl
  · exact mt 791 (by decide +kernel) rfl
  · exact mt 793 (by decide +kernel) rfl
  · exact mt 795 (by decide +kernel) rfl
  · exact mt 797 (by decide +kernel) rfl
  · exact mt 799 (by decide +kernel) rfl
  · exact mt 801 (by decide +kernel) rfl
  · exact mt 803 (by decide +kernel) rfl
  · exact mt 805 (by decide +kernel) rfl
  · exact mt 807 (by decide +kernel) rfl
  · exact mt 809 (by decide +kernel) rfl
  · exact mt 811 (by decide +kernel) rfl
  · exact mt 813 (by decide +kernel) rfl
  · exact mt 815 (by decide +kernel) rfl
  · exact mt 817 (by decide +kernel) rfl
end
section
/-! The judgement plJ: W with heap, written places and locals hidden; the two object graphs are lists of cells over one pure state -/
abbrev plS : Type := Nat → Nat → Int32
def plUp (st : plS) (i k : Nat) (v : Int32) : plS := fun j => if j = i then upd (st i) k v else st j
def plCp (st : plS) (i j sp dp n : Nat) : plS := fun q => if q = j then va_cpy (st i) (st j) sp dp n else st q
abbrev plIx (x : Int32) : Nat := x.toNatClampNeg
def plUshr (x y : Int32) : Int32 := (x.toUInt32 >>> (y.toUInt32 &&& Int32.toUInt32 31)).toInt32
def plB (v : Int32) : Prop := v = 0 ∨ v = 1
def plCpOK (n0 n1 : Nat) (sp dp n : Int32) : Prop := ¬ sp < 0 ∧ ¬ dp < 0 ∧ ¬ n < 0 ∧ plIx sp + plIx n ≤ n0 ∧ plIx dp + plIx n ≤ n1
/-- a loop: the step says whether it goes on -/
def lpR {C : Type} (f : C → Bool × C) : Nat → C → C
  | 0, c => c
  | n + 1, c => if (f c).1 = true then lpR f n (f c).2 else (f c).2
def lpP {C : Type} (p : C → Prop) (f : C → Bool × C) : Nat → C → Prop
  | 0, _ => False
  | n + 1, c => p c ∧ ((f c).1 = true → lpP p f n (f c).2)
theorem lpJ {C : Type} (p : C → Prop) (f : C → Bool × C) (Jh Jx : C → Prop) (hb : ∀ c, p c → (∀ c', f c = (true, c') → Jh c') → (∀ c', f c = (false, c') → Jx c') → Jh c) : ∀ n c, lpP p f n c → Jx (lpR f n c) → Jh c := by
  intro n
  induction n with
  | zero => intro c h _; exact False.elim h
  | succ n ih =>
    intro c h hx
    unfold lpP at h
    unfold lpR at hx
    refine hb c h.1 (fun c' e => ?_) (fun c' e => ?_)
    · have h1 : (f c).1 = true := by rw [e]
      have h2 := h.2 h1
      rw [if_pos h1] at hx
      rw [e] at h2 hx
      exact ih c' h2 hx
    · have h1 : ¬ (f c).1 = true := by rw [e]; exact Bool.false_ne_true
      rw [if_neg h1, e] at hx
      exact hx
/-! what a side fixes: launch, tables, what may be written, the two static tables, the array classes -/
abbrev plG : Type := Launch × va_G × (Nat → Prop) × Nat × Nat × ClassId × ClassId
abbrev plgL (g : plG) : Launch := g.1
abbrev plgD (g : plG) : va_G := g.2.1
abbrev plgA (g : plG) : Nat → Prop := g.2.2.1
abbrev plaROW (g : plG) : Nat := g.2.2.2.1
abbrev plaEMPTY (g : plG) : Nat := g.2.2.2.2.1
abbrev plgI (g : plG) : ClassId := g.2.2.2.2.2.1
abbrev plgZ (g : plG) : ClassId := g.2.2.2.2.2.2
abbrev plTy (g : plG) : List (ClassId × FieldType) := [(plgI g, .int), (plgZ g, .boolean)]
def plROW (j : Nat) : Int32 := ([254, 4, 24, 81, 228, 89, 212, 250, 28, 73] : List Int32).getD j 0
def plEMPTY (_ : Nat) : Int32 := 255
abbrev plE : Type := plG × Program × Env × Room × State × MethodId × Array Value × List Frame × Method × Code × (State → Prop)
abbrev plg (E : plE) : plG := E.1
abbrev eP (E : plE) : Program := E.2.1
abbrev eE (E : plE) : Env := E.2.2.1
abbrev eR (E : plE) : Room := E.2.2.2.1
abbrev eS (E : plE) : State := E.2.2.2.2.1
abbrev eM (E : plE) : MethodId := E.2.2.2.2.2.1
abbrev eA (E : plE) : Array Value := E.2.2.2.2.2.2.1
abbrev eB (E : plE) : List Frame := E.2.2.2.2.2.2.2.1
abbrev eT (E : plE) : Method := E.2.2.2.2.2.2.2.2.1
abbrev eC (E : plE) : Code := E.2.2.2.2.2.2.2.2.2.1
abbrev eQ (E : plE) : State → Prop := E.2.2.2.2.2.2.2.2.2.2
def plExt (g : plG) (U : State) (H : Heap) : Prop :=
  (∀ q ∈ plNF, va_Nw (.fieldLinkNest q.1 q.2.1 q.2.2.1 q.2.2.2.1 q.2.2.2.2.1 q.2.2.2.2.2) U) ∧ (∀ q ∈ plNM, va_Nw (.methodLinkNest q.1 q.2.1 q.2.2.1 q.2.2.2) U) ∧
  va_Z "ProtectedLine$Line" "ROW" "[I" (.ref (plaROW g)) (plgA g) U H ∧ va_T .int (plaROW g) 10 (fun j => .int (plROW j)) (plgA g) U H ∧
  va_Z "ProtectedLine$NodeA" "EMPTY" "[I" (.ref (plaEMPTY g)) (plgA g) U H ∧ va_T .int (plaEMPTY g) 8 (fun j => .int (plEMPTY j)) (plgA g) U H
theorem plExt.go {g : plG} {s U : State} {H : Heap} {locs : List Loc} (h : plExt g s s.heap) (hW : s.WarmedH U.vm) (hS : va_S (plgA g) s.heap H locs) (hU : U.heap = H) : plExt g U U.heap := by
  obtain ⟨h1, h2, h3, h4, h5, h6⟩ := h
  subst hU
  have hq : ∀ a : Nat, a < s.heap.size → ¬ plgA g a → U.heap[a]? = s.heap[a]? := hS.2.1
  exact ⟨fun q m => (h1 q m).warmF hW, fun q m => (h2 q m).warmM hW, (h3.kept hq).moved hW.alike, (h4.kept hq).moved hW.alike, (h5.kept hq).moved hW.alike, (h6.kept hq).moved hW.alike⟩
def plIn (g : plG) (w : va_W) (U : State) : Prop := va_P (plgD g) plCl w U.heap ∧ va_K (plgD g) plCl (plTy g) U ∧ va_D (plgA g) w ∧ plExt g U U.heap
def plOut (g : plG) (w : va_W) (t : State) : Prop := va_P (plgD g) plCl w t.heap ∧ va_D (plgA g) w
theorem plIn.blind {g : plG} {w : va_W} {U : State} {gg : JFrame} {mk : MethodId} {a : Array Value} (h : plIn g w U) : plIn g w (U.calling gg mk a) := by
  obtain ⟨hP, hK, hD, h1, h2, h3, h4, h5, h6⟩ := h
  refine ⟨hP, va_K.moved (u := U) (U := U.calling gg mk a) (Vm.Alike.refl U.vm) hK, hD, fun q m => (h1 q m).same rfl rfl, fun q m => (h2 q m).same rfl rfl, ?_, ?_, ?_, ?_⟩
  · exact va_Z.moved (u := U) (U := U.calling gg mk a) (Vm.Alike.refl U.vm) h3
  · exact va_T.moved (u := U) (U := U.calling gg mk a) (Vm.Alike.refl U.vm) h4
  · exact va_Z.moved (u := U) (U := U.calling gg mk a) (Vm.Alike.refl U.vm) h5
  · exact va_T.moved (u := U) (U := U.calling gg mk a) (Vm.Alike.refl U.vm) h6
def plX (E : plE) (cc : ByteArray) (own : String) (nL : Nat) (ret : Option FieldType) (fr lo : Nat) : Prop :=
  (eP E).tables.exec = Jvm.exec ∧ (eC E).code = cc ∧ (eC E).maxLocals = nL ∧ (eS E).vm.findClass own = some (eM E).cls ∧ (∀ w ∈ plWG, w.before (eA E) (eS E) = true) ∧
  va_K (plgD (plg E)) plCl (plTy (plg E)) (eS E) ∧ (eT E).locks = false ∧ (eT E).sig.returnType = ret ∧ (fr ≤ (eR E).frames ∧ lo ≤ (eR E).locals) ∧ plExt (plg E) (eS E) (eS E).heap
def plJ (E : plE) (nL : Nat) (w : va_W) (k n : Nat) (lv : List (Nat × Value)) (pc : Nat) (st : List Value) : Prop :=
  ∀ (H : Heap) (locs : List Loc) (ls : Array Slot), lv_has ls nL lv → va_P (plgD (plg E)) plCl w H → va_D (plgA (plg E)) w → va_S (plgA (plg E)) (eS E).heap H locs →
    W (eP E) (plgL (plg E)) (eE E) (eR E) (eS E) (eM E) (eA E) (eB E) (eT E) (eC E) H locs k n (eQ E) (F0 (eM E) pc ls st)
section
variable {E : plE} {cc : ByteArray} {own : String} {nL : Nat} {ret : Option FieldType} {fr lo : Nat} {w : va_W} {k n : Nat} {lv lv' : List (Nat × Value)} {pc : Nat} {st : List Value}
theorem j_sub (ks : List Nat) (h : lv_pick lv ks = lv') (kk : plJ E nL w k n lv' pc st) : plJ E nL w k n lv pc st := fun H locs ls hl hP hD hS => kk H locs ls (lv_sub hl ks h) hP hD hS
theorem j_iconst (X : plX E cc own nL ret fr lo) {z : Int} {v : Int32} (d : decode cc pc = .ok (.iconst z, 1)) (hv : Int32.ofInt z = v) (kk : plJ E nL w k n lv (pc + 1) (.int v :: st)) : plJ E nL w k n lv pc st := fun H locs ls hl hP hD hS => lv_iconst X.1 X.2.1 d hv (kk H locs ls hl hP hD hS)
theorem j_bipush (X : plX E cc own nL ret fr lo) {z : Int} {v : Int32} (d : decode cc pc = .ok (.bipush z, 2)) (hv : (Int8.ofInt z).toInt32 = v) (kk : plJ E nL w k n lv (pc + 2) (.int v :: st)) : plJ E nL w k n lv pc st := fun H locs ls hl hP hD hS => lv_bipush X.1 X.2.1 d hv (kk H locs ls hl hP hD hS)
theorem j_sipush (X : plX E cc own nL ret fr lo) {z : Int} {v : Int32} (d : decode cc pc = .ok (.sipush z, 3)) (hv : (Int16.ofInt z).toInt32 = v) (kk : plJ E nL w k n lv (pc + 3) (.int v :: st)) : plJ E nL w k n lv pc st := fun H locs ls hl hP hD hS => lv_sipush X.1 X.2.1 d hv (kk H locs ls hl hP hD hS)
theorem j_iload_n (X : plX E cc own nL ret fr lo) {f : Fin 4} {i : Nat} {x : Int32} (d : decode cc pc = .ok (.iload_n f, 1)) (hi : (f : Nat) = i) (q : Nat) (hq : lv[q]? = some (i, .int x)) (kk : plJ E nL w k n lv (pc + 1) (.int x :: st)) : plJ E nL w k n lv pc st := fun H locs ls hl hP hD hS => lv_iload_n X.1 X.2.1 d hi (lv_at hl q hq) (kk H locs ls hl hP hD hS)
theorem j_iload (X : plX E cc own nL ret fr lo) {i : Nat} {x : Int32} (d : decode cc pc = .ok (.iload i, 2)) (q : Nat) (hq : lv[q]? = some (i, .int x)) (kk : plJ E nL w k n lv (pc + 2) (.int x :: st)) : plJ E nL w k n lv pc st := fun H locs ls hl hP hD hS => lv_iload X.1 X.2.1 d (lv_at hl q hq) (kk H locs ls hl hP hD hS)
theorem j_lload_n (X : plX E cc own nL ret fr lo) {f : Fin 4} {i : Nat} {x : Int64} (d : decode cc pc = .ok (.lload_n f, 1)) (hi : (f : Nat) = i) (q : Nat) (hq : lv[q]? = some (i, .long x)) (kk : plJ E nL w k n lv (pc + 1) (.long x :: st)) : plJ E nL w k n lv pc st := fun H locs ls hl hP hD hS => lv_lload_n X.1 X.2.1 d hi (lv_at hl q hq) (kk H locs ls hl hP hD hS)
theorem j_lload (X : plX E cc own nL ret fr lo) {i : Nat} {x : Int64} (d : decode cc pc = .ok (.lload i, 2)) (q : Nat) (hq : lv[q]? = some (i, .long x)) (kk : plJ E nL w k n lv (pc + 2) (.long x :: st)) : plJ E nL w k n lv pc st := fun H locs ls hl hP hD hS => lv_lload X.1 X.2.1 d (lv_at hl q hq) (kk H locs ls hl hP hD hS)
theorem j_aload_n (X : plX E cc own nL ret fr lo) {f : Fin 4} {i : Nat} {x : Nat} (d : decode cc pc = .ok (.aload_n f, 1)) (hi : (f : Nat) = i) (q : Nat) (hq : lv[q]? = some (i, .ref x)) (kk : plJ E nL w k n lv (pc + 1) (.ref x :: st)) : plJ E nL w k n lv pc st := fun H locs ls hl hP hD hS => lv_aload_n X.1 X.2.1 d hi (lv_at hl q hq) (kk H locs ls hl hP hD hS)
theorem j_aload (X : plX E cc own nL ret fr lo) {i : Nat} {x : Nat} (d : decode cc pc = .ok (.aload i, 2)) (q : Nat) (hq : lv[q]? = some (i, .ref x)) (kk : plJ E nL w k n lv (pc + 2) (.ref x :: st)) : plJ E nL w k n lv pc st := fun H locs ls hl hP hD hS => lv_aload X.1 X.2.1 d (lv_at hl q hq) (kk H locs ls hl hP hD hS)
theorem j_istore_n (X : plX E cc own nL ret fr lo) {f : Fin 4} {i : Nat} {x : Int32} (d : decode cc pc = .ok (.istore_n f, 1)) (hi : (f : Nat) = i) (hn : i < nL) (h : (i, Value.int x) :: lv.filter (fun q => !(q.1 == i) && !(q.1 + 1 == i && q.2.category == 2)) = lv') (kk : plJ E nL w k n lv' (pc + 1) st) : plJ E nL w k n lv pc (.int x :: st) := fun H locs ls hl hP hD hS => lv_istore_n X.1 X.2.1 d hi hl hn h (fun ls' hl' => kk H locs ls' hl' hP hD hS)
theorem j_istore (X : plX E cc own nL ret fr lo) {i : Nat} {x : Int32} (d : decode cc pc = .ok (.istore i, 2)) (hn : i < nL) (h : (i, Value.int x) :: lv.filter (fun q => !(q.1 == i) && !(q.1 + 1 == i && q.2.category == 2)) = lv') (kk : plJ E nL w k n lv' (pc + 2) st) : plJ E nL w k n lv pc (.int x :: st) := fun H locs ls hl hP hD hS => lv_istore X.1 X.2.1 d hl hn h (fun ls' hl' => kk H locs ls' hl' hP hD hS)
theorem j_astore_n (X : plX E cc own nL ret fr lo) {f : Fin 4} {i x : Nat} (d : decode cc pc = .ok (.astore_n f, 1)) (hi : (f : Nat) = i) (hn : i < nL) (h : (i, Value.ref x) :: lv.filter (fun q => !(q.1 == i) && !(q.1 + 1 == i && q.2.category == 2)) = lv') (kk : plJ E nL w k n lv' (pc + 1) st) : plJ E nL w k n lv pc (.ref x :: st) := fun H locs ls hl hP hD hS => lv_astore_n X.1 X.2.1 d hi hl hn h (fun ls' hl' => kk H locs ls' hl' hP hD hS)
theorem j_astore (X : plX E cc own nL ret fr lo) {i x : Nat} (d : decode cc pc = .ok (.astore i, 2)) (hn : i < nL) (h : (i, Value.ref x) :: lv.filter (fun q => !(q.1 == i) && !(q.1 + 1 == i && q.2.category == 2)) = lv') (kk : plJ E nL w k n lv' (pc + 2) st) : plJ E nL w k n lv pc (.ref x :: st) := fun H locs ls hl hP hD hS => lv_astore X.1 X.2.1 d hl hn h (fun ls' hl' => kk H locs ls' hl' hP hD hS)
theorem j_iinc (X : plX E cc own nL ret fr lo) {i : Nat} {z : Int} {c x : Int32} (d : decode cc pc = .ok (.iinc i z, 3)) (q : Nat) (hq : lv[q]? = some (i, .int x)) (hz : Int32.ofInt z = c) (hn : i < nL) (h : (i, Value.int (x + c)) :: lv.filter (fun q => !(q.1 == i) && !(q.1 + 1 == i && q.2.category == 2)) = lv') (kk : plJ E nL w k n lv' (pc + 3) st) : plJ E nL w k n lv pc st := fun H locs ls hl hP hD hS => lv_iinc X.1 X.2.1 d hl hq (by rw [hz]) hn h (fun ls' hl' => kk H locs ls' hl' hP hD hS)
theorem j_iadd (X : plX E cc own nL ret fr lo) {x y : Int32} (d : decode cc pc = .ok (.iadd, 1)) (kk : plJ E nL w k n lv (pc + 1) (.int (x + y) :: st)) : plJ E nL w k n lv pc (.int y :: .int x :: st) := fun H locs ls hl hP hD hS => lv_iadd X.1 X.2.1 d (kk H locs ls hl hP hD hS)
theorem j_isub (X : plX E cc own nL ret fr lo) {x y : Int32} (d : decode cc pc = .ok (.isub, 1)) (kk : plJ E nL w k n lv (pc + 1) (.int (x - y) :: st)) : plJ E nL w k n lv pc (.int y :: .int x :: st) := fun H locs ls hl hP hD hS => lv_isub X.1 X.2.1 d (kk H locs ls hl hP hD hS)
theorem j_imul (X : plX E cc own nL ret fr lo) {x y : Int32} (d : decode cc pc = .ok (.imul, 1)) (kk : plJ E nL w k n lv (pc + 1) (.int (x * y) :: st)) : plJ E nL w k n lv pc (.int y :: .int x :: st) := fun H locs ls hl hP hD hS => lv_imul X.1 X.2.1 d (kk H locs ls hl hP hD hS)
theorem j_iand (X : plX E cc own nL ret fr lo) {x y : Int32} (d : decode cc pc = .ok (.iand, 1)) (kk : plJ E nL w k n lv (pc + 1) (.int (x &&& y) :: st)) : plJ E nL w k n lv pc (.int y :: .int x :: st) := fun H locs ls hl hP hD hS => lv_iand X.1 X.2.1 d (kk H locs ls hl hP hD hS)
theorem j_ior (X : plX E cc own nL ret fr lo) {x y : Int32} (d : decode cc pc = .ok (.ior, 1)) (kk : plJ E nL w k n lv (pc + 1) (.int (x ||| y) :: st)) : plJ E nL w k n lv pc (.int y :: .int x :: st) := fun H locs ls hl hP hD hS => lv_ior X.1 X.2.1 d (kk H locs ls hl hP hD hS)
theorem j_ixor (X : plX E cc own nL ret fr lo) {x y : Int32} (d : decode cc pc = .ok (.ixor, 1)) (kk : plJ E nL w k n lv (pc + 1) (.int (x ^^^ y) :: st)) : plJ E nL w k n lv pc (.int y :: .int x :: st) := fun H locs ls hl hP hD hS => lv_ixor X.1 X.2.1 d (kk H locs ls hl hP hD hS)
theorem j_ishl (X : plX E cc own nL ret fr lo) {x y : Int32} (d : decode cc pc = .ok (.ishl, 1)) (kk : plJ E nL w k n lv (pc + 1) (.int (x <<< (y &&& 31)) :: st)) : plJ E nL w k n lv pc (.int y :: .int x :: st) := fun H locs ls hl hP hD hS => lv_ishl X.1 X.2.1 d (kk H locs ls hl hP hD hS)
theorem j_ishr (X : plX E cc own nL ret fr lo) {x y : Int32} (d : decode cc pc = .ok (.ishr, 1)) (kk : plJ E nL w k n lv (pc + 1) (.int (x >>> (y &&& 31)) :: st)) : plJ E nL w k n lv pc (.int y :: .int x :: st) := fun H locs ls hl hP hD hS => lv_ishr X.1 X.2.1 d (kk H locs ls hl hP hD hS)
theorem j_iushr (X : plX E cc own nL ret fr lo) {x y : Int32} (d : decode cc pc = .ok (.iushr, 1)) (kk : plJ E nL w k n lv (pc + 1) (.int (plUshr x y) :: st)) : plJ E nL w k n lv pc (.int y :: .int x :: st) := fun H locs ls hl hP hD hS => lv_iushr X.1 X.2.1 d rfl (kk H locs ls hl hP hD hS)
theorem j_idiv (X : plX E cc own nL ret fr lo) {x y : Int32} (d : decode cc pc = .ok (.idiv, 1)) (hy : ¬ y = 0) (kk : plJ E nL w k n lv (pc + 1) (.int (x / y) :: st)) : plJ E nL w k n lv pc (.int y :: .int x :: st) := fun H locs ls hl hP hD hS => lv_idiv X.1 X.2.1 d hy (kk H locs ls hl hP hD hS)
theorem j_irem (X : plX E cc own nL ret fr lo) {x y : Int32} (d : decode cc pc = .ok (.irem, 1)) (hy : ¬ y = 0) (kk : plJ E nL w k n lv (pc + 1) (.int (x - x / y * y) :: st)) : plJ E nL w k n lv pc (.int y :: .int x :: st) := fun H locs ls hl hP hD hS => lv_irem X.1 X.2.1 d hy (kk H locs ls hl hP hD hS)
theorem j_i2l (X : plX E cc own nL ret fr lo) {x : Int32} (d : decode cc pc = .ok (.i2l, 1)) (kk : plJ E nL w k n lv (pc + 1) (.long (Int32.toInt64 x) :: st)) : plJ E nL w k n lv pc (.int x :: st) := fun H locs ls hl hP hD hS => lv_i2l X.1 X.2.1 d rfl (kk H locs ls hl hP hD hS)
theorem j_l2i (X : plX E cc own nL ret fr lo) {x : Int64} (d : decode cc pc = .ok (.l2i, 1)) (kk : plJ E nL w k n lv (pc + 1) (.int (Int64.toInt32 x) :: st)) : plJ E nL w k n lv pc (.long x :: st) := fun H locs ls hl hP hD hS => lv_l2i X.1 X.2.1 d rfl (kk H locs ls hl hP hD hS)
theorem j_lshr (X : plX E cc own nL ret fr lo) {x : Int64} {y : Int32} (d : decode cc pc = .ok (.lshr, 1)) (kk : plJ E nL w k n lv (pc + 1) (.long (x >>> (Int32.toInt64 y &&& 63)) :: st)) : plJ E nL w k n lv pc (.int y :: .long x :: st) := fun H locs ls hl hP hD hS => lv_lshr X.1 X.2.1 d rfl (kk H locs ls hl hP hD hS)
theorem j_lshl (X : plX E cc own nL ret fr lo) {x : Int64} {y : Int32} (d : decode cc pc = .ok (.lshl, 1)) (kk : plJ E nL w k n lv (pc + 1) (.long (x <<< (Int32.toInt64 y &&& 63)) :: st)) : plJ E nL w k n lv pc (.int y :: .long x :: st) := fun H locs ls hl hP hD hS => lv_lshl X.1 X.2.1 d rfl (kk H locs ls hl hP hD hS)
theorem j_land (X : plX E cc own nL ret fr lo) {x y : Int64} (d : decode cc pc = .ok (.land, 1)) (kk : plJ E nL w k n lv (pc + 1) (.long (x &&& y) :: st)) : plJ E nL w k n lv pc (.long y :: .long x :: st) := fun H locs ls hl hP hD hS => lv_land X.1 X.2.1 d (kk H locs ls hl hP hD hS)
theorem j_lor (X : plX E cc own nL ret fr lo) {x y : Int64} (d : decode cc pc = .ok (.lor, 1)) (kk : plJ E nL w k n lv (pc + 1) (.long (x ||| y) :: st)) : plJ E nL w k n lv pc (.long y :: .long x :: st) := fun H locs ls hl hP hD hS => lv_lor X.1 X.2.1 d (kk H locs ls hl hP hD hS)
theorem j_ldc2 (X : plX E cc own nL ret fr lo) {i : Nat} {v : Int64} (hc : Cond.constantLong own i v ∈ plWG) (d : decode cc pc = .ok (.ldc2_w i, 3)) (kk : plJ E nL w k n lv (pc + 3) (.long v :: st)) : plJ E nL w k n lv pc st := fun H locs ls hl hP hD hS => lv_ldc2 X.1 X.2.1 X.2.2.2.1 (X.2.2.2.2.1 _ hc) d (kk H locs ls hl hP hD hS)
theorem j_ldc (X : plX E cc own nL ret fr lo) {i : Nat} {v : Int32} (hc : Cond.constant own i v ∈ plWG) (d : decode cc pc = .ok (.ldc i, 2)) (kk : plJ E nL w k n lv (pc + 2) (.int v :: st)) : plJ E nL w k n lv pc st := fun H locs ls hl hP hD hS => lv_ldc X.1 X.2.1 X.2.2.2.1 (X.2.2.2.2.1 _ hc) d (kk H locs ls hl hP hD hS)
theorem j_ldcw (X : plX E cc own nL ret fr lo) {i : Nat} {v : Int32} (hc : Cond.constant own i v ∈ plWG) (d : decode cc pc = .ok (.ldc_w i, 3)) (kk : plJ E nL w k n lv (pc + 3) (.int v :: st)) : plJ E nL w k n lv pc st := fun H locs ls hl hP hD hS => lv_ldcw X.1 X.2.1 X.2.2.2.1 (X.2.2.2.2.1 _ hc) d (kk H locs ls hl hP hD hS)
theorem j_dup (X : plX E cc own nL ret fr lo) {v : Value} (d : decode cc pc = .ok (.dup, 1)) (hv : v.category = 1) (kk : plJ E nL w k n lv (pc + 1) (v :: v :: st)) : plJ E nL w k n lv pc (v :: st) := fun H locs ls hl hP hD hS => lv_dup X.1 X.2.1 d hv (kk H locs ls hl hP hD hS)
theorem j_dup2 (X : plX E cc own nL ret fr lo) {v u : Value} (d : decode cc pc = .ok (.dup2, 1)) (hv : v.category = 1) (hu : u.category = 1) (kk : plJ E nL w k n lv (pc + 1) (v :: u :: v :: u :: st)) : plJ E nL w k n lv pc (v :: u :: st) := fun H locs ls hl hP hD hS => lv_dup2_11 X.1 X.2.1 d hv hu (kk H locs ls hl hP hD hS)
theorem j_goto (X : plX E cc own nL ret fr lo) {off : Int} {tgt : Nat} (d : decode cc pc = .ok (.goto off, 3)) (ht : (pc : Int) + off = (tgt : Int)) (kk : plJ E nL w k n lv tgt st) : plJ E nL w k n lv pc st := fun H locs ls hl hP hD hS => lv_goto X.1 X.2.1 d ht (kk H locs ls hl hP hD hS)
theorem j_if_eq (X : plX E cc own nL ret fr lo) {x : Int32} {off : Int} {tgt : Nat} (d : decode cc pc = .ok (.ifCond .eq off, 3)) (ht : (pc : Int) + off = (tgt : Int)) (kt : x = 0 → plJ E nL w k n lv tgt st) (kf : ¬ x = 0 → plJ E nL w k n lv (pc + 3) st) : plJ E nL w k n lv pc (.int x :: st) := fun H locs ls hl hP hD hS => lv_if_eq X.1 X.2.1 d ht (fun hc => kt hc H locs ls hl hP hD hS) (fun hc => kf hc H locs ls hl hP hD hS)
theorem j_if_ne (X : plX E cc own nL ret fr lo) {x : Int32} {off : Int} {tgt : Nat} (d : decode cc pc = .ok (.ifCond .ne off, 3)) (ht : (pc : Int) + off = (tgt : Int)) (kt : ¬ x = 0 → plJ E nL w k n lv tgt st) (kf : x = 0 → plJ E nL w k n lv (pc + 3) st) : plJ E nL w k n lv pc (.int x :: st) := fun H locs ls hl hP hD hS => lv_if_ne X.1 X.2.1 d ht (fun hc => kt hc H locs ls hl hP hD hS) (fun hc => kf hc H locs ls hl hP hD hS)
theorem j_if_lt (X : plX E cc own nL ret fr lo) {x : Int32} {off : Int} {tgt : Nat} (d : decode cc pc = .ok (.ifCond .lt off, 3)) (ht : (pc : Int) + off = (tgt : Int)) (kt : x < 0 → plJ E nL w k n lv tgt st) (kf : ¬ x < 0 → plJ E nL w k n lv (pc + 3) st) : plJ E nL w k n lv pc (.int x :: st) := fun H locs ls hl hP hD hS => lv_if_lt X.1 X.2.1 d ht (fun hc => kt hc H locs ls hl hP hD hS) (fun hc => kf hc H locs ls hl hP hD hS)
theorem j_if_ge (X : plX E cc own nL ret fr lo) {x : Int32} {off : Int} {tgt : Nat} (d : decode cc pc = .ok (.ifCond .ge off, 3)) (ht : (pc : Int) + off = (tgt : Int)) (kt : 0 ≤ x → plJ E nL w k n lv tgt st) (kf : ¬ 0 ≤ x → plJ E nL w k n lv (pc + 3) st) : plJ E nL w k n lv pc (.int x :: st) := fun H locs ls hl hP hD hS => lv_if_ge X.1 X.2.1 d ht (fun hc => kt hc H locs ls hl hP hD hS) (fun hc => kf hc H locs ls hl hP hD hS)
theorem j_if_gt (X : plX E cc own nL ret fr lo) {x : Int32} {off : Int} {tgt : Nat} (d : decode cc pc = .ok (.ifCond .gt off, 3)) (ht : (pc : Int) + off = (tgt : Int)) (kt : 0 < x → plJ E nL w k n lv tgt st) (kf : ¬ 0 < x → plJ E nL w k n lv (pc + 3) st) : plJ E nL w k n lv pc (.int x :: st) := fun H locs ls hl hP hD hS => lv_if_gt X.1 X.2.1 d ht (fun hc => kt hc H locs ls hl hP hD hS) (fun hc => kf hc H locs ls hl hP hD hS)
theorem j_if_le (X : plX E cc own nL ret fr lo) {x : Int32} {off : Int} {tgt : Nat} (d : decode cc pc = .ok (.ifCond .le off, 3)) (ht : (pc : Int) + off = (tgt : Int)) (kt : x ≤ 0 → plJ E nL w k n lv tgt st) (kf : ¬ x ≤ 0 → plJ E nL w k n lv (pc + 3) st) : plJ E nL w k n lv pc (.int x :: st) := fun H locs ls hl hP hD hS => lv_if_le X.1 X.2.1 d ht (fun hc => kt hc H locs ls hl hP hD hS) (fun hc => kf hc H locs ls hl hP hD hS)
theorem j_icmp_eq (X : plX E cc own nL ret fr lo) {x y : Int32} {off : Int} {tgt : Nat} (d : decode cc pc = .ok (.if_icmp .eq off, 3)) (ht : (pc : Int) + off = (tgt : Int)) (kt : x = y → plJ E nL w k n lv tgt st) (kf : ¬ x = y → plJ E nL w k n lv (pc + 3) st) : plJ E nL w k n lv pc (.int y :: .int x :: st) := fun H locs ls hl hP hD hS => lv_icmp_eq X.1 X.2.1 d ht (fun hc => kt hc H locs ls hl hP hD hS) (fun hc => kf hc H locs ls hl hP hD hS)
theorem j_icmp_ne (X : plX E cc own nL ret fr lo) {x y : Int32} {off : Int} {tgt : Nat} (d : decode cc pc = .ok (.if_icmp .ne off, 3)) (ht : (pc : Int) + off = (tgt : Int)) (kt : ¬ x = y → plJ E nL w k n lv tgt st) (kf : x = y → plJ E nL w k n lv (pc + 3) st) : plJ E nL w k n lv pc (.int y :: .int x :: st) := fun H locs ls hl hP hD hS => lv_icmp_ne X.1 X.2.1 d ht (fun hc => kt hc H locs ls hl hP hD hS) (fun hc => kf hc H locs ls hl hP hD hS)
theorem j_icmp_lt (X : plX E cc own nL ret fr lo) {x y : Int32} {off : Int} {tgt : Nat} (d : decode cc pc = .ok (.if_icmp .lt off, 3)) (ht : (pc : Int) + off = (tgt : Int)) (kt : x < y → plJ E nL w k n lv tgt st) (kf : ¬ x < y → plJ E nL w k n lv (pc + 3) st) : plJ E nL w k n lv pc (.int y :: .int x :: st) := fun H locs ls hl hP hD hS => lv_icmp_lt X.1 X.2.1 d ht (fun hc => kt hc H locs ls hl hP hD hS) (fun hc => kf hc H locs ls hl hP hD hS)
theorem j_icmp_ge (X : plX E cc own nL ret fr lo) {x y : Int32} {off : Int} {tgt : Nat} (d : decode cc pc = .ok (.if_icmp .ge off, 3)) (ht : (pc : Int) + off = (tgt : Int)) (kt : y ≤ x → plJ E nL w k n lv tgt st) (kf : ¬ y ≤ x → plJ E nL w k n lv (pc + 3) st) : plJ E nL w k n lv pc (.int y :: .int x :: st) := fun H locs ls hl hP hD hS => lv_icmp_ge X.1 X.2.1 d ht (fun hc => kt hc H locs ls hl hP hD hS) (fun hc => kf hc H locs ls hl hP hD hS)
theorem j_icmp_gt (X : plX E cc own nL ret fr lo) {x y : Int32} {off : Int} {tgt : Nat} (d : decode cc pc = .ok (.if_icmp .gt off, 3)) (ht : (pc : Int) + off = (tgt : Int)) (kt : y < x → plJ E nL w k n lv tgt st) (kf : ¬ y < x → plJ E nL w k n lv (pc + 3) st) : plJ E nL w k n lv pc (.int y :: .int x :: st) := fun H locs ls hl hP hD hS => lv_icmp_gt X.1 X.2.1 d ht (fun hc => kt hc H locs ls hl hP hD hS) (fun hc => kf hc H locs ls hl hP hD hS)
theorem j_icmp_le (X : plX E cc own nL ret fr lo) {x y : Int32} {off : Int} {tgt : Nat} (d : decode cc pc = .ok (.if_icmp .le off, 3)) (ht : (pc : Int) + off = (tgt : Int)) (kt : x ≤ y → plJ E nL w k n lv tgt st) (kf : ¬ x ≤ y → plJ E nL w k n lv (pc + 3) st) : plJ E nL w k n lv pc (.int y :: .int x :: st) := fun H locs ls hl hP hD hS => lv_icmp_le X.1 X.2.1 d ht (fun hc => kt hc H locs ls hl hP hD hS) (fun hc => kf hc H locs ls hl hP hD hS)
/-- a field's link: plain, or a nest mate's -/
def plFL (own : String) (index : Nat) (C nm ds : String) : Prop := Cond.fieldLink own index C nm ds ∈ plWG ∨ ∃ host : String, (own, index, C, nm, ds, host) ∈ plNF
theorem j_get (X : plX E cc own nL ret fr lo) {C : String} {T : u_T} {N ci index q0 kf a : Nat} {fs : List Value} {v : Value} (hin : ∀ x ∈ u_ws C T N, x ∈ plWG) (hc : plCl[ci]? = some (C, T, N)) (hk : kf < N) (hT : (T kf).1 = C) (he : w[q0]? = some (a, .inr (ci, fs))) (hv : fs[kf]? = some v) (hl : plFL own index C (T kf).2.1 (T kf).2.2.1) (d : decode cc pc = .ok (.getfield index, 3))
    (kk : plJ E nL w k n lv (pc + 3) (v :: st)) : plJ E nL w k n lv pc (.ref a :: st) := by
  intro H locs ls hl' hP hD hS
  rcases hl with hl | ⟨host, hl⟩
  · exact va_get X.1 X.2.1 X.2.2.2.2.1 hin X.2.2.2.1 X.2.2.2.2.2.1 hP q0 he hc kf hk (X.2.2.2.2.1 _ hl) (fun x hx => by rw [← hT]; exact hx) hv d (kk H locs ls hl' hP hD hS)
  · exact va_getN X.1 X.2.1 X.2.2.2.2.1 hin X.2.2.2.1 X.2.2.2.2.2.1 hP q0 he hc kf hk ((X.2.2.2.2.2.2.2.2.2.1 _ hl).use rfl) (fun x hx => by rw [← hT]; exact hx) hv d (kk H locs ls hl' hP hD hS)
theorem j_put (X : plX E cc own nL ret fr lo) {C : String} {T : u_T} {N ci index q0 kf a : Nat} {fs : List Value} {v : Value} {w' : va_W} {ty0 : Nat → FieldType} {ty : FieldType} (hin : ∀ x ∈ u_ws C T N, x ∈ plWG) (hc : plCl[ci]? = some (C, T, N)) (hk : kf < N) (hT : (T kf).1 = C) (hty : ∀ k, k < N → parseFieldDescriptor (T k).2.2.1 = some (ty0 k)) (hnm : ∀ a, a < N → ∀ b, b < N → a ≠ b → (T a).2.1 ≠ (T b).2.1) (hfin : (T kf).2.2.2 = false) (hd : parseFieldDescriptor (T kf).2.2.1 = some ty)
    (he : w[q0]? = some (a, .inr (ci, fs))) (hlen : kf < fs.length) (hw : w.set q0 (a, .inr (ci, fs.set kf v)) = w') (hn : narrow ty v = v) (hfit : fits ty v = true) (hl : plFL own index C (T kf).2.1 (T kf).2.2.1) (d : decode cc pc = .ok (.putfield index, 3))
    (kk : plJ E nL w' k n lv (pc + 3) st) : plJ E nL w k n lv pc (v :: .ref a :: st) := by
  subst hw
  intro H locs ls hl' hP hD hS
  rcases hl with hl | ⟨host, hl⟩
  · exact va_put X.1 X.2.1 X.2.2.2.2.1 hin ty0 hty hnm X.2.2.2.1 X.2.2.2.2.2.1 hP hD hS q0 he hc kf hk (X.2.2.2.2.1 _ hl) (fun x hx => by rw [← hT]; exact hx) hfin hd hn hfit hlen d (fun H1 locs1 hP1 hD1 hS1 => kk H1 locs1 ls hl' hP1 hD1 hS1)
  · exact va_putN X.1 X.2.1 X.2.2.2.2.1 hin ty0 hty hnm X.2.2.2.1 X.2.2.2.2.2.1 hP hD hS q0 he hc kf hk ((X.2.2.2.2.2.2.2.2.2.1 _ hl).use rfl) (fun x hx => by rw [← hT]; exact hx) hfin hd hn hfit hlen d (fun H1 locs1 hP1 hD1 hS1 => kk H1 locs1 ls hl' hP1 hD1 hS1)
theorem plB.narrow {v : Int32} (h : plB v) : narrow .boolean (.int v) = .int v := by rcases h with rfl | rfl <;> rfl
theorem plB.fits {v : Int32} (h : plB v) : fits .boolean (.int v) = true := by rcases h with rfl | rfl <;> rfl
theorem plB.nar {v : Int32} (h : plB v) : vp_nar .boolean v = v := by rcases h with rfl | rfl <;> rfl
theorem j_ald (X : plX E cc own nL ret fr lo) {q0 a len : Nat} {f : Nat → Int32} {i : Int32} (ha : w[q0]? = some (a, .inl (plgI (plg E), len, .inl f))) (hin : vp_in i len) (d : decode cc pc = .ok (.iaload, 1))
    (kk : plJ E nL w k n lv (pc + 1) (.int (f (plIx i)) :: st)) : plJ E nL w k n lv pc (.int i :: .ref a :: st) := fun H locs ls hl hP hD hS => va_iald X.1 X.2.1 X.2.2.2.2.2.1 hP q0 0 ha rfl hin d (kk H locs ls hl hP hD hS)
theorem j_zald (X : plX E cc own nL ret fr lo) {q0 a len : Nat} {f : Nat → Int32} {i : Int32} (ha : w[q0]? = some (a, .inl (plgZ (plg E), len, .inl f))) (hin : vp_in i len) (d : decode cc pc = .ok (.baload, 1))
    (kk : plJ E nL w k n lv (pc + 1) (.int (f (plIx i)) :: st)) : plJ E nL w k n lv pc (.int i :: .ref a :: st) := fun H locs ls hl hP hD hS => va_zald X.1 X.2.1 X.2.2.2.2.2.1 hP q0 1 ha rfl hin d (kk H locs ls hl hP hD hS)
theorem j_ast (X : plX E cc own nL ret fr lo) {q0 a len : Nat} {f : Nat → Int32} {i v : Int32} {w' : va_W} (ha : w[q0]? = some (a, .inl (plgI (plg E), len, .inl f))) (hw : w.set q0 (a, .inl (plgI (plg E), len, .inl (upd f (plIx i) v))) = w') (hin : vp_in i len) (d : decode cc pc = .ok (.iastore, 1))
    (kk : plJ E nL w' k n lv (pc + 1) st) : plJ E nL w k n lv pc (.int v :: .int i :: .ref a :: st) := by
  subst hw
  exact fun H locs ls hl hP hD hS => va_iast X.1 X.2.1 X.2.2.2.2.2.1 hP hD hS q0 0 ha rfl hin d (fun H1 locs1 hP1 hD1 hS1 => kk H1 locs1 ls hl hP1 hD1 hS1)
theorem j_zast (X : plX E cc own nL ret fr lo) {q0 a len : Nat} {f : Nat → Int32} {i v : Int32} {w' : va_W} (ha : w[q0]? = some (a, .inl (plgZ (plg E), len, .inl f))) (hw : w.set q0 (a, .inl (plgZ (plg E), len, .inl (upd f (plIx i) v))) = w') (hin : plB v ∧ vp_in i len) (d : decode cc pc = .ok (.bastore, 1))
    (kk : plJ E nL w' k n lv (pc + 1) st) : plJ E nL w k n lv pc (.int v :: .int i :: .ref a :: st) := by
  subst hw
  intro H locs ls hl hP hD hS
  have h := va_zast (x := v) (locs := locs) (ls := ls) (l := plgL (plg E)) (e := eE E) (R := eR E) (below := eB E) (meth := eT E) (args := eA E) (cells := k) (slots := n) (Q := eQ E) (rest := st) (pc := pc) (m := eM E) X.1 X.2.1 X.2.2.2.2.2.1 hP hD hS q0 1 ha rfl hin.2 d
  rw [hin.1.nar] at h
  exact h (fun H1 locs1 hP1 hD1 hS1 => kk H1 locs1 ls hl hP1 hD1 hS1)
theorem j_len (X : plX E cc own nL ret fr lo) {q0 a : Nat} {x : vp_A} {v : Int32} (ha : w[q0]? = some (a, .inl (plgI (plg E), x))) (hv : Int32.ofNat x.1 = v) (d : decode cc pc = .ok (.arraylength, 1))
    (kk : plJ E nL w k n lv (pc + 1) (.int v :: st)) : plJ E nL w k n lv pc (.ref a :: st) := fun H locs ls hl hP hD hS => va_alen X.1 X.2.1 X.2.2.2.2.2.1 hP q0 0 ha rfl hv d (kk H locs ls hl hP hD hS)
theorem j_getROW (X : plX E cc own nL ret fr lo) {index : Nat} (hl : Cond.fieldLink own index "ProtectedLine$Line" "ROW" "[I" ∈ plWG) (d : decode cc pc = .ok (.getstatic index, 3))
    (kk : plJ E nL w k n lv (pc + 3) (.ref (plaROW (plg E)) :: st)) : plJ E nL w k n lv pc st := fun H locs ls hl' hP hD hS => va_gets X.1 X.2.1 X.2.2.2.2.2.2.2.2.2.2.2.1 hS X.2.2.2.1 (X.2.2.2.2.1 _ hl) (fun x hx => hx) d (kk H locs ls hl' hP hD hS)
theorem j_getEMPTY (X : plX E cc own nL ret fr lo) {index : Nat} (hl : Cond.fieldLink own index "ProtectedLine$NodeA" "EMPTY" "[I" ∈ plWG) (d : decode cc pc = .ok (.getstatic index, 3))
    (kk : plJ E nL w k n lv (pc + 3) (.ref (plaEMPTY (plg E)) :: st)) : plJ E nL w k n lv pc st := fun H locs ls hl' hP hD hS => va_gets X.1 X.2.1 X.2.2.2.2.2.2.2.2.2.2.2.2.2.1 hS X.2.2.2.1 (X.2.2.2.2.1 _ hl) (fun x hx => hx) d (kk H locs ls hl' hP hD hS)
theorem j_aldROW (X : plX E cc own nL ret fr lo) {i : Int32} (hin : vp_in i 10) (d : decode cc pc = .ok (.iaload, 1)) (kk : plJ E nL w k n lv (pc + 1) (.int (plROW (plIx i)) :: st)) : plJ E nL w k n lv pc (.int i :: .ref (plaROW (plg E)) :: st) := fun H locs ls hl hP hD hS => va_ti X.1 X.2.1 X.2.2.2.2.2.2.2.2.2.2.2.2.1 hS hin rfl d (kk H locs ls hl hP hD hS)
theorem j_aldEMPTY (X : plX E cc own nL ret fr lo) {i : Int32} (hin : vp_in i 8) (d : decode cc pc = .ok (.iaload, 1)) (kk : plJ E nL w k n lv (pc + 1) (.int (plEMPTY (plIx i)) :: st)) : plJ E nL w k n lv pc (.int i :: .ref (plaEMPTY (plg E)) :: st) := fun H locs ls hl hP hD hS => va_ti X.1 X.2.1 X.2.2.2.2.2.2.2.2.2.2.2.2.2.2 hS hin rfl d (kk H locs ls hl hP hD hS)
theorem j_copy (X : plX E cc own nL ret fr lo) {index q0 q1 a0 a1 n0 n1 : Nat} {f g : Nat → Int32} {sp dp m : Int32} {w' : va_W} (ha0 : w[q0]? = some (a0, .inl (plgI (plg E), n0, .inl f))) (ha1 : w[q1]? = some (a1, .inl (plgI (plg E), n1, .inl g))) (hw : w.set q1 (a1, .inl (plgI (plg E), n1, .inl (va_cpy f g (plIx sp) (plIx dp) (plIx m)))) = w')
    (hl : Cond.methodLink own index arraycopyName ∈ plWG ∧ Cond.native arraycopyName ∈ plWG ∧ Cond.static arraycopyName ∈ plWG ∧ Cond.initialized "java/lang/System" ∈ plWG) (h : plCpOK n0 n1 sp dp m) (hfr : 1 ≤ fr) (hlo : (st.map fun v => v.category).sum + (nativeFrameWords "java/lang/System" "arraycopy" 5 + 11) ≤ lo) (d : decode cc pc = .ok (.invokestatic index, 3))
    (kk : plJ E nL w' k n lv (pc + 3) st) : plJ E nL w k n lv pc (.int m :: .int dp :: .ref a1 :: .int sp :: .ref a0 :: st) := by
  subst hw
  intro H locs ls hl' hP hD hS
  exact va_copyi X.1 X.2.1 (X.2.2.1.trans hl'.1.symm) X.2.2.2.1 (X.2.2.2.2.1 _ hl.1) (X.2.2.2.2.1 _ hl.2.1) (X.2.2.2.2.1 _ hl.2.2.1) (X.2.2.2.2.1 _ hl.2.2.2) X.2.2.2.2.2.1 hP hD hS q0 q1 0 0 ha0 ha1 rfl rfl rfl h.1 h.2.1 h.2.2.1 h.2.2.2.1 h.2.2.2.2 (fun i _ => rfl) (Nat.le_trans hfr X.2.2.2.2.2.2.2.2.1.1) (Nat.le_trans hlo X.2.2.2.2.2.2.2.2.1.2) d (fun H1 locs1 hP1 hD1 hS1 => kk H1 locs1 ls hl' hP1 hD1 hS1)
end
/-! contracts: an int and a state; an int (nothing changes); a state; a reference -/
def plMi (g : plG) (y : MethodName) (b : ByteArray) (mL : Nat) (rt : Option FieldType) (fr lo : Nat) (args : List Value) (wf : plS → va_W) (st : plS) (T : Int32 × plS) : Prop :=
  Met (plgL g) y (.code y b mL rt :: plWG) { frames := fr, cells := 0, slots := 0, locals := lo } (va_Pc args (plIn g (wf st))) (va_Qi (fun (r : Int32) (u : plS) => (r, u) = T) (fun u t => plOut g (wf u) t) (plgA g)) 0 0 (plgA g)
def plMp (g : plG) (y : MethodName) (b : ByteArray) (mL : Nat) (rt : Option FieldType) (fr lo : Nat) (args : List Value) (wf : plS → va_W) (st : plS) (T : Int32) : Prop :=
  Met (plgL g) y (.code y b mL rt :: plWG) { frames := fr, cells := 0, slots := 0, locals := lo } (va_Pc args (plIn g (wf st))) (va_Qi (fun (r : Int32) (u : plS) => r = T ∧ u = st) (fun u t => plOut g (wf u) t) (plgA g)) 0 0 (plgA g)
def plMv (g : plG) (y : MethodName) (b : ByteArray) (mL : Nat) (rt : Option FieldType) (fr lo : Nat) (args : List Value) (wf : plS → va_W) (st : plS) (T : plS) : Prop :=
  Met (plgL g) y (.code y b mL rt :: plWG) { frames := fr, cells := 0, slots := 0, locals := lo } (va_Pc args (plIn g (wf st))) (va_Qv (fun (u : plS) => u = T) (fun u t => plOut g (wf u) t) (plgA g)) 0 0 (plgA g)
def plMr (g : plG) (y : MethodName) (b : ByteArray) (mL : Nat) (rt : Option FieldType) (fr lo : Nat) (args : List Value) (wf : plS → va_W) (st : plS) (ra : Nat) : Prop :=
  Met (plgL g) y (.code y b mL rt :: plWG) { frames := fr, cells := 0, slots := 0, locals := lo } (va_Pc args (plIn g (wf st))) (va_Qr (fun (u : plS) => u = st) (fun u q t => q = ra ∧ plOut g (wf u) t) (plgA g)) 0 0 (plgA g)
def plRi (E : plE) (wf : plS → va_W) (T : Int32 × plS) : Prop := eQ E = MQ (eB E) (va_Qi (fun (r : Int32) (u : plS) => (r, u) = T) (fun u t => plOut (plg E) (wf u) t) (plgA (plg E))) (eA E) (eS E) 0 0 (plgA (plg E))
def plRp (E : plE) (wf : plS → va_W) (st : plS) (T : Int32) : Prop := eQ E = MQ (eB E) (va_Qi (fun (r : Int32) (u : plS) => r = T ∧ u = st) (fun u t => plOut (plg E) (wf u) t) (plgA (plg E))) (eA E) (eS E) 0 0 (plgA (plg E))
def plRv (E : plE) (wf : plS → va_W) (T : plS) : Prop := eQ E = MQ (eB E) (va_Qv (fun (u : plS) => u = T) (fun u t => plOut (plg E) (wf u) t) (plgA (plg E))) (eA E) (eS E) 0 0 (plgA (plg E))
def plRr (E : plE) (wf : plS → va_W) (st : plS) (ra : Nat) : Prop := eQ E = MQ (eB E) (va_Qr (fun (u : plS) => u = st) (fun u q t => q = ra ∧ plOut (plg E) (wf u) t) (plgA (plg E))) (eA E) (eS E) 0 0 (plgA (plg E))
section
variable {E : plE} {cc : ByteArray} {own : String} {nL : Nat} {ret : Option FieldType} {fr lo : Nat} {wf : plS → va_W} {lv : List (Nat × Value)} {pc : Nat} {s0 s1 : plS}
theorem j_reti {T : Int32 × plS} {v : Int32} (X : plX E cc own nL (some .int) fr lo) (hQ : plRi E wf T) (d : decode cc pc = .ok (.ireturn, 1)) (hk : T = (v, s1)) : plJ E nL (wf s1) 0 0 lv pc [.int v] := by
  intro H locs ls hl hP hD hS
  unfold plRi at hQ
  rw [hQ]
  exact W.iret X.1 X.2.1 X.2.2.2.2.2.2.2.1 (fun t ht hW => ⟨⟨v, s1, rfl, hk.symm, by rw [ht]; exact hP, hD⟩, hS.F ht⟩) hS.2.2 d X.2.2.2.2.2.2.1
theorem j_retz {T : Int32 × plS} {v : Int32} (X : plX E cc own nL (some .boolean) fr lo) (hQ : plRi E wf T) (d : decode cc pc = .ok (.ireturn, 1)) (hz : plB v) (hk : T = (v, s1)) : plJ E nL (wf s1) 0 0 lv pc [.int v] := by
  intro H locs ls hl hP hD hS
  unfold plRi at hQ
  rw [hQ]
  exact W.zret X.1 X.2.1 X.2.2.2.2.2.2.2.1 hz.narrow (fun t ht hW => ⟨⟨v, s1, rfl, hk.symm, by rw [ht]; exact hP, hD⟩, hS.F ht⟩) hS.2.2 d X.2.2.2.2.2.2.1
theorem j_retip {T : Int32} {v : Int32} (X : plX E cc own nL (some .int) fr lo) (hQ : plRp E wf s0 T) (d : decode cc pc = .ok (.ireturn, 1)) (hk : T = v) : plJ E nL (wf s0) 0 0 lv pc [.int v] := by
  intro H locs ls hl hP hD hS
  unfold plRp at hQ
  rw [hQ]
  exact W.iret X.1 X.2.1 X.2.2.2.2.2.2.2.1 (fun t ht hW => ⟨⟨v, s0, rfl, ⟨hk.symm, rfl⟩, by rw [ht]; exact hP, hD⟩, hS.F ht⟩) hS.2.2 d X.2.2.2.2.2.2.1
theorem j_retzp {T : Int32} {v : Int32} (X : plX E cc own nL (some .boolean) fr lo) (hQ : plRp E wf s0 T) (d : decode cc pc = .ok (.ireturn, 1)) (hz : plB v) (hk : T = v) : plJ E nL (wf s0) 0 0 lv pc [.int v] := by
  intro H locs ls hl hP hD hS
  unfold plRp at hQ
  rw [hQ]
  exact W.zret X.1 X.2.1 X.2.2.2.2.2.2.2.1 hz.narrow (fun t ht hW => ⟨⟨v, s0, rfl, ⟨hk.symm, rfl⟩, by rw [ht]; exact hP, hD⟩, hS.F ht⟩) hS.2.2 d X.2.2.2.2.2.2.1
theorem j_retv {T : plS} (X : plX E cc own nL none fr lo) (hQ : plRv E wf T) (d : decode cc pc = .ok (.return_, 1)) (hk : T = s1) : plJ E nL (wf s1) 0 0 lv pc [] := by
  intro H locs ls hl hP hD hS
  unfold plRv at hQ
  rw [hQ]
  exact W.vret X.1 X.2.1 X.2.2.2.2.2.2.2.1 (fun t ht hW => ⟨⟨s1, rfl, hk.symm, by rw [ht]; exact hP, hD⟩, hS.F ht⟩) hS.2.2 d X.2.2.2.2.2.2.1
theorem j_reta {ra : Nat} {C : String} (X : plX E cc own nL (some (.object C)) fr lo) (hQ : plRr E wf s0 ra) (d : decode cc pc = .ok (.areturn, 1)) : plJ E nL (wf s0) 0 0 lv pc [.ref ra] := by
  intro H locs ls hl hP hD hS
  unfold plRr at hQ
  rw [hQ]
  exact W.aret X.1 X.2.1 X.2.2.2.2.2.2.2.1 (Or.inl ⟨C, rfl⟩) (Or.inr ⟨ra, rfl⟩) (fun t ht hW => ⟨⟨s0, ra, rfl, rfl, rfl, by rw [ht]; exact hP, hD⟩, hS.F ht⟩) hS.2.2 d X.2.2.2.2.2.2.1
end
/-! calls -/
theorem plGoodIn {y : MethodName} {b : ByteArray} {mL : Nat} {rt : Option FieldType} (hc : Cond.code y b mL rt ∈ plWG) : GoodIn plWG (.code y b mL rt :: plWG) := by
  intro x hx
  rcases List.mem_cons.mp hx with rfl | h
  · exact ⟨hc, plGood _ hc⟩
  · exact ⟨h, plGood _ h⟩
def plMN (y : MethodName) (n : Nat) : Prop := y.cls ≠ "java/lang/invoke/MethodHandle" ∧ y.cls ≠ "java/lang/invoke/VarHandle" ∧ (parseMethodDescriptor y.desc).map (fun d => d.parameters.length) = some n
/-- what a virtual, a static call needs of the words -/
def plCV (own : String) (index : Nat) (y : MethodName) (b : ByteArray) (mL : Nat) (rt : Option FieldType) (n : Nat) : Prop :=
  (Cond.methodLink own index y ∈ plWG ∨ ∃ host : String, (own, index, y, host) ∈ plNM) ∧ Cond.instanceMethod y ∈ plWG ∧ Cond.selects y.cls y y ∈ plWG ∧ Cond.initialized y.cls ∈ plWG ∧ Cond.code y b mL rt ∈ plWG ∧ plMN y n
def plCS (own : String) (index : Nat) (y : MethodName) (b : ByteArray) (mL : Nat) (rt : Option FieldType) (n : Nat) : Prop :=
  (Cond.methodLink own index y ∈ plWG ∨ ∃ host : String, (own, index, y, host) ∈ plNM) ∧ Cond.static y ∈ plWG ∧ Cond.initialized y.cls ∈ plWG ∧ Cond.code y b mL rt ∈ plWG ∧ plMN y n
section
variable {E : plE} {cc : ByteArray} {own : String} {nL : Nat} {ret : Option FieldType} {fr lo : Nat} {lv : List (Nat × Value)} {pc : Nat} {y : MethodName} {b : ByteArray} {mL : Nat} {rt : Option FieldType} {fr' lo' : Nat} {index m : Nat} {As rest stk : List Value} {w : va_W} {k n : Nat}
theorem plRunV (X : plX E cc own nL ret fr lo) {Qc : Array Value → State → Outcome → State → Prop} {ba : Nat} (hM : Met (plgL (plg E)) y (.code y b mL rt :: plWG) { frames := fr', cells := 0, slots := 0, locals := lo' } (va_Pc (.ref ba :: As) (plIn (plg E) w)) Qc 0 0 (plgA (plg E))) (hL : plCV own index y b mL rt m) {q0 ci : Nat} {fs : List Value} (hb : w[q0]? = some (ba, .inr (ci, fs))) {TT : u_T} {N : Nat} (hc : plCl[ci]? = some (y.cls, TT, N)) (hR : fr' + 1 ≤ fr ∧ 8 + (mL + 11) + lo' ≤ lo) (hn : As.length = m) (hst : stk = As.reverse ++ .ref ba :: rest) (hW : (rest.map fun v => v.category).sum ≤ 8) (d : decode cc pc = .ok (.invokevirtual index, 3))
    {H : Heap} {locs : List Loc} {ls : Array Slot} (hl : lv_has ls nL lv) (hP : va_P (plgD (plg E)) plCl w H) (hD : va_D (plgA (plg E)) w) (hS : va_S (plgA (plg E)) (eS E).heap H locs) :
    va_Run (eP E) (plgL (plg E)) (eE E) (eR E) (eS E) (eM E) (eA E) (eB E) (eT E) (eC E) H locs 0 0 0 0 (F0 (eM E) pc ls stk) rest (Qc (Value.ref ba :: As).toArray) (plgA (plg E)) := by
  obtain ⟨hlk, hi, hs, hini, hcd, hmn⟩ := hL
  have hts := X.2.2.2.2.1
  have hpre : PreV (eS E) H y.cls ba (va_Pc (.ref ba :: As) (plIn (plg E) w)) As := ⟨fun a U g mk q => ⟨q.1, q.2.blind⟩, va_recv X.2.2.2.2.2.1 hP hc hb, fun U hU hW => ⟨rfl, by rw [hU]; exact hP, va_K.moved hW.alike X.2.2.2.2.2.1, hD, X.2.2.2.2.2.2.2.2.2.go hW hS hU⟩⟩
  have hRR : fr' + 1 ≤ (eR E).frames ∧ 8 + (mL + 11) + lo' ≤ (eR E).locals := ⟨Nat.le_trans hR.1 X.2.2.2.2.2.2.2.2.1.1, Nat.le_trans hR.2 X.2.2.2.2.2.2.2.2.1.2⟩
  rcases hlk with hlk | ⟨host, hlk⟩
  · refine va_runV (As := As) (rest := rest) (C := y.cls) ⟨X.1, X.2.1, X.2.2.1, X.2.2.2.1, hts⟩ hM (cwV m hts (fun x hx => ?_) rfl rfl rfl ⟨rfl, hmn⟩ hRR) hpre rfl hn hl.1 hst (lv_room hW) d ⟨Nat.zero_le _, Nat.zero_le _⟩
    unfold wsV at hx
    rcases List.mem_append.mp hx with h | h
    · simp only [List.mem_cons, List.not_mem_nil, or_false] at h
      rcases h with rfl | rfl | rfl | rfl
      · exact ⟨hlk, plGood _ hlk⟩
      · exact ⟨hi, plGood _ hi⟩
      · exact ⟨hs, plGood _ hs⟩
      · exact ⟨hini, plGood _ hini⟩
    · exact plGoodIn hcd x h
  · exact va_runVN (As := As) (rest := rest) (C := y.cls) (host := host) ⟨X.1, X.2.1, X.2.2.1, X.2.2.2.1, hts⟩ hM ⟨va_cnB m hts (plGoodIn hcd) rfl rfl rfl (X.2.2.2.2.2.2.2.2.2.2.1 _ hlk) (hts _ hini) hmn hRR, hts _ hi, hts _ hs⟩ hpre rfl hn hl.1 hst (lv_room hW) d ⟨Nat.zero_le _, Nat.zero_le _⟩
theorem plRunS (X : plX E cc own nL ret fr lo) {Qc : Array Value → State → Outcome → State → Prop} (hM : Met (plgL (plg E)) y (.code y b mL rt :: plWG) { frames := fr', cells := 0, slots := 0, locals := lo' } (va_Pc As (plIn (plg E) w)) Qc 0 0 (plgA (plg E))) (hL : plCS own index y b mL rt m) (hR : fr' + 1 ≤ fr ∧ 8 + (mL + 11) + lo' ≤ lo) (hn : As.length = m) (hst : stk = As.reverse ++ rest) (hW : (rest.map fun v => v.category).sum ≤ 8) (d : decode cc pc = .ok (.invokestatic index, 3))
    {H : Heap} {locs : List Loc} {ls : Array Slot} (hl : lv_has ls nL lv) (hP : va_P (plgD (plg E)) plCl w H) (hD : va_D (plgA (plg E)) w) (hS : va_S (plgA (plg E)) (eS E).heap H locs) :
    va_Run (eP E) (plgL (plg E)) (eE E) (eR E) (eS E) (eM E) (eA E) (eB E) (eT E) (eC E) H locs 0 0 0 0 (F0 (eM E) pc ls stk) rest (Qc As.toArray) (plgA (plg E)) := by
  obtain ⟨hlk, hs, hini, hcd, hmn⟩ := hL
  have hts := X.2.2.2.2.1
  have hpre : PreS (eS E) H (va_Pc As (plIn (plg E) w)) As := ⟨fun a U g mk q => ⟨q.1, q.2.blind⟩, fun U hU hW => ⟨rfl, by rw [hU]; exact hP, va_K.moved hW.alike X.2.2.2.2.2.1, hD, X.2.2.2.2.2.2.2.2.2.go hW hS hU⟩⟩
  have hRR : fr' + 1 ≤ (eR E).frames ∧ 8 + (mL + 11) + lo' ≤ (eR E).locals := ⟨Nat.le_trans hR.1 X.2.2.2.2.2.2.2.2.1.1, Nat.le_trans hR.2 X.2.2.2.2.2.2.2.2.1.2⟩
  rcases hlk with hlk | ⟨host, hlk⟩
  · refine va_runS (As := As) (rest := rest) ⟨X.1, X.2.1, X.2.2.1, X.2.2.2.1, hts⟩ hM (va_cwS m hts (fun x hx => ?_) rfl rfl rfl hmn hRR) hpre rfl hn hl.1 hst (lv_room hW) d ⟨Nat.zero_le _, Nat.zero_le _⟩
    unfold va_wsS at hx
    rcases List.mem_append.mp hx with h | h
    · simp only [List.mem_cons, List.not_mem_nil, or_false] at h
      rcases h with rfl | rfl | rfl
      · exact ⟨hlk, plGood _ hlk⟩
      · exact ⟨hs, plGood _ hs⟩
      · exact ⟨hini, plGood _ hini⟩
    · exact plGoodIn hcd x h
  · exact va_runSN (As := As) (rest := rest) (host := host) ⟨X.1, X.2.1, X.2.2.1, X.2.2.2.1, hts⟩ hM ⟨va_cnB m hts (plGoodIn hcd) rfl rfl rfl (X.2.2.2.2.2.2.2.2.2.2.1 _ hlk) (hts _ hini) hmn hRR, hts _ hs, trivial⟩ hpre rfl hn hl.1 hst (lv_room hW) d ⟨Nat.zero_le _, Nat.zero_le _⟩
variable {wf : plS → va_W} {s0 : plS}
theorem j_callVi {T : Int32 × plS} (X : plX E cc own nL ret fr lo) {ba : Nat} (hM : plMi (plg E) y b mL rt fr' lo' (.ref ba :: As) wf s0 T) (hL : plCV own index y b mL rt m) (q0 : Nat) {ci : Nat} {fs : List Value} (hb : (wf s0)[q0]? = some (ba, .inr (ci, fs))) {TT : u_T} {N : Nat} (hc : plCl[ci]? = some (y.cls, TT, N)) (hR : fr' + 1 ≤ fr ∧ 8 + (mL + 11) + lo' ≤ lo) (hn : As.length = m) (hst : stk = As.reverse ++ .ref ba :: rest) (hW : (rest.map fun v => v.category).sum ≤ 8) (d : decode cc pc = .ok (.invokevirtual index, 3))
    (kk : plJ E nL (wf T.2) 0 0 lv (pc + 3) (.int T.1 :: rest)) : plJ E nL (wf s0) 0 0 lv pc stk := by
  intro H locs ls hl hP hD hS
  refine va_calli (plRunV X hM hL hb hc hR hn hst hW d hl hP hD hS) hS (fun q _ h => h) (fun q h => h) (fun r u t H1 locs1 ht hvm hp hB hz hk hS1 => ?_)
  cases hp
  subst ht
  exact kk t.heap locs1 ls hl hB.1 hB.2 hS1
theorem j_callVp {T : Int32} (X : plX E cc own nL ret fr lo) {ba : Nat} (hM : plMp (plg E) y b mL rt fr' lo' (.ref ba :: As) wf s0 T) (hL : plCV own index y b mL rt m) (q0 : Nat) {ci : Nat} {fs : List Value} (hb : (wf s0)[q0]? = some (ba, .inr (ci, fs))) {TT : u_T} {N : Nat} (hc : plCl[ci]? = some (y.cls, TT, N)) (hR : fr' + 1 ≤ fr ∧ 8 + (mL + 11) + lo' ≤ lo) (hn : As.length = m) (hst : stk = As.reverse ++ .ref ba :: rest) (hW : (rest.map fun v => v.category).sum ≤ 8) (d : decode cc pc = .ok (.invokevirtual index, 3))
    (kk : plJ E nL (wf s0) 0 0 lv (pc + 3) (.int T :: rest)) : plJ E nL (wf s0) 0 0 lv pc stk := by
  intro H locs ls hl hP hD hS
  refine va_calli (plRunV X hM hL hb hc hR hn hst hW d hl hP hD hS) hS (fun q _ h => h) (fun q h => h) (fun r u t H1 locs1 ht hvm hp hB hz hk hS1 => ?_)
  obtain ⟨rfl, rfl⟩ := hp
  subst ht
  exact kk t.heap locs1 ls hl hB.1 hB.2 hS1
theorem j_callVv {T : plS} (X : plX E cc own nL ret fr lo) {ba : Nat} (hM : plMv (plg E) y b mL rt fr' lo' (.ref ba :: As) wf s0 T) (hL : plCV own index y b mL rt m) (q0 : Nat) {ci : Nat} {fs : List Value} (hb : (wf s0)[q0]? = some (ba, .inr (ci, fs))) {TT : u_T} {N : Nat} (hc : plCl[ci]? = some (y.cls, TT, N)) (hR : fr' + 1 ≤ fr ∧ 8 + (mL + 11) + lo' ≤ lo) (hn : As.length = m) (hst : stk = As.reverse ++ .ref ba :: rest) (hW : (rest.map fun v => v.category).sum ≤ 8) (d : decode cc pc = .ok (.invokevirtual index, 3))
    (kk : plJ E nL (wf T) 0 0 lv (pc + 3) rest) : plJ E nL (wf s0) 0 0 lv pc stk := by
  intro H locs ls hl hP hD hS
  refine va_callv (plRunV X hM hL hb hc hR hn hst hW d hl hP hD hS) hS (fun q _ h => h) (fun q h => h) (fun u t H1 locs1 ht hvm hp hB hz hk hS1 => ?_)
  subst hp
  subst ht
  exact kk t.heap locs1 ls hl hB.1 hB.2 hS1
theorem j_callVr {ra : Nat} (X : plX E cc own nL ret fr lo) {ba : Nat} (hM : plMr (plg E) y b mL rt fr' lo' (.ref ba :: As) wf s0 ra) (hL : plCV own index y b mL rt m) (q0 : Nat) {ci : Nat} {fs : List Value} (hb : (wf s0)[q0]? = some (ba, .inr (ci, fs))) {TT : u_T} {N : Nat} (hc : plCl[ci]? = some (y.cls, TT, N)) (hR : fr' + 1 ≤ fr ∧ 8 + (mL + 11) + lo' ≤ lo) (hn : As.length = m) (hst : stk = As.reverse ++ .ref ba :: rest) (hW : (rest.map fun v => v.category).sum ≤ 8) (d : decode cc pc = .ok (.invokevirtual index, 3))
    (kk : plJ E nL (wf s0) 0 0 lv (pc + 3) (.ref ra :: rest)) : plJ E nL (wf s0) 0 0 lv pc stk := by
  intro H locs ls hl hP hD hS
  refine va_callr (plRunV X hM hL hb hc hR hn hst hW d hl hP hD hS) hS (fun q _ h => h) (fun q h => h) (fun u q t H1 locs1 ht hvm hp hB hz hk hS1 => ?_)
  subst hp
  obtain ⟨rfl, hB⟩ := hB
  subst ht
  exact kk t.heap locs1 ls hl hB.1 hB.2 hS1
theorem j_callSi {T : Int32 × plS} (X : plX E cc own nL ret fr lo) (hM : plMi (plg E) y b mL rt fr' lo' As wf s0 T) (hL : plCS own index y b mL rt m) (hR : fr' + 1 ≤ fr ∧ 8 + (mL + 11) + lo' ≤ lo) (hn : As.length = m) (hst : stk = As.reverse ++ rest) (hW : (rest.map fun v => v.category).sum ≤ 8) (d : decode cc pc = .ok (.invokestatic index, 3))
    (kk : plJ E nL (wf T.2) 0 0 lv (pc + 3) (.int T.1 :: rest)) : plJ E nL (wf s0) 0 0 lv pc stk := by
  intro H locs ls hl hP hD hS
  refine va_calli (plRunS X hM hL hR hn hst hW d hl hP hD hS) hS (fun q _ h => h) (fun q h => h) (fun r u t H1 locs1 ht hvm hp hB hz hk hS1 => ?_)
  cases hp
  subst ht
  exact kk t.heap locs1 ls hl hB.1 hB.2 hS1
theorem j_callSp {T : Int32} (X : plX E cc own nL ret fr lo) (hM : plMp (plg E) y b mL rt fr' lo' As wf s0 T) (hL : plCS own index y b mL rt m) (hR : fr' + 1 ≤ fr ∧ 8 + (mL + 11) + lo' ≤ lo) (hn : As.length = m) (hst : stk = As.reverse ++ rest) (hW : (rest.map fun v => v.category).sum ≤ 8) (d : decode cc pc = .ok (.invokestatic index, 3))
    (kk : plJ E nL (wf s0) 0 0 lv (pc + 3) (.int T :: rest)) : plJ E nL (wf s0) 0 0 lv pc stk := by
  intro H locs ls hl hP hD hS
  refine va_calli (plRunS X hM hL hR hn hst hW d hl hP hD hS) hS (fun q _ h => h) (fun q h => h) (fun r u t H1 locs1 ht hvm hp hB hz hk hS1 => ?_)
  obtain ⟨rfl, rfl⟩ := hp
  subst ht
  exact kk t.heap locs1 ls hl hB.1 hB.2 hS1
theorem j_callSv {T : plS} (X : plX E cc own nL ret fr lo) (hM : plMv (plg E) y b mL rt fr' lo' As wf s0 T) (hL : plCS own index y b mL rt m) (hR : fr' + 1 ≤ fr ∧ 8 + (mL + 11) + lo' ≤ lo) (hn : As.length = m) (hst : stk = As.reverse ++ rest) (hW : (rest.map fun v => v.category).sum ≤ 8) (d : decode cc pc = .ok (.invokestatic index, 3))
    (kk : plJ E nL (wf T) 0 0 lv (pc + 3) rest) : plJ E nL (wf s0) 0 0 lv pc stk := by
  intro H locs ls hl hP hD hS
  refine va_callv (plRunS X hM hL hR hn hst hW d hl hP hD hS) hS (fun q _ h => h) (fun q h => h) (fun u t H1 locs1 ht hvm hp hB hz hk hS1 => ?_)
  subst hp
  subst ht
  exact kk t.heap locs1 ls hl hB.1 hB.2 hS1
theorem j_callSr {ra : Nat} (X : plX E cc own nL ret fr lo) (hM : plMr (plg E) y b mL rt fr' lo' As wf s0 ra) (hL : plCS own index y b mL rt m) (hR : fr' + 1 ≤ fr ∧ 8 + (mL + 11) + lo' ≤ lo) (hn : As.length = m) (hst : stk = As.reverse ++ rest) (hW : (rest.map fun v => v.category).sum ≤ 8) (d : decode cc pc = .ok (.invokestatic index, 3))
    (kk : plJ E nL (wf s0) 0 0 lv (pc + 3) (.ref ra :: rest)) : plJ E nL (wf s0) 0 0 lv pc stk := by
  intro H locs ls hl hP hD hS
  refine va_callr (plRunS X hM hL hR hn hst hW d hl hP hD hS) hS (fun q _ h => h) (fun q h => h) (fun u q t H1 locs1 ht hvm hp hB hz hk hS1 => ?_)
  subst hp
  obtain ⟨rfl, hB⟩ := hB
  subst ht
  exact kk t.heap locs1 ls hl hB.1 hB.2 hS1
end
theorem plMi.of {g : plG} {y : MethodName} {b : ByteArray} {mL : Nat} {rt : Option FieldType} {fr lo : Nat} {args : List Value} {wf : plS → va_W} {s0 : plS} {T : Int32 × plS} {own : String} {lv : List (Nat × Value)} (hy : plainName y.cls = true) (ho : y.cls = own) (hn : (lg_sl args).length ≤ mL) (hlv : lv_args 0 args = lv)
    (body : ∀ E : plE, plg E = g → plX E b own mL rt fr lo → plRi E wf T → plJ E mL (wf s0) 0 0 lv 0 []) : plMi g y b mL rt fr lo args wf s0 T := by
  unfold plMi
  refine Met.ofW (cc := b) (maxL := mL) (ret := rt) hy rfl ?_
  intro p e s m args' below meth c s₁ B hml hv
  obtain ⟨rfl, hP, hK, hD, hX⟩ := hv
  have hts := atoms_spec (ws := .code y b mL rt :: plWG) B.pre
  have hown := findClass_of_methodNamed B.named
  have hl := lv_entry args (n := mL) hn
  rw [lg_entry_eq]
  generalize (lg_sl args ++ List.replicate (mL - (lg_sl args).length) Slot.unset).toArray = ls at hl ⊢
  rw [hlv] at hl
  subst ho
  exact body (g, p, e, (headSpec (.code y b mL rt :: plWG) { frames := fr, cells := 0, slots := 0, locals := lo }).room, s, m, args.toArray, below, meth, c, MQ below (va_Qi (fun (r : Int32) (u : plS) => (r, u) = T) (fun u t => plOut g (wf u) t) (plgA g)) args.toArray s 0 0 (plgA g)) rfl ⟨B.exec, B.bytes, hml, hown, fun x h => hts x (List.mem_cons_of_mem _ h), hK, B.notSynchronized, B.returns, ⟨Nat.le_refl _, Nat.le_refl _⟩, hX⟩ rfl s.heap [] ls hl hP hD va_S.rf
theorem plMp.of {g : plG} {y : MethodName} {b : ByteArray} {mL : Nat} {rt : Option FieldType} {fr lo : Nat} {args : List Value} {wf : plS → va_W} {s0 : plS} {T : Int32} {own : String} {lv : List (Nat × Value)} (hy : plainName y.cls = true) (ho : y.cls = own) (hn : (lg_sl args).length ≤ mL) (hlv : lv_args 0 args = lv)
    (body : ∀ E : plE, plg E = g → plX E b own mL rt fr lo → plRp E wf s0 T → plJ E mL (wf s0) 0 0 lv 0 []) : plMp g y b mL rt fr lo args wf s0 T := by
  unfold plMp
  refine Met.ofW (cc := b) (maxL := mL) (ret := rt) hy rfl ?_
  intro p e s m args' below meth c s₁ B hml hv
  obtain ⟨rfl, hP, hK, hD, hX⟩ := hv
  have hts := atoms_spec (ws := .code y b mL rt :: plWG) B.pre
  have hown := findClass_of_methodNamed B.named
  have hl := lv_entry args (n := mL) hn
  rw [lg_entry_eq]
  generalize (lg_sl args ++ List.replicate (mL - (lg_sl args).length) Slot.unset).toArray = ls at hl ⊢
  rw [hlv] at hl
  subst ho
  exact body (g, p, e, (headSpec (.code y b mL rt :: plWG) { frames := fr, cells := 0, slots := 0, locals := lo }).room, s, m, args.toArray, below, meth, c, MQ below (va_Qi (fun (r : Int32) (u : plS) => r = T ∧ u = s0) (fun u t => plOut g (wf u) t) (plgA g)) args.toArray s 0 0 (plgA g)) rfl ⟨B.exec, B.bytes, hml, hown, fun x h => hts x (List.mem_cons_of_mem _ h), hK, B.notSynchronized, B.returns, ⟨Nat.le_refl _, Nat.le_refl _⟩, hX⟩ rfl s.heap [] ls hl hP hD va_S.rf
theorem plMv.of {g : plG} {y : MethodName} {b : ByteArray} {mL : Nat} {rt : Option FieldType} {fr lo : Nat} {args : List Value} {wf : plS → va_W} {s0 : plS} {T : plS} {own : String} {lv : List (Nat × Value)} (hy : plainName y.cls = true) (ho : y.cls = own) (hn : (lg_sl args).length ≤ mL) (hlv : lv_args 0 args = lv)
    (body : ∀ E : plE, plg E = g → plX E b own mL rt fr lo → plRv E wf T → plJ E mL (wf s0) 0 0 lv 0 []) : plMv g y b mL rt fr lo args wf s0 T := by
  unfold plMv
  refine Met.ofW (cc := b) (maxL := mL) (ret := rt) hy rfl ?_
  intro p e s m args' below meth c s₁ B hml hv
  obtain ⟨rfl, hP, hK, hD, hX⟩ := hv
  have hts := atoms_spec (ws := .code y b mL rt :: plWG) B.pre
  have hown := findClass_of_methodNamed B.named
  have hl := lv_entry args (n := mL) hn
  rw [lg_entry_eq]
  generalize (lg_sl args ++ List.replicate (mL - (lg_sl args).length) Slot.unset).toArray = ls at hl ⊢
  rw [hlv] at hl
  subst ho
  exact body (g, p, e, (headSpec (.code y b mL rt :: plWG) { frames := fr, cells := 0, slots := 0, locals := lo }).room, s, m, args.toArray, below, meth, c, MQ below (va_Qv (fun (u : plS) => u = T) (fun u t => plOut g (wf u) t) (plgA g)) args.toArray s 0 0 (plgA g)) rfl ⟨B.exec, B.bytes, hml, hown, fun x h => hts x (List.mem_cons_of_mem _ h), hK, B.notSynchronized, B.returns, ⟨Nat.le_refl _, Nat.le_refl _⟩, hX⟩ rfl s.heap [] ls hl hP hD va_S.rf
theorem plMr.of {g : plG} {y : MethodName} {b : ByteArray} {mL : Nat} {rt : Option FieldType} {fr lo : Nat} {args : List Value} {wf : plS → va_W} {s0 : plS} {ra : Nat} {own : String} {lv : List (Nat × Value)} (hy : plainName y.cls = true) (ho : y.cls = own) (hn : (lg_sl args).length ≤ mL) (hlv : lv_args 0 args = lv)
    (body : ∀ E : plE, plg E = g → plX E b own mL rt fr lo → plRr E wf s0 ra → plJ E mL (wf s0) 0 0 lv 0 []) : plMr g y b mL rt fr lo args wf s0 ra := by
  unfold plMr
  refine Met.ofW (cc := b) (maxL := mL) (ret := rt) hy rfl ?_
  intro p e s m args' below meth c s₁ B hml hv
  obtain ⟨rfl, hP, hK, hD, hX⟩ := hv
  have hts := atoms_spec (ws := .code y b mL rt :: plWG) B.pre
  have hown := findClass_of_methodNamed B.named
  have hl := lv_entry args (n := mL) hn
  rw [lg_entry_eq]
  generalize (lg_sl args ++ List.replicate (mL - (lg_sl args).length) Slot.unset).toArray = ls at hl ⊢
  rw [hlv] at hl
  subst ho
  exact body (g, p, e, (headSpec (.code y b mL rt :: plWG) { frames := fr, cells := 0, slots := 0, locals := lo }).room, s, m, args.toArray, below, meth, c, MQ below (va_Qr (fun (u : plS) => u = s0) (fun u q t => q = ra ∧ plOut g (wf u) t) (plgA g)) args.toArray s 0 0 (plgA g)) rfl ⟨B.exec, B.bytes, hml, hown, fun x h => hts x (List.mem_cons_of_mem _ h), hK, B.notSynchronized, B.returns, ⟨Nat.le_refl _, Nat.le_refl _⟩, hX⟩ rfl s.heap [] ls hl hP hD va_S.rf
end
section
/-! constructors: worlds that grow -/
section
variable {E : plE} {cc : ByteArray} {own : String} {nL : Nat} {ret : Option FieldType} {fr lo : Nat} {w w' : va_W} {k n : Nat} {lv : List (Nat × Value)} {pc : Nat} {st : List Value}
theorem j_objInit (X : plX E cc own nL ret fr lo) {i a : Nat} (hl : Cond.methodLink own i objectInit ∈ plWG ∧ Cond.instanceMethod objectInit ∈ plWG ∧ Cond.code objectInit ⟨#[0xb1]⟩ 1 none ∈ plWG) (hfr : 1 ≤ fr) (hlo : (st.map fun v => v.category).sum + 12 ≤ lo) (d : decode cc pc = .ok (.invokespecial i, 3)) (kk : plJ E nL w k n lv (pc + 3) st) : plJ E nL w k n lv pc (.ref a :: st) := by
  intro H locs ls hl' hP hD hS
  have hz : 2 * (F0 (eM E) pc ls (.ref a :: st)).monitorRoom + (st.map fun v => v.category).sum + 12 ≤ (eR E).locals := by
    have h0 : (F0 (eM E) pc ls (.ref a :: st)).monitorRoom = 0 := rfl
    rw [h0]
    have := X.2.2.2.2.2.2.2.2.1.2
    omega
  refine W.objInit X.1 X.2.1 X.2.2.2.1 (X.2.2.2.2.1 _ hl.1) (X.2.2.2.2.1 _ hl.2.1) (X.2.2.2.2.1 _ hl.2.2) rfl (by rw [X.2.2.1]; exact hl'.1) rfl d (Nat.le_trans hfr X.2.2.2.2.2.2.2.2.1.1) hz ?_
  exact W.eq (g2 := F0 (eM E) (pc + 3) ls st) rfl (kk H locs ls hl' hP hD hS)
/-- new cells may be written -/
def plNew (E : plE) : Prop := ∀ q, (eS E).heap.size ≤ q → plgA (plg E) q
theorem j_new (X : plX E cc own nL ret fr lo) (hA : plNew E) {C : String} {T : u_T} {N ci index : Nat} {fs : List Value} {w2 : Nat → va_W} {ty : Nat → FieldType} (hin : ∀ x ∈ u_ws C T N, x ∈ plWG) (hc : plCl[ci]? = some (C, T, N)) (hty : ∀ k, k < N → parseFieldDescriptor (T k).2.2.1 = some (ty k)) (hfs : ∀ j, j < N → defaultValue (ty j) = vp_V fs j) (hl : Cond.classLink own index C ∈ plWG ∧ Cond.instantiable C N ∈ plWG ∧ Cond.initialized C ∈ plWG) (hcs : k + 1 ≤ (eR E).cells ∧ n + N ≤ (eR E).slots) (hw : ∀ q, w ++ [(q, .inr (ci, fs))] = w2 q) (d : decode cc pc = .ok (.new index, 3))
    (kk : ∀ q : Nat, plJ E nL (w2 q) (k + 1) (n + N) lv (pc + 3) (.ref q :: st)) : plJ E nL w k n lv pc st := by
  intro H locs ls hl' hP hD hS
  refine va_new X.1 X.2.1 X.2.2.2.2.1 hin ty hty X.2.2.2.1 (X.2.2.2.2.1 _ hl.1) (X.2.2.2.2.1 _ hl.2.1) (X.2.2.2.2.1 _ hl.2.2) X.2.2.2.2.2.1 hP hD hS hA hc hfs hcs.1 hcs.2 d (fun q H1 hP1 hD1 hS1 => ?_)
  rw [hw q] at hP1 hD1
  exact kk q H1 locs ls hl' hP1 hD1 hS1
theorem plK_inj {D : va_G} {cl : List vw_C} {tys : List (ClassId × FieldType)} {s : State} {c1 c2 : ClassId} {ty : FieldType} (hne : ∀ C, ty ≠ .object C) (h : va_K D cl tys s) {i j : Nat} (hi : tys[i]? = some (c1, ty)) (hj : tys[j]? = some (c2, ty)) : c1 = c2 := by
  have h1 := (h.2 i _ hi).2
  have h2 := (h.2 j _ hj).2
  cases ty with
  | object C => exact absurd rfl (hne C)
  | _ => exact Option.some.inj (h1.symm.trans h2)
theorem j_newI (X : plX E cc own nL ret fr lo) (hA : plNew E) (harr : Cond.arrayClass .int ∈ plWG) {m : Int32} {N : Nat} {w2 : Nat → va_W} (hn : ¬ m < 0) (hN : m.toNatClampNeg = N) (hb : N * 4 ≤ 536870912) (hcs : k + 1 ≤ (eR E).cells ∧ n + N ≤ (eR E).slots) (hw : ∀ q, w ++ [(q, .inl (plgI (plg E), N, .inl (fun _ => 0)))] = w2 q) (d : decode cc pc = .ok (.newarray .int, 2))
    (kk : ∀ q : Nat, plJ E nL (w2 q) (k + 1) (n + N) lv (pc + 2) (.ref q :: st)) : plJ E nL w k n lv pc (.int m :: st) := by
  intro H locs ls hl' hP hD hS
  refine va_newa (atype := .int) (ty := .int) (a0 := (N, .inl (fun _ => 0))) X.1 X.2.1 (X.2.2.2.2.1 _ harr) rfl X.2.2.2.2.2.1 hP hD hS hA (fun cA => rfl) hn hN hb hcs.1 hcs.2 d (fun q cA H1 hK1 hP1 hD1 hS1 => ?_)
  have e : cA = plgI (plg E) := plK_inj (ty := .int) (fun C h => by cases h) hK1 (i := 2) (j := 0) rfl rfl
  subst e
  rw [hw q] at hP1 hD1
  exact kk q H1 locs ls hl' hP1 hD1 hS1
theorem j_newZ (X : plX E cc own nL ret fr lo) (hA : plNew E) (harr : Cond.arrayClass .boolean ∈ plWG) {m : Int32} {N : Nat} {w2 : Nat → va_W} (hn : ¬ m < 0) (hN : m.toNatClampNeg = N) (hb : N * 1 ≤ 536870912) (hcs : k + 1 ≤ (eR E).cells ∧ n + N ≤ (eR E).slots) (hw : ∀ q, w ++ [(q, .inl (plgZ (plg E), N, .inl (fun _ => 0)))] = w2 q) (d : decode cc pc = .ok (.newarray .boolean, 2))
    (kk : ∀ q : Nat, plJ E nL (w2 q) (k + 1) (n + N) lv (pc + 2) (.ref q :: st)) : plJ E nL w k n lv pc (.int m :: st) := by
  intro H locs ls hl' hP hD hS
  refine va_newa (atype := .boolean) (ty := .boolean) (a0 := (N, .inl (fun _ => 0))) X.1 X.2.1 (X.2.2.2.2.1 _ harr) rfl X.2.2.2.2.2.1 hP hD hS hA (fun cA => rfl) hn hN hb hcs.1 hcs.2 d (fun q cA H1 hK1 hP1 hD1 hS1 => ?_)
  have e : cA = plgZ (plg E) := plK_inj (ty := .boolean) (fun C h => by cases h) hK1 (i := 2) (j := 1) rfl rfl
  subst e
  rw [hw q] at hP1 hD1
  exact kk q H1 locs ls hl' hP1 hD1 hS1
theorem j_putF (X : plX E cc own nL ret fr lo) (hin2 : (eT E).name = "<init>") {C : String} {T : u_T} {N ci index q0 kf a : Nat} {fs : List Value} {v : Value} {w2 : va_W} {ty0 : Nat → FieldType} {ty : FieldType} (hin : ∀ x ∈ u_ws C T N, x ∈ plWG) (hc : plCl[ci]? = some (C, T, N)) (hk : kf < N) (hT : (T kf).1 = own) (hty : ∀ k, k < N → parseFieldDescriptor (T k).2.2.1 = some (ty0 k)) (hnm : ∀ a, a < N → ∀ b, b < N → a ≠ b → (T a).2.1 ≠ (T b).2.1) (hfin : (T kf).2.2.2 = true) (hd : parseFieldDescriptor (T kf).2.2.1 = some ty)
    (he : w[q0]? = some (a, .inr (ci, fs))) (hlen : kf < fs.length) (hw : w.set q0 (a, .inr (ci, fs.set kf v)) = w2) (hn : narrow ty v = v) (hfit : fits ty v = true) (hl : Cond.fieldLink own index own (T kf).2.1 (T kf).2.2.1 ∈ plWG) (d : decode cc pc = .ok (.putfield index, 3))
    (kk : plJ E nL w2 k n lv (pc + 3) st) : plJ E nL w k n lv pc (v :: .ref a :: st) := by
  subst hw
  intro H locs ls hl' hP hD hS
  exact va_putF X.1 X.2.1 X.2.2.2.2.1 hin ty0 hty hnm X.2.2.2.1 X.2.2.2.2.2.1 hP hD hS q0 he hc kf hk (X.2.2.2.2.1 _ hl) (fun x hx => by rw [← hT]; exact hx) hfin hin2 hT hd hn hfit hlen d (fun H1 locs1 hP1 hD1 hS1 => kk H1 locs1 ls hl' hP1 hD1 hS1)
end
/-- a constructor's contract: on a cell e0 at h0, it makes mc cells of ms slots; u: the new cells' addresses; 'post u': the world behind it -/
def plMc (g : plG) (y : MethodName) (b : ByteArray) (mL : Nat) (fr lo mc ms : Nat) (args : List Value) (h0 : Nat) (e0 : va_E) (cnt : Nat) (post : List Nat → va_W) : Prop :=
  ∀ sz : Nat, Met (plgL g) y (.code y b mL none :: plWG) { frames := fr, cells := mc, slots := ms, locals := lo } (va_Pc args (fun U => U.heap.size = sz ∧ plIn (g.1, g.2.1, va_A [(h0, e0)] sz, g.2.2.2) [(h0, e0)] U)) (va_Qv (fun (u : List Nat) => u.length = cnt) (fun u t => plOut (g.1, g.2.1, va_A [(h0, e0)] sz, g.2.2.2) (post u) t) (va_A [(h0, e0)] sz)) mc ms (va_A [(h0, e0)] sz)
def plRc (E : plE) (mc ms cnt : Nat) (post : List Nat → va_W) : Prop := eQ E = MQ (eB E) (va_Qv (fun (u : List Nat) => u.length = cnt) (fun u t => plOut (plg E) (post u) t) (plgA (plg E))) (eA E) (eS E) mc ms (plgA (plg E))
theorem plMc.of {g : plG} {y : MethodName} {b : ByteArray} {mL : Nat} {fr lo mc ms : Nat} {args : List Value} {h0 : Nat} {e0 : va_E} {cnt : Nat} {post : List Nat → va_W} {own : String} {lv : List (Nat × Value)} (hy : plainName y.cls = true) (hyn : y.name = "<init>") (ho : y.cls = own) (hn : (lg_sl args).length ≤ mL) (hlv : lv_args 0 args = lv)
    (body : ∀ E : plE, plgL (plg E) = plgL g → plgD (plg E) = plgD g → plgI (plg E) = plgI g → plgZ (plg E) = plgZ g → plX E b own mL none fr lo → plNew E → (eT E).name = "<init>" → (mc ≤ (eR E).cells ∧ ms ≤ (eR E).slots) → plRc E mc ms cnt post → plJ E mL [(h0, e0)] 0 0 lv 0 []) : plMc g y b mL fr lo mc ms args h0 e0 cnt post := by
  intro sz
  refine Met.ofW (cc := b) (maxL := mL) (ret := none) hy rfl ?_
  intro p e s m args' below meth c s₁ B hml hv
  obtain ⟨rfl, hsz, hP, hK, hD, hX⟩ := hv
  have hts := atoms_spec (ws := .code y b mL none :: plWG) B.pre
  have hown := findClass_of_methodNamed B.named
  have hnm : meth.name = y.name := (name_of_methodNamed B.named B.method).1
  have hl := lv_entry args (n := mL) hn
  rw [lg_entry_eq]
  generalize (lg_sl args ++ List.replicate (mL - (lg_sl args).length) Slot.unset).toArray = ls at hl ⊢
  rw [hlv] at hl
  subst ho
  exact body ((g.1, g.2.1, va_A [(h0, e0)] sz, g.2.2.2), p, e, (headSpec (.code y b mL none :: plWG) { frames := fr, cells := mc, slots := ms, locals := lo }).room, s, m, args.toArray, below, meth, c, MQ below (va_Qv (fun (u : List Nat) => u.length = cnt) (fun u t => plOut (g.1, g.2.1, va_A [(h0, e0)] sz, g.2.2.2) (post u) t) (va_A [(h0, e0)] sz)) args.toArray s mc ms (va_A [(h0, e0)] sz)) rfl rfl rfl rfl ⟨B.exec, B.bytes, hml, hown, fun x h => hts x (List.mem_cons_of_mem _ h), hK, B.notSynchronized, B.returns, ⟨Nat.le_refl _, Nat.le_refl _⟩, hX⟩ (fun q h => Or.inr (by rw [← hsz]; exact h)) (hnm.trans hyn) ⟨Nat.le_refl _, Nat.le_refl _⟩ rfl s.heap [] ls hl hP hD va_S.rf
/-- what a constructor's call needs of the words -/
def plCI (own : String) (index : Nat) (y : MethodName) (b : ByteArray) (mL : Nat) (n : Nat) : Prop :=
  (Cond.methodLink own index y ∈ plWG ∨ ∃ host : String, (own, index, y, host) ∈ plNM) ∧ Cond.instanceMethod y ∈ plWG ∧ Cond.initialized y.cls ∈ plWG ∧ Cond.code y b mL none ∈ plWG ∧ y.name = "<init>" ∧ plMN y n
section
variable {E : plE} {cc : ByteArray} {own : String} {nL : Nat} {ret : Option FieldType} {fr lo : Nat} {w : va_W} {k n : Nat} {lv : List (Nat × Value)} {pc : Nat}
theorem j_retc (X : plX E cc own nL none fr lo) {cnt : Nat} {post : List Nat → va_W} (hQ : plRc E k n cnt post) (u : List Nat) (hu : u.length = cnt) (hw : w = post u) (d : decode cc pc = .ok (.return_, 1)) : plJ E nL w k n lv pc [] := by
  intro H locs ls hl hP hD hS
  unfold plRc at hQ
  rw [hQ]
  subst hw
  exact W.vret X.1 X.2.1 X.2.2.2.2.2.2.2.1 (fun t ht hW => ⟨⟨u, rfl, hu, by rw [ht]; exact hP, hD⟩, hS.F ht⟩) hS.2.2 d X.2.2.2.2.2.2.1
theorem plExt.narrow {g : plG} {B : Nat → Prop} {U : State} {H : Heap} (h : plExt g U H) (hB : ∀ q, B q → plgA g q) : plExt (g.1, g.2.1, B, g.2.2.2) U H := by
  obtain ⟨h1, h2, h3, h4, h5, h6⟩ := h
  exact ⟨h1, h2, h3.narrow hB, h4.narrow hB, h5.narrow hB, h6.narrow hB⟩
theorem j_callI (X : plX E cc own nL ret fr lo) (hA : plNew E) {y : MethodName} {b : ByteArray} {mL fr' lo' mc ms m index cnt h0 : Nat} {e0 : va_E} {post : List Nat → va_W} {As rest stk : List Value} (p0 : Nat) (isR : List Nat) {wr : va_W} {w2 : List Nat → va_W}
    (hM : plMc (plg E) y b mL fr' lo' mc ms (.ref h0 :: As) h0 e0 cnt post) (hL : plCI own index y b mL m) (hR : fr' + 1 ≤ fr ∧ 8 + (mL + 11) + lo' ≤ lo) (hcs : k + mc ≤ (eR E).cells ∧ n + ms ≤ (eR E).slots)
    (hC : [w[p0]?] = [some (h0, e0)]) (hRs : isR.map (fun i => w[i]?) = wr.map some) (hnd : va_nd isR = true) (hdis : ∀ i ∈ isR, i ∉ [p0]) (hw : ∀ u, wr ++ post u = w2 u) (hn : As.length = m) (hst : stk = As.reverse ++ .ref h0 :: rest) (hW : (rest.map fun v => v.category).sum ≤ 8) (d : decode cc pc = .ok (.invokespecial index, 3))
    (kk : ∀ u : List Nat, u.length = cnt → plJ E nL (w2 u) (k + mc) (n + ms) lv (pc + 3) rest) : plJ E nL w k n lv pc stk := by
  intro H locs ls hl hP hD hS
  obtain ⟨hlk, hi, hini, hcd, hyn, hmn⟩ := hL
  have hts := X.2.2.2.2.1
  have hC' : [p0].map (fun i => w[i]?) = [(h0, e0)].map some := hC
  have hF := va_free (wc := [(h0, e0)]) hD hS hA [p0] hC'
  have hPc : va_P (plgD (plg E)) plCl [(h0, e0)] H := fun j q hj => by
    cases j with
    | zero =>
      cases hj
      exact hP p0 _ (List.cons.inj hC).1
    | succ j => cases hj
  have hDc : va_D (va_A [(h0, e0)] H.size) [(h0, e0)] := (hD.sub [p0] rfl hC').self
  have hpre : PreS (eS E) H (va_Pc (.ref h0 :: As) (fun U => U.heap.size = H.size ∧ plIn ((plg E).1, (plg E).2.1, va_A [(h0, e0)] H.size, (plg E).2.2.2) [(h0, e0)] U)) (.ref h0 :: As) :=
    ⟨fun a U g mk q => ⟨q.1, q.2.1, q.2.2.blind⟩, fun U hU hW => ⟨rfl, by rw [hU], by rw [hU]; exact hPc, va_K.moved hW.alike X.2.2.2.2.2.1, hDc, (X.2.2.2.2.2.2.2.2.2.go hW hS hU).narrow hF⟩⟩
  have hRR : fr' + 1 ≤ (eR E).frames ∧ 8 + (mL + 11) + lo' ≤ (eR E).locals := ⟨Nat.le_trans hR.1 X.2.2.2.2.2.2.2.2.1.1, Nat.le_trans hR.2 X.2.2.2.2.2.2.2.2.1.2⟩
  have hrun : va_Run (eP E) (plgL (plg E)) (eE E) (eR E) (eS E) (eM E) (eA E) (eB E) (eT E) (eC E) H locs k n mc ms (F0 (eM E) pc ls stk) rest (va_Qv (fun (u : List Nat) => u.length = cnt) (fun u t => plOut ((plg E).1, (plg E).2.1, va_A [(h0, e0)] H.size, (plg E).2.2.2) (post u) t) (va_A [(h0, e0)] H.size) (Value.ref h0 :: As).toArray) (va_A [(h0, e0)] H.size) := by
    rcases hlk with hlk | ⟨host, hlk⟩
    · exact va_runI (As := As) (rest := rest) ⟨X.1, X.2.1, X.2.2.1, X.2.2.2.1, hts⟩ (hM H.size) (cwI m hts (plGoodIn hcd) rfl rfl rfl (hts _ hini) (hts _ hlk) (hts _ hi) hyn hmn hRR) hpre rfl hn hl.1 hst (lv_room hW) d hcs
    · exact va_runIN (As := As) (rest := rest) (host := host) ⟨X.1, X.2.1, X.2.2.1, X.2.2.2.1, hts⟩ (hM H.size) ⟨va_cnB m hts (plGoodIn hcd) rfl rfl rfl (X.2.2.2.2.2.2.2.2.2.2.1 _ hlk) (hts _ hini) hmn hRR, hyn, hts _ hi⟩ hpre rfl hn hl.1 hst (lv_room hW) d hcs
  refine va_callv hrun hS (fun q _ h => hF q h) hF (fun u t H1 locs1 ht hvm hp hB hz hk hS1 => ?_)
  subst ht
  obtain ⟨hP2, hD2⟩ := va_join (wr := wr) (w1 := post u) hP hD [p0] isR hC' hRs hnd hdis hk hF hB.1 hB.2
  rw [hw u] at hP2 hD2
  exact kk u hp t.heap locs1 ls hl hP2 hD2 hS1
end
theorem j_wsub {E : plE} {nL : Nat} {w w2 : va_W} {k n : Nat} {lv : List (Nat × Value)} {pc : Nat} {st : List Value} (is : List Nat) (hn : va_nd is = true) (hs : is.map (fun i => w[i]?) = w2.map some) (kk : plJ E nL w2 k n lv pc st) : plJ E nL w k n lv pc st := by
  intro H locs ls hl hP hD hS
  refine kk H locs ls hl (fun j q hj => ?_) (hD.sub is hn hs) hS
  have h1 : (is.map (fun i => w[i]?))[j]? = some (some q) := by rw [hs, List.getElem?_map, hj]; rfl
  rw [List.getElem?_map] at h1
  cases hi : is[j]? with
  | none => rw [hi] at h1; cases h1
  | some i => rw [hi] at h1; exact hP i q (Option.some.inj h1)
theorem plL_0 {u : List Nat} (h : u.length = 0) : u = [] := List.eq_nil_of_length_eq_zero h
theorem plL_1 {u : List Nat} (h : u.length = 1) : ∃ a, u = [a] := by
  match u, h with
  | [a], _ => exact ⟨a, rfl⟩
theorem plL_2 {u : List Nat} (h : u.length = 2) : ∃ a b, u = [a, b] := by
  match u, h with
  | [a, b], _ => exact ⟨a, b, rfl⟩
theorem plL_3 {u : List Nat} (h : u.length = 3) : ∃ a b c, u = [a, b, c] := by
  match u, h with
  | [a, b, c], _ => exact ⟨a, b, c, rfl⟩
end
section
set_option maxRecDepth 20000 in
theorem aw_int : Cond.arrayClass .int ∈ plWG := mt 56 (by decide +kernel) rfl
set_option maxRecDepth 20000 in
theorem aw_boolean : Cond.arrayClass .boolean ∈ plWG := mt 820 (by decide +kernel) rfl
set_option maxRecDepth 20000 in
theorem ini_PL : Cond.initialized "ProtectedLine" ∈ plWG := mt 1 (by decide +kernel) rfl
set_option maxRecDepth 20000 in
theorem ini_BL : Cond.initialized "ProtectedLine$BackLine" ∈ plWG := mt 7 (by decide +kernel) rfl
set_option maxRecDepth 20000 in
theorem ini_CO : Cond.initialized "ProtectedLine$Code" ∈ plWG := mt 12 (by decide +kernel) rfl
set_option maxRecDepth 20000 in
theorem ini_CS : Cond.initialized "ProtectedLine$ContainerSource" ∈ plWG := mt 4 (by decide +kernel) rfl
set_option maxRecDepth 20000 in
theorem ini_LN : Cond.initialized "ProtectedLine$Line" ∈ plWG := mt 6 (by decide +kernel) rfl
set_option maxRecDepth 20000 in
theorem ini_LI : Cond.initialized "ProtectedLine$Listener" ∈ plWG := mt 5 (by decide +kernel) rfl
set_option maxRecDepth 20000 in
theorem ini_NA : Cond.initialized "ProtectedLine$NodeA" ∈ plWG := mt 3 (by decide +kernel) rfl
set_option maxRecDepth 20000 in
theorem ini_PR : Cond.initialized "ProtectedLine$PointerReader" ∈ plWG := mt 10 (by decide +kernel) rfl
set_option maxRecDepth 20000 in
theorem ini_SR : Cond.initialized "ProtectedLine$StreamReader" ∈ plWG := mt 9 (by decide +kernel) rfl
set_option maxRecDepth 20000 in
theorem ini_SS : Cond.initialized "ProtectedLine$StreamSource" ∈ plWG := mt 2 (by decide +kernel) rfl
set_option maxRecDepth 20000 in
theorem ini_SW : Cond.initialized "ProtectedLine$Switch" ∈ plWG := mt 8 (by decide +kernel) rfl
set_option maxRecDepth 20000 in
theorem ini_LAW : Cond.initialized "ProtectedLineLaw" ∈ plWG := mt 0 (by decide +kernel) rfl
set_option maxRecDepth 20000 in
theorem ini_RM : Cond.initialized "ProtectedLineModel" ∈ plWG := mt 11 (by decide +kernel) rfl
set_option maxRecDepth 20000 in
theorem ini_JI : Cond.initialized "java/lang/Integer" ∈ plWG := mt 15 (by decide +kernel) rfl
set_option maxRecDepth 20000 in
theorem ini_System : Cond.initialized "java/lang/System" ∈ plWG := mt 13 (by decide +kernel) rfl
set_option maxRecDepth 20000 in
theorem ini_JA : Cond.initialized "java/util/Arrays" ∈ plWG := mt 14 (by decide +kernel) rfl
set_option maxRecDepth 20000 in
theorem co_PL_init : Cond.code y_PL_init b_PL_init 7 none ∈ plWG := mt 20 rfl rfl
set_option maxRecDepth 20000 in
theorem im_PL_init : Cond.instanceMethod y_PL_init ∈ plWG := mt 19 (by decide +kernel) rfl
set_option maxRecDepth 20000 in
theorem mn_PL_init : plMN y_PL_init 4 := ⟨by decide +kernel, by decide +kernel, by decide +kernel⟩
set_option maxRecDepth 20000 in
theorem co_SS_init : Cond.code y_SS_init b_SS_init 1 none ∈ plWG := mt 28 rfl rfl
set_option maxRecDepth 20000 in
theorem im_SS_init : Cond.instanceMethod y_SS_init ∈ plWG := mt 27 (by decide +kernel) rfl
set_option maxRecDepth 20000 in
theorem mn_SS_init : plMN y_SS_init 0 := ⟨by decide +kernel, by decide +kernel, by decide +kernel⟩
set_option maxRecDepth 20000 in
theorem co_CS_init : Cond.code y_CS_init b_CS_init 2 none ∈ plWG := mt 63 rfl rfl
set_option maxRecDepth 20000 in
theorem im_CS_init : Cond.instanceMethod y_CS_init ∈ plWG := mt 62 (by decide +kernel) rfl
set_option maxRecDepth 20000 in
theorem mn_CS_init : plMN y_CS_init 1 := ⟨by decide +kernel, by decide +kernel, by decide +kernel⟩
set_option maxRecDepth 20000 in
theorem co_NA_init : Cond.code y_NA_init b_NA_init 2 none ∈ plWG := mt 77 rfl rfl
set_option maxRecDepth 20000 in
theorem im_NA_init : Cond.instanceMethod y_NA_init ∈ plWG := mt 76 (by decide +kernel) rfl
set_option maxRecDepth 20000 in
theorem mn_NA_init : plMN y_NA_init 1 := ⟨by decide +kernel, by decide +kernel, by decide +kernel⟩
set_option maxRecDepth 20000 in
theorem co_LI_init : Cond.code y_LI_init b_LI_init 1 none ∈ plWG := mt 83 rfl rfl
set_option maxRecDepth 20000 in
theorem im_LI_init : Cond.instanceMethod y_LI_init ∈ plWG := mt 82 (by decide +kernel) rfl
set_option maxRecDepth 20000 in
theorem mn_LI_init : plMN y_LI_init 0 := ⟨by decide +kernel, by decide +kernel, by decide +kernel⟩
set_option maxRecDepth 20000 in
theorem co_PL_delayOf : Cond.code y_PL_delayOf b_PL_delayOf 1 (some .int) ∈ plWG := mt 121 rfl rfl
set_option maxRecDepth 20000 in
theorem st_PL_delayOf : Cond.static y_PL_delayOf ∈ plWG := mt 120 (by decide +kernel) rfl
set_option maxRecDepth 20000 in
theorem mn_PL_delayOf : plMN y_PL_delayOf 1 := ⟨by decide +kernel, by decide +kernel, by decide +kernel⟩
set_option maxRecDepth 20000 in
theorem co_LN_init : Cond.code y_LN_init b_LN_init 2 none ∈ plWG := mt 124 rfl rfl
set_option maxRecDepth 20000 in
theorem im_LN_init : Cond.instanceMethod y_LN_init ∈ plWG := mt 123 (by decide +kernel) rfl
set_option maxRecDepth 20000 in
theorem mn_LN_init : plMN y_LN_init 1 := ⟨by decide +kernel, by decide +kernel, by decide +kernel⟩
set_option maxRecDepth 20000 in
theorem co_BL_init : Cond.code y_BL_init b_BL_init 2 none ∈ plWG := mt 171 rfl rfl
set_option maxRecDepth 20000 in
theorem im_BL_init : Cond.instanceMethod y_BL_init ∈ plWG := mt 170 (by decide +kernel) rfl
set_option maxRecDepth 20000 in
theorem mn_BL_init : plMN y_BL_init 1 := ⟨by decide +kernel, by decide +kernel, by decide +kernel⟩
set_option maxRecDepth 20000 in
theorem co_SW_init : Cond.code y_SW_init b_SW_init 3 none ∈ plWG := mt 187 rfl rfl
set_option maxRecDepth 20000 in
theorem im_SW_init : Cond.instanceMethod y_SW_init ∈ plWG := mt 186 (by decide +kernel) rfl
set_option maxRecDepth 20000 in
theorem mn_SW_init : plMN y_SW_init 2 := ⟨by decide +kernel, by decide +kernel, by decide +kernel⟩
set_option maxRecDepth 20000 in
theorem co_SR_init : Cond.code y_SR_init b_SR_init 1 none ∈ plWG := mt 224 rfl rfl
set_option maxRecDepth 20000 in
theorem im_SR_init : Cond.instanceMethod y_SR_init ∈ plWG := mt 223 (by decide +kernel) rfl
set_option maxRecDepth 20000 in
theorem mn_SR_init : plMN y_SR_init 0 := ⟨by decide +kernel, by decide +kernel, by decide +kernel⟩
set_option maxRecDepth 20000 in
theorem co_PR_init : Cond.code y_PR_init b_PR_init 2 none ∈ plWG := mt 270 rfl rfl
set_option maxRecDepth 20000 in
theorem im_PR_init : Cond.instanceMethod y_PR_init ∈ plWG := mt 269 (by decide +kernel) rfl
set_option maxRecDepth 20000 in
theorem mn_PR_init : plMN y_PR_init 1 := ⟨by decide +kernel, by decide +kernel, by decide +kernel⟩
set_option maxRecDepth 20000 in
theorem co_PL_send : Cond.code y_PL_send b_PL_send 4 (some .boolean) ∈ plWG := mt 330 rfl rfl
set_option maxRecDepth 20000 in
theorem im_PL_send : Cond.instanceMethod y_PL_send ∈ plWG := mt 328 (by decide +kernel) rfl
set_option maxRecDepth 20000 in
theorem se_PL_send : Cond.selects "ProtectedLine" y_PL_send y_PL_send ∈ plWG := mt 329 (by decide +kernel) rfl
set_option maxRecDepth 20000 in
theorem mn_PL_send : plMN y_PL_send 2 := ⟨by decide +kernel, by decide +kernel, by decide +kernel⟩
set_option maxRecDepth 20000 in
theorem co_SS_enqueue : Cond.code y_SS_enqueue b_SS_enqueue 5 (some .boolean) ∈ plWG := mt 334 rfl rfl
set_option maxRecDepth 20000 in
theorem im_SS_enqueue : Cond.instanceMethod y_SS_enqueue ∈ plWG := mt 332 (by decide +kernel) rfl
set_option maxRecDepth 20000 in
theorem se_SS_enqueue : Cond.selects "ProtectedLine$StreamSource" y_SS_enqueue y_SS_enqueue ∈ plWG := mt 333 (by decide +kernel) rfl
set_option maxRecDepth 20000 in
theorem mn_SS_enqueue : plMN y_SS_enqueue 2 := ⟨by decide +kernel, by decide +kernel, by decide +kernel⟩
set_option maxRecDepth 20000 in
theorem co_SS_makeReady : Cond.code y_SS_makeReady b_SS_makeReady 8 none ∈ plWG := mt 338 rfl rfl
set_option maxRecDepth 20000 in
theorem im_SS_makeReady : Cond.instanceMethod y_SS_makeReady ∈ plWG := mt 337 (by decide +kernel) rfl
set_option maxRecDepth 20000 in
theorem se_SS_makeReady : Cond.selects "ProtectedLine$StreamSource" y_SS_makeReady y_SS_makeReady ∈ plWG := ms (y := y_SS_makeReady) (n := 8) 0 (by decide +kernel)
set_option maxRecDepth 20000 in
theorem mn_SS_makeReady : plMN y_SS_makeReady 3 := ⟨by decide +kernel, by decide +kernel, by decide +kernel⟩
set_option maxRecDepth 20000 in
theorem co_CO_hash : Cond.code y_CO_hash b_CO_hash 3 (some .int) ∈ plWG := mt 341 rfl rfl
set_option maxRecDepth 20000 in
theorem st_CO_hash : Cond.static y_CO_hash ∈ plWG := mt 340 (by decide +kernel) rfl
set_option maxRecDepth 20000 in
theorem mn_CO_hash : plMN y_CO_hash 1 := ⟨by decide +kernel, by decide +kernel, by decide +kernel⟩
set_option maxRecDepth 20000 in
theorem co_PL_tick : Cond.code y_PL_tick b_PL_tick 3 (some .boolean) ∈ plWG := mt 345 rfl rfl
set_option maxRecDepth 20000 in
theorem im_PL_tick : Cond.instanceMethod y_PL_tick ∈ plWG := mt 343 (by decide +kernel) rfl
set_option maxRecDepth 20000 in
theorem se_PL_tick : Cond.selects "ProtectedLine" y_PL_tick y_PL_tick ∈ plWG := mt 344 (by decide +kernel) rfl
set_option maxRecDepth 20000 in
theorem mn_PL_tick : plMN y_PL_tick 1 := ⟨by decide +kernel, by decide +kernel, by decide +kernel⟩
set_option maxRecDepth 20000 in
theorem co_PL_passTick : Cond.code y_PL_passTick b_PL_passTick 2 none ∈ plWG := mt 349 rfl rfl
set_option maxRecDepth 20000 in
theorem im_PL_passTick : Cond.instanceMethod y_PL_passTick ∈ plWG := mt 348 (by decide +kernel) rfl
set_option maxRecDepth 20000 in
theorem se_PL_passTick : Cond.selects "ProtectedLine" y_PL_passTick y_PL_passTick ∈ plWG := ms (y := y_PL_passTick) (n := 8) 1 (by decide +kernel)
set_option maxRecDepth 20000 in
theorem mn_PL_passTick : plMN y_PL_passTick 0 := ⟨by decide +kernel, by decide +kernel, by decide +kernel⟩
set_option maxRecDepth 20000 in
theorem co_BL_arriving : Cond.code y_BL_arriving b_BL_arriving 2 (some .int) ∈ plWG := mt 353 rfl rfl
set_option maxRecDepth 20000 in
theorem im_BL_arriving : Cond.instanceMethod y_BL_arriving ∈ plWG := mt 351 (by decide +kernel) rfl
set_option maxRecDepth 20000 in
theorem se_BL_arriving : Cond.selects "ProtectedLine$BackLine" y_BL_arriving y_BL_arriving ∈ plWG := mt 352 (by decide +kernel) rfl
set_option maxRecDepth 20000 in
theorem mn_BL_arriving : plMN y_BL_arriving 1 := ⟨by decide +kernel, by decide +kernel, by decide +kernel⟩
set_option maxRecDepth 20000 in
theorem co_LI_hear : Cond.code y_LI_hear b_LI_hear 2 none ∈ plWG := mt 357 rfl rfl
set_option maxRecDepth 20000 in
theorem im_LI_hear : Cond.instanceMethod y_LI_hear ∈ plWG := mt 355 (by decide +kernel) rfl
set_option maxRecDepth 20000 in
theorem se_LI_hear : Cond.selects "ProtectedLine$Listener" y_LI_hear y_LI_hear ∈ plWG := mt 356 (by decide +kernel) rfl
set_option maxRecDepth 20000 in
theorem mn_LI_hear : plMN y_LI_hear 1 := ⟨by decide +kernel, by decide +kernel, by decide +kernel⟩
set_option maxRecDepth 20000 in
theorem co_NA_transmit : Cond.code y_NA_transmit b_NA_transmit 5 none ∈ plWG := mt 361 rfl rfl
set_option maxRecDepth 20000 in
theorem im_NA_transmit : Cond.instanceMethod y_NA_transmit ∈ plWG := mt 359 (by decide +kernel) rfl
set_option maxRecDepth 20000 in
theorem se_NA_transmit : Cond.selects "ProtectedLine$NodeA" y_NA_transmit y_NA_transmit ∈ plWG := mt 360 (by decide +kernel) rfl
set_option maxRecDepth 20000 in
theorem mn_NA_transmit : plMN y_NA_transmit 2 := ⟨by decide +kernel, by decide +kernel, by decide +kernel⟩
set_option maxRecDepth 20000 in
theorem co_NA_justification : Cond.code y_NA_justification b_NA_justification 2 (some .int) ∈ plWG := mt 365 rfl rfl
set_option maxRecDepth 20000 in
theorem im_NA_justification : Cond.instanceMethod y_NA_justification ∈ plWG := mt 364 (by decide +kernel) rfl
set_option maxRecDepth 20000 in
theorem se_NA_justification : Cond.selects "ProtectedLine$NodeA" y_NA_justification y_NA_justification ∈ plWG := ms (y := y_NA_justification) (n := 6) 2 (by decide +kernel)
set_option maxRecDepth 20000 in
theorem mn_NA_justification : plMN y_NA_justification 0 := ⟨by decide +kernel, by decide +kernel, by decide +kernel⟩
set_option maxRecDepth 20000 in
theorem co_NA_fill : Cond.code y_NA_fill b_NA_fill 4 none ∈ plWG := mt 369 rfl rfl
set_option maxRecDepth 20000 in
theorem im_NA_fill : Cond.instanceMethod y_NA_fill ∈ plWG := mt 368 (by decide +kernel) rfl
set_option maxRecDepth 20000 in
theorem se_NA_fill : Cond.selects "ProtectedLine$NodeA" y_NA_fill y_NA_fill ∈ plWG := ms (y := y_NA_fill) (n := 6) 3 (by decide +kernel)
set_option maxRecDepth 20000 in
theorem mn_NA_fill : plMN y_NA_fill 1 := ⟨by decide +kernel, by decide +kernel, by decide +kernel⟩
set_option maxRecDepth 20000 in
theorem co_CO_pointerByte : Cond.code y_CO_pointerByte b_CO_pointerByte 1 (some .int) ∈ plWG := mt 372 rfl rfl
set_option maxRecDepth 20000 in
theorem st_CO_pointerByte : Cond.static y_CO_pointerByte ∈ plWG := mt 371 (by decide +kernel) rfl
set_option maxRecDepth 20000 in
theorem mn_CO_pointerByte : plMN y_CO_pointerByte 1 := ⟨by decide +kernel, by decide +kernel, by decide +kernel⟩
set_option maxRecDepth 20000 in
theorem co_CS_nextByte : Cond.code y_CS_nextByte b_CS_nextByte 2 (some .int) ∈ plWG := mt 376 rfl rfl
set_option maxRecDepth 20000 in
theorem im_CS_nextByte : Cond.instanceMethod y_CS_nextByte ∈ plWG := mt 374 (by decide +kernel) rfl
set_option maxRecDepth 20000 in
theorem se_CS_nextByte : Cond.selects "ProtectedLine$ContainerSource" y_CS_nextByte y_CS_nextByte ∈ plWG := mt 375 (by decide +kernel) rfl
set_option maxRecDepth 20000 in
theorem mn_CS_nextByte : plMN y_CS_nextByte 0 := ⟨by decide +kernel, by decide +kernel, by decide +kernel⟩
set_option maxRecDepth 20000 in
theorem co_SS_nextByte : Cond.code y_SS_nextByte b_SS_nextByte 2 (some .int) ∈ plWG := mt 380 rfl rfl
set_option maxRecDepth 20000 in
theorem im_SS_nextByte : Cond.instanceMethod y_SS_nextByte ∈ plWG := mt 378 (by decide +kernel) rfl
set_option maxRecDepth 20000 in
theorem se_SS_nextByte : Cond.selects "ProtectedLine$StreamSource" y_SS_nextByte y_SS_nextByte ∈ plWG := mt 379 (by decide +kernel) rfl
set_option maxRecDepth 20000 in
theorem mn_SS_nextByte : plMN y_SS_nextByte 0 := ⟨by decide +kernel, by decide +kernel, by decide +kernel⟩
set_option maxRecDepth 20000 in
theorem co_SS_begin : Cond.code y_SS_begin b_SS_begin 1 none ∈ plWG := mt 384 rfl rfl
set_option maxRecDepth 20000 in
theorem im_SS_begin : Cond.instanceMethod y_SS_begin ∈ plWG := mt 383 (by decide +kernel) rfl
set_option maxRecDepth 20000 in
theorem se_SS_begin : Cond.selects "ProtectedLine$StreamSource" y_SS_begin y_SS_begin ∈ plWG := ms (y := y_SS_begin) (n := 8) 4 (by decide +kernel)
set_option maxRecDepth 20000 in
theorem mn_SS_begin : plMN y_SS_begin 0 := ⟨by decide +kernel, by decide +kernel, by decide +kernel⟩
set_option maxRecDepth 20000 in
theorem co_NA_bridgeOn : Cond.code y_NA_bridgeOn b_NA_bridgeOn 2 (some .boolean) ∈ plWG := mt 391 rfl rfl
set_option maxRecDepth 20000 in
theorem im_NA_bridgeOn : Cond.instanceMethod y_NA_bridgeOn ∈ plWG := mt 389 (by decide +kernel) rfl
set_option maxRecDepth 20000 in
theorem se_NA_bridgeOn : Cond.selects "ProtectedLine$NodeA" y_NA_bridgeOn y_NA_bridgeOn ∈ plWG := mt 390 (by decide +kernel) rfl
set_option maxRecDepth 20000 in
theorem mn_NA_bridgeOn : plMN y_NA_bridgeOn 0 := ⟨by decide +kernel, by decide +kernel, by decide +kernel⟩
set_option maxRecDepth 20000 in
theorem co_LN_launch : Cond.code y_LN_launch b_LN_launch 5 none ∈ plWG := mt 395 rfl rfl
set_option maxRecDepth 20000 in
theorem im_LN_launch : Cond.instanceMethod y_LN_launch ∈ plWG := mt 393 (by decide +kernel) rfl
set_option maxRecDepth 20000 in
theorem se_LN_launch : Cond.selects "ProtectedLine$Line" y_LN_launch y_LN_launch ∈ plWG := mt 394 (by decide +kernel) rfl
set_option maxRecDepth 20000 in
theorem mn_LN_launch : plMN y_LN_launch 2 := ⟨by decide +kernel, by decide +kernel, by decide +kernel⟩
set_option maxRecDepth 20000 in
theorem co_LN_slotOf : Cond.code y_LN_slotOf b_LN_slotOf 1 (some .int) ∈ plWG := mt 398 rfl rfl
set_option maxRecDepth 20000 in
theorem st_LN_slotOf : Cond.static y_LN_slotOf ∈ plWG := mt 397 (by decide +kernel) rfl
set_option maxRecDepth 20000 in
theorem mn_LN_slotOf : plMN y_LN_slotOf 1 := ⟨by decide +kernel, by decide +kernel, by decide +kernel⟩
set_option maxRecDepth 20000 in
theorem co_LN_joinedFrom : Cond.code y_LN_joinedFrom b_LN_joinedFrom 4 (some .int) ∈ plWG := mt 403 rfl rfl
set_option maxRecDepth 20000 in
theorem st_LN_joinedFrom : Cond.static y_LN_joinedFrom ∈ plWG := mt 402 (by decide +kernel) rfl
set_option maxRecDepth 20000 in
theorem mn_LN_joinedFrom : plMN y_LN_joinedFrom 2 := ⟨by decide +kernel, by decide +kernel, by decide +kernel⟩
set_option maxRecDepth 20000 in
theorem co_LN_receive : Cond.code y_LN_receive b_LN_receive 3 none ∈ plWG := mt 409 rfl rfl
set_option maxRecDepth 20000 in
theorem im_LN_receive : Cond.instanceMethod y_LN_receive ∈ plWG := mt 407 (by decide +kernel) rfl
set_option maxRecDepth 20000 in
theorem se_LN_receive : Cond.selects "ProtectedLine$Line" y_LN_receive y_LN_receive ∈ plWG := mt 408 (by decide +kernel) rfl
set_option maxRecDepth 20000 in
theorem mn_LN_receive : plMN y_LN_receive 0 := ⟨by decide +kernel, by decide +kernel, by decide +kernel⟩
set_option maxRecDepth 20000 in
theorem co_LN_bringIn : Cond.code y_LN_bringIn b_LN_bringIn 3 none ∈ plWG := mt 413 rfl rfl
set_option maxRecDepth 20000 in
theorem im_LN_bringIn : Cond.instanceMethod y_LN_bringIn ∈ plWG := mt 412 (by decide +kernel) rfl
set_option maxRecDepth 20000 in
theorem se_LN_bringIn : Cond.selects "ProtectedLine$Line" y_LN_bringIn y_LN_bringIn ∈ plWG := ms (y := y_LN_bringIn) (n := 12) 5 (by decide +kernel)
set_option maxRecDepth 20000 in
theorem mn_LN_bringIn : plMN y_LN_bringIn 1 := ⟨by decide +kernel, by decide +kernel, by decide +kernel⟩
set_option maxRecDepth 20000 in
theorem co_JA_fill : Cond.code y_JA_fill b_JA_fill 4 none ∈ plWG := mt 416 rfl rfl
set_option maxRecDepth 20000 in
theorem st_JA_fill : Cond.static y_JA_fill ∈ plWG := mt 415 (by decide +kernel) rfl
set_option maxRecDepth 20000 in
theorem mn_JA_fill : plMN y_JA_fill 2 := ⟨by decide +kernel, by decide +kernel, by decide +kernel⟩
set_option maxRecDepth 20000 in
theorem co_LN_align : Cond.code y_LN_align b_LN_align 2 none ∈ plWG := mt 420 rfl rfl
set_option maxRecDepth 20000 in
theorem im_LN_align : Cond.instanceMethod y_LN_align ∈ plWG := mt 419 (by decide +kernel) rfl
set_option maxRecDepth 20000 in
theorem se_LN_align : Cond.selects "ProtectedLine$Line" y_LN_align y_LN_align ∈ plWG := ms (y := y_LN_align) (n := 12) 6 (by decide +kernel)
set_option maxRecDepth 20000 in
theorem mn_LN_align : plMN y_LN_align 1 := ⟨by decide +kernel, by decide +kernel, by decide +kernel⟩
set_option maxRecDepth 20000 in
theorem co_LN_readable : Cond.code y_LN_readable b_LN_readable 1 (some .boolean) ∈ plWG := mt 424 rfl rfl
set_option maxRecDepth 20000 in
theorem im_LN_readable : Cond.instanceMethod y_LN_readable ∈ plWG := mt 422 (by decide +kernel) rfl
set_option maxRecDepth 20000 in
theorem se_LN_readable : Cond.selects "ProtectedLine$Line" y_LN_readable y_LN_readable ∈ plWG := mt 423 (by decide +kernel) rfl
set_option maxRecDepth 20000 in
theorem mn_LN_readable : plMN y_LN_readable 0 := ⟨by decide +kernel, by decide +kernel, by decide +kernel⟩
set_option maxRecDepth 20000 in
theorem co_LN_plainAt : Cond.code y_LN_plainAt b_LN_plainAt 2 (some .int) ∈ plWG := mt 428 rfl rfl
set_option maxRecDepth 20000 in
theorem im_LN_plainAt : Cond.instanceMethod y_LN_plainAt ∈ plWG := mt 426 (by decide +kernel) rfl
set_option maxRecDepth 20000 in
theorem se_LN_plainAt : Cond.selects "ProtectedLine$Line" y_LN_plainAt y_LN_plainAt ∈ plWG := mt 427 (by decide +kernel) rfl
set_option maxRecDepth 20000 in
theorem mn_LN_plainAt : plMN y_LN_plainAt 1 := ⟨by decide +kernel, by decide +kernel, by decide +kernel⟩
set_option maxRecDepth 20000 in
theorem co_JI_bitCount : Cond.code y_JI_bitCount b_JI_bitCount 1 (some .int) ∈ plWG := mt 431 rfl rfl
set_option maxRecDepth 20000 in
theorem st_JI_bitCount : Cond.static y_JI_bitCount ∈ plWG := mt 430 (by decide +kernel) rfl
set_option maxRecDepth 20000 in
theorem mn_JI_bitCount : plMN y_JI_bitCount 1 := ⟨by decide +kernel, by decide +kernel, by decide +kernel⟩
set_option maxRecDepth 20000 in
theorem co_LN_failed : Cond.code y_LN_failed b_LN_failed 1 (some .boolean) ∈ plWG := mt 440 rfl rfl
set_option maxRecDepth 20000 in
theorem im_LN_failed : Cond.instanceMethod y_LN_failed ∈ plWG := mt 438 (by decide +kernel) rfl
set_option maxRecDepth 20000 in
theorem se_LN_failed : Cond.selects "ProtectedLine$Line" y_LN_failed y_LN_failed ∈ plWG := mt 439 (by decide +kernel) rfl
set_option maxRecDepth 20000 in
theorem mn_LN_failed : plMN y_LN_failed 0 := ⟨by decide +kernel, by decide +kernel, by decide +kernel⟩
set_option maxRecDepth 20000 in
theorem co_SW_decide : Cond.code y_SW_decide b_SW_decide 5 none ∈ plWG := mt 444 rfl rfl
set_option maxRecDepth 20000 in
theorem im_SW_decide : Cond.instanceMethod y_SW_decide ∈ plWG := mt 442 (by decide +kernel) rfl
set_option maxRecDepth 20000 in
theorem se_SW_decide : Cond.selects "ProtectedLine$Switch" y_SW_decide y_SW_decide ∈ plWG := mt 443 (by decide +kernel) rfl
set_option maxRecDepth 20000 in
theorem mn_SW_decide : plMN y_SW_decide 2 := ⟨by decide +kernel, by decide +kernel, by decide +kernel⟩
set_option maxRecDepth 20000 in
theorem co_SW_pressing : Cond.code y_SW_pressing b_SW_pressing 2 (some .int) ∈ plWG := mt 448 rfl rfl
set_option maxRecDepth 20000 in
theorem im_SW_pressing : Cond.instanceMethod y_SW_pressing ∈ plWG := mt 447 (by decide +kernel) rfl
set_option maxRecDepth 20000 in
theorem se_SW_pressing : Cond.selects "ProtectedLine$Switch" y_SW_pressing y_SW_pressing ∈ plWG := ms (y := y_SW_pressing) (n := 8) 7 (by decide +kernel)
set_option maxRecDepth 20000 in
theorem mn_SW_pressing : plMN y_SW_pressing 1 := ⟨by decide +kernel, by decide +kernel, by decide +kernel⟩
set_option maxRecDepth 20000 in
theorem co_SW_waitOn : Cond.code y_SW_waitOn b_SW_waitOn 1 (some .int) ∈ plWG := mt 452 rfl rfl
set_option maxRecDepth 20000 in
theorem im_SW_waitOn : Cond.instanceMethod y_SW_waitOn ∈ plWG := mt 451 (by decide +kernel) rfl
set_option maxRecDepth 20000 in
theorem se_SW_waitOn : Cond.selects "ProtectedLine$Switch" y_SW_waitOn y_SW_waitOn ∈ plWG := ms (y := y_SW_waitOn) (n := 8) 8 (by decide +kernel)
set_option maxRecDepth 20000 in
theorem mn_SW_waitOn : plMN y_SW_waitOn 0 := ⟨by decide +kernel, by decide +kernel, by decide +kernel⟩
set_option maxRecDepth 20000 in
theorem co_PL_lineAt : Cond.code y_PL_lineAt b_PL_lineAt 2 (some (.object "ProtectedLine$Line")) ∈ plWG := mt 456 rfl rfl
set_option maxRecDepth 20000 in
theorem im_PL_lineAt : Cond.instanceMethod y_PL_lineAt ∈ plWG := mt 455 (by decide +kernel) rfl
set_option maxRecDepth 20000 in
theorem se_PL_lineAt : Cond.selects "ProtectedLine" y_PL_lineAt y_PL_lineAt ∈ plWG := ms (y := y_PL_lineAt) (n := 8) 9 (by decide +kernel)
set_option maxRecDepth 20000 in
theorem mn_PL_lineAt : plMN y_PL_lineAt 1 := ⟨by decide +kernel, by decide +kernel, by decide +kernel⟩
set_option maxRecDepth 20000 in
theorem co_PR_take : Cond.code y_PR_take b_PR_take 6 none ∈ plWG := mt 460 rfl rfl
set_option maxRecDepth 20000 in
theorem im_PR_take : Cond.instanceMethod y_PR_take ∈ plWG := mt 458 (by decide +kernel) rfl
set_option maxRecDepth 20000 in
theorem se_PR_take : Cond.selects "ProtectedLine$PointerReader" y_PR_take y_PR_take ∈ plWG := mt 459 (by decide +kernel) rfl
set_option maxRecDepth 20000 in
theorem mn_PR_take : plMN y_PR_take 1 := ⟨by decide +kernel, by decide +kernel, by decide +kernel⟩
set_option maxRecDepth 20000 in
theorem co_PR_follow : Cond.code y_PR_follow b_PR_follow 3 (some .int) ∈ plWG := mt 465 rfl rfl
set_option maxRecDepth 20000 in
theorem im_PR_follow : Cond.instanceMethod y_PR_follow ∈ plWG := mt 464 (by decide +kernel) rfl
set_option maxRecDepth 20000 in
theorem se_PR_follow : Cond.selects "ProtectedLine$PointerReader" y_PR_follow y_PR_follow ∈ plWG := ms (y := y_PR_follow) (n := 9) 10 (by decide +kernel)
set_option maxRecDepth 20000 in
theorem mn_PR_follow : plMN y_PR_follow 1 := ⟨by decide +kernel, by decide +kernel, by decide +kernel⟩
set_option maxRecDepth 20000 in
theorem co_PR_seek : Cond.code y_PR_seek b_PR_seek 2 none ∈ plWG := mt 469 rfl rfl
set_option maxRecDepth 20000 in
theorem im_PR_seek : Cond.instanceMethod y_PR_seek ∈ plWG := mt 468 (by decide +kernel) rfl
set_option maxRecDepth 20000 in
theorem se_PR_seek : Cond.selects "ProtectedLine$PointerReader" y_PR_seek y_PR_seek ∈ plWG := ms (y := y_PR_seek) (n := 9) 11 (by decide +kernel)
set_option maxRecDepth 20000 in
theorem mn_PR_seek : plMN y_PR_seek 1 := ⟨by decide +kernel, by decide +kernel, by decide +kernel⟩
set_option maxRecDepth 20000 in
theorem co_PR_countPlain : Cond.code y_PR_countPlain b_PR_countPlain 3 none ∈ plWG := mt 473 rfl rfl
set_option maxRecDepth 20000 in
theorem im_PR_countPlain : Cond.instanceMethod y_PR_countPlain ∈ plWG := mt 472 (by decide +kernel) rfl
set_option maxRecDepth 20000 in
theorem se_PR_countPlain : Cond.selects "ProtectedLine$PointerReader" y_PR_countPlain y_PR_countPlain ∈ plWG := ms (y := y_PR_countPlain) (n := 9) 12 (by decide +kernel)
set_option maxRecDepth 20000 in
theorem mn_PR_countPlain : plMN y_PR_countPlain 1 := ⟨by decide +kernel, by decide +kernel, by decide +kernel⟩
set_option maxRecDepth 20000 in
theorem co_CO_plainFor : Cond.code y_CO_plainFor b_CO_plainFor 2 (some .int) ∈ plWG := mt 476 rfl rfl
set_option maxRecDepth 20000 in
theorem st_CO_plainFor : Cond.static y_CO_plainFor ∈ plWG := mt 475 (by decide +kernel) rfl
set_option maxRecDepth 20000 in
theorem mn_CO_plainFor : plMN y_CO_plainFor 1 := ⟨by decide +kernel, by decide +kernel, by decide +kernel⟩
set_option maxRecDepth 20000 in
theorem co_PR_endRows : Cond.code y_PR_endRows b_PR_endRows 1 none ∈ plWG := mt 481 rfl rfl
set_option maxRecDepth 20000 in
theorem im_PR_endRows : Cond.instanceMethod y_PR_endRows ∈ plWG := mt 480 (by decide +kernel) rfl
set_option maxRecDepth 20000 in
theorem se_PR_endRows : Cond.selects "ProtectedLine$PointerReader" y_PR_endRows y_PR_endRows ∈ plWG := ms (y := y_PR_endRows) (n := 9) 13 (by decide +kernel)
set_option maxRecDepth 20000 in
theorem mn_PR_endRows : plMN y_PR_endRows 0 := ⟨by decide +kernel, by decide +kernel, by decide +kernel⟩
set_option maxRecDepth 20000 in
theorem co_PR_shiftIn : Cond.code y_PR_shiftIn b_PR_shiftIn 5 (some .int) ∈ plWG := mt 485 rfl rfl
set_option maxRecDepth 20000 in
theorem im_PR_shiftIn : Cond.instanceMethod y_PR_shiftIn ∈ plWG := mt 484 (by decide +kernel) rfl
set_option maxRecDepth 20000 in
theorem se_PR_shiftIn : Cond.selects "ProtectedLine$PointerReader" y_PR_shiftIn y_PR_shiftIn ∈ plWG := ms (y := y_PR_shiftIn) (n := 9) 14 (by decide +kernel)
set_option maxRecDepth 20000 in
theorem mn_PR_shiftIn : plMN y_PR_shiftIn 1 := ⟨by decide +kernel, by decide +kernel, by decide +kernel⟩
set_option maxRecDepth 20000 in
theorem co_PR_doubt : Cond.code y_PR_doubt b_PR_doubt 2 none ∈ plWG := mt 491 rfl rfl
set_option maxRecDepth 20000 in
theorem im_PR_doubt : Cond.instanceMethod y_PR_doubt ∈ plWG := mt 490 (by decide +kernel) rfl
set_option maxRecDepth 20000 in
theorem se_PR_doubt : Cond.selects "ProtectedLine$PointerReader" y_PR_doubt y_PR_doubt ∈ plWG := ms (y := y_PR_doubt) (n := 9) 15 (by decide +kernel)
set_option maxRecDepth 20000 in
theorem mn_PR_doubt : plMN y_PR_doubt 1 := ⟨by decide +kernel, by decide +kernel, by decide +kernel⟩
set_option maxRecDepth 20000 in
theorem co_PR_breakOff : Cond.code y_PR_breakOff b_PR_breakOff 1 none ∈ plWG := mt 495 rfl rfl
set_option maxRecDepth 20000 in
theorem im_PR_breakOff : Cond.instanceMethod y_PR_breakOff ∈ plWG := mt 494 (by decide +kernel) rfl
set_option maxRecDepth 20000 in
theorem se_PR_breakOff : Cond.selects "ProtectedLine$PointerReader" y_PR_breakOff y_PR_breakOff ∈ plWG := ms (y := y_PR_breakOff) (n := 9) 16 (by decide +kernel)
set_option maxRecDepth 20000 in
theorem mn_PR_breakOff : plMN y_PR_breakOff 0 := ⟨by decide +kernel, by decide +kernel, by decide +kernel⟩
set_option maxRecDepth 20000 in
theorem co_SR_hunt : Cond.code y_SR_hunt b_SR_hunt 1 none ∈ plWG := mt 499 rfl rfl
set_option maxRecDepth 20000 in
theorem im_SR_hunt : Cond.instanceMethod y_SR_hunt ∈ plWG := mt 497 (by decide +kernel) rfl
set_option maxRecDepth 20000 in
theorem se_SR_hunt : Cond.selects "ProtectedLine$StreamReader" y_SR_hunt y_SR_hunt ∈ plWG := mt 498 (by decide +kernel) rfl
set_option maxRecDepth 20000 in
theorem mn_SR_hunt : plMN y_SR_hunt 0 := ⟨by decide +kernel, by decide +kernel, by decide +kernel⟩
set_option maxRecDepth 20000 in
theorem co_PR_beginContainer : Cond.code y_PR_beginContainer b_PR_beginContainer 2 none ∈ plWG := mt 503 rfl rfl
set_option maxRecDepth 20000 in
theorem im_PR_beginContainer : Cond.instanceMethod y_PR_beginContainer ∈ plWG := mt 502 (by decide +kernel) rfl
set_option maxRecDepth 20000 in
theorem se_PR_beginContainer : Cond.selects "ProtectedLine$PointerReader" y_PR_beginContainer y_PR_beginContainer ∈ plWG := ms (y := y_PR_beginContainer) (n := 9) 17 (by decide +kernel)
set_option maxRecDepth 20000 in
theorem mn_PR_beginContainer : plMN y_PR_beginContainer 1 := ⟨by decide +kernel, by decide +kernel, by decide +kernel⟩
set_option maxRecDepth 20000 in
theorem co_SR_give : Cond.code y_SR_give b_SR_give 2 none ∈ plWG := mt 507 rfl rfl
set_option maxRecDepth 20000 in
theorem im_SR_give : Cond.instanceMethod y_SR_give ∈ plWG := mt 505 (by decide +kernel) rfl
set_option maxRecDepth 20000 in
theorem se_SR_give : Cond.selects "ProtectedLine$StreamReader" y_SR_give y_SR_give ∈ plWG := mt 506 (by decide +kernel) rfl
set_option maxRecDepth 20000 in
theorem mn_SR_give : plMN y_SR_give 1 := ⟨by decide +kernel, by decide +kernel, by decide +kernel⟩
set_option maxRecDepth 20000 in
theorem co_SR_takeFrameByte : Cond.code y_SR_takeFrameByte b_SR_takeFrameByte 3 none ∈ plWG := mt 511 rfl rfl
set_option maxRecDepth 20000 in
theorem im_SR_takeFrameByte : Cond.instanceMethod y_SR_takeFrameByte ∈ plWG := mt 510 (by decide +kernel) rfl
set_option maxRecDepth 20000 in
theorem se_SR_takeFrameByte : Cond.selects "ProtectedLine$StreamReader" y_SR_takeFrameByte y_SR_takeFrameByte ∈ plWG := ms (y := y_SR_takeFrameByte) (n := 12) 18 (by decide +kernel)
set_option maxRecDepth 20000 in
theorem mn_SR_takeFrameByte : plMN y_SR_takeFrameByte 1 := ⟨by decide +kernel, by decide +kernel, by decide +kernel⟩
set_option maxRecDepth 20000 in
theorem co_SR_endFrame : Cond.code y_SR_endFrame b_SR_endFrame 2 none ∈ plWG := mt 515 rfl rfl
set_option maxRecDepth 20000 in
theorem im_SR_endFrame : Cond.instanceMethod y_SR_endFrame ∈ plWG := mt 514 (by decide +kernel) rfl
set_option maxRecDepth 20000 in
theorem se_SR_endFrame : Cond.selects "ProtectedLine$StreamReader" y_SR_endFrame y_SR_endFrame ∈ plWG := ms (y := y_SR_endFrame) (n := 12) 19 (by decide +kernel)
set_option maxRecDepth 20000 in
theorem mn_SR_endFrame : plMN y_SR_endFrame 1 := ⟨by decide +kernel, by decide +kernel, by decide +kernel⟩
set_option maxRecDepth 20000 in
theorem co_SR_slotOf : Cond.code y_SR_slotOf b_SR_slotOf 1 (some .int) ∈ plWG := mt 518 rfl rfl
set_option maxRecDepth 20000 in
theorem st_SR_slotOf : Cond.static y_SR_slotOf ∈ plWG := mt 517 (by decide +kernel) rfl
set_option maxRecDepth 20000 in
theorem mn_SR_slotOf : plMN y_SR_slotOf 1 := ⟨by decide +kernel, by decide +kernel, by decide +kernel⟩
set_option maxRecDepth 20000 in
theorem co_SR_takeHeader : Cond.code y_SR_takeHeader b_SR_takeHeader 4 none ∈ plWG := mt 524 rfl rfl
set_option maxRecDepth 20000 in
theorem im_SR_takeHeader : Cond.instanceMethod y_SR_takeHeader ∈ plWG := mt 523 (by decide +kernel) rfl
set_option maxRecDepth 20000 in
theorem se_SR_takeHeader : Cond.selects "ProtectedLine$StreamReader" y_SR_takeHeader y_SR_takeHeader ∈ plWG := ms (y := y_SR_takeHeader) (n := 12) 20 (by decide +kernel)
set_option maxRecDepth 20000 in
theorem mn_SR_takeHeader : plMN y_SR_takeHeader 1 := ⟨by decide +kernel, by decide +kernel, by decide +kernel⟩
set_option maxRecDepth 20000 in
theorem co_CO_lengthRepaired : Cond.code y_CO_lengthRepaired b_CO_lengthRepaired 6 (some .int) ∈ plWG := mt 527 rfl rfl
set_option maxRecDepth 20000 in
theorem st_CO_lengthRepaired : Cond.static y_CO_lengthRepaired ∈ plWG := mt 526 (by decide +kernel) rfl
set_option maxRecDepth 20000 in
theorem mn_CO_lengthRepaired : plMN y_CO_lengthRepaired 2 := ⟨by decide +kernel, by decide +kernel, by decide +kernel⟩
set_option maxRecDepth 20000 in
theorem co_CO_lengthIn : Cond.code y_CO_lengthIn b_CO_lengthIn 3 (some .int) ∈ plWG := mt 532 rfl rfl
set_option maxRecDepth 20000 in
theorem st_CO_lengthIn : Cond.static y_CO_lengthIn ∈ plWG := mt 531 (by decide +kernel) rfl
set_option maxRecDepth 20000 in
theorem mn_CO_lengthIn : plMN y_CO_lengthIn 2 := ⟨by decide +kernel, by decide +kernel, by decide +kernel⟩
set_option maxRecDepth 20000 in
theorem co_PR_gap : Cond.code y_PR_gap b_PR_gap 1 none ∈ plWG := mt 537 rfl rfl
set_option maxRecDepth 20000 in
theorem im_PR_gap : Cond.instanceMethod y_PR_gap ∈ plWG := mt 535 (by decide +kernel) rfl
set_option maxRecDepth 20000 in
theorem se_PR_gap : Cond.selects "ProtectedLine$PointerReader" y_PR_gap y_PR_gap ∈ plWG := mt 536 (by decide +kernel) rfl
set_option maxRecDepth 20000 in
theorem mn_PR_gap : plMN y_PR_gap 0 := ⟨by decide +kernel, by decide +kernel, by decide +kernel⟩
set_option maxRecDepth 20000 in
theorem co_SW_kByte : Cond.code y_SW_kByte b_SW_kByte 1 (some .int) ∈ plWG := mt 541 rfl rfl
set_option maxRecDepth 20000 in
theorem im_SW_kByte : Cond.instanceMethod y_SW_kByte ∈ plWG := mt 539 (by decide +kernel) rfl
set_option maxRecDepth 20000 in
theorem se_SW_kByte : Cond.selects "ProtectedLine$Switch" y_SW_kByte y_SW_kByte ∈ plWG := mt 540 (by decide +kernel) rfl
set_option maxRecDepth 20000 in
theorem mn_SW_kByte : plMN y_SW_kByte 0 := ⟨by decide +kernel, by decide +kernel, by decide +kernel⟩
set_option maxRecDepth 20000 in
theorem co_BL_launch : Cond.code y_BL_launch b_BL_launch 2 none ∈ plWG := mt 545 rfl rfl
set_option maxRecDepth 20000 in
theorem im_BL_launch : Cond.instanceMethod y_BL_launch ∈ plWG := mt 543 (by decide +kernel) rfl
set_option maxRecDepth 20000 in
theorem se_BL_launch : Cond.selects "ProtectedLine$BackLine" y_BL_launch y_BL_launch ∈ plWG := mt 544 (by decide +kernel) rfl
set_option maxRecDepth 20000 in
theorem mn_BL_launch : plMN y_BL_launch 1 := ⟨by decide +kernel, by decide +kernel, by decide +kernel⟩
set_option maxRecDepth 20000 in
theorem co_PL_cut : Cond.code y_PL_cut b_PL_cut 3 (some .boolean) ∈ plWG := mt 549 rfl rfl
set_option maxRecDepth 20000 in
theorem im_PL_cut : Cond.instanceMethod y_PL_cut ∈ plWG := mt 547 (by decide +kernel) rfl
set_option maxRecDepth 20000 in
theorem se_PL_cut : Cond.selects "ProtectedLine" y_PL_cut y_PL_cut ∈ plWG := mt 548 (by decide +kernel) rfl
set_option maxRecDepth 20000 in
theorem mn_PL_cut : plMN y_PL_cut 2 := ⟨by decide +kernel, by decide +kernel, by decide +kernel⟩
set_option maxRecDepth 20000 in
theorem co_PL_isLine : Cond.code y_PL_isLine b_PL_isLine 1 (some .boolean) ∈ plWG := mt 552 rfl rfl
set_option maxRecDepth 20000 in
theorem st_PL_isLine : Cond.static y_PL_isLine ∈ plWG := mt 551 (by decide +kernel) rfl
set_option maxRecDepth 20000 in
theorem mn_PL_isLine : plMN y_PL_isLine 1 := ⟨by decide +kernel, by decide +kernel, by decide +kernel⟩
set_option maxRecDepth 20000 in
theorem co_PL_damage : Cond.code y_PL_damage b_PL_damage 4 (some .boolean) ∈ plWG := mt 556 rfl rfl
set_option maxRecDepth 20000 in
theorem im_PL_damage : Cond.instanceMethod y_PL_damage ∈ plWG := mt 554 (by decide +kernel) rfl
set_option maxRecDepth 20000 in
theorem se_PL_damage : Cond.selects "ProtectedLine" y_PL_damage y_PL_damage ∈ plWG := mt 555 (by decide +kernel) rfl
set_option maxRecDepth 20000 in
theorem mn_PL_damage : plMN y_PL_damage 3 := ⟨by decide +kernel, by decide +kernel, by decide +kernel⟩
set_option maxRecDepth 20000 in
theorem co_PL_isPlace : Cond.code y_PL_isPlace b_PL_isPlace 1 (some .boolean) ∈ plWG := mt 559 rfl rfl
set_option maxRecDepth 20000 in
theorem st_PL_isPlace : Cond.static y_PL_isPlace ∈ plWG := mt 558 (by decide +kernel) rfl
set_option maxRecDepth 20000 in
theorem mn_PL_isPlace : plMN y_PL_isPlace 1 := ⟨by decide +kernel, by decide +kernel, by decide +kernel⟩
set_option maxRecDepth 20000 in
theorem co_PL_drift : Cond.code y_PL_drift b_PL_drift 2 (some .boolean) ∈ plWG := mt 563 rfl rfl
set_option maxRecDepth 20000 in
theorem im_PL_drift : Cond.instanceMethod y_PL_drift ∈ plWG := mt 561 (by decide +kernel) rfl
set_option maxRecDepth 20000 in
theorem se_PL_drift : Cond.selects "ProtectedLine" y_PL_drift y_PL_drift ∈ plWG := mt 562 (by decide +kernel) rfl
set_option maxRecDepth 20000 in
theorem mn_PL_drift : plMN y_PL_drift 1 := ⟨by decide +kernel, by decide +kernel, by decide +kernel⟩
set_option maxRecDepth 20000 in
theorem co_NA_owe : Cond.code y_NA_owe b_NA_owe 2 (some .boolean) ∈ plWG := mt 567 rfl rfl
set_option maxRecDepth 20000 in
theorem im_NA_owe : Cond.instanceMethod y_NA_owe ∈ plWG := mt 565 (by decide +kernel) rfl
set_option maxRecDepth 20000 in
theorem se_NA_owe : Cond.selects "ProtectedLine$NodeA" y_NA_owe y_NA_owe ∈ plWG := mt 566 (by decide +kernel) rfl
set_option maxRecDepth 20000 in
theorem mn_NA_owe : plMN y_NA_owe 1 := ⟨by decide +kernel, by decide +kernel, by decide +kernel⟩
set_option maxRecDepth 20000 in
theorem co_PL_command : Cond.code y_PL_command b_PL_command 2 (some .boolean) ∈ plWG := mt 571 rfl rfl
set_option maxRecDepth 20000 in
theorem im_PL_command : Cond.instanceMethod y_PL_command ∈ plWG := mt 569 (by decide +kernel) rfl
set_option maxRecDepth 20000 in
theorem se_PL_command : Cond.selects "ProtectedLine" y_PL_command y_PL_command ∈ plWG := mt 570 (by decide +kernel) rfl
set_option maxRecDepth 20000 in
theorem mn_PL_command : plMN y_PL_command 1 := ⟨by decide +kernel, by decide +kernel, by decide +kernel⟩
set_option maxRecDepth 20000 in
theorem co_PL_waiting : Cond.code y_PL_waiting b_PL_waiting 1 (some .int) ∈ plWG := mt 575 rfl rfl
set_option maxRecDepth 20000 in
theorem im_PL_waiting : Cond.instanceMethod y_PL_waiting ∈ plWG := mt 573 (by decide +kernel) rfl
set_option maxRecDepth 20000 in
theorem se_PL_waiting : Cond.selects "ProtectedLine" y_PL_waiting y_PL_waiting ∈ plWG := mt 574 (by decide +kernel) rfl
set_option maxRecDepth 20000 in
theorem mn_PL_waiting : plMN y_PL_waiting 0 := ⟨by decide +kernel, by decide +kernel, by decide +kernel⟩
set_option maxRecDepth 20000 in
theorem co_PL_sent : Cond.code y_PL_sent b_PL_sent 3 (some .int) ∈ plWG := mt 579 rfl rfl
set_option maxRecDepth 20000 in
theorem im_PL_sent : Cond.instanceMethod y_PL_sent ∈ plWG := mt 577 (by decide +kernel) rfl
set_option maxRecDepth 20000 in
theorem se_PL_sent : Cond.selects "ProtectedLine" y_PL_sent y_PL_sent ∈ plWG := mt 578 (by decide +kernel) rfl
set_option maxRecDepth 20000 in
theorem mn_PL_sent : plMN y_PL_sent 2 := ⟨by decide +kernel, by decide +kernel, by decide +kernel⟩
set_option maxRecDepth 20000 in
theorem co_LN_latestByte : Cond.code y_LN_latestByte b_LN_latestByte 2 (some .int) ∈ plWG := mt 583 rfl rfl
set_option maxRecDepth 20000 in
theorem im_LN_latestByte : Cond.instanceMethod y_LN_latestByte ∈ plWG := mt 581 (by decide +kernel) rfl
set_option maxRecDepth 20000 in
theorem se_LN_latestByte : Cond.selects "ProtectedLine$Line" y_LN_latestByte y_LN_latestByte ∈ plWG := mt 582 (by decide +kernel) rfl
set_option maxRecDepth 20000 in
theorem mn_LN_latestByte : plMN y_LN_latestByte 1 := ⟨by decide +kernel, by decide +kernel, by decide +kernel⟩
set_option maxRecDepth 20000 in
theorem co_PL_alignment : Cond.code y_PL_alignment b_PL_alignment 2 (some .int) ∈ plWG := mt 587 rfl rfl
set_option maxRecDepth 20000 in
theorem im_PL_alignment : Cond.instanceMethod y_PL_alignment ∈ plWG := mt 585 (by decide +kernel) rfl
set_option maxRecDepth 20000 in
theorem se_PL_alignment : Cond.selects "ProtectedLine" y_PL_alignment y_PL_alignment ∈ plWG := mt 586 (by decide +kernel) rfl
set_option maxRecDepth 20000 in
theorem mn_PL_alignment : plMN y_PL_alignment 1 := ⟨by decide +kernel, by decide +kernel, by decide +kernel⟩
set_option maxRecDepth 20000 in
theorem co_PL_errors : Cond.code y_PL_errors b_PL_errors 2 (some .int) ∈ plWG := mt 591 rfl rfl
set_option maxRecDepth 20000 in
theorem im_PL_errors : Cond.instanceMethod y_PL_errors ∈ plWG := mt 589 (by decide +kernel) rfl
set_option maxRecDepth 20000 in
theorem se_PL_errors : Cond.selects "ProtectedLine" y_PL_errors y_PL_errors ∈ plWG := mt 590 (by decide +kernel) rfl
set_option maxRecDepth 20000 in
theorem mn_PL_errors : plMN y_PL_errors 1 := ⟨by decide +kernel, by decide +kernel, by decide +kernel⟩
set_option maxRecDepth 20000 in
theorem co_PL_request : Cond.code y_PL_request b_PL_request 1 (some .int) ∈ plWG := mt 595 rfl rfl
set_option maxRecDepth 20000 in
theorem im_PL_request : Cond.instanceMethod y_PL_request ∈ plWG := mt 593 (by decide +kernel) rfl
set_option maxRecDepth 20000 in
theorem se_PL_request : Cond.selects "ProtectedLine" y_PL_request y_PL_request ∈ plWG := mt 594 (by decide +kernel) rfl
set_option maxRecDepth 20000 in
theorem mn_PL_request : plMN y_PL_request 0 := ⟨by decide +kernel, by decide +kernel, by decide +kernel⟩
set_option maxRecDepth 20000 in
theorem co_PL_bridged : Cond.code y_PL_bridged b_PL_bridged 1 (some .boolean) ∈ plWG := mt 599 rfl rfl
set_option maxRecDepth 20000 in
theorem im_PL_bridged : Cond.instanceMethod y_PL_bridged ∈ plWG := mt 597 (by decide +kernel) rfl
set_option maxRecDepth 20000 in
theorem se_PL_bridged : Cond.selects "ProtectedLine" y_PL_bridged y_PL_bridged ∈ plWG := mt 598 (by decide +kernel) rfl
set_option maxRecDepth 20000 in
theorem mn_PL_bridged : plMN y_PL_bridged 0 := ⟨by decide +kernel, by decide +kernel, by decide +kernel⟩
set_option maxRecDepth 20000 in
theorem co_PL_selected : Cond.code y_PL_selected b_PL_selected 1 (some .int) ∈ plWG := mt 604 rfl rfl
set_option maxRecDepth 20000 in
theorem im_PL_selected : Cond.instanceMethod y_PL_selected ∈ plWG := mt 602 (by decide +kernel) rfl
set_option maxRecDepth 20000 in
theorem se_PL_selected : Cond.selects "ProtectedLine" y_PL_selected y_PL_selected ∈ plWG := mt 603 (by decide +kernel) rfl
set_option maxRecDepth 20000 in
theorem mn_PL_selected : plMN y_PL_selected 0 := ⟨by decide +kernel, by decide +kernel, by decide +kernel⟩
set_option maxRecDepth 20000 in
theorem co_PL_pointer : Cond.code y_PL_pointer b_PL_pointer 1 (some .int) ∈ plWG := mt 608 rfl rfl
set_option maxRecDepth 20000 in
theorem im_PL_pointer : Cond.instanceMethod y_PL_pointer ∈ plWG := mt 606 (by decide +kernel) rfl
set_option maxRecDepth 20000 in
theorem se_PL_pointer : Cond.selects "ProtectedLine" y_PL_pointer y_PL_pointer ∈ plWG := mt 607 (by decide +kernel) rfl
set_option maxRecDepth 20000 in
theorem mn_PL_pointer : plMN y_PL_pointer 0 := ⟨by decide +kernel, by decide +kernel, by decide +kernel⟩
set_option maxRecDepth 20000 in
theorem co_PL_pathErrors : Cond.code y_PL_pathErrors b_PL_pathErrors 1 (some .int) ∈ plWG := mt 612 rfl rfl
set_option maxRecDepth 20000 in
theorem im_PL_pathErrors : Cond.instanceMethod y_PL_pathErrors ∈ plWG := mt 610 (by decide +kernel) rfl
set_option maxRecDepth 20000 in
theorem se_PL_pathErrors : Cond.selects "ProtectedLine" y_PL_pathErrors y_PL_pathErrors ∈ plWG := mt 611 (by decide +kernel) rfl
set_option maxRecDepth 20000 in
theorem mn_PL_pathErrors : plMN y_PL_pathErrors 0 := ⟨by decide +kernel, by decide +kernel, by decide +kernel⟩
set_option maxRecDepth 20000 in
theorem co_PL_sync : Cond.code y_PL_sync b_PL_sync 1 (some .int) ∈ plWG := mt 616 rfl rfl
set_option maxRecDepth 20000 in
theorem im_PL_sync : Cond.instanceMethod y_PL_sync ∈ plWG := mt 614 (by decide +kernel) rfl
set_option maxRecDepth 20000 in
theorem se_PL_sync : Cond.selects "ProtectedLine" y_PL_sync y_PL_sync ∈ plWG := mt 615 (by decide +kernel) rfl
set_option maxRecDepth 20000 in
theorem mn_PL_sync : plMN y_PL_sync 0 := ⟨by decide +kernel, by decide +kernel, by decide +kernel⟩
set_option maxRecDepth 20000 in
theorem co_PL_delivered : Cond.code y_PL_delivered b_PL_delivered 1 (some .int) ∈ plWG := mt 620 rfl rfl
set_option maxRecDepth 20000 in
theorem im_PL_delivered : Cond.instanceMethod y_PL_delivered ∈ plWG := mt 618 (by decide +kernel) rfl
set_option maxRecDepth 20000 in
theorem se_PL_delivered : Cond.selects "ProtectedLine" y_PL_delivered y_PL_delivered ∈ plWG := mt 619 (by decide +kernel) rfl
set_option maxRecDepth 20000 in
theorem mn_PL_delivered : plMN y_PL_delivered 0 := ⟨by decide +kernel, by decide +kernel, by decide +kernel⟩
set_option maxRecDepth 20000 in
theorem co_PL_dropped : Cond.code y_PL_dropped b_PL_dropped 1 (some .int) ∈ plWG := mt 624 rfl rfl
set_option maxRecDepth 20000 in
theorem im_PL_dropped : Cond.instanceMethod y_PL_dropped ∈ plWG := mt 622 (by decide +kernel) rfl
set_option maxRecDepth 20000 in
theorem se_PL_dropped : Cond.selects "ProtectedLine" y_PL_dropped y_PL_dropped ∈ plWG := mt 623 (by decide +kernel) rfl
set_option maxRecDepth 20000 in
theorem mn_PL_dropped : plMN y_PL_dropped 0 := ⟨by decide +kernel, by decide +kernel, by decide +kernel⟩
set_option maxRecDepth 20000 in
theorem co_PL_got : Cond.code y_PL_got b_PL_got 3 (some .int) ∈ plWG := mt 628 rfl rfl
set_option maxRecDepth 20000 in
theorem im_PL_got : Cond.instanceMethod y_PL_got ∈ plWG := mt 626 (by decide +kernel) rfl
set_option maxRecDepth 20000 in
theorem se_PL_got : Cond.selects "ProtectedLine" y_PL_got y_PL_got ∈ plWG := mt 627 (by decide +kernel) rfl
set_option maxRecDepth 20000 in
theorem mn_PL_got : plMN y_PL_got 2 := ⟨by decide +kernel, by decide +kernel, by decide +kernel⟩
set_option maxRecDepth 20000 in
theorem co_SR_kept : Cond.code y_SR_kept b_SR_kept 4 (some .int) ∈ plWG := mt 632 rfl rfl
set_option maxRecDepth 20000 in
theorem im_SR_kept : Cond.instanceMethod y_SR_kept ∈ plWG := mt 630 (by decide +kernel) rfl
set_option maxRecDepth 20000 in
theorem se_SR_kept : Cond.selects "ProtectedLine$StreamReader" y_SR_kept y_SR_kept ∈ plWG := mt 631 (by decide +kernel) rfl
set_option maxRecDepth 20000 in
theorem mn_SR_kept : plMN y_SR_kept 2 := ⟨by decide +kernel, by decide +kernel, by decide +kernel⟩
set_option maxRecDepth 20000 in
theorem co_LAW_cell : Cond.code y_LAW_cell b_LAW_cell 2 (some .int) ∈ plWG := mt 635 rfl rfl
set_option maxRecDepth 20000 in
theorem st_LAW_cell : Cond.static y_LAW_cell ∈ plWG := mt 634 (by decide +kernel) rfl
set_option maxRecDepth 20000 in
theorem mn_LAW_cell : plMN y_LAW_cell 2 := ⟨by decide +kernel, by decide +kernel, by decide +kernel⟩
set_option maxRecDepth 20000 in
theorem co_RM_init : Cond.code y_RM_init b_RM_init 11 none ∈ plWG := mt 640 rfl rfl
set_option maxRecDepth 20000 in
theorem im_RM_init : Cond.instanceMethod y_RM_init ∈ plWG := mt 639 (by decide +kernel) rfl
set_option maxRecDepth 20000 in
theorem mn_RM_init : plMN y_RM_init 4 := ⟨by decide +kernel, by decide +kernel, by decide +kernel⟩
set_option maxRecDepth 20000 in
theorem co_RM_send : Cond.code y_RM_send b_RM_send 5 (some .boolean) ∈ plWG := mt 824 rfl rfl
set_option maxRecDepth 20000 in
theorem im_RM_send : Cond.instanceMethod y_RM_send ∈ plWG := mt 822 (by decide +kernel) rfl
set_option maxRecDepth 20000 in
theorem se_RM_send : Cond.selects "ProtectedLineModel" y_RM_send y_RM_send ∈ plWG := mt 823 (by decide +kernel) rfl
set_option maxRecDepth 20000 in
theorem mn_RM_send : plMN y_RM_send 2 := ⟨by decide +kernel, by decide +kernel, by decide +kernel⟩
set_option maxRecDepth 20000 in
theorem co_RM_cut : Cond.code y_RM_cut b_RM_cut 3 (some .boolean) ∈ plWG := mt 829 rfl rfl
set_option maxRecDepth 20000 in
theorem im_RM_cut : Cond.instanceMethod y_RM_cut ∈ plWG := mt 827 (by decide +kernel) rfl
set_option maxRecDepth 20000 in
theorem se_RM_cut : Cond.selects "ProtectedLineModel" y_RM_cut y_RM_cut ∈ plWG := mt 828 (by decide +kernel) rfl
set_option maxRecDepth 20000 in
theorem mn_RM_cut : plMN y_RM_cut 2 := ⟨by decide +kernel, by decide +kernel, by decide +kernel⟩
set_option maxRecDepth 20000 in
theorem co_RM_isLine : Cond.code y_RM_isLine b_RM_isLine 1 (some .boolean) ∈ plWG := mt 832 rfl rfl
set_option maxRecDepth 20000 in
theorem st_RM_isLine : Cond.static y_RM_isLine ∈ plWG := mt 831 (by decide +kernel) rfl
set_option maxRecDepth 20000 in
theorem mn_RM_isLine : plMN y_RM_isLine 1 := ⟨by decide +kernel, by decide +kernel, by decide +kernel⟩
set_option maxRecDepth 20000 in
theorem co_RM_damage : Cond.code y_RM_damage b_RM_damage 4 (some .boolean) ∈ plWG := mt 836 rfl rfl
set_option maxRecDepth 20000 in
theorem im_RM_damage : Cond.instanceMethod y_RM_damage ∈ plWG := mt 834 (by decide +kernel) rfl
set_option maxRecDepth 20000 in
theorem se_RM_damage : Cond.selects "ProtectedLineModel" y_RM_damage y_RM_damage ∈ plWG := mt 835 (by decide +kernel) rfl
set_option maxRecDepth 20000 in
theorem mn_RM_damage : plMN y_RM_damage 3 := ⟨by decide +kernel, by decide +kernel, by decide +kernel⟩
set_option maxRecDepth 20000 in
theorem co_RM_isPlace : Cond.code y_RM_isPlace b_RM_isPlace 1 (some .boolean) ∈ plWG := mt 839 rfl rfl
set_option maxRecDepth 20000 in
theorem st_RM_isPlace : Cond.static y_RM_isPlace ∈ plWG := mt 838 (by decide +kernel) rfl
set_option maxRecDepth 20000 in
theorem mn_RM_isPlace : plMN y_RM_isPlace 1 := ⟨by decide +kernel, by decide +kernel, by decide +kernel⟩
set_option maxRecDepth 20000 in
theorem co_RM_drift : Cond.code y_RM_drift b_RM_drift 2 (some .boolean) ∈ plWG := mt 843 rfl rfl
set_option maxRecDepth 20000 in
theorem im_RM_drift : Cond.instanceMethod y_RM_drift ∈ plWG := mt 841 (by decide +kernel) rfl
set_option maxRecDepth 20000 in
theorem se_RM_drift : Cond.selects "ProtectedLineModel" y_RM_drift y_RM_drift ∈ plWG := mt 842 (by decide +kernel) rfl
set_option maxRecDepth 20000 in
theorem mn_RM_drift : plMN y_RM_drift 1 := ⟨by decide +kernel, by decide +kernel, by decide +kernel⟩
set_option maxRecDepth 20000 in
theorem co_RM_command : Cond.code y_RM_command b_RM_command 2 (some .boolean) ∈ plWG := mt 847 rfl rfl
set_option maxRecDepth 20000 in
theorem im_RM_command : Cond.instanceMethod y_RM_command ∈ plWG := mt 845 (by decide +kernel) rfl
set_option maxRecDepth 20000 in
theorem se_RM_command : Cond.selects "ProtectedLineModel" y_RM_command y_RM_command ∈ plWG := mt 846 (by decide +kernel) rfl
set_option maxRecDepth 20000 in
theorem mn_RM_command : plMN y_RM_command 1 := ⟨by decide +kernel, by decide +kernel, by decide +kernel⟩
set_option maxRecDepth 20000 in
theorem co_RM_tick : Cond.code y_RM_tick b_RM_tick 3 (some .boolean) ∈ plWG := mt 851 rfl rfl
set_option maxRecDepth 20000 in
theorem im_RM_tick : Cond.instanceMethod y_RM_tick ∈ plWG := mt 849 (by decide +kernel) rfl
set_option maxRecDepth 20000 in
theorem se_RM_tick : Cond.selects "ProtectedLineModel" y_RM_tick y_RM_tick ∈ plWG := mt 850 (by decide +kernel) rfl
set_option maxRecDepth 20000 in
theorem mn_RM_tick : plMN y_RM_tick 1 := ⟨by decide +kernel, by decide +kernel, by decide +kernel⟩
set_option maxRecDepth 20000 in
theorem co_RM_hear : Cond.code y_RM_hear b_RM_hear 2 none ∈ plWG := mt 855 rfl rfl
set_option maxRecDepth 20000 in
theorem im_RM_hear : Cond.instanceMethod y_RM_hear ∈ plWG := mt 854 (by decide +kernel) rfl
set_option maxRecDepth 20000 in
theorem se_RM_hear : Cond.selects "ProtectedLineModel" y_RM_hear y_RM_hear ∈ plWG := ms (y := y_RM_hear) (n := 59) 21 (by decide +kernel)
set_option maxRecDepth 20000 in
theorem mn_RM_hear : plMN y_RM_hear 0 := ⟨by decide +kernel, by decide +kernel, by decide +kernel⟩
set_option maxRecDepth 20000 in
theorem co_RM_build : Cond.code y_RM_build b_RM_build 5 none ∈ plWG := mt 859 rfl rfl
set_option maxRecDepth 20000 in
theorem im_RM_build : Cond.instanceMethod y_RM_build ∈ plWG := mt 858 (by decide +kernel) rfl
set_option maxRecDepth 20000 in
theorem se_RM_build : Cond.selects "ProtectedLineModel" y_RM_build y_RM_build ∈ plWG := ms (y := y_RM_build) (n := 59) 22 (by decide +kernel)
set_option maxRecDepth 20000 in
theorem mn_RM_build : plMN y_RM_build 0 := ⟨by decide +kernel, by decide +kernel, by decide +kernel⟩
set_option maxRecDepth 20000 in
theorem co_RM_contained : Cond.code y_RM_contained b_RM_contained 2 (some .int) ∈ plWG := mt 863 rfl rfl
set_option maxRecDepth 20000 in
theorem im_RM_contained : Cond.instanceMethod y_RM_contained ∈ plWG := mt 862 (by decide +kernel) rfl
set_option maxRecDepth 20000 in
theorem se_RM_contained : Cond.selects "ProtectedLineModel" y_RM_contained y_RM_contained ∈ plWG := ms (y := y_RM_contained) (n := 59) 23 (by decide +kernel)
set_option maxRecDepth 20000 in
theorem mn_RM_contained : plMN y_RM_contained 0 := ⟨by decide +kernel, by decide +kernel, by decide +kernel⟩
set_option maxRecDepth 20000 in
theorem co_RM_streamed : Cond.code y_RM_streamed b_RM_streamed 1 (some .int) ∈ plWG := mt 867 rfl rfl
set_option maxRecDepth 20000 in
theorem im_RM_streamed : Cond.instanceMethod y_RM_streamed ∈ plWG := mt 866 (by decide +kernel) rfl
set_option maxRecDepth 20000 in
theorem se_RM_streamed : Cond.selects "ProtectedLineModel" y_RM_streamed y_RM_streamed ∈ plWG := ms (y := y_RM_streamed) (n := 59) 24 (by decide +kernel)
set_option maxRecDepth 20000 in
theorem mn_RM_streamed : plMN y_RM_streamed 0 := ⟨by decide +kernel, by decide +kernel, by decide +kernel⟩
set_option maxRecDepth 20000 in
theorem co_RM_load : Cond.code y_RM_load b_RM_load 6 none ∈ plWG := mt 871 rfl rfl
set_option maxRecDepth 20000 in
theorem im_RM_load : Cond.instanceMethod y_RM_load ∈ plWG := mt 870 (by decide +kernel) rfl
set_option maxRecDepth 20000 in
theorem se_RM_load : Cond.selects "ProtectedLineModel" y_RM_load y_RM_load ∈ plWG := ms (y := y_RM_load) (n := 59) 25 (by decide +kernel)
set_option maxRecDepth 20000 in
theorem mn_RM_load : plMN y_RM_load 0 := ⟨by decide +kernel, by decide +kernel, by decide +kernel⟩
set_option maxRecDepth 20000 in
theorem co_RM_hash : Cond.code y_RM_hash b_RM_hash 3 (some .int) ∈ plWG := mt 874 rfl rfl
set_option maxRecDepth 20000 in
theorem st_RM_hash : Cond.static y_RM_hash ∈ plWG := mt 873 (by decide +kernel) rfl
set_option maxRecDepth 20000 in
theorem mn_RM_hash : plMN y_RM_hash 1 := ⟨by decide +kernel, by decide +kernel, by decide +kernel⟩
set_option maxRecDepth 20000 in
theorem co_RM_put : Cond.code y_RM_put b_RM_put 7 none ∈ plWG := mt 878 rfl rfl
set_option maxRecDepth 20000 in
theorem im_RM_put : Cond.instanceMethod y_RM_put ∈ plWG := mt 877 (by decide +kernel) rfl
set_option maxRecDepth 20000 in
theorem se_RM_put : Cond.selects "ProtectedLineModel" y_RM_put y_RM_put ∈ plWG := ms (y := y_RM_put) (n := 59) 26 (by decide +kernel)
set_option maxRecDepth 20000 in
theorem mn_RM_put : plMN y_RM_put 1 := ⟨by decide +kernel, by decide +kernel, by decide +kernel⟩
set_option maxRecDepth 20000 in
theorem co_RM_arrive : Cond.code y_RM_arrive b_RM_arrive 5 none ∈ plWG := mt 882 rfl rfl
set_option maxRecDepth 20000 in
theorem im_RM_arrive : Cond.instanceMethod y_RM_arrive ∈ plWG := mt 881 (by decide +kernel) rfl
set_option maxRecDepth 20000 in
theorem se_RM_arrive : Cond.selects "ProtectedLineModel" y_RM_arrive y_RM_arrive ∈ plWG := ms (y := y_RM_arrive) (n := 59) 27 (by decide +kernel)
set_option maxRecDepth 20000 in
theorem mn_RM_arrive : plMN y_RM_arrive 0 := ⟨by decide +kernel, by decide +kernel, by decide +kernel⟩
set_option maxRecDepth 20000 in
theorem co_RM_align : Cond.code y_RM_align b_RM_align 3 none ∈ plWG := mt 886 rfl rfl
set_option maxRecDepth 20000 in
theorem im_RM_align : Cond.instanceMethod y_RM_align ∈ plWG := mt 885 (by decide +kernel) rfl
set_option maxRecDepth 20000 in
theorem se_RM_align : Cond.selects "ProtectedLineModel" y_RM_align y_RM_align ∈ plWG := ms (y := y_RM_align) (n := 59) 28 (by decide +kernel)
set_option maxRecDepth 20000 in
theorem mn_RM_align : plMN y_RM_align 1 := ⟨by decide +kernel, by decide +kernel, by decide +kernel⟩
set_option maxRecDepth 20000 in
theorem co_RM_ones : Cond.code y_RM_ones b_RM_ones 3 (some .int) ∈ plWG := mt 889 rfl rfl
set_option maxRecDepth 20000 in
theorem st_RM_ones : Cond.static y_RM_ones ∈ plWG := mt 888 (by decide +kernel) rfl
set_option maxRecDepth 20000 in
theorem mn_RM_ones : plMN y_RM_ones 1 := ⟨by decide +kernel, by decide +kernel, by decide +kernel⟩
set_option maxRecDepth 20000 in
theorem co_RM_listen : Cond.code y_RM_listen b_RM_listen 2 none ∈ plWG := mt 893 rfl rfl
set_option maxRecDepth 20000 in
theorem im_RM_listen : Cond.instanceMethod y_RM_listen ∈ plWG := mt 892 (by decide +kernel) rfl
set_option maxRecDepth 20000 in
theorem se_RM_listen : Cond.selects "ProtectedLineModel" y_RM_listen y_RM_listen ∈ plWG := ms (y := y_RM_listen) (n := 59) 29 (by decide +kernel)
set_option maxRecDepth 20000 in
theorem mn_RM_listen : plMN y_RM_listen 0 := ⟨by decide +kernel, by decide +kernel, by decide +kernel⟩
set_option maxRecDepth 20000 in
theorem co_RM_decide : Cond.code y_RM_decide b_RM_decide 4 none ∈ plWG := mt 897 rfl rfl
set_option maxRecDepth 20000 in
theorem im_RM_decide : Cond.instanceMethod y_RM_decide ∈ plWG := mt 896 (by decide +kernel) rfl
set_option maxRecDepth 20000 in
theorem se_RM_decide : Cond.selects "ProtectedLineModel" y_RM_decide y_RM_decide ∈ plWG := ms (y := y_RM_decide) (n := 59) 30 (by decide +kernel)
set_option maxRecDepth 20000 in
theorem mn_RM_decide : plMN y_RM_decide 0 := ⟨by decide +kernel, by decide +kernel, by decide +kernel⟩
set_option maxRecDepth 20000 in
theorem co_RM_select : Cond.code y_RM_select b_RM_select 4 none ∈ plWG := mt 901 rfl rfl
set_option maxRecDepth 20000 in
theorem im_RM_select : Cond.instanceMethod y_RM_select ∈ plWG := mt 900 (by decide +kernel) rfl
set_option maxRecDepth 20000 in
theorem se_RM_select : Cond.selects "ProtectedLineModel" y_RM_select y_RM_select ∈ plWG := ms (y := y_RM_select) (n := 59) 31 (by decide +kernel)
set_option maxRecDepth 20000 in
theorem mn_RM_select : plMN y_RM_select 0 := ⟨by decide +kernel, by decide +kernel, by decide +kernel⟩
set_option maxRecDepth 20000 in
theorem co_RM_read : Cond.code y_RM_read b_RM_read 9 none ∈ plWG := mt 905 rfl rfl
set_option maxRecDepth 20000 in
theorem im_RM_read : Cond.instanceMethod y_RM_read ∈ plWG := mt 904 (by decide +kernel) rfl
set_option maxRecDepth 20000 in
theorem se_RM_read : Cond.selects "ProtectedLineModel" y_RM_read y_RM_read ∈ plWG := ms (y := y_RM_read) (n := 59) 32 (by decide +kernel)
set_option maxRecDepth 20000 in
theorem mn_RM_read : plMN y_RM_read 2 := ⟨by decide +kernel, by decide +kernel, by decide +kernel⟩
set_option maxRecDepth 20000 in
theorem co_RM_plain : Cond.code y_RM_plain b_RM_plain 1 (some .int) ∈ plWG := mt 908 rfl rfl
set_option maxRecDepth 20000 in
theorem st_RM_plain : Cond.static y_RM_plain ∈ plWG := mt 907 (by decide +kernel) rfl
set_option maxRecDepth 20000 in
theorem mn_RM_plain : plMN y_RM_plain 1 := ⟨by decide +kernel, by decide +kernel, by decide +kernel⟩
set_option maxRecDepth 20000 in
theorem co_RM_third : Cond.code y_RM_third b_RM_third 2 (some .boolean) ∈ plWG := mt 912 rfl rfl
set_option maxRecDepth 20000 in
theorem im_RM_third : Cond.instanceMethod y_RM_third ∈ plWG := mt 911 (by decide +kernel) rfl
set_option maxRecDepth 20000 in
theorem se_RM_third : Cond.selects "ProtectedLineModel" y_RM_third y_RM_third ∈ plWG := ms (y := y_RM_third) (n := 59) 33 (by decide +kernel)
set_option maxRecDepth 20000 in
theorem mn_RM_third : plMN y_RM_third 1 := ⟨by decide +kernel, by decide +kernel, by decide +kernel⟩
set_option maxRecDepth 20000 in
theorem co_RM_hunt : Cond.code y_RM_hunt b_RM_hunt 1 none ∈ plWG := mt 916 rfl rfl
set_option maxRecDepth 20000 in
theorem im_RM_hunt : Cond.instanceMethod y_RM_hunt ∈ plWG := mt 915 (by decide +kernel) rfl
set_option maxRecDepth 20000 in
theorem se_RM_hunt : Cond.selects "ProtectedLineModel" y_RM_hunt y_RM_hunt ∈ plWG := ms (y := y_RM_hunt) (n := 59) 34 (by decide +kernel)
set_option maxRecDepth 20000 in
theorem mn_RM_hunt : plMN y_RM_hunt 0 := ⟨by decide +kernel, by decide +kernel, by decide +kernel⟩
set_option maxRecDepth 20000 in
theorem co_RM_found : Cond.code y_RM_found b_RM_found 2 none ∈ plWG := mt 920 rfl rfl
set_option maxRecDepth 20000 in
theorem im_RM_found : Cond.instanceMethod y_RM_found ∈ plWG := mt 919 (by decide +kernel) rfl
set_option maxRecDepth 20000 in
theorem se_RM_found : Cond.selects "ProtectedLineModel" y_RM_found y_RM_found ∈ plWG := ms (y := y_RM_found) (n := 59) 35 (by decide +kernel)
set_option maxRecDepth 20000 in
theorem mn_RM_found : plMN y_RM_found 1 := ⟨by decide +kernel, by decide +kernel, by decide +kernel⟩
set_option maxRecDepth 20000 in
theorem co_RM_unread : Cond.code y_RM_unread b_RM_unread 2 (some .boolean) ∈ plWG := mt 924 rfl rfl
set_option maxRecDepth 20000 in
theorem im_RM_unread : Cond.instanceMethod y_RM_unread ∈ plWG := mt 923 (by decide +kernel) rfl
set_option maxRecDepth 20000 in
theorem se_RM_unread : Cond.selects "ProtectedLineModel" y_RM_unread y_RM_unread ∈ plWG := ms (y := y_RM_unread) (n := 59) 36 (by decide +kernel)
set_option maxRecDepth 20000 in
theorem mn_RM_unread : plMN y_RM_unread 1 := ⟨by decide +kernel, by decide +kernel, by decide +kernel⟩
set_option maxRecDepth 20000 in
theorem co_RM_lose : Cond.code y_RM_lose b_RM_lose 1 none ∈ plWG := mt 928 rfl rfl
set_option maxRecDepth 20000 in
theorem im_RM_lose : Cond.instanceMethod y_RM_lose ∈ plWG := mt 927 (by decide +kernel) rfl
set_option maxRecDepth 20000 in
theorem se_RM_lose : Cond.selects "ProtectedLineModel" y_RM_lose y_RM_lose ∈ plWG := ms (y := y_RM_lose) (n := 59) 37 (by decide +kernel)
set_option maxRecDepth 20000 in
theorem mn_RM_lose : plMN y_RM_lose 0 := ⟨by decide +kernel, by decide +kernel, by decide +kernel⟩
set_option maxRecDepth 20000 in
theorem co_RM_give : Cond.code y_RM_give b_RM_give 3 none ∈ plWG := mt 932 rfl rfl
set_option maxRecDepth 20000 in
theorem im_RM_give : Cond.instanceMethod y_RM_give ∈ plWG := mt 931 (by decide +kernel) rfl
set_option maxRecDepth 20000 in
theorem se_RM_give : Cond.selects "ProtectedLineModel" y_RM_give y_RM_give ∈ plWG := ms (y := y_RM_give) (n := 59) 38 (by decide +kernel)
set_option maxRecDepth 20000 in
theorem mn_RM_give : plMN y_RM_give 2 := ⟨by decide +kernel, by decide +kernel, by decide +kernel⟩
set_option maxRecDepth 20000 in
theorem co_RM_take : Cond.code y_RM_take b_RM_take 2 none ∈ plWG := mt 936 rfl rfl
set_option maxRecDepth 20000 in
theorem im_RM_take : Cond.instanceMethod y_RM_take ∈ plWG := mt 935 (by decide +kernel) rfl
set_option maxRecDepth 20000 in
theorem se_RM_take : Cond.selects "ProtectedLineModel" y_RM_take y_RM_take ∈ plWG := ms (y := y_RM_take) (n := 59) 39 (by decide +kernel)
set_option maxRecDepth 20000 in
theorem mn_RM_take : plMN y_RM_take 1 := ⟨by decide +kernel, by decide +kernel, by decide +kernel⟩
set_option maxRecDepth 20000 in
theorem co_RM_content : Cond.code y_RM_content b_RM_content 3 none ∈ plWG := mt 940 rfl rfl
set_option maxRecDepth 20000 in
theorem im_RM_content : Cond.instanceMethod y_RM_content ∈ plWG := mt 939 (by decide +kernel) rfl
set_option maxRecDepth 20000 in
theorem se_RM_content : Cond.selects "ProtectedLineModel" y_RM_content y_RM_content ∈ plWG := ms (y := y_RM_content) (n := 59) 40 (by decide +kernel)
set_option maxRecDepth 20000 in
theorem mn_RM_content : plMN y_RM_content 1 := ⟨by decide +kernel, by decide +kernel, by decide +kernel⟩
set_option maxRecDepth 20000 in
theorem co_RM_finish : Cond.code y_RM_finish b_RM_finish 4 none ∈ plWG := mt 944 rfl rfl
set_option maxRecDepth 20000 in
theorem im_RM_finish : Cond.instanceMethod y_RM_finish ∈ plWG := mt 943 (by decide +kernel) rfl
set_option maxRecDepth 20000 in
theorem se_RM_finish : Cond.selects "ProtectedLineModel" y_RM_finish y_RM_finish ∈ plWG := ms (y := y_RM_finish) (n := 59) 41 (by decide +kernel)
set_option maxRecDepth 20000 in
theorem mn_RM_finish : plMN y_RM_finish 0 := ⟨by decide +kernel, by decide +kernel, by decide +kernel⟩
set_option maxRecDepth 20000 in
theorem co_RM_pair : Cond.code y_RM_pair b_RM_pair 3 none ∈ plWG := mt 948 rfl rfl
set_option maxRecDepth 20000 in
theorem im_RM_pair : Cond.instanceMethod y_RM_pair ∈ plWG := mt 947 (by decide +kernel) rfl
set_option maxRecDepth 20000 in
theorem se_RM_pair : Cond.selects "ProtectedLineModel" y_RM_pair y_RM_pair ∈ plWG := ms (y := y_RM_pair) (n := 59) 42 (by decide +kernel)
set_option maxRecDepth 20000 in
theorem mn_RM_pair : plMN y_RM_pair 2 := ⟨by decide +kernel, by decide +kernel, by decide +kernel⟩
set_option maxRecDepth 20000 in
theorem co_RM_header : Cond.code y_RM_header b_RM_header 2 (some .boolean) ∈ plWG := mt 951 rfl rfl
set_option maxRecDepth 20000 in
theorem st_RM_header : Cond.static y_RM_header ∈ plWG := mt 950 (by decide +kernel) rfl
set_option maxRecDepth 20000 in
theorem mn_RM_header : plMN y_RM_header 2 := ⟨by decide +kernel, by decide +kernel, by decide +kernel⟩
set_option maxRecDepth 20000 in
theorem co_RM_enter : Cond.code y_RM_enter b_RM_enter 2 none ∈ plWG := mt 955 rfl rfl
set_option maxRecDepth 20000 in
theorem im_RM_enter : Cond.instanceMethod y_RM_enter ∈ plWG := mt 954 (by decide +kernel) rfl
set_option maxRecDepth 20000 in
theorem se_RM_enter : Cond.selects "ProtectedLineModel" y_RM_enter y_RM_enter ∈ plWG := ms (y := y_RM_enter) (n := 59) 43 (by decide +kernel)
set_option maxRecDepth 20000 in
theorem mn_RM_enter : plMN y_RM_enter 1 := ⟨by decide +kernel, by decide +kernel, by decide +kernel⟩
set_option maxRecDepth 20000 in
theorem co_RM_mend : Cond.code y_RM_mend b_RM_mend 5 none ∈ plWG := mt 959 rfl rfl
set_option maxRecDepth 20000 in
theorem im_RM_mend : Cond.instanceMethod y_RM_mend ∈ plWG := mt 958 (by decide +kernel) rfl
set_option maxRecDepth 20000 in
theorem se_RM_mend : Cond.selects "ProtectedLineModel" y_RM_mend y_RM_mend ∈ plWG := ms (y := y_RM_mend) (n := 59) 44 (by decide +kernel)
set_option maxRecDepth 20000 in
theorem mn_RM_mend : plMN y_RM_mend 2 := ⟨by decide +kernel, by decide +kernel, by decide +kernel⟩
set_option maxRecDepth 20000 in
theorem co_RM_gap : Cond.code y_RM_gap b_RM_gap 1 none ∈ plWG := mt 963 rfl rfl
set_option maxRecDepth 20000 in
theorem im_RM_gap : Cond.instanceMethod y_RM_gap ∈ plWG := mt 962 (by decide +kernel) rfl
set_option maxRecDepth 20000 in
theorem se_RM_gap : Cond.selects "ProtectedLineModel" y_RM_gap y_RM_gap ∈ plWG := ms (y := y_RM_gap) (n := 59) 45 (by decide +kernel)
set_option maxRecDepth 20000 in
theorem mn_RM_gap : plMN y_RM_gap 0 := ⟨by decide +kernel, by decide +kernel, by decide +kernel⟩
set_option maxRecDepth 20000 in
theorem co_RM_waiting : Cond.code y_RM_waiting b_RM_waiting 1 (some .int) ∈ plWG := mt 967 rfl rfl
set_option maxRecDepth 20000 in
theorem im_RM_waiting : Cond.instanceMethod y_RM_waiting ∈ plWG := mt 965 (by decide +kernel) rfl
set_option maxRecDepth 20000 in
theorem se_RM_waiting : Cond.selects "ProtectedLineModel" y_RM_waiting y_RM_waiting ∈ plWG := mt 966 (by decide +kernel) rfl
set_option maxRecDepth 20000 in
theorem mn_RM_waiting : plMN y_RM_waiting 0 := ⟨by decide +kernel, by decide +kernel, by decide +kernel⟩
set_option maxRecDepth 20000 in
theorem co_RM_sent : Cond.code y_RM_sent b_RM_sent 3 (some .int) ∈ plWG := mt 971 rfl rfl
set_option maxRecDepth 20000 in
theorem im_RM_sent : Cond.instanceMethod y_RM_sent ∈ plWG := mt 969 (by decide +kernel) rfl
set_option maxRecDepth 20000 in
theorem se_RM_sent : Cond.selects "ProtectedLineModel" y_RM_sent y_RM_sent ∈ plWG := mt 970 (by decide +kernel) rfl
set_option maxRecDepth 20000 in
theorem mn_RM_sent : plMN y_RM_sent 2 := ⟨by decide +kernel, by decide +kernel, by decide +kernel⟩
set_option maxRecDepth 20000 in
theorem co_RM_alignment : Cond.code y_RM_alignment b_RM_alignment 2 (some .int) ∈ plWG := mt 975 rfl rfl
set_option maxRecDepth 20000 in
theorem im_RM_alignment : Cond.instanceMethod y_RM_alignment ∈ plWG := mt 973 (by decide +kernel) rfl
set_option maxRecDepth 20000 in
theorem se_RM_alignment : Cond.selects "ProtectedLineModel" y_RM_alignment y_RM_alignment ∈ plWG := mt 974 (by decide +kernel) rfl
set_option maxRecDepth 20000 in
theorem mn_RM_alignment : plMN y_RM_alignment 1 := ⟨by decide +kernel, by decide +kernel, by decide +kernel⟩
set_option maxRecDepth 20000 in
theorem co_RM_errors : Cond.code y_RM_errors b_RM_errors 2 (some .int) ∈ plWG := mt 979 rfl rfl
set_option maxRecDepth 20000 in
theorem im_RM_errors : Cond.instanceMethod y_RM_errors ∈ plWG := mt 977 (by decide +kernel) rfl
set_option maxRecDepth 20000 in
theorem se_RM_errors : Cond.selects "ProtectedLineModel" y_RM_errors y_RM_errors ∈ plWG := mt 978 (by decide +kernel) rfl
set_option maxRecDepth 20000 in
theorem mn_RM_errors : plMN y_RM_errors 1 := ⟨by decide +kernel, by decide +kernel, by decide +kernel⟩
set_option maxRecDepth 20000 in
theorem co_RM_request : Cond.code y_RM_request b_RM_request 1 (some .int) ∈ plWG := mt 983 rfl rfl
set_option maxRecDepth 20000 in
theorem im_RM_request : Cond.instanceMethod y_RM_request ∈ plWG := mt 981 (by decide +kernel) rfl
set_option maxRecDepth 20000 in
theorem se_RM_request : Cond.selects "ProtectedLineModel" y_RM_request y_RM_request ∈ plWG := mt 982 (by decide +kernel) rfl
set_option maxRecDepth 20000 in
theorem mn_RM_request : plMN y_RM_request 0 := ⟨by decide +kernel, by decide +kernel, by decide +kernel⟩
set_option maxRecDepth 20000 in
theorem co_RM_bridged : Cond.code y_RM_bridged b_RM_bridged 1 (some .boolean) ∈ plWG := mt 987 rfl rfl
set_option maxRecDepth 20000 in
theorem im_RM_bridged : Cond.instanceMethod y_RM_bridged ∈ plWG := mt 985 (by decide +kernel) rfl
set_option maxRecDepth 20000 in
theorem se_RM_bridged : Cond.selects "ProtectedLineModel" y_RM_bridged y_RM_bridged ∈ plWG := mt 986 (by decide +kernel) rfl
set_option maxRecDepth 20000 in
theorem mn_RM_bridged : plMN y_RM_bridged 0 := ⟨by decide +kernel, by decide +kernel, by decide +kernel⟩
set_option maxRecDepth 20000 in
theorem co_RM_selected : Cond.code y_RM_selected b_RM_selected 1 (some .int) ∈ plWG := mt 991 rfl rfl
set_option maxRecDepth 20000 in
theorem im_RM_selected : Cond.instanceMethod y_RM_selected ∈ plWG := mt 989 (by decide +kernel) rfl
set_option maxRecDepth 20000 in
theorem se_RM_selected : Cond.selects "ProtectedLineModel" y_RM_selected y_RM_selected ∈ plWG := mt 990 (by decide +kernel) rfl
set_option maxRecDepth 20000 in
theorem mn_RM_selected : plMN y_RM_selected 0 := ⟨by decide +kernel, by decide +kernel, by decide +kernel⟩
set_option maxRecDepth 20000 in
theorem co_RM_pointer : Cond.code y_RM_pointer b_RM_pointer 1 (some .int) ∈ plWG := mt 995 rfl rfl
set_option maxRecDepth 20000 in
theorem im_RM_pointer : Cond.instanceMethod y_RM_pointer ∈ plWG := mt 993 (by decide +kernel) rfl
set_option maxRecDepth 20000 in
theorem se_RM_pointer : Cond.selects "ProtectedLineModel" y_RM_pointer y_RM_pointer ∈ plWG := mt 994 (by decide +kernel) rfl
set_option maxRecDepth 20000 in
theorem mn_RM_pointer : plMN y_RM_pointer 0 := ⟨by decide +kernel, by decide +kernel, by decide +kernel⟩
set_option maxRecDepth 20000 in
theorem co_RM_pathErrors : Cond.code y_RM_pathErrors b_RM_pathErrors 1 (some .int) ∈ plWG := mt 999 rfl rfl
set_option maxRecDepth 20000 in
theorem im_RM_pathErrors : Cond.instanceMethod y_RM_pathErrors ∈ plWG := mt 997 (by decide +kernel) rfl
set_option maxRecDepth 20000 in
theorem se_RM_pathErrors : Cond.selects "ProtectedLineModel" y_RM_pathErrors y_RM_pathErrors ∈ plWG := mt 998 (by decide +kernel) rfl
set_option maxRecDepth 20000 in
theorem mn_RM_pathErrors : plMN y_RM_pathErrors 0 := ⟨by decide +kernel, by decide +kernel, by decide +kernel⟩
set_option maxRecDepth 20000 in
theorem co_RM_sync : Cond.code y_RM_sync b_RM_sync 1 (some .int) ∈ plWG := mt 1003 rfl rfl
set_option maxRecDepth 20000 in
theorem im_RM_sync : Cond.instanceMethod y_RM_sync ∈ plWG := mt 1001 (by decide +kernel) rfl
set_option maxRecDepth 20000 in
theorem se_RM_sync : Cond.selects "ProtectedLineModel" y_RM_sync y_RM_sync ∈ plWG := mt 1002 (by decide +kernel) rfl
set_option maxRecDepth 20000 in
theorem mn_RM_sync : plMN y_RM_sync 0 := ⟨by decide +kernel, by decide +kernel, by decide +kernel⟩
set_option maxRecDepth 20000 in
theorem co_RM_delivered : Cond.code y_RM_delivered b_RM_delivered 1 (some .int) ∈ plWG := mt 1007 rfl rfl
set_option maxRecDepth 20000 in
theorem im_RM_delivered : Cond.instanceMethod y_RM_delivered ∈ plWG := mt 1005 (by decide +kernel) rfl
set_option maxRecDepth 20000 in
theorem se_RM_delivered : Cond.selects "ProtectedLineModel" y_RM_delivered y_RM_delivered ∈ plWG := mt 1006 (by decide +kernel) rfl
set_option maxRecDepth 20000 in
theorem mn_RM_delivered : plMN y_RM_delivered 0 := ⟨by decide +kernel, by decide +kernel, by decide +kernel⟩
set_option maxRecDepth 20000 in
theorem co_RM_dropped : Cond.code y_RM_dropped b_RM_dropped 1 (some .int) ∈ plWG := mt 1011 rfl rfl
set_option maxRecDepth 20000 in
theorem im_RM_dropped : Cond.instanceMethod y_RM_dropped ∈ plWG := mt 1009 (by decide +kernel) rfl
set_option maxRecDepth 20000 in
theorem se_RM_dropped : Cond.selects "ProtectedLineModel" y_RM_dropped y_RM_dropped ∈ plWG := mt 1010 (by decide +kernel) rfl
set_option maxRecDepth 20000 in
theorem mn_RM_dropped : plMN y_RM_dropped 0 := ⟨by decide +kernel, by decide +kernel, by decide +kernel⟩
set_option maxRecDepth 20000 in
theorem co_RM_got : Cond.code y_RM_got b_RM_got 3 (some .int) ∈ plWG := mt 1015 rfl rfl
set_option maxRecDepth 20000 in
theorem im_RM_got : Cond.instanceMethod y_RM_got ∈ plWG := mt 1013 (by decide +kernel) rfl
set_option maxRecDepth 20000 in
theorem se_RM_got : Cond.selects "ProtectedLineModel" y_RM_got y_RM_got ∈ plWG := mt 1014 (by decide +kernel) rfl
set_option maxRecDepth 20000 in
theorem mn_RM_got : plMN y_RM_got 2 := ⟨by decide +kernel, by decide +kernel, by decide +kernel⟩
set_option maxRecDepth 20000 in
theorem oi_LN_3 : Cond.methodLink "ProtectedLine$Line" 3 objectInit ∈ plWG ∧ Cond.instanceMethod objectInit ∈ plWG ∧ Cond.code objectInit ⟨#[0xb1]⟩ 1 none ∈ plWG := ⟨mt 125 (by decide +kernel) rfl, mt 22 (by decide +kernel) rfl, mt 23 rfl rfl⟩
set_option maxRecDepth 20000 in
theorem fw_LN_11 : Cond.fieldLink "ProtectedLine$Line" 11 "ProtectedLine$Line" "underWay" "[I" ∈ plWG := mt 127 (by decide +kernel) rfl
set_option maxRecDepth 20000 in
theorem fl_LN_11 : plFL "ProtectedLine$Line" 11 "ProtectedLine$Line" "underWay" "[I" := Or.inl fw_LN_11
set_option maxRecDepth 20000 in
theorem fw_LN_15 : Cond.fieldLink "ProtectedLine$Line" 15 "ProtectedLine$Line" "harm" "[I" ∈ plWG := mt 132 (by decide +kernel) rfl
set_option maxRecDepth 20000 in
theorem fl_LN_15 : plFL "ProtectedLine$Line" 15 "ProtectedLine$Line" "harm" "[I" := Or.inl fw_LN_15
set_option maxRecDepth 20000 in
theorem fw_LN_18 : Cond.fieldLink "ProtectedLine$Line" 18 "ProtectedLine$Line" "arrived" "[I" ∈ plWG := mt 134 (by decide +kernel) rfl
set_option maxRecDepth 20000 in
theorem fl_LN_18 : plFL "ProtectedLine$Line" 18 "ProtectedLine$Line" "arrived" "[I" := Or.inl fw_LN_18
set_option maxRecDepth 20000 in
theorem fw_LN_21 : Cond.fieldLink "ProtectedLine$Line" 21 "ProtectedLine$Line" "delay" "I" ∈ plWG := mt 126 (by decide +kernel) rfl
set_option maxRecDepth 20000 in
theorem fl_LN_21 : plFL "ProtectedLine$Line" 21 "ProtectedLine$Line" "delay" "I" := Or.inl fw_LN_21
set_option maxRecDepth 20000 in
theorem fw_LN_25 : Cond.fieldLink "ProtectedLine$Line" 25 "ProtectedLine$Line" "launched" "I" ∈ plWG := mt 128 (by decide +kernel) rfl
set_option maxRecDepth 20000 in
theorem fl_LN_25 : plFL "ProtectedLine$Line" 25 "ProtectedLine$Line" "launched" "I" := Or.inl fw_LN_25
set_option maxRecDepth 20000 in
theorem ml_LN_28 : plCS "ProtectedLine$Line" 28 y_LN_slotOf b_LN_slotOf 1 (some .int) 1 := ⟨Or.inl (mt 396 (by decide +kernel) rfl), st_LN_slotOf, ini_LN, co_LN_slotOf, mn_LN_slotOf⟩
set_option maxRecDepth 20000 in
theorem fw_LN_32 : Cond.fieldLink "ProtectedLine$Line" 32 "ProtectedLine$Line" "joinedSent" "I" ∈ plWG := mt 129 (by decide +kernel) rfl
set_option maxRecDepth 20000 in
theorem fl_LN_32 : plFL "ProtectedLine$Line" 32 "ProtectedLine$Line" "joinedSent" "I" := Or.inl fw_LN_32
set_option maxRecDepth 20000 in
theorem fl_LN_35 : Cond.fieldLink "ProtectedLine$Line" 35 "ProtectedLine$Line" "ROW" "[I" ∈ plWG := mt 399 (by decide +kernel) rfl
set_option maxRecDepth 20000 in
theorem ml_LN_38 : plCS "ProtectedLine$Line" 38 y_LN_joinedFrom b_LN_joinedFrom 4 (some .int) 2 := ⟨Or.inl (mt 401 (by decide +kernel) rfl), st_LN_joinedFrom, ini_LN, co_LN_joinedFrom, mn_LN_joinedFrom⟩
set_option maxRecDepth 20000 in
theorem fw_LN_42 : Cond.fieldLink "ProtectedLine$Line" 42 "ProtectedLine$Line" "hasArrived" "Z" ∈ plWG := mt 135 (by decide +kernel) rfl
set_option maxRecDepth 20000 in
theorem fl_LN_42 : plFL "ProtectedLine$Line" 42 "ProtectedLine$Line" "hasArrived" "Z" := Or.inl fw_LN_42
set_option maxRecDepth 20000 in
theorem fw_LN_46 : Cond.fieldLink "ProtectedLine$Line" 46 "ProtectedLine$Line" "joinedArrived" "I" ∈ plWG := mt 136 (by decide +kernel) rfl
set_option maxRecDepth 20000 in
theorem fl_LN_46 : plFL "ProtectedLine$Line" 46 "ProtectedLine$Line" "joinedArrived" "I" := Or.inl fw_LN_46
set_option maxRecDepth 20000 in
theorem fw_LN_49 : Cond.fieldLink "ProtectedLine$Line" 49 "ProtectedLine$Line" "broken" "Z" ∈ plWG := mt 130 (by decide +kernel) rfl
set_option maxRecDepth 20000 in
theorem fl_LN_49 : plFL "ProtectedLine$Line" 49 "ProtectedLine$Line" "broken" "Z" := Or.inl fw_LN_49
set_option maxRecDepth 20000 in
theorem ml_LN_52 : plCV "ProtectedLine$Line" 52 y_LN_bringIn b_LN_bringIn 3 none 1 := ⟨Or.inl (mt 410 (by decide +kernel) rfl), im_LN_bringIn, se_LN_bringIn, ini_LN, co_LN_bringIn, mn_LN_bringIn⟩
set_option maxRecDepth 20000 in
theorem ml_LN_56 : plCS "ProtectedLine$Line" 56 y_JA_fill b_JA_fill 4 none 2 := ⟨Or.inl (mt 414 (by decide +kernel) rfl), st_JA_fill, ini_JA, co_JA_fill, mn_JA_fill⟩
set_option maxRecDepth 20000 in
theorem ml_LN_62 : plCV "ProtectedLine$Line" 62 y_LN_align b_LN_align 2 none 1 := ⟨Or.inl (mt 417 (by decide +kernel) rfl), im_LN_align, se_LN_align, ini_LN, co_LN_align, mn_LN_align⟩
set_option maxRecDepth 20000 in
theorem ml_LN_66 : plCV "ProtectedLine$Line" 66 y_LN_readable b_LN_readable 1 (some .boolean) 0 := ⟨Or.inl (mt 421 (by decide +kernel) rfl), im_LN_readable, se_LN_readable, ini_LN, co_LN_readable, mn_LN_readable⟩
set_option maxRecDepth 20000 in
theorem fw_LN_70 : Cond.fieldLink "ProtectedLine$Line" 70 "ProtectedLine$Line" "errorBits" "I" ∈ plWG := mt 140 (by decide +kernel) rfl
set_option maxRecDepth 20000 in
theorem fl_LN_70 : plFL "ProtectedLine$Line" 70 "ProtectedLine$Line" "errorBits" "I" := Or.inl fw_LN_70
set_option maxRecDepth 20000 in
theorem ml_LN_73 : plCV "ProtectedLine$Line" 73 y_LN_plainAt b_LN_plainAt 2 (some .int) 1 := ⟨Or.inl (mt 425 (by decide +kernel) rfl), im_LN_plainAt, se_LN_plainAt, ini_LN, co_LN_plainAt, mn_LN_plainAt⟩
set_option maxRecDepth 20000 in
theorem ml_LN_76 : plCS "ProtectedLine$Line" 76 y_JI_bitCount b_JI_bitCount 1 (some .int) 1 := ⟨Or.inl (mt 429 (by decide +kernel) rfl), st_JI_bitCount, ini_JI, co_JI_bitCount, mn_JI_bitCount⟩
set_option maxRecDepth 20000 in
theorem fw_LN_81 : Cond.fieldLink "ProtectedLine$Line" 81 "ProtectedLine$Line" "badRow" "I" ∈ plWG := mt 139 (by decide +kernel) rfl
set_option maxRecDepth 20000 in
theorem fl_LN_81 : plFL "ProtectedLine$Line" 81 "ProtectedLine$Line" "badRow" "I" := Or.inl fw_LN_81
set_option maxRecDepth 20000 in
theorem fw_LN_84 : Cond.fieldLink "ProtectedLine$Line" 84 "ProtectedLine$Line" "state" "I" ∈ plWG := mt 137 (by decide +kernel) rfl
set_option maxRecDepth 20000 in
theorem fl_LN_84 : plFL "ProtectedLine$Line" 84 "ProtectedLine$Line" "state" "I" := Or.inl fw_LN_84
set_option maxRecDepth 20000 in
theorem oi_CS_3 : Cond.methodLink "ProtectedLine$ContainerSource" 3 objectInit ∈ plWG ∧ Cond.instanceMethod objectInit ∈ plWG ∧ Cond.code objectInit ⟨#[0xb1]⟩ 1 none ∈ plWG := ⟨mt 64 (by decide +kernel) rfl, mt 22 (by decide +kernel) rfl, mt 23 rfl rfl⟩
set_option maxRecDepth 20000 in
theorem fw_CS_9 : Cond.fieldLink "ProtectedLine$ContainerSource" 9 "ProtectedLine$ContainerSource" "source" "LProtectedLine$StreamSource;" ∈ plWG := mt 65 (by decide +kernel) rfl
set_option maxRecDepth 20000 in
theorem fl_CS_9 : plFL "ProtectedLine$ContainerSource" 9 "ProtectedLine$ContainerSource" "source" "LProtectedLine$StreamSource;" := Or.inl fw_CS_9
set_option maxRecDepth 20000 in
theorem fw_CS_15 : Cond.fieldLink "ProtectedLine$ContainerSource" 15 "ProtectedLine$ContainerSource" "place" "I" ∈ plWG := mt 66 (by decide +kernel) rfl
set_option maxRecDepth 20000 in
theorem fl_CS_15 : plFL "ProtectedLine$ContainerSource" 15 "ProtectedLine$ContainerSource" "place" "I" := Or.inl fw_CS_15
set_option maxRecDepth 20000 in
theorem fw_CS_19 : Cond.fieldLink "ProtectedLine$ContainerSource" 19 "ProtectedLine$ContainerSource" "joined" "I" ∈ plWG := mt 67 (by decide +kernel) rfl
set_option maxRecDepth 20000 in
theorem fl_CS_19 : plFL "ProtectedLine$ContainerSource" 19 "ProtectedLine$ContainerSource" "joined" "I" := Or.inl fw_CS_19
set_option maxRecDepth 20000 in
theorem ml_CS_22 : plCV "ProtectedLine$ContainerSource" 22 y_SS_nextByte b_SS_nextByte 2 (some .int) 0 := ⟨Or.inl (mt 377 (by decide +kernel) rfl), im_SS_nextByte, se_SS_nextByte, ini_SS, co_SS_nextByte, mn_SS_nextByte⟩
set_option maxRecDepth 20000 in
theorem oi_LI_3 : Cond.methodLink "ProtectedLine$Listener" 3 objectInit ∈ plWG ∧ Cond.instanceMethod objectInit ∈ plWG ∧ Cond.code objectInit ⟨#[0xb1]⟩ 1 none ∈ plWG := ⟨mt 84 (by decide +kernel) rfl, mt 22 (by decide +kernel) rfl, mt 23 rfl rfl⟩
set_option maxRecDepth 20000 in
theorem fw_LI_9 : Cond.fieldLink "ProtectedLine$Listener" 9 "ProtectedLine$Listener" "latest" "I" ∈ plWG := mt 88 (by decide +kernel) rfl
set_option maxRecDepth 20000 in
theorem fl_LI_9 : plFL "ProtectedLine$Listener" 9 "ProtectedLine$Listener" "latest" "I" := Or.inl fw_LI_9
set_option maxRecDepth 20000 in
theorem fw_LI_15 : Cond.fieldLink "ProtectedLine$Listener" 15 "ProtectedLine$Listener" "row" "I" ∈ plWG := mt 89 (by decide +kernel) rfl
set_option maxRecDepth 20000 in
theorem fl_LI_15 : plFL "ProtectedLine$Listener" 15 "ProtectedLine$Listener" "row" "I" := Or.inl fw_LI_15
set_option maxRecDepth 20000 in
theorem fw_LI_18 : Cond.fieldLink "ProtectedLine$Listener" 18 "ProtectedLine$Listener" "accepted" "I" ∈ plWG := mt 85 (by decide +kernel) rfl
set_option maxRecDepth 20000 in
theorem fl_LI_18 : plFL "ProtectedLine$Listener" 18 "ProtectedLine$Listener" "accepted" "I" := Or.inl fw_LI_18
set_option maxRecDepth 20000 in
theorem oi_RM_1 : Cond.methodLink "ProtectedLineModel" 1 objectInit ∈ plWG ∧ Cond.instanceMethod objectInit ∈ plWG ∧ Cond.code objectInit ⟨#[0xb1]⟩ 1 none ∈ plWG := ⟨mt 641 (by decide +kernel) rfl, mt 22 (by decide +kernel) rfl, mt 23 rfl rfl⟩
set_option maxRecDepth 20000 in
theorem fw_RM_7 : Cond.fieldLink "ProtectedLineModel" 7 "ProtectedLineModel" "delay" "[I" ∈ plWG := mt 642 (by decide +kernel) rfl
set_option maxRecDepth 20000 in
theorem fl_RM_7 : plFL "ProtectedLineModel" 7 "ProtectedLineModel" "delay" "[I" := Or.inl fw_RM_7
set_option maxRecDepth 20000 in
theorem fw_RM_13 : Cond.fieldLink "ProtectedLineModel" 13 "ProtectedLineModel" "queue" "[I" ∈ plWG := mt 647 (by decide +kernel) rfl
set_option maxRecDepth 20000 in
theorem fl_RM_13 : plFL "ProtectedLineModel" 13 "ProtectedLineModel" "queue" "[I" := Or.inl fw_RM_13
set_option maxRecDepth 20000 in
theorem fw_RM_16 : Cond.fieldLink "ProtectedLineModel" 16 "ProtectedLineModel" "going" "[I" ∈ plWG := mt 648 (by decide +kernel) rfl
set_option maxRecDepth 20000 in
theorem fl_RM_16 : plFL "ProtectedLineModel" 16 "ProtectedLineModel" "going" "[I" := Or.inl fw_RM_16
set_option maxRecDepth 20000 in
theorem fw_RM_19 : Cond.fieldLink "ProtectedLineModel" 19 "ProtectedLineModel" "quiet" "I" ∈ plWG := mt 657 (by decide +kernel) rfl
set_option maxRecDepth 20000 in
theorem fl_RM_19 : plFL "ProtectedLineModel" 19 "ProtectedLineModel" "quiet" "I" := Or.inl fw_RM_19
set_option maxRecDepth 20000 in
theorem fw_RM_23 : Cond.fieldLink "ProtectedLineModel" 23 "ProtectedLineModel" "latestA" "I" ∈ plWG := mt 661 (by decide +kernel) rfl
set_option maxRecDepth 20000 in
theorem fl_RM_23 : plFL "ProtectedLineModel" 23 "ProtectedLineModel" "latestA" "I" := Or.inl fw_RM_23
set_option maxRecDepth 20000 in
theorem fw_RM_26 : Cond.fieldLink "ProtectedLineModel" 26 "ProtectedLineModel" "sent" "[I" ∈ plWG := mt 662 (by decide +kernel) rfl
set_option maxRecDepth 20000 in
theorem fl_RM_26 : plFL "ProtectedLineModel" 26 "ProtectedLineModel" "sent" "[I" := Or.inl fw_RM_26
set_option maxRecDepth 20000 in
theorem fw_RM_29 : Cond.fieldLink "ProtectedLineModel" 29 "ProtectedLineModel" "back" "[I" ∈ plWG := mt 663 (by decide +kernel) rfl
set_option maxRecDepth 20000 in
theorem fl_RM_29 : plFL "ProtectedLineModel" 29 "ProtectedLineModel" "back" "[I" := Or.inl fw_RM_29
set_option maxRecDepth 20000 in
theorem fw_RM_32 : Cond.fieldLink "ProtectedLineModel" 32 "ProtectedLineModel" "row" "[I" ∈ plWG := mt 664 (by decide +kernel) rfl
set_option maxRecDepth 20000 in
theorem fl_RM_32 : plFL "ProtectedLineModel" 32 "ProtectedLineModel" "row" "[I" := Or.inl fw_RM_32
set_option maxRecDepth 20000 in
theorem fw_RM_35 : Cond.fieldLink "ProtectedLineModel" 35 "ProtectedLineModel" "frame" "[I" ∈ plWG := mt 665 (by decide +kernel) rfl
set_option maxRecDepth 20000 in
theorem fl_RM_35 : plFL "ProtectedLineModel" 35 "ProtectedLineModel" "frame" "[I" := Or.inl fw_RM_35
set_option maxRecDepth 20000 in
theorem fw_RM_38 : Cond.fieldLink "ProtectedLineModel" 38 "ProtectedLineModel" "cut" "[Z" ∈ plWG := mt 666 (by decide +kernel) rfl
set_option maxRecDepth 20000 in
theorem fl_RM_38 : plFL "ProtectedLineModel" 38 "ProtectedLineModel" "cut" "[Z" := Or.inl fw_RM_38
set_option maxRecDepth 20000 in
theorem fw_RM_42 : Cond.fieldLink "ProtectedLineModel" 42 "ProtectedLineModel" "spoil" "[I" ∈ plWG := mt 667 (by decide +kernel) rfl
set_option maxRecDepth 20000 in
theorem fl_RM_42 : plFL "ProtectedLineModel" 42 "ProtectedLineModel" "spoil" "[I" := Or.inl fw_RM_42
set_option maxRecDepth 20000 in
theorem fw_RM_45 : Cond.fieldLink "ProtectedLineModel" 45 "ProtectedLineModel" "now" "[I" ∈ plWG := mt 668 (by decide +kernel) rfl
set_option maxRecDepth 20000 in
theorem fl_RM_45 : plFL "ProtectedLineModel" 45 "ProtectedLineModel" "now" "[I" := Or.inl fw_RM_45
set_option maxRecDepth 20000 in
theorem fw_RM_48 : Cond.fieldLink "ProtectedLineModel" 48 "ProtectedLineModel" "came" "[Z" ∈ plWG := mt 669 (by decide +kernel) rfl
set_option maxRecDepth 20000 in
theorem fl_RM_48 : plFL "ProtectedLineModel" 48 "ProtectedLineModel" "came" "[Z" := Or.inl fw_RM_48
set_option maxRecDepth 20000 in
theorem fw_RM_51 : Cond.fieldLink "ProtectedLineModel" 51 "ProtectedLineModel" "before" "[Z" ∈ plWG := mt 670 (by decide +kernel) rfl
set_option maxRecDepth 20000 in
theorem fl_RM_51 : plFL "ProtectedLineModel" 51 "ProtectedLineModel" "before" "[Z" := Or.inl fw_RM_51
set_option maxRecDepth 20000 in
theorem fw_RM_54 : Cond.fieldLink "ProtectedLineModel" 54 "ProtectedLineModel" "was" "[I" ∈ plWG := mt 671 (by decide +kernel) rfl
set_option maxRecDepth 20000 in
theorem fl_RM_54 : plFL "ProtectedLineModel" 54 "ProtectedLineModel" "was" "[I" := Or.inl fw_RM_54
set_option maxRecDepth 20000 in
theorem fw_RM_57 : Cond.fieldLink "ProtectedLineModel" 57 "ProtectedLineModel" "state" "[I" ∈ plWG := mt 672 (by decide +kernel) rfl
set_option maxRecDepth 20000 in
theorem fl_RM_57 : plFL "ProtectedLineModel" 57 "ProtectedLineModel" "state" "[I" := Or.inl fw_RM_57
set_option maxRecDepth 20000 in
theorem fw_RM_60 : Cond.fieldLink "ProtectedLineModel" 60 "ProtectedLineModel" "bad" "[I" ∈ plWG := mt 673 (by decide +kernel) rfl
set_option maxRecDepth 20000 in
theorem fl_RM_60 : plFL "ProtectedLineModel" 60 "ProtectedLineModel" "bad" "[I" := Or.inl fw_RM_60
set_option maxRecDepth 20000 in
theorem fw_RM_63 : Cond.fieldLink "ProtectedLineModel" 63 "ProtectedLineModel" "errors" "[I" ∈ plWG := mt 674 (by decide +kernel) rfl
set_option maxRecDepth 20000 in
theorem fl_RM_63 : plFL "ProtectedLineModel" 63 "ProtectedLineModel" "errors" "[I" := Or.inl fw_RM_63
set_option maxRecDepth 20000 in
theorem fw_RM_66 : Cond.fieldLink "ProtectedLineModel" 66 "ProtectedLineModel" "acceptedB" "I" ∈ plWG := mt 676 (by decide +kernel) rfl
set_option maxRecDepth 20000 in
theorem fl_RM_66 : plFL "ProtectedLineModel" 66 "ProtectedLineModel" "acceptedB" "I" := Or.inl fw_RM_66
set_option maxRecDepth 20000 in
theorem fw_RM_69 : Cond.fieldLink "ProtectedLineModel" 69 "ProtectedLineModel" "latestB" "I" ∈ plWG := mt 678 (by decide +kernel) rfl
set_option maxRecDepth 20000 in
theorem fl_RM_69 : plFL "ProtectedLineModel" 69 "ProtectedLineModel" "latestB" "I" := Or.inl fw_RM_69
set_option maxRecDepth 20000 in
theorem fw_RM_72 : Cond.fieldLink "ProtectedLineModel" 72 "ProtectedLineModel" "pointer" "I" ∈ plWG := mt 683 (by decide +kernel) rfl
set_option maxRecDepth 20000 in
theorem fl_RM_72 : plFL "ProtectedLineModel" 72 "ProtectedLineModel" "pointer" "I" := Or.inl fw_RM_72
set_option maxRecDepth 20000 in
theorem fw_RM_75 : Cond.fieldLink "ProtectedLineModel" 75 "ProtectedLineModel" "rowFor" "I" ∈ plWG := mt 686 (by decide +kernel) rfl
set_option maxRecDepth 20000 in
theorem fl_RM_75 : plFL "ProtectedLineModel" 75 "ProtectedLineModel" "rowFor" "I" := Or.inl fw_RM_75
set_option maxRecDepth 20000 in
theorem fw_RM_78 : Cond.fieldLink "ProtectedLineModel" 78 "ProtectedLineModel" "first" "I" ∈ plWG := mt 692 (by decide +kernel) rfl
set_option maxRecDepth 20000 in
theorem fl_RM_78 : plFL "ProtectedLineModel" 78 "ProtectedLineModel" "first" "I" := Or.inl fw_RM_78
set_option maxRecDepth 20000 in
theorem fw_RM_81 : Cond.fieldLink "ProtectedLineModel" 81 "ProtectedLineModel" "body" "[I" ∈ plWG := mt 697 (by decide +kernel) rfl
set_option maxRecDepth 20000 in
theorem fl_RM_81 : plFL "ProtectedLineModel" 81 "ProtectedLineModel" "body" "[I" := Or.inl fw_RM_81
set_option maxRecDepth 20000 in
theorem fw_RM_84 : Cond.fieldLink "ProtectedLineModel" 84 "ProtectedLineModel" "kept" "[I" ∈ plWG := mt 700 (by decide +kernel) rfl
set_option maxRecDepth 20000 in
theorem fl_RM_84 : plFL "ProtectedLineModel" 84 "ProtectedLineModel" "kept" "[I" := Or.inl fw_RM_84
set_option maxRecDepth 20000 in
theorem fw_RM_87 : Cond.fieldLink "ProtectedLineModel" 87 "ProtectedLineModel" "hold" "I" ∈ plWG := mt 643 (by decide +kernel) rfl
set_option maxRecDepth 20000 in
theorem fl_RM_87 : plFL "ProtectedLineModel" 87 "ProtectedLineModel" "hold" "I" := Or.inl fw_RM_87
set_option maxRecDepth 20000 in
theorem fw_RM_90 : Cond.fieldLink "ProtectedLineModel" 90 "ProtectedLineModel" "wait" "I" ∈ plWG := mt 644 (by decide +kernel) rfl
set_option maxRecDepth 20000 in
theorem fl_RM_90 : plFL "ProtectedLineModel" 90 "ProtectedLineModel" "wait" "I" := Or.inl fw_RM_90
set_option maxRecDepth 20000 in
theorem fw_RM_93 : Cond.fieldLink "ProtectedLineModel" 93 "ProtectedLineModel" "waiting" "I" ∈ plWG := mt 646 (by decide +kernel) rfl
set_option maxRecDepth 20000 in
theorem fl_RM_93 : plFL "ProtectedLineModel" 93 "ProtectedLineModel" "waiting" "I" := Or.inl fw_RM_93
set_option maxRecDepth 20000 in
theorem m_const_RM_96 : Cond.constantLong "ProtectedLineModel" 96 255 ∈ plWG := mt 825 (by decide +kernel) rfl
set_option maxRecDepth 20000 in
theorem ml_RM_98 : plCS "ProtectedLineModel" 98 y_RM_isLine b_RM_isLine 1 (some .boolean) 1 := ⟨Or.inl (mt 830 (by decide +kernel) rfl), st_RM_isLine, ini_RM, co_RM_isLine, mn_RM_isLine⟩
set_option maxRecDepth 20000 in
theorem ml_RM_102 : plCS "ProtectedLineModel" 102 y_RM_isPlace b_RM_isPlace 1 (some .boolean) 1 := ⟨Or.inl (mt 837 (by decide +kernel) rfl), st_RM_isPlace, ini_RM, co_RM_isPlace, mn_RM_isPlace⟩
set_option maxRecDepth 20000 in
theorem fw_RM_105 : Cond.fieldLink "ProtectedLineModel" 105 "ProtectedLineModel" "debt" "I" ∈ plWG := mt 656 (by decide +kernel) rfl
set_option maxRecDepth 20000 in
theorem fl_RM_105 : plFL "ProtectedLineModel" 105 "ProtectedLineModel" "debt" "I" := Or.inl fw_RM_105
set_option maxRecDepth 20000 in
theorem fw_RM_108 : Cond.fieldLink "ProtectedLineModel" 108 "ProtectedLineModel" "order" "I" ∈ plWG := mt 679 (by decide +kernel) rfl
set_option maxRecDepth 20000 in
theorem fl_RM_108 : plFL "ProtectedLineModel" 108 "ProtectedLineModel" "order" "I" := Or.inl fw_RM_108
set_option maxRecDepth 20000 in
theorem fw_RM_111 : Cond.fieldLink "ProtectedLineModel" 111 "ProtectedLineModel" "time" "I" ∈ plWG := mt 645 (by decide +kernel) rfl
set_option maxRecDepth 20000 in
theorem fl_RM_111 : plFL "ProtectedLineModel" 111 "ProtectedLineModel" "time" "I" := Or.inl fw_RM_111
set_option maxRecDepth 20000 in
theorem ml_RM_114 : plCV "ProtectedLineModel" 114 y_RM_hear b_RM_hear 2 none 0 := ⟨Or.inl (mt 852 (by decide +kernel) rfl), im_RM_hear, se_RM_hear, ini_RM, co_RM_hear, mn_RM_hear⟩
set_option maxRecDepth 20000 in
theorem ml_RM_117 : plCV "ProtectedLineModel" 117 y_RM_build b_RM_build 5 none 0 := ⟨Or.inl (mt 856 (by decide +kernel) rfl), im_RM_build, se_RM_build, ini_RM, co_RM_build, mn_RM_build⟩
set_option maxRecDepth 20000 in
theorem ml_RM_120 : plCV "ProtectedLineModel" 120 y_RM_arrive b_RM_arrive 5 none 0 := ⟨Or.inl (mt 879 (by decide +kernel) rfl), im_RM_arrive, se_RM_arrive, ini_RM, co_RM_arrive, mn_RM_arrive⟩
set_option maxRecDepth 20000 in
theorem ml_RM_123 : plCV "ProtectedLineModel" 123 y_RM_listen b_RM_listen 2 none 0 := ⟨Or.inl (mt 890 (by decide +kernel) rfl), im_RM_listen, se_RM_listen, ini_RM, co_RM_listen, mn_RM_listen⟩
set_option maxRecDepth 20000 in
theorem ml_RM_126 : plCV "ProtectedLineModel" 126 y_RM_decide b_RM_decide 4 none 0 := ⟨Or.inl (mt 894 (by decide +kernel) rfl), im_RM_decide, se_RM_decide, ini_RM, co_RM_decide, mn_RM_decide⟩
set_option maxRecDepth 20000 in
theorem ml_RM_129 : plCV "ProtectedLineModel" 129 y_RM_select b_RM_select 4 none 0 := ⟨Or.inl (mt 898 (by decide +kernel) rfl), im_RM_select, se_RM_select, ini_RM, co_RM_select, mn_RM_select⟩
set_option maxRecDepth 20000 in
theorem fw_RM_132 : Cond.fieldLink "ProtectedLineModel" 132 "ProtectedLineModel" "request" "I" ∈ plWG := mt 680 (by decide +kernel) rfl
set_option maxRecDepth 20000 in
theorem fl_RM_132 : plFL "ProtectedLineModel" 132 "ProtectedLineModel" "request" "I" := Or.inl fw_RM_132
set_option maxRecDepth 20000 in
theorem fw_RM_135 : Cond.fieldLink "ProtectedLineModel" 135 "ProtectedLineModel" "selected" "I" ∈ plWG := mt 682 (by decide +kernel) rfl
set_option maxRecDepth 20000 in
theorem fl_RM_135 : plFL "ProtectedLineModel" 135 "ProtectedLineModel" "selected" "I" := Or.inl fw_RM_135
set_option maxRecDepth 20000 in
theorem fw_RM_138 : Cond.fieldLink "ProtectedLineModel" 138 "ProtectedLineModel" "sameA" "I" ∈ plWG := mt 660 (by decide +kernel) rfl
set_option maxRecDepth 20000 in
theorem fl_RM_138 : plFL "ProtectedLineModel" 138 "ProtectedLineModel" "sameA" "I" := Or.inl fw_RM_138
set_option maxRecDepth 20000 in
theorem fw_RM_141 : Cond.fieldLink "ProtectedLineModel" 141 "ProtectedLineModel" "acceptedA" "I" ∈ plWG := mt 659 (by decide +kernel) rfl
set_option maxRecDepth 20000 in
theorem fl_RM_141 : plFL "ProtectedLineModel" 141 "ProtectedLineModel" "acceptedA" "I" := Or.inl fw_RM_141
set_option maxRecDepth 20000 in
theorem fw_RM_144 : Cond.fieldLink "ProtectedLineModel" 144 "ProtectedLineModel" "bridge" "Z" ∈ plWG := mt 658 (by decide +kernel) rfl
set_option maxRecDepth 20000 in
theorem fl_RM_144 : plFL "ProtectedLineModel" 144 "ProtectedLineModel" "bridge" "Z" := Or.inl fw_RM_144
set_option maxRecDepth 20000 in
theorem ml_RM_148 : plCS "ProtectedLineModel" 148 y_RM_hash b_RM_hash 3 (some .int) 1 := ⟨Or.inl (mt 872 (by decide +kernel) rfl), st_RM_hash, ini_RM, co_RM_hash, mn_RM_hash⟩
set_option maxRecDepth 20000 in
theorem fw_RM_152 : Cond.fieldLink "ProtectedLineModel" 152 "ProtectedLineModel" "scrambled" "I" ∈ plWG := mt 651 (by decide +kernel) rfl
set_option maxRecDepth 20000 in
theorem fl_RM_152 : plFL "ProtectedLineModel" 152 "ProtectedLineModel" "scrambled" "I" := Or.inl fw_RM_152
set_option maxRecDepth 20000 in
theorem fw_RM_155 : Cond.fieldLink "ProtectedLineModel" 155 "ProtectedLineModel" "length" "I" ∈ plWG := mt 649 (by decide +kernel) rfl
set_option maxRecDepth 20000 in
theorem fl_RM_155 : plFL "ProtectedLineModel" 155 "ProtectedLineModel" "length" "I" := Or.inl fw_RM_155
set_option maxRecDepth 20000 in
theorem fw_RM_158 : Cond.fieldLink "ProtectedLineModel" 158 "ProtectedLineModel" "taken" "I" ∈ plWG := mt 650 (by decide +kernel) rfl
set_option maxRecDepth 20000 in
theorem fl_RM_158 : plFL "ProtectedLineModel" 158 "ProtectedLineModel" "taken" "I" := Or.inl fw_RM_158
set_option maxRecDepth 20000 in
theorem ml_RM_161 : plCV "ProtectedLineModel" 161 y_RM_load b_RM_load 6 none 0 := ⟨Or.inl (mt 868 (by decide +kernel) rfl), im_RM_load, se_RM_load, ini_RM, co_RM_load, mn_RM_load⟩
set_option maxRecDepth 20000 in
theorem fw_RM_164 : Cond.fieldLink "ProtectedLineModel" 164 "ProtectedLineModel" "place" "I" ∈ plWG := mt 652 (by decide +kernel) rfl
set_option maxRecDepth 20000 in
theorem fl_RM_164 : plFL "ProtectedLineModel" 164 "ProtectedLineModel" "place" "I" := Or.inl fw_RM_164
set_option maxRecDepth 20000 in
theorem fw_RM_167 : Cond.fieldLink "ProtectedLineModel" 167 "ProtectedLineModel" "parity" "I" ∈ plWG := mt 653 (by decide +kernel) rfl
set_option maxRecDepth 20000 in
theorem fl_RM_167 : plFL "ProtectedLineModel" 167 "ProtectedLineModel" "parity" "I" := Or.inl fw_RM_167
set_option maxRecDepth 20000 in
theorem ml_RM_170 : plCV "ProtectedLineModel" 170 y_RM_streamed b_RM_streamed 1 (some .int) 0 := ⟨Or.inl (mt 864 (by decide +kernel) rfl), im_RM_streamed, se_RM_streamed, ini_RM, co_RM_streamed, mn_RM_streamed⟩
set_option maxRecDepth 20000 in
theorem fw_RM_174 : Cond.fieldLink "ProtectedLineModel" 174 "ProtectedLineModel" "joined" "I" ∈ plWG := mt 654 (by decide +kernel) rfl
set_option maxRecDepth 20000 in
theorem fl_RM_174 : plFL "ProtectedLineModel" 174 "ProtectedLineModel" "joined" "I" := Or.inl fw_RM_174
set_option maxRecDepth 20000 in
theorem fw_RM_177 : Cond.fieldLink "ProtectedLineModel" 177 "ProtectedLineModel" "lead" "I" ∈ plWG := mt 655 (by decide +kernel) rfl
set_option maxRecDepth 20000 in
theorem fl_RM_177 : plFL "ProtectedLineModel" 177 "ProtectedLineModel" "lead" "I" := Or.inl fw_RM_177
set_option maxRecDepth 20000 in
theorem ml_RM_180 : plCV "ProtectedLineModel" 180 y_RM_contained b_RM_contained 2 (some .int) 0 := ⟨Or.inl (mt 860 (by decide +kernel) rfl), im_RM_contained, se_RM_contained, ini_RM, co_RM_contained, mn_RM_contained⟩
set_option maxRecDepth 20000 in
theorem ml_RM_183 : plCV "ProtectedLineModel" 183 y_RM_put b_RM_put 7 none 1 := ⟨Or.inl (mt 875 (by decide +kernel) rfl), im_RM_put, se_RM_put, ini_RM, co_RM_put, mn_RM_put⟩
set_option maxRecDepth 20000 in
theorem ml_RM_187 : plCV "ProtectedLineModel" 187 y_RM_align b_RM_align 3 none 1 := ⟨Or.inl (mt 883 (by decide +kernel) rfl), im_RM_align, se_RM_align, ini_RM, co_RM_align, mn_RM_align⟩
set_option maxRecDepth 20000 in
theorem ml_RM_190 : plCS "ProtectedLineModel" 190 y_RM_ones b_RM_ones 3 (some .int) 1 := ⟨Or.inl (mt 887 (by decide +kernel) rfl), st_RM_ones, ini_RM, co_RM_ones, mn_RM_ones⟩
set_option maxRecDepth 20000 in
theorem fw_RM_193 : Cond.fieldLink "ProtectedLineModel" 193 "ProtectedLineModel" "failedFor" "I" ∈ plWG := mt 675 (by decide +kernel) rfl
set_option maxRecDepth 20000 in
theorem fl_RM_193 : plFL "ProtectedLineModel" 193 "ProtectedLineModel" "failedFor" "I" := Or.inl fw_RM_193
set_option maxRecDepth 20000 in
theorem fw_RM_196 : Cond.fieldLink "ProtectedLineModel" 196 "ProtectedLineModel" "sameB" "I" ∈ plWG := mt 677 (by decide +kernel) rfl
set_option maxRecDepth 20000 in
theorem fl_RM_196 : plFL "ProtectedLineModel" 196 "ProtectedLineModel" "sameB" "I" := Or.inl fw_RM_196
set_option maxRecDepth 20000 in
theorem fw_RM_199 : Cond.fieldLink "ProtectedLineModel" 199 "ProtectedLineModel" "waits" "I" ∈ plWG := mt 681 (by decide +kernel) rfl
set_option maxRecDepth 20000 in
theorem fl_RM_199 : plFL "ProtectedLineModel" 199 "ProtectedLineModel" "waits" "I" := Or.inl fw_RM_199
set_option maxRecDepth 20000 in
theorem ml_RM_202 : plCV "ProtectedLineModel" 202 y_RM_read b_RM_read 9 none 2 := ⟨Or.inl (mt 902 (by decide +kernel) rfl), im_RM_read, se_RM_read, ini_RM, co_RM_read, mn_RM_read⟩
set_option maxRecDepth 20000 in
theorem ml_RM_206 : plCV "ProtectedLineModel" 206 y_RM_gap b_RM_gap 1 none 0 := ⟨Or.inl (mt 960 (by decide +kernel) rfl), im_RM_gap, se_RM_gap, ini_RM, co_RM_gap, mn_RM_gap⟩
set_option maxRecDepth 20000 in
theorem fw_RM_209 : Cond.fieldLink "ProtectedLineModel" 209 "ProtectedLineModel" "gaps" "I" ∈ plWG := mt 684 (by decide +kernel) rfl
set_option maxRecDepth 20000 in
theorem fl_RM_209 : plFL "ProtectedLineModel" 209 "ProtectedLineModel" "gaps" "I" := Or.inl fw_RM_209
set_option maxRecDepth 20000 in
theorem fw_RM_212 : Cond.fieldLink "ProtectedLineModel" 212 "ProtectedLineModel" "chain" "I" ∈ plWG := mt 688 (by decide +kernel) rfl
set_option maxRecDepth 20000 in
theorem fl_RM_212 : plFL "ProtectedLineModel" 212 "ProtectedLineModel" "chain" "I" := Or.inl fw_RM_212
set_option maxRecDepth 20000 in
theorem ml_RM_215 : plCV "ProtectedLineModel" 215 y_RM_hunt b_RM_hunt 1 none 0 := ⟨Or.inl (mt 913 (by decide +kernel) rfl), im_RM_hunt, se_RM_hunt, ini_RM, co_RM_hunt, mn_RM_hunt⟩
set_option maxRecDepth 20000 in
theorem ml_RM_218 : plCV "ProtectedLineModel" 218 y_RM_lose b_RM_lose 1 none 0 := ⟨Or.inl (mt 925 (by decide +kernel) rfl), im_RM_lose, se_RM_lose, ini_RM, co_RM_lose, mn_RM_lose⟩
set_option maxRecDepth 20000 in
theorem fw_RM_221 : Cond.fieldLink "ProtectedLineModel" 221 "ProtectedLineModel" "strange" "I" ∈ plWG := mt 685 (by decide +kernel) rfl
set_option maxRecDepth 20000 in
theorem fl_RM_221 : plFL "ProtectedLineModel" 221 "ProtectedLineModel" "strange" "I" := Or.inl fw_RM_221
set_option maxRecDepth 20000 in
theorem fw_RM_224 : Cond.fieldLink "ProtectedLineModel" 224 "ProtectedLineModel" "rowOf" "I" ∈ plWG := mt 687 (by decide +kernel) rfl
set_option maxRecDepth 20000 in
theorem fl_RM_224 : plFL "ProtectedLineModel" 224 "ProtectedLineModel" "rowOf" "I" := Or.inl fw_RM_224
set_option maxRecDepth 20000 in
theorem ml_RM_227 : plCS "ProtectedLineModel" 227 y_RM_plain b_RM_plain 1 (some .int) 1 := ⟨Or.inl (mt 906 (by decide +kernel) rfl), st_RM_plain, ini_RM, co_RM_plain, mn_RM_plain⟩
set_option maxRecDepth 20000 in
theorem ml_RM_230 : plCV "ProtectedLineModel" 230 y_RM_third b_RM_third 2 (some .boolean) 1 := ⟨Or.inl (mt 909 (by decide +kernel) rfl), im_RM_third, se_RM_third, ini_RM, co_RM_third, mn_RM_third⟩
set_option maxRecDepth 20000 in
theorem ml_RM_233 : plCV "ProtectedLineModel" 233 y_RM_found b_RM_found 2 none 1 := ⟨Or.inl (mt 917 (by decide +kernel) rfl), im_RM_found, se_RM_found, ini_RM, co_RM_found, mn_RM_found⟩
set_option maxRecDepth 20000 in
theorem ml_RM_236 : plCV "ProtectedLineModel" 236 y_RM_unread b_RM_unread 2 (some .boolean) 1 := ⟨Or.inl (mt 921 (by decide +kernel) rfl), im_RM_unread, se_RM_unread, ini_RM, co_RM_unread, mn_RM_unread⟩
set_option maxRecDepth 20000 in
theorem ml_RM_239 : plCV "ProtectedLineModel" 239 y_RM_give b_RM_give 3 none 2 := ⟨Or.inl (mt 929 (by decide +kernel) rfl), im_RM_give, se_RM_give, ini_RM, co_RM_give, mn_RM_give⟩
set_option maxRecDepth 20000 in
theorem fw_RM_243 : Cond.fieldLink "ProtectedLineModel" 243 "ProtectedLineModel" "sum" "I" ∈ plWG := mt 689 (by decide +kernel) rfl
set_option maxRecDepth 20000 in
theorem fl_RM_243 : plFL "ProtectedLineModel" 243 "ProtectedLineModel" "sum" "I" := Or.inl fw_RM_243
set_option maxRecDepth 20000 in
theorem ml_RM_246 : plCV "ProtectedLineModel" 246 y_RM_take b_RM_take 2 none 1 := ⟨Or.inl (mt 933 (by decide +kernel) rfl), im_RM_take, se_RM_take, ini_RM, co_RM_take, mn_RM_take⟩
set_option maxRecDepth 20000 in
theorem fw_RM_249 : Cond.fieldLink "ProtectedLineModel" 249 "ProtectedLineModel" "pathErrors" "I" ∈ plWG := mt 690 (by decide +kernel) rfl
set_option maxRecDepth 20000 in
theorem fl_RM_249 : plFL "ProtectedLineModel" 249 "ProtectedLineModel" "pathErrors" "I" := Or.inl fw_RM_249
set_option maxRecDepth 20000 in
theorem fw_RM_252 : Cond.fieldLink "ProtectedLineModel" 252 "ProtectedLineModel" "sync" "I" ∈ plWG := mt 691 (by decide +kernel) rfl
set_option maxRecDepth 20000 in
theorem fl_RM_252 : plFL "ProtectedLineModel" 252 "ProtectedLineModel" "sync" "I" := Or.inl fw_RM_252
set_option maxRecDepth 20000 in
theorem fw_RM_255 : Cond.fieldLink "ProtectedLineModel" 255 "ProtectedLineModel" "left" "I" ∈ plWG := mt 693 (by decide +kernel) rfl
set_option maxRecDepth 20000 in
theorem fl_RM_255 : plFL "ProtectedLineModel" 255 "ProtectedLineModel" "left" "I" := Or.inl fw_RM_255
set_option maxRecDepth 20000 in
theorem ml_RM_258 : plCV "ProtectedLineModel" 258 y_RM_content b_RM_content 3 none 1 := ⟨Or.inl (mt 937 (by decide +kernel) rfl), im_RM_content, se_RM_content, ini_RM, co_RM_content, mn_RM_content⟩
set_option maxRecDepth 20000 in
theorem ml_RM_261 : plCV "ProtectedLineModel" 261 y_RM_pair b_RM_pair 3 none 2 := ⟨Or.inl (mt 945 (by decide +kernel) rfl), im_RM_pair, se_RM_pair, ini_RM, co_RM_pair, mn_RM_pair⟩
set_option maxRecDepth 20000 in
theorem ml_RM_264 : plCS "ProtectedLineModel" 264 y_RM_header b_RM_header 2 (some .boolean) 2 := ⟨Or.inl (mt 949 (by decide +kernel) rfl), st_RM_header, ini_RM, co_RM_header, mn_RM_header⟩
set_option maxRecDepth 20000 in
theorem ml_RM_268 : plCV "ProtectedLineModel" 268 y_RM_enter b_RM_enter 2 none 1 := ⟨Or.inl (mt 952 (by decide +kernel) rfl), im_RM_enter, se_RM_enter, ini_RM, co_RM_enter, mn_RM_enter⟩
set_option maxRecDepth 20000 in
theorem ml_RM_271 : plCV "ProtectedLineModel" 271 y_RM_mend b_RM_mend 5 none 2 := ⟨Or.inl (mt 956 (by decide +kernel) rfl), im_RM_mend, se_RM_mend, ini_RM, co_RM_mend, mn_RM_mend⟩
set_option maxRecDepth 20000 in
theorem fw_RM_274 : Cond.fieldLink "ProtectedLineModel" 274 "ProtectedLineModel" "long0" "I" ∈ plWG := mt 694 (by decide +kernel) rfl
set_option maxRecDepth 20000 in
theorem fl_RM_274 : plFL "ProtectedLineModel" 274 "ProtectedLineModel" "long0" "I" := Or.inl fw_RM_274
set_option maxRecDepth 20000 in
theorem fw_RM_277 : Cond.fieldLink "ProtectedLineModel" 277 "ProtectedLineModel" "filled" "I" ∈ plWG := mt 695 (by decide +kernel) rfl
set_option maxRecDepth 20000 in
theorem fl_RM_277 : plFL "ProtectedLineModel" 277 "ProtectedLineModel" "filled" "I" := Or.inl fw_RM_277
set_option maxRecDepth 20000 in
theorem fw_RM_280 : Cond.fieldLink "ProtectedLineModel" 280 "ProtectedLineModel" "memory" "I" ∈ plWG := mt 696 (by decide +kernel) rfl
set_option maxRecDepth 20000 in
theorem fl_RM_280 : plFL "ProtectedLineModel" 280 "ProtectedLineModel" "memory" "I" := Or.inl fw_RM_280
set_option maxRecDepth 20000 in
theorem ml_RM_283 : plCV "ProtectedLineModel" 283 y_RM_finish b_RM_finish 4 none 0 := ⟨Or.inl (mt 941 (by decide +kernel) rfl), im_RM_finish, se_RM_finish, ini_RM, co_RM_finish, mn_RM_finish⟩
set_option maxRecDepth 20000 in
theorem fw_RM_286 : Cond.fieldLink "ProtectedLineModel" 286 "ProtectedLineModel" "dropped" "I" ∈ plWG := mt 699 (by decide +kernel) rfl
set_option maxRecDepth 20000 in
theorem fl_RM_286 : plFL "ProtectedLineModel" 286 "ProtectedLineModel" "dropped" "I" := Or.inl fw_RM_286
set_option maxRecDepth 20000 in
theorem fw_RM_289 : Cond.fieldLink "ProtectedLineModel" 289 "ProtectedLineModel" "delivered" "I" ∈ plWG := mt 698 (by decide +kernel) rfl
set_option maxRecDepth 20000 in
theorem fl_RM_289 : plFL "ProtectedLineModel" 289 "ProtectedLineModel" "delivered" "I" := Or.inl fw_RM_289
set_option maxRecDepth 20000 in
theorem m_const_JI_265 : Cond.constant "java/lang/Integer" 265 1431655765 ∈ plWG := mt 432 (by decide +kernel) rfl
set_option maxRecDepth 20000 in
theorem m_const_JI_266 : Cond.constant "java/lang/Integer" 266 858993459 ∈ plWG := mt 433 (by decide +kernel) rfl
set_option maxRecDepth 20000 in
theorem m_const_JI_267 : Cond.constant "java/lang/Integer" 267 252645135 ∈ plWG := mt 434 (by decide +kernel) rfl
set_option maxRecDepth 20000 in
theorem oi_PR_3 : Cond.methodLink "ProtectedLine$PointerReader" 3 objectInit ∈ plWG ∧ Cond.instanceMethod objectInit ∈ plWG ∧ Cond.code objectInit ⟨#[0xb1]⟩ 1 none ∈ plWG := ⟨mt 271 (by decide +kernel) rfl, mt 22 (by decide +kernel) rfl, mt 23 rfl rfl⟩
set_option maxRecDepth 20000 in
theorem fw_PR_11 : Cond.fieldLink "ProtectedLine$PointerReader" 11 "ProtectedLine$PointerReader" "v" "I" ∈ plWG := mt 273 (by decide +kernel) rfl
set_option maxRecDepth 20000 in
theorem fl_PR_11 : plFL "ProtectedLine$PointerReader" 11 "ProtectedLine$PointerReader" "v" "I" := Or.inl fw_PR_11
set_option maxRecDepth 20000 in
theorem fw_PR_15 : Cond.fieldLink "ProtectedLine$PointerReader" 15 "ProtectedLine$PointerReader" "stream" "LProtectedLine$StreamReader;" ∈ plWG := mt 272 (by decide +kernel) rfl
set_option maxRecDepth 20000 in
theorem fl_PR_15 : plFL "ProtectedLine$PointerReader" 15 "ProtectedLine$PointerReader" "stream" "LProtectedLine$StreamReader;" := Or.inl fw_PR_15
set_option maxRecDepth 20000 in
theorem fw_PR_19 : Cond.fieldLink "ProtectedLine$PointerReader" 19 "ProtectedLine$PointerReader" "gapRow" "I" ∈ plWG := mt 275 (by decide +kernel) rfl
set_option maxRecDepth 20000 in
theorem fl_PR_19 : plFL "ProtectedLine$PointerReader" 19 "ProtectedLine$PointerReader" "gapRow" "I" := Or.inl fw_PR_19
set_option maxRecDepth 20000 in
theorem fw_PR_22 : Cond.fieldLink "ProtectedLine$PointerReader" 22 "ProtectedLine$PointerReader" "plainRow" "I" ∈ plWG := mt 276 (by decide +kernel) rfl
set_option maxRecDepth 20000 in
theorem fl_PR_22 : plFL "ProtectedLine$PointerReader" 22 "ProtectedLine$PointerReader" "plainRow" "I" := Or.inl fw_PR_22
set_option maxRecDepth 20000 in
theorem ml_PR_25 : plCV "ProtectedLine$PointerReader" 25 y_PR_endRows b_PR_endRows 1 none 0 := ⟨Or.inl (mt 478 (by decide +kernel) rfl), im_PR_endRows, se_PR_endRows, ini_PR, co_PR_endRows, mn_PR_endRows⟩
set_option maxRecDepth 20000 in
theorem ml_PR_28 : plCV "ProtectedLine$PointerReader" 28 y_PR_breakOff b_PR_breakOff 1 none 0 := ⟨Or.inl (mt 492 (by decide +kernel) rfl), im_PR_breakOff, se_PR_breakOff, ini_PR, co_PR_breakOff, mn_PR_breakOff⟩
set_option maxRecDepth 20000 in
theorem ml_PR_31 : plCV "ProtectedLine$PointerReader" 31 y_LN_plainAt b_LN_plainAt 2 (some .int) 1 := ⟨Or.inl (mt 461 (by decide +kernel) rfl), im_LN_plainAt, se_LN_plainAt, ini_LN, co_LN_plainAt, mn_LN_plainAt⟩
set_option maxRecDepth 20000 in
theorem ml_PR_37 : plCV "ProtectedLine$PointerReader" 37 y_PR_follow b_PR_follow 3 (some .int) 1 := ⟨Or.inl (mt 462 (by decide +kernel) rfl), im_PR_follow, se_PR_follow, ini_PR, co_PR_follow, mn_PR_follow⟩
set_option maxRecDepth 20000 in
theorem ml_PR_40 : plCV "ProtectedLine$PointerReader" 40 y_PR_beginContainer b_PR_beginContainer 2 none 1 := ⟨Or.inl (mt 500 (by decide +kernel) rfl), im_PR_beginContainer, se_PR_beginContainer, ini_PR, co_PR_beginContainer, mn_PR_beginContainer⟩
set_option maxRecDepth 20000 in
theorem fw_PR_44 : Cond.fieldLink "ProtectedLine$PointerReader" 44 "ProtectedLine$PointerReader" "joined" "I" ∈ plWG := mt 280 (by decide +kernel) rfl
set_option maxRecDepth 20000 in
theorem fl_PR_44 : plFL "ProtectedLine$PointerReader" 44 "ProtectedLine$PointerReader" "joined" "I" := Or.inl fw_PR_44
set_option maxRecDepth 20000 in
theorem fw_PR_47 : Cond.fieldLink "ProtectedLine$PointerReader" 47 "ProtectedLine$PointerReader" "sinceFirst" "I" ∈ plWG := mt 279 (by decide +kernel) rfl
set_option maxRecDepth 20000 in
theorem fl_PR_47 : plFL "ProtectedLine$PointerReader" 47 "ProtectedLine$PointerReader" "sinceFirst" "I" := Or.inl fw_PR_47
set_option maxRecDepth 20000 in
theorem ml_PR_50 : plCV "ProtectedLine$PointerReader" 50 y_SR_give b_SR_give 2 none 1 := ⟨Or.inl (mt 504 (by decide +kernel) rfl), im_SR_give, se_SR_give, ini_SR, co_SR_give, mn_SR_give⟩
set_option maxRecDepth 20000 in
theorem fw_PR_55 : Cond.fieldLink "ProtectedLine$PointerReader" 55 "ProtectedLine$PointerReader" "errorBits" "I" ∈ plWG := mt 281 (by decide +kernel) rfl
set_option maxRecDepth 20000 in
theorem fl_PR_55 : plFL "ProtectedLine$PointerReader" 55 "ProtectedLine$PointerReader" "errorBits" "I" := Or.inl fw_PR_55
set_option maxRecDepth 20000 in
theorem ml_PR_58 : plCS "ProtectedLine$PointerReader" 58 y_JI_bitCount b_JI_bitCount 1 (some .int) 1 := ⟨Or.inl (mt 487 (by decide +kernel) rfl), st_JI_bitCount, ini_JI, co_JI_bitCount, mn_JI_bitCount⟩
set_option maxRecDepth 20000 in
theorem ml_PR_63 : plCV "ProtectedLine$PointerReader" 63 y_PR_seek b_PR_seek 2 none 1 := ⟨Or.inl (mt 466 (by decide +kernel) rfl), im_PR_seek, se_PR_seek, ini_PR, co_PR_seek, mn_PR_seek⟩
set_option maxRecDepth 20000 in
theorem ml_PR_66 : plCV "ProtectedLine$PointerReader" 66 y_PR_shiftIn b_PR_shiftIn 5 (some .int) 1 := ⟨Or.inl (mt 482 (by decide +kernel) rfl), im_PR_shiftIn, se_PR_shiftIn, ini_PR, co_PR_shiftIn, mn_PR_shiftIn⟩
set_option maxRecDepth 20000 in
theorem ml_PR_69 : plCS "ProtectedLine$PointerReader" 69 y_CO_pointerByte b_CO_pointerByte 1 (some .int) 1 := ⟨Or.inl (mt 486 (by decide +kernel) rfl), st_CO_pointerByte, ini_CO, co_CO_pointerByte, mn_CO_pointerByte⟩
set_option maxRecDepth 20000 in
theorem ml_PR_74 : plCV "ProtectedLine$PointerReader" 74 y_PR_doubt b_PR_doubt 2 none 1 := ⟨Or.inl (mt 488 (by decide +kernel) rfl), im_PR_doubt, se_PR_doubt, ini_PR, co_PR_doubt, mn_PR_doubt⟩
set_option maxRecDepth 20000 in
theorem ml_PR_77 : plCV "ProtectedLine$PointerReader" 77 y_PR_countPlain b_PR_countPlain 3 none 1 := ⟨Or.inl (mt 470 (by decide +kernel) rfl), im_PR_countPlain, se_PR_countPlain, ini_PR, co_PR_countPlain, mn_PR_countPlain⟩
set_option maxRecDepth 20000 in
theorem fw_PR_80 : Cond.fieldLink "ProtectedLine$PointerReader" 80 "ProtectedLine$PointerReader" "plainQ" "I" ∈ plWG := mt 277 (by decide +kernel) rfl
set_option maxRecDepth 20000 in
theorem fl_PR_80 : plFL "ProtectedLine$PointerReader" 80 "ProtectedLine$PointerReader" "plainQ" "I" := Or.inl fw_PR_80
set_option maxRecDepth 20000 in
theorem fw_PR_83 : Cond.fieldLink "ProtectedLine$PointerReader" 83 "ProtectedLine$PointerReader" "strangeRow" "I" ∈ plWG := mt 278 (by decide +kernel) rfl
set_option maxRecDepth 20000 in
theorem fl_PR_83 : plFL "ProtectedLine$PointerReader" 83 "ProtectedLine$PointerReader" "strangeRow" "I" := Or.inl fw_PR_83
set_option maxRecDepth 20000 in
theorem ml_PR_86 : plCS "ProtectedLine$PointerReader" 86 y_CO_plainFor b_CO_plainFor 2 (some .int) 1 := ⟨Or.inl (mt 474 (by decide +kernel) rfl), st_CO_plainFor, ini_CO, co_CO_plainFor, mn_CO_plainFor⟩
set_option maxRecDepth 20000 in
theorem ml_PR_89 : plCV "ProtectedLine$PointerReader" 89 y_SR_hunt b_SR_hunt 1 none 0 := ⟨Or.inl (mt 496 (by decide +kernel) rfl), im_SR_hunt, se_SR_hunt, ini_SR, co_SR_hunt, mn_SR_hunt⟩
set_option maxRecDepth 20000 in
theorem oi_SW_1 : Cond.methodLink "ProtectedLine$Switch" 1 objectInit ∈ plWG ∧ Cond.instanceMethod objectInit ∈ plWG ∧ Cond.code objectInit ⟨#[0xb1]⟩ 1 none ∈ plWG := ⟨mt 188 (by decide +kernel) rfl, mt 22 (by decide +kernel) rfl, mt 23 rfl rfl⟩
set_option maxRecDepth 20000 in
theorem nl_SW_7 : Cond.classLink "ProtectedLine$Switch" 7 "ProtectedLine$Listener" ∈ plWG ∧ Cond.instantiable "ProtectedLine$Listener" 3 ∈ plWG ∧ Cond.initialized "ProtectedLine$Listener" ∈ plWG := ⟨mt 189 (by decide +kernel) rfl, mt 80 (by decide +kernel) rfl, ini_LI⟩
set_option maxRecDepth 20000 in
theorem ci_SW_9 : plCI "ProtectedLine$Switch" 9 y_LI_init b_LI_init 1 0 := ⟨Or.inr ⟨"ProtectedLine", List.mem_of_getElem? (i := 2) rfl⟩, im_LI_init, ini_LI, co_LI_init, rfl, mn_LI_init⟩
set_option maxRecDepth 20000 in
theorem fw_SW_10 : Cond.fieldLink "ProtectedLine$Switch" 10 "ProtectedLine$Switch" "heard" "LProtectedLine$Listener;" ∈ plWG := mt 193 (by decide +kernel) rfl
set_option maxRecDepth 20000 in
theorem fl_SW_10 : plFL "ProtectedLine$Switch" 10 "ProtectedLine$Switch" "heard" "LProtectedLine$Listener;" := Or.inl fw_SW_10
set_option maxRecDepth 20000 in
theorem fw_SW_16 : Cond.fieldLink "ProtectedLine$Switch" 16 "ProtectedLine$Switch" "hold" "I" ∈ plWG := mt 191 (by decide +kernel) rfl
set_option maxRecDepth 20000 in
theorem fl_SW_16 : plFL "ProtectedLine$Switch" 16 "ProtectedLine$Switch" "hold" "I" := Or.inl fw_SW_16
set_option maxRecDepth 20000 in
theorem fw_SW_20 : Cond.fieldLink "ProtectedLine$Switch" 20 "ProtectedLine$Switch" "wait" "I" ∈ plWG := mt 192 (by decide +kernel) rfl
set_option maxRecDepth 20000 in
theorem fl_SW_20 : plFL "ProtectedLine$Switch" 20 "ProtectedLine$Switch" "wait" "I" := Or.inl fw_SW_20
set_option maxRecDepth 20000 in
theorem fw_SW_23 : Cond.fieldLink "ProtectedLine$Switch" 23 "ProtectedLine$Switch" "failedFor" "I" ∈ plWG := mt 197 (by decide +kernel) rfl
set_option maxRecDepth 20000 in
theorem fl_SW_23 : plFL "ProtectedLine$Switch" 23 "ProtectedLine$Switch" "failedFor" "I" := Or.inl fw_SW_23
set_option maxRecDepth 20000 in
theorem ml_SW_26 : plCV "ProtectedLine$Switch" 26 y_SW_pressing b_SW_pressing 2 (some .int) 1 := ⟨Or.inl (mt 445 (by decide +kernel) rfl), im_SW_pressing, se_SW_pressing, ini_SW, co_SW_pressing, mn_SW_pressing⟩
set_option maxRecDepth 20000 in
theorem ml_SW_30 : plCV "ProtectedLine$Switch" 30 y_SW_waitOn b_SW_waitOn 1 (some .int) 0 := ⟨Or.inl (mt 449 (by decide +kernel) rfl), im_SW_waitOn, se_SW_waitOn, ini_SW, co_SW_waitOn, mn_SW_waitOn⟩
set_option maxRecDepth 20000 in
theorem fw_SW_34 : Cond.fieldLink "ProtectedLine$Switch" 34 "ProtectedLine$Switch" "asked" "I" ∈ plWG := mt 199 (by decide +kernel) rfl
set_option maxRecDepth 20000 in
theorem fl_SW_34 : plFL "ProtectedLine$Switch" 34 "ProtectedLine$Switch" "asked" "I" := Or.inl fw_SW_34
set_option maxRecDepth 20000 in
theorem fl_SW_37 : plFL "ProtectedLine$Switch" 37 "ProtectedLine$Listener" "accepted" "I" := Or.inr ⟨"ProtectedLine", List.mem_of_getElem? (i := 1) rfl⟩
set_option maxRecDepth 20000 in
theorem fw_SW_40 : Cond.fieldLink "ProtectedLine$Switch" 40 "ProtectedLine$Switch" "chosen" "I" ∈ plWG := mt 201 (by decide +kernel) rfl
set_option maxRecDepth 20000 in
theorem fl_SW_40 : plFL "ProtectedLine$Switch" 40 "ProtectedLine$Switch" "chosen" "I" := Or.inl fw_SW_40
set_option maxRecDepth 20000 in
theorem fw_SW_43 : Cond.fieldLink "ProtectedLine$Switch" 43 "ProtectedLine$Switch" "order" "I" ∈ plWG := mt 195 (by decide +kernel) rfl
set_option maxRecDepth 20000 in
theorem fl_SW_43 : plFL "ProtectedLine$Switch" 43 "ProtectedLine$Switch" "order" "I" := Or.inl fw_SW_43
set_option maxRecDepth 20000 in
theorem fw_SW_46 : Cond.fieldLink "ProtectedLine$Switch" 46 "ProtectedLine$Switch" "waitLeft" "I" ∈ plWG := mt 198 (by decide +kernel) rfl
set_option maxRecDepth 20000 in
theorem fl_SW_46 : plFL "ProtectedLine$Switch" 46 "ProtectedLine$Switch" "waitLeft" "I" := Or.inl fw_SW_46
set_option maxRecDepth 20000 in
theorem ml_CO_11 : plCS "ProtectedLine$Code" 11 y_CO_hash b_CO_hash 3 (some .int) 1 := ⟨Or.inl (mt 528 (by decide +kernel) rfl), st_CO_hash, ini_CO, co_CO_hash, mn_CO_hash⟩
set_option maxRecDepth 20000 in
theorem ml_CO_15 : plCS "ProtectedLine$Code" 15 y_JI_bitCount b_JI_bitCount 1 (some .int) 1 := ⟨Or.inl (mt 529 (by decide +kernel) rfl), st_JI_bitCount, ini_JI, co_JI_bitCount, mn_JI_bitCount⟩
set_option maxRecDepth 20000 in
theorem ml_CO_20 : plCS "ProtectedLine$Code" 20 y_CO_pointerByte b_CO_pointerByte 1 (some .int) 1 := ⟨Or.inl (mt 477 (by decide +kernel) rfl), st_CO_pointerByte, ini_CO, co_CO_pointerByte, mn_CO_pointerByte⟩
set_option maxRecDepth 20000 in
theorem oi_PL_1 : Cond.methodLink "ProtectedLine" 1 objectInit ∈ plWG ∧ Cond.instanceMethod objectInit ∈ plWG ∧ Cond.code objectInit ⟨#[0xb1]⟩ 1 none ∈ plWG := ⟨mt 21 (by decide +kernel) rfl, mt 22 (by decide +kernel) rfl, mt 23 rfl rfl⟩
set_option maxRecDepth 20000 in
theorem nl_PL_7 : Cond.classLink "ProtectedLine" 7 "ProtectedLine$StreamSource" ∈ plWG ∧ Cond.instantiable "ProtectedLine$StreamSource" 8 ∈ plWG ∧ Cond.initialized "ProtectedLine$StreamSource" ∈ plWG := ⟨mt 24 (by decide +kernel) rfl, mt 25 (by decide +kernel) rfl, ini_SS⟩
set_option maxRecDepth 20000 in
theorem ci_PL_9 : plCI "ProtectedLine" 9 y_SS_init b_SS_init 1 0 := ⟨Or.inr ⟨"ProtectedLine", List.mem_of_getElem? (i := 0) rfl⟩, im_SS_init, ini_SS, co_SS_init, rfl, mn_SS_init⟩
set_option maxRecDepth 20000 in
theorem fw_PL_10 : Cond.fieldLink "ProtectedLine" 10 "ProtectedLine" "source" "LProtectedLine$StreamSource;" ∈ plWG := mt 302 (by decide +kernel) rfl
set_option maxRecDepth 20000 in
theorem fl_PL_10 : plFL "ProtectedLine" 10 "ProtectedLine" "source" "LProtectedLine$StreamSource;" := Or.inl fw_PL_10
set_option maxRecDepth 20000 in
theorem nl_PL_16 : Cond.classLink "ProtectedLine" 16 "ProtectedLine$NodeA" ∈ plWG ∧ Cond.instantiable "ProtectedLine$NodeA" 6 ∈ plWG ∧ Cond.initialized "ProtectedLine$NodeA" ∈ plWG := ⟨mt 57 (by decide +kernel) rfl, mt 58 (by decide +kernel) rfl, ini_NA⟩
set_option maxRecDepth 20000 in
theorem nl_PL_18 : Cond.classLink "ProtectedLine" 18 "ProtectedLine$ContainerSource" ∈ plWG ∧ Cond.instantiable "ProtectedLine$ContainerSource" 3 ∈ plWG ∧ Cond.initialized "ProtectedLine$ContainerSource" ∈ plWG := ⟨mt 59 (by decide +kernel) rfl, mt 60 (by decide +kernel) rfl, ini_CS⟩
set_option maxRecDepth 20000 in
theorem ci_PL_20 : plCI "ProtectedLine" 20 y_CS_init b_CS_init 2 1 := ⟨Or.inl (mt 61 (by decide +kernel) rfl), im_CS_init, ini_CS, co_CS_init, rfl, mn_CS_init⟩
set_option maxRecDepth 20000 in
theorem ci_PL_23 : plCI "ProtectedLine" 23 y_NA_init b_NA_init 2 1 := ⟨Or.inl (mt 75 (by decide +kernel) rfl), im_NA_init, ini_NA, co_NA_init, rfl, mn_NA_init⟩
set_option maxRecDepth 20000 in
theorem fw_PL_26 : Cond.fieldLink "ProtectedLine" 26 "ProtectedLine" "nodeA" "LProtectedLine$NodeA;" ∈ plWG := mt 303 (by decide +kernel) rfl
set_option maxRecDepth 20000 in
theorem fl_PL_26 : plFL "ProtectedLine" 26 "ProtectedLine" "nodeA" "LProtectedLine$NodeA;" := Or.inl fw_PL_26
set_option maxRecDepth 20000 in
theorem nl_PL_30 : Cond.classLink "ProtectedLine" 30 "ProtectedLine$Line" ∈ plWG ∧ Cond.instantiable "ProtectedLine$Line" 12 ∈ plWG ∧ Cond.initialized "ProtectedLine$Line" ∈ plWG := ⟨mt 117 (by decide +kernel) rfl, mt 118 (by decide +kernel) rfl, ini_LN⟩
set_option maxRecDepth 20000 in
theorem ml_PL_32 : plCS "ProtectedLine" 32 y_PL_delayOf b_PL_delayOf 1 (some .int) 1 := ⟨Or.inl (mt 119 (by decide +kernel) rfl), st_PL_delayOf, ini_PL, co_PL_delayOf, mn_PL_delayOf⟩
set_option maxRecDepth 20000 in
theorem ci_PL_36 : plCI "ProtectedLine" 36 y_LN_init b_LN_init 2 1 := ⟨Or.inl (mt 122 (by decide +kernel) rfl), im_LN_init, ini_LN, co_LN_init, rfl, mn_LN_init⟩
set_option maxRecDepth 20000 in
theorem fw_PL_39 : Cond.fieldLink "ProtectedLine" 39 "ProtectedLine" "working" "LProtectedLine$Line;" ∈ plWG := mt 304 (by decide +kernel) rfl
set_option maxRecDepth 20000 in
theorem fl_PL_39 : plFL "ProtectedLine" 39 "ProtectedLine" "working" "LProtectedLine$Line;" := Or.inl fw_PL_39
set_option maxRecDepth 20000 in
theorem fw_PL_43 : Cond.fieldLink "ProtectedLine" 43 "ProtectedLine" "protection" "LProtectedLine$Line;" ∈ plWG := mt 305 (by decide +kernel) rfl
set_option maxRecDepth 20000 in
theorem fl_PL_43 : plFL "ProtectedLine" 43 "ProtectedLine" "protection" "LProtectedLine$Line;" := Or.inl fw_PL_43
set_option maxRecDepth 20000 in
theorem nl_PL_46 : Cond.classLink "ProtectedLine" 46 "ProtectedLine$BackLine" ∈ plWG ∧ Cond.instantiable "ProtectedLine$BackLine" 3 ∈ plWG ∧ Cond.initialized "ProtectedLine$BackLine" ∈ plWG := ⟨mt 167 (by decide +kernel) rfl, mt 168 (by decide +kernel) rfl, ini_BL⟩
set_option maxRecDepth 20000 in
theorem ci_PL_48 : plCI "ProtectedLine" 48 y_BL_init b_BL_init 2 1 := ⟨Or.inl (mt 169 (by decide +kernel) rfl), im_BL_init, ini_BL, co_BL_init, rfl, mn_BL_init⟩
set_option maxRecDepth 20000 in
theorem fw_PL_49 : Cond.fieldLink "ProtectedLine" 49 "ProtectedLine" "back" "LProtectedLine$BackLine;" ∈ plWG := mt 306 (by decide +kernel) rfl
set_option maxRecDepth 20000 in
theorem fl_PL_49 : plFL "ProtectedLine" 49 "ProtectedLine" "back" "LProtectedLine$BackLine;" := Or.inl fw_PL_49
set_option maxRecDepth 20000 in
theorem nl_PL_53 : Cond.classLink "ProtectedLine" 53 "ProtectedLine$Switch" ∈ plWG ∧ Cond.instantiable "ProtectedLine$Switch" 8 ∈ plWG ∧ Cond.initialized "ProtectedLine$Switch" ∈ plWG := ⟨mt 183 (by decide +kernel) rfl, mt 184 (by decide +kernel) rfl, ini_SW⟩
set_option maxRecDepth 20000 in
theorem ci_PL_55 : plCI "ProtectedLine" 55 y_SW_init b_SW_init 3 2 := ⟨Or.inl (mt 185 (by decide +kernel) rfl), im_SW_init, ini_SW, co_SW_init, rfl, mn_SW_init⟩
set_option maxRecDepth 20000 in
theorem fw_PL_58 : Cond.fieldLink "ProtectedLine" 58 "ProtectedLine" "nodeB" "LProtectedLine$Switch;" ∈ plWG := mt 307 (by decide +kernel) rfl
set_option maxRecDepth 20000 in
theorem fl_PL_58 : plFL "ProtectedLine" 58 "ProtectedLine" "nodeB" "LProtectedLine$Switch;" := Or.inl fw_PL_58
set_option maxRecDepth 20000 in
theorem nl_PL_62 : Cond.classLink "ProtectedLine" 62 "ProtectedLine$StreamReader" ∈ plWG ∧ Cond.instantiable "ProtectedLine$StreamReader" 12 ∈ plWG ∧ Cond.initialized "ProtectedLine$StreamReader" ∈ plWG := ⟨mt 220 (by decide +kernel) rfl, mt 221 (by decide +kernel) rfl, ini_SR⟩
set_option maxRecDepth 20000 in
theorem ci_PL_64 : plCI "ProtectedLine" 64 y_SR_init b_SR_init 1 0 := ⟨Or.inr ⟨"ProtectedLine", List.mem_of_getElem? (i := 3) rfl⟩, im_SR_init, ini_SR, co_SR_init, rfl, mn_SR_init⟩
set_option maxRecDepth 20000 in
theorem fw_PL_65 : Cond.fieldLink "ProtectedLine" 65 "ProtectedLine" "stream" "LProtectedLine$StreamReader;" ∈ plWG := mt 308 (by decide +kernel) rfl
set_option maxRecDepth 20000 in
theorem fl_PL_65 : plFL "ProtectedLine" 65 "ProtectedLine" "stream" "LProtectedLine$StreamReader;" := Or.inl fw_PL_65
set_option maxRecDepth 20000 in
theorem nl_PL_69 : Cond.classLink "ProtectedLine" 69 "ProtectedLine$PointerReader" ∈ plWG ∧ Cond.instantiable "ProtectedLine$PointerReader" 9 ∈ plWG ∧ Cond.initialized "ProtectedLine$PointerReader" ∈ plWG := ⟨mt 266 (by decide +kernel) rfl, mt 267 (by decide +kernel) rfl, ini_PR⟩
set_option maxRecDepth 20000 in
theorem ci_PL_71 : plCI "ProtectedLine" 71 y_PR_init b_PR_init 2 1 := ⟨Or.inl (mt 268 (by decide +kernel) rfl), im_PR_init, ini_PR, co_PR_init, rfl, mn_PR_init⟩
set_option maxRecDepth 20000 in
theorem fw_PL_74 : Cond.fieldLink "ProtectedLine" 74 "ProtectedLine" "reader" "LProtectedLine$PointerReader;" ∈ plWG := mt 309 (by decide +kernel) rfl
set_option maxRecDepth 20000 in
theorem fl_PL_74 : plFL "ProtectedLine" 74 "ProtectedLine" "reader" "LProtectedLine$PointerReader;" := Or.inl fw_PL_74
set_option maxRecDepth 20000 in
theorem ml_PL_78 : plCV "ProtectedLine" 78 y_SS_enqueue b_SS_enqueue 5 (some .boolean) 2 := ⟨Or.inl (mt 331 (by decide +kernel) rfl), im_SS_enqueue, se_SS_enqueue, ini_SS, co_SS_enqueue, mn_SS_enqueue⟩
set_option maxRecDepth 20000 in
theorem ml_PL_82 : plCV "ProtectedLine" 82 y_PL_passTick b_PL_passTick 2 none 0 := ⟨Or.inl (mt 346 (by decide +kernel) rfl), im_PL_passTick, se_PL_passTick, ini_PL, co_PL_passTick, mn_PL_passTick⟩
set_option maxRecDepth 20000 in
theorem ml_PL_85 : plCS "ProtectedLine" 85 y_PL_isLine b_PL_isLine 1 (some .boolean) 1 := ⟨Or.inl (mt 550 (by decide +kernel) rfl), st_PL_isLine, ini_PL, co_PL_isLine, mn_PL_isLine⟩
set_option maxRecDepth 20000 in
theorem ml_PL_89 : plCV "ProtectedLine" 89 y_PL_lineAt b_PL_lineAt 2 (some (.object "ProtectedLine$Line")) 1 := ⟨Or.inl (mt 453 (by decide +kernel) rfl), im_PL_lineAt, se_PL_lineAt, ini_PL, co_PL_lineAt, mn_PL_lineAt⟩
set_option maxRecDepth 20000 in
theorem fl_PL_93 : plFL "ProtectedLine" 93 "ProtectedLine$Line" "broken" "Z" := Or.inr ⟨"ProtectedLine", List.mem_of_getElem? (i := 4) rfl⟩
set_option maxRecDepth 20000 in
theorem ml_PL_97 : plCS "ProtectedLine" 97 y_PL_isPlace b_PL_isPlace 1 (some .boolean) 1 := ⟨Or.inl (mt 557 (by decide +kernel) rfl), st_PL_isPlace, ini_PL, co_PL_isPlace, mn_PL_isPlace⟩
set_option maxRecDepth 20000 in
theorem fl_PL_100 : plFL "ProtectedLine" 100 "ProtectedLine$Line" "harm" "[I" := Or.inr ⟨"ProtectedLine", List.mem_of_getElem? (i := 5) rfl⟩
set_option maxRecDepth 20000 in
theorem ml_PL_104 : plCV "ProtectedLine" 104 y_NA_owe b_NA_owe 2 (some .boolean) 1 := ⟨Or.inl (mt 564 (by decide +kernel) rfl), im_NA_owe, se_NA_owe, ini_NA, co_NA_owe, mn_NA_owe⟩
set_option maxRecDepth 20000 in
theorem fl_PL_107 : plFL "ProtectedLine" 107 "ProtectedLine$Switch" "order" "I" := Or.inr ⟨"ProtectedLine", List.mem_of_getElem? (i := 9) rfl⟩
set_option maxRecDepth 20000 in
theorem fl_PL_111 : plFL "ProtectedLine" 111 "ProtectedLine$StreamSource" "queued" "I" := Or.inr ⟨"ProtectedLine", List.mem_of_getElem? (i := 0) rfl⟩
set_option maxRecDepth 20000 in
theorem ml_PL_114 : plCV "ProtectedLine" 114 y_LN_latestByte b_LN_latestByte 2 (some .int) 1 := ⟨Or.inl (mt 580 (by decide +kernel) rfl), im_LN_latestByte, se_LN_latestByte, ini_LN, co_LN_latestByte, mn_LN_latestByte⟩
set_option maxRecDepth 20000 in
theorem fl_PL_117 : plFL "ProtectedLine" 117 "ProtectedLine$Line" "state" "I" := Or.inr ⟨"ProtectedLine", List.mem_of_getElem? (i := 6) rfl⟩
set_option maxRecDepth 20000 in
theorem fl_PL_120 : plFL "ProtectedLine" 120 "ProtectedLine$Line" "errorBits" "I" := Or.inr ⟨"ProtectedLine", List.mem_of_getElem? (i := 7) rfl⟩
set_option maxRecDepth 20000 in
theorem fl_PL_123 : plFL "ProtectedLine" 123 "ProtectedLine$Switch" "asked" "I" := Or.inr ⟨"ProtectedLine", List.mem_of_getElem? (i := 10) rfl⟩
set_option maxRecDepth 20000 in
theorem ml_PL_126 : plCV "ProtectedLine" 126 y_NA_bridgeOn b_NA_bridgeOn 2 (some .boolean) 0 := ⟨Or.inl (mt 600 (by decide +kernel) rfl), im_NA_bridgeOn, se_NA_bridgeOn, ini_NA, co_NA_bridgeOn, mn_NA_bridgeOn⟩
set_option maxRecDepth 20000 in
theorem fl_PL_130 : plFL "ProtectedLine" 130 "ProtectedLine$Switch" "chosen" "I" := Or.inr ⟨"ProtectedLine", List.mem_of_getElem? (i := 11) rfl⟩
set_option maxRecDepth 20000 in
theorem fl_PL_133 : plFL "ProtectedLine" 133 "ProtectedLine$PointerReader" "v" "I" := Or.inr ⟨"ProtectedLine", List.mem_of_getElem? (i := 15) rfl⟩
set_option maxRecDepth 20000 in
theorem fl_PL_136 : plFL "ProtectedLine" 136 "ProtectedLine$PointerReader" "errorBits" "I" := Or.inr ⟨"ProtectedLine", List.mem_of_getElem? (i := 16) rfl⟩
set_option maxRecDepth 20000 in
theorem fl_PL_137 : plFL "ProtectedLine" 137 "ProtectedLine$StreamReader" "state" "I" := Or.inr ⟨"ProtectedLine", List.mem_of_getElem? (i := 12) rfl⟩
set_option maxRecDepth 20000 in
theorem fl_PL_138 : plFL "ProtectedLine" 138 "ProtectedLine$StreamReader" "good" "I" := Or.inr ⟨"ProtectedLine", List.mem_of_getElem? (i := 13) rfl⟩
set_option maxRecDepth 20000 in
theorem fl_PL_141 : plFL "ProtectedLine" 141 "ProtectedLine$StreamReader" "bad" "I" := Or.inr ⟨"ProtectedLine", List.mem_of_getElem? (i := 14) rfl⟩
set_option maxRecDepth 20000 in
theorem ml_PL_144 : plCV "ProtectedLine" 144 y_SR_kept b_SR_kept 4 (some .int) 2 := ⟨Or.inl (mt 629 (by decide +kernel) rfl), im_SR_kept, se_SR_kept, ini_SR, co_SR_kept, mn_SR_kept⟩
set_option maxRecDepth 20000 in
theorem fl_PL_148 : plFL "ProtectedLine" 148 "ProtectedLine$NodeA" "heard" "LProtectedLine$Listener;" := Or.inr ⟨"ProtectedLine", List.mem_of_getElem? (i := 3) rfl⟩
set_option maxRecDepth 20000 in
theorem ml_PL_152 : plCV "ProtectedLine" 152 y_BL_arriving b_BL_arriving 2 (some .int) 1 := ⟨Or.inl (mt 350 (by decide +kernel) rfl), im_BL_arriving, se_BL_arriving, ini_BL, co_BL_arriving, mn_BL_arriving⟩
set_option maxRecDepth 20000 in
theorem ml_PL_156 : plCV "ProtectedLine" 156 y_LI_hear b_LI_hear 2 none 1 := ⟨Or.inl (mt 354 (by decide +kernel) rfl), im_LI_hear, se_LI_hear, ini_LI, co_LI_hear, mn_LI_hear⟩
set_option maxRecDepth 20000 in
theorem ml_PL_161 : plCV "ProtectedLine" 161 y_NA_transmit b_NA_transmit 5 none 2 := ⟨Or.inl (mt 358 (by decide +kernel) rfl), im_NA_transmit, se_NA_transmit, ini_NA, co_NA_transmit, mn_NA_transmit⟩
set_option maxRecDepth 20000 in
theorem ml_PL_165 : plCV "ProtectedLine" 165 y_LN_receive b_LN_receive 3 none 0 := ⟨Or.inl (mt 406 (by decide +kernel) rfl), im_LN_receive, se_LN_receive, ini_LN, co_LN_receive, mn_LN_receive⟩
set_option maxRecDepth 20000 in
theorem fl_PL_168 : plFL "ProtectedLine" 168 "ProtectedLine$Switch" "heard" "LProtectedLine$Listener;" := Or.inr ⟨"ProtectedLine", List.mem_of_getElem? (i := 8) rfl⟩
set_option maxRecDepth 20000 in
theorem ml_PL_169 : plCV "ProtectedLine" 169 y_LN_readable b_LN_readable 1 (some .boolean) 0 := ⟨Or.inl (mt 435 (by decide +kernel) rfl), im_LN_readable, se_LN_readable, ini_LN, co_LN_readable, mn_LN_readable⟩
set_option maxRecDepth 20000 in
theorem ml_PL_172 : plCV "ProtectedLine" 172 y_LN_plainAt b_LN_plainAt 2 (some .int) 1 := ⟨Or.inl (mt 436 (by decide +kernel) rfl), im_LN_plainAt, se_LN_plainAt, ini_LN, co_LN_plainAt, mn_LN_plainAt⟩
set_option maxRecDepth 20000 in
theorem ml_PL_175 : plCV "ProtectedLine" 175 y_LN_failed b_LN_failed 1 (some .boolean) 0 := ⟨Or.inl (mt 437 (by decide +kernel) rfl), im_LN_failed, se_LN_failed, ini_LN, co_LN_failed, mn_LN_failed⟩
set_option maxRecDepth 20000 in
theorem ml_PL_178 : plCV "ProtectedLine" 178 y_SW_decide b_SW_decide 5 none 2 := ⟨Or.inl (mt 441 (by decide +kernel) rfl), im_SW_decide, se_SW_decide, ini_SW, co_SW_decide, mn_SW_decide⟩
set_option maxRecDepth 20000 in
theorem ml_PL_182 : plCV "ProtectedLine" 182 y_PR_take b_PR_take 6 none 1 := ⟨Or.inl (mt 457 (by decide +kernel) rfl), im_PR_take, se_PR_take, ini_PR, co_PR_take, mn_PR_take⟩
set_option maxRecDepth 20000 in
theorem ml_PL_186 : plCV "ProtectedLine" 186 y_PR_gap b_PR_gap 1 none 0 := ⟨Or.inl (mt 534 (by decide +kernel) rfl), im_PR_gap, se_PR_gap, ini_PR, co_PR_gap, mn_PR_gap⟩
set_option maxRecDepth 20000 in
theorem ml_PL_189 : plCV "ProtectedLine" 189 y_SW_kByte b_SW_kByte 1 (some .int) 0 := ⟨Or.inl (mt 538 (by decide +kernel) rfl), im_SW_kByte, se_SW_kByte, ini_SW, co_SW_kByte, mn_SW_kByte⟩
set_option maxRecDepth 20000 in
theorem ml_PL_193 : plCV "ProtectedLine" 193 y_BL_launch b_BL_launch 2 none 1 := ⟨Or.inl (mt 542 (by decide +kernel) rfl), im_BL_launch, se_BL_launch, ini_BL, co_BL_launch, mn_BL_launch⟩
set_option maxRecDepth 20000 in
theorem nl_LAW_7 : Cond.classLink "ProtectedLineLaw" 7 "ProtectedLine" ∈ plWG ∧ Cond.instantiable "ProtectedLine" 8 ∈ plWG ∧ Cond.initialized "ProtectedLine" ∈ plWG := ⟨mt 16 (by decide +kernel) rfl, mt 17 (by decide +kernel) rfl, ini_PL⟩
set_option maxRecDepth 20000 in
theorem ml_LAW_9 : plCS "ProtectedLineLaw" 9 y_LAW_cell b_LAW_cell 2 (some .int) 2 := ⟨Or.inl (mt 633 (by decide +kernel) rfl), st_LAW_cell, ini_LAW, co_LAW_cell, mn_LAW_cell⟩
set_option maxRecDepth 20000 in
theorem ci_LAW_15 : plCI "ProtectedLineLaw" 15 y_PL_init b_PL_init 7 4 := ⟨Or.inl (mt 18 (by decide +kernel) rfl), im_PL_init, ini_PL, co_PL_init, rfl, mn_PL_init⟩
set_option maxRecDepth 20000 in
theorem nl_LAW_18 : Cond.classLink "ProtectedLineLaw" 18 "ProtectedLineModel" ∈ plWG ∧ Cond.instantiable "ProtectedLineModel" 59 ∈ plWG ∧ Cond.initialized "ProtectedLineModel" ∈ plWG := ⟨mt 636 (by decide +kernel) rfl, mt 637 (by decide +kernel) rfl, ini_RM⟩
set_option maxRecDepth 20000 in
theorem ci_LAW_20 : plCI "ProtectedLineLaw" 20 y_RM_init b_RM_init 11 4 := ⟨Or.inl (mt 638 (by decide +kernel) rfl), im_RM_init, ini_RM, co_RM_init, rfl, mn_RM_init⟩
set_option maxRecDepth 20000 in
theorem m_const_LAW_21 : Cond.constantLong "ProtectedLineLaw" 21 4294967295 ∈ plWG := mt 1016 (by decide +kernel) rfl
set_option maxRecDepth 20000 in
theorem ml_LAW_23 : plCV "ProtectedLineLaw" 23 y_PL_send b_PL_send 4 (some .boolean) 2 := ⟨Or.inl (mt 327 (by decide +kernel) rfl), im_PL_send, se_PL_send, ini_PL, co_PL_send, mn_PL_send⟩
set_option maxRecDepth 20000 in
theorem ml_LAW_27 : plCV "ProtectedLineLaw" 27 y_RM_send b_RM_send 5 (some .boolean) 2 := ⟨Or.inl (mt 821 (by decide +kernel) rfl), im_RM_send, se_RM_send, ini_RM, co_RM_send, mn_RM_send⟩
set_option maxRecDepth 20000 in
theorem ml_LAW_28 : plCV "ProtectedLineLaw" 28 y_PL_tick b_PL_tick 3 (some .boolean) 1 := ⟨Or.inl (mt 342 (by decide +kernel) rfl), im_PL_tick, se_PL_tick, ini_PL, co_PL_tick, mn_PL_tick⟩
set_option maxRecDepth 20000 in
theorem ml_LAW_32 : plCV "ProtectedLineLaw" 32 y_RM_tick b_RM_tick 3 (some .boolean) 1 := ⟨Or.inl (mt 848 (by decide +kernel) rfl), im_RM_tick, se_RM_tick, ini_RM, co_RM_tick, mn_RM_tick⟩
set_option maxRecDepth 20000 in
theorem ml_LAW_33 : plCV "ProtectedLineLaw" 33 y_PL_cut b_PL_cut 3 (some .boolean) 2 := ⟨Or.inl (mt 546 (by decide +kernel) rfl), im_PL_cut, se_PL_cut, ini_PL, co_PL_cut, mn_PL_cut⟩
set_option maxRecDepth 20000 in
theorem ml_LAW_37 : plCV "ProtectedLineLaw" 37 y_RM_cut b_RM_cut 3 (some .boolean) 2 := ⟨Or.inl (mt 826 (by decide +kernel) rfl), im_RM_cut, se_RM_cut, ini_RM, co_RM_cut, mn_RM_cut⟩
set_option maxRecDepth 20000 in
theorem ml_LAW_38 : plCV "ProtectedLineLaw" 38 y_PL_damage b_PL_damage 4 (some .boolean) 3 := ⟨Or.inl (mt 553 (by decide +kernel) rfl), im_PL_damage, se_PL_damage, ini_PL, co_PL_damage, mn_PL_damage⟩
set_option maxRecDepth 20000 in
theorem ml_LAW_42 : plCV "ProtectedLineLaw" 42 y_RM_damage b_RM_damage 4 (some .boolean) 3 := ⟨Or.inl (mt 833 (by decide +kernel) rfl), im_RM_damage, se_RM_damage, ini_RM, co_RM_damage, mn_RM_damage⟩
set_option maxRecDepth 20000 in
theorem ml_LAW_43 : plCV "ProtectedLineLaw" 43 y_PL_drift b_PL_drift 2 (some .boolean) 1 := ⟨Or.inl (mt 560 (by decide +kernel) rfl), im_PL_drift, se_PL_drift, ini_PL, co_PL_drift, mn_PL_drift⟩
set_option maxRecDepth 20000 in
theorem ml_LAW_46 : plCV "ProtectedLineLaw" 46 y_RM_drift b_RM_drift 2 (some .boolean) 1 := ⟨Or.inl (mt 840 (by decide +kernel) rfl), im_RM_drift, se_RM_drift, ini_RM, co_RM_drift, mn_RM_drift⟩
set_option maxRecDepth 20000 in
theorem ml_LAW_47 : plCV "ProtectedLineLaw" 47 y_PL_command b_PL_command 2 (some .boolean) 1 := ⟨Or.inl (mt 568 (by decide +kernel) rfl), im_PL_command, se_PL_command, ini_PL, co_PL_command, mn_PL_command⟩
set_option maxRecDepth 20000 in
theorem ml_LAW_50 : plCV "ProtectedLineLaw" 50 y_RM_command b_RM_command 2 (some .boolean) 1 := ⟨Or.inl (mt 844 (by decide +kernel) rfl), im_RM_command, se_RM_command, ini_RM, co_RM_command, mn_RM_command⟩
set_option maxRecDepth 20000 in
theorem ml_LAW_51 : plCV "ProtectedLineLaw" 51 y_PL_waiting b_PL_waiting 1 (some .int) 0 := ⟨Or.inl (mt 572 (by decide +kernel) rfl), im_PL_waiting, se_PL_waiting, ini_PL, co_PL_waiting, mn_PL_waiting⟩
set_option maxRecDepth 20000 in
theorem ml_LAW_55 : plCV "ProtectedLineLaw" 55 y_RM_waiting b_RM_waiting 1 (some .int) 0 := ⟨Or.inl (mt 964 (by decide +kernel) rfl), im_RM_waiting, se_RM_waiting, ini_RM, co_RM_waiting, mn_RM_waiting⟩
set_option maxRecDepth 20000 in
theorem ml_LAW_56 : plCV "ProtectedLineLaw" 56 y_PL_sent b_PL_sent 3 (some .int) 2 := ⟨Or.inl (mt 576 (by decide +kernel) rfl), im_PL_sent, se_PL_sent, ini_PL, co_PL_sent, mn_PL_sent⟩
set_option maxRecDepth 20000 in
theorem ml_LAW_60 : plCV "ProtectedLineLaw" 60 y_RM_sent b_RM_sent 3 (some .int) 2 := ⟨Or.inl (mt 968 (by decide +kernel) rfl), im_RM_sent, se_RM_sent, ini_RM, co_RM_sent, mn_RM_sent⟩
set_option maxRecDepth 20000 in
theorem ml_LAW_61 : plCV "ProtectedLineLaw" 61 y_PL_alignment b_PL_alignment 2 (some .int) 1 := ⟨Or.inl (mt 584 (by decide +kernel) rfl), im_PL_alignment, se_PL_alignment, ini_PL, co_PL_alignment, mn_PL_alignment⟩
set_option maxRecDepth 20000 in
theorem ml_LAW_65 : plCV "ProtectedLineLaw" 65 y_RM_alignment b_RM_alignment 2 (some .int) 1 := ⟨Or.inl (mt 972 (by decide +kernel) rfl), im_RM_alignment, se_RM_alignment, ini_RM, co_RM_alignment, mn_RM_alignment⟩
set_option maxRecDepth 20000 in
theorem ml_LAW_66 : plCV "ProtectedLineLaw" 66 y_PL_errors b_PL_errors 2 (some .int) 1 := ⟨Or.inl (mt 588 (by decide +kernel) rfl), im_PL_errors, se_PL_errors, ini_PL, co_PL_errors, mn_PL_errors⟩
set_option maxRecDepth 20000 in
theorem ml_LAW_69 : plCV "ProtectedLineLaw" 69 y_RM_errors b_RM_errors 2 (some .int) 1 := ⟨Or.inl (mt 976 (by decide +kernel) rfl), im_RM_errors, se_RM_errors, ini_RM, co_RM_errors, mn_RM_errors⟩
set_option maxRecDepth 20000 in
theorem ml_LAW_70 : plCV "ProtectedLineLaw" 70 y_PL_request b_PL_request 1 (some .int) 0 := ⟨Or.inl (mt 592 (by decide +kernel) rfl), im_PL_request, se_PL_request, ini_PL, co_PL_request, mn_PL_request⟩
set_option maxRecDepth 20000 in
theorem ml_LAW_73 : plCV "ProtectedLineLaw" 73 y_RM_request b_RM_request 1 (some .int) 0 := ⟨Or.inl (mt 980 (by decide +kernel) rfl), im_RM_request, se_RM_request, ini_RM, co_RM_request, mn_RM_request⟩
set_option maxRecDepth 20000 in
theorem ml_LAW_74 : plCV "ProtectedLineLaw" 74 y_PL_bridged b_PL_bridged 1 (some .boolean) 0 := ⟨Or.inl (mt 596 (by decide +kernel) rfl), im_PL_bridged, se_PL_bridged, ini_PL, co_PL_bridged, mn_PL_bridged⟩
set_option maxRecDepth 20000 in
theorem ml_LAW_78 : plCV "ProtectedLineLaw" 78 y_RM_bridged b_RM_bridged 1 (some .boolean) 0 := ⟨Or.inl (mt 984 (by decide +kernel) rfl), im_RM_bridged, se_RM_bridged, ini_RM, co_RM_bridged, mn_RM_bridged⟩
set_option maxRecDepth 20000 in
theorem ml_LAW_79 : plCV "ProtectedLineLaw" 79 y_PL_selected b_PL_selected 1 (some .int) 0 := ⟨Or.inl (mt 601 (by decide +kernel) rfl), im_PL_selected, se_PL_selected, ini_PL, co_PL_selected, mn_PL_selected⟩
set_option maxRecDepth 20000 in
theorem ml_LAW_82 : plCV "ProtectedLineLaw" 82 y_RM_selected b_RM_selected 1 (some .int) 0 := ⟨Or.inl (mt 988 (by decide +kernel) rfl), im_RM_selected, se_RM_selected, ini_RM, co_RM_selected, mn_RM_selected⟩
set_option maxRecDepth 20000 in
theorem ml_LAW_83 : plCV "ProtectedLineLaw" 83 y_PL_pointer b_PL_pointer 1 (some .int) 0 := ⟨Or.inl (mt 605 (by decide +kernel) rfl), im_PL_pointer, se_PL_pointer, ini_PL, co_PL_pointer, mn_PL_pointer⟩
set_option maxRecDepth 20000 in
theorem ml_LAW_86 : plCV "ProtectedLineLaw" 86 y_RM_pointer b_RM_pointer 1 (some .int) 0 := ⟨Or.inl (mt 992 (by decide +kernel) rfl), im_RM_pointer, se_RM_pointer, ini_RM, co_RM_pointer, mn_RM_pointer⟩
set_option maxRecDepth 20000 in
theorem ml_LAW_87 : plCV "ProtectedLineLaw" 87 y_PL_pathErrors b_PL_pathErrors 1 (some .int) 0 := ⟨Or.inl (mt 609 (by decide +kernel) rfl), im_PL_pathErrors, se_PL_pathErrors, ini_PL, co_PL_pathErrors, mn_PL_pathErrors⟩
set_option maxRecDepth 20000 in
theorem ml_LAW_90 : plCV "ProtectedLineLaw" 90 y_RM_pathErrors b_RM_pathErrors 1 (some .int) 0 := ⟨Or.inl (mt 996 (by decide +kernel) rfl), im_RM_pathErrors, se_RM_pathErrors, ini_RM, co_RM_pathErrors, mn_RM_pathErrors⟩
set_option maxRecDepth 20000 in
theorem ml_LAW_91 : plCV "ProtectedLineLaw" 91 y_PL_sync b_PL_sync 1 (some .int) 0 := ⟨Or.inl (mt 613 (by decide +kernel) rfl), im_PL_sync, se_PL_sync, ini_PL, co_PL_sync, mn_PL_sync⟩
set_option maxRecDepth 20000 in
theorem ml_LAW_94 : plCV "ProtectedLineLaw" 94 y_RM_sync b_RM_sync 1 (some .int) 0 := ⟨Or.inl (mt 1000 (by decide +kernel) rfl), im_RM_sync, se_RM_sync, ini_RM, co_RM_sync, mn_RM_sync⟩
set_option maxRecDepth 20000 in
theorem ml_LAW_95 : plCV "ProtectedLineLaw" 95 y_PL_delivered b_PL_delivered 1 (some .int) 0 := ⟨Or.inl (mt 617 (by decide +kernel) rfl), im_PL_delivered, se_PL_delivered, ini_PL, co_PL_delivered, mn_PL_delivered⟩
set_option maxRecDepth 20000 in
theorem ml_LAW_98 : plCV "ProtectedLineLaw" 98 y_RM_delivered b_RM_delivered 1 (some .int) 0 := ⟨Or.inl (mt 1004 (by decide +kernel) rfl), im_RM_delivered, se_RM_delivered, ini_RM, co_RM_delivered, mn_RM_delivered⟩
set_option maxRecDepth 20000 in
theorem ml_LAW_99 : plCV "ProtectedLineLaw" 99 y_PL_dropped b_PL_dropped 1 (some .int) 0 := ⟨Or.inl (mt 621 (by decide +kernel) rfl), im_PL_dropped, se_PL_dropped, ini_PL, co_PL_dropped, mn_PL_dropped⟩
set_option maxRecDepth 20000 in
theorem ml_LAW_102 : plCV "ProtectedLineLaw" 102 y_RM_dropped b_RM_dropped 1 (some .int) 0 := ⟨Or.inl (mt 1008 (by decide +kernel) rfl), im_RM_dropped, se_RM_dropped, ini_RM, co_RM_dropped, mn_RM_dropped⟩
set_option maxRecDepth 20000 in
theorem ml_LAW_103 : plCV "ProtectedLineLaw" 103 y_PL_got b_PL_got 3 (some .int) 2 := ⟨Or.inl (mt 625 (by decide +kernel) rfl), im_PL_got, se_PL_got, ini_PL, co_PL_got, mn_PL_got⟩
set_option maxRecDepth 20000 in
theorem ml_LAW_106 : plCV "ProtectedLineLaw" 106 y_RM_got b_RM_got 3 (some .int) 2 := ⟨Or.inl (mt 1012 (by decide +kernel) rfl), im_RM_got, se_RM_got, ini_RM, co_RM_got, mn_RM_got⟩
set_option maxRecDepth 20000 in
theorem oi_NA_3 : Cond.methodLink "ProtectedLine$NodeA" 3 objectInit ∈ plWG ∧ Cond.instanceMethod objectInit ∈ plWG ∧ Cond.code objectInit ⟨#[0xb1]⟩ 1 none ∈ plWG := ⟨mt 78 (by decide +kernel) rfl, mt 22 (by decide +kernel) rfl, mt 23 rfl rfl⟩
set_option maxRecDepth 20000 in
theorem nl_NA_9 : Cond.classLink "ProtectedLine$NodeA" 9 "ProtectedLine$Listener" ∈ plWG ∧ Cond.instantiable "ProtectedLine$Listener" 3 ∈ plWG ∧ Cond.initialized "ProtectedLine$Listener" ∈ plWG := ⟨mt 79 (by decide +kernel) rfl, mt 80 (by decide +kernel) rfl, ini_LI⟩
set_option maxRecDepth 20000 in
theorem ci_NA_11 : plCI "ProtectedLine$NodeA" 11 y_LI_init b_LI_init 1 0 := ⟨Or.inr ⟨"ProtectedLine", List.mem_of_getElem? (i := 1) rfl⟩, im_LI_init, ini_LI, co_LI_init, rfl, mn_LI_init⟩
set_option maxRecDepth 20000 in
theorem fw_NA_12 : Cond.fieldLink "ProtectedLine$NodeA" 12 "ProtectedLine$NodeA" "heard" "LProtectedLine$Listener;" ∈ plWG := mt 98 (by decide +kernel) rfl
set_option maxRecDepth 20000 in
theorem fl_NA_12 : plFL "ProtectedLine$NodeA" 12 "ProtectedLine$NodeA" "heard" "LProtectedLine$Listener;" := Or.inl fw_NA_12
set_option maxRecDepth 20000 in
theorem fw_NA_18 : Cond.fieldLink "ProtectedLine$NodeA" 18 "ProtectedLine$NodeA" "content" "[I" ∈ plWG := mt 100 (by decide +kernel) rfl
set_option maxRecDepth 20000 in
theorem fl_NA_18 : plFL "ProtectedLine$NodeA" 18 "ProtectedLine$NodeA" "content" "[I" := Or.inl fw_NA_18
set_option maxRecDepth 20000 in
theorem fw_NA_22 : Cond.fieldLink "ProtectedLine$NodeA" 22 "ProtectedLine$NodeA" "containers" "LProtectedLine$ContainerSource;" ∈ plWG := mt 97 (by decide +kernel) rfl
set_option maxRecDepth 20000 in
theorem fl_NA_22 : plFL "ProtectedLine$NodeA" 22 "ProtectedLine$NodeA" "containers" "LProtectedLine$ContainerSource;" := Or.inl fw_NA_22
set_option maxRecDepth 20000 in
theorem fw_NA_26 : Cond.fieldLink "ProtectedLine$NodeA" 26 "ProtectedLine$NodeA" "debt" "I" ∈ plWG := mt 102 (by decide +kernel) rfl
set_option maxRecDepth 20000 in
theorem fl_NA_26 : plFL "ProtectedLine$NodeA" 26 "ProtectedLine$NodeA" "debt" "I" := Or.inl fw_NA_26
set_option maxRecDepth 20000 in
theorem fl_NA_30 : plFL "ProtectedLine$NodeA" 30 "ProtectedLine$Listener" "accepted" "I" := Or.inr ⟨"ProtectedLine", List.mem_of_getElem? (i := 2) rfl⟩
set_option maxRecDepth 20000 in
theorem ml_NA_33 : plCV "ProtectedLine$NodeA" 33 y_NA_justification b_NA_justification 2 (some .int) 0 := ⟨Or.inl (mt 362 (by decide +kernel) rfl), im_NA_justification, se_NA_justification, ini_NA, co_NA_justification, mn_NA_justification⟩
set_option maxRecDepth 20000 in
theorem ml_NA_37 : plCV "ProtectedLine$NodeA" 37 y_NA_fill b_NA_fill 4 none 1 := ⟨Or.inl (mt 366 (by decide +kernel) rfl), im_NA_fill, se_NA_fill, ini_NA, co_NA_fill, mn_NA_fill⟩
set_option maxRecDepth 20000 in
theorem ml_NA_41 : plCV "ProtectedLine$NodeA" 41 y_NA_bridgeOn b_NA_bridgeOn 2 (some .boolean) 0 := ⟨Or.inl (mt 388 (by decide +kernel) rfl), im_NA_bridgeOn, se_NA_bridgeOn, ini_NA, co_NA_bridgeOn, mn_NA_bridgeOn⟩
set_option maxRecDepth 20000 in
theorem ml_NA_45 : plCV "ProtectedLine$NodeA" 45 y_LN_launch b_LN_launch 5 none 2 := ⟨Or.inl (mt 392 (by decide +kernel) rfl), im_LN_launch, se_LN_launch, ini_LN, co_LN_launch, mn_LN_launch⟩
set_option maxRecDepth 20000 in
theorem fl_NA_51 : Cond.fieldLink "ProtectedLine$NodeA" 51 "ProtectedLine$NodeA" "EMPTY" "[I" ∈ plWG := mt 404 (by decide +kernel) rfl
set_option maxRecDepth 20000 in
theorem fw_NA_54 : Cond.fieldLink "ProtectedLine$NodeA" 54 "ProtectedLine$NodeA" "rest" "I" ∈ plWG := mt 103 (by decide +kernel) rfl
set_option maxRecDepth 20000 in
theorem fl_NA_54 : plFL "ProtectedLine$NodeA" 54 "ProtectedLine$NodeA" "rest" "I" := Or.inl fw_NA_54
set_option maxRecDepth 20000 in
theorem fw_NA_59 : Cond.fieldLink "ProtectedLine$NodeA" 59 "ProtectedLine$NodeA" "p" "I" ∈ plWG := mt 101 (by decide +kernel) rfl
set_option maxRecDepth 20000 in
theorem fl_NA_59 : plFL "ProtectedLine$NodeA" 59 "ProtectedLine$NodeA" "p" "I" := Or.inl fw_NA_59
set_option maxRecDepth 20000 in
theorem ml_NA_62 : plCS "ProtectedLine$NodeA" 62 y_CO_pointerByte b_CO_pointerByte 1 (some .int) 1 := ⟨Or.inl (mt 370 (by decide +kernel) rfl), st_CO_pointerByte, ini_CO, co_CO_pointerByte, mn_CO_pointerByte⟩
set_option maxRecDepth 20000 in
theorem ml_NA_66 : plCV "ProtectedLine$NodeA" 66 y_CS_nextByte b_CS_nextByte 2 (some .int) 0 := ⟨Or.inl (mt 373 (by decide +kernel) rfl), im_CS_nextByte, se_CS_nextByte, ini_CS, co_CS_nextByte, mn_CS_nextByte⟩
set_option maxRecDepth 20000 in
theorem oi_BL_3 : Cond.methodLink "ProtectedLine$BackLine" 3 objectInit ∈ plWG ∧ Cond.instanceMethod objectInit ∈ plWG ∧ Cond.code objectInit ⟨#[0xb1]⟩ 1 none ∈ plWG := ⟨mt 172 (by decide +kernel) rfl, mt 22 (by decide +kernel) rfl, mt 23 rfl rfl⟩
set_option maxRecDepth 20000 in
theorem fw_BL_11 : Cond.fieldLink "ProtectedLine$BackLine" 11 "ProtectedLine$BackLine" "underWay" "[I" ∈ plWG := mt 174 (by decide +kernel) rfl
set_option maxRecDepth 20000 in
theorem fl_BL_11 : plFL "ProtectedLine$BackLine" 11 "ProtectedLine$BackLine" "underWay" "[I" := Or.inl fw_BL_11
set_option maxRecDepth 20000 in
theorem fw_BL_15 : Cond.fieldLink "ProtectedLine$BackLine" 15 "ProtectedLine$BackLine" "delay" "I" ∈ plWG := mt 173 (by decide +kernel) rfl
set_option maxRecDepth 20000 in
theorem fl_BL_15 : plFL "ProtectedLine$BackLine" 15 "ProtectedLine$BackLine" "delay" "I" := Or.inl fw_BL_15
set_option maxRecDepth 20000 in
theorem fw_BL_19 : Cond.fieldLink "ProtectedLine$BackLine" 19 "ProtectedLine$BackLine" "launched" "I" ∈ plWG := mt 175 (by decide +kernel) rfl
set_option maxRecDepth 20000 in
theorem fl_BL_19 : plFL "ProtectedLine$BackLine" 19 "ProtectedLine$BackLine" "launched" "I" := Or.inl fw_BL_19
set_option maxRecDepth 20000 in
theorem oi_SR_3 : Cond.methodLink "ProtectedLine$StreamReader" 3 objectInit ∈ plWG ∧ Cond.instanceMethod objectInit ∈ plWG ∧ Cond.code objectInit ⟨#[0xb1]⟩ 1 none ∈ plWG := ⟨mt 225 (by decide +kernel) rfl, mt 22 (by decide +kernel) rfl, mt 23 rfl rfl⟩
set_option maxRecDepth 20000 in
theorem fw_SR_11 : Cond.fieldLink "ProtectedLine$StreamReader" 11 "ProtectedLine$StreamReader" "state" "I" ∈ plWG := mt 226 (by decide +kernel) rfl
set_option maxRecDepth 20000 in
theorem fl_SR_11 : plFL "ProtectedLine$StreamReader" 11 "ProtectedLine$StreamReader" "state" "I" := Or.inl fw_SR_11
set_option maxRecDepth 20000 in
theorem fw_SR_17 : Cond.fieldLink "ProtectedLine$StreamReader" 17 "ProtectedLine$StreamReader" "frame" "[I" ∈ plWG := mt 234 (by decide +kernel) rfl
set_option maxRecDepth 20000 in
theorem fl_SR_17 : plFL "ProtectedLine$StreamReader" 17 "ProtectedLine$StreamReader" "frame" "[I" := Or.inl fw_SR_17
set_option maxRecDepth 20000 in
theorem fw_SR_21 : Cond.fieldLink "ProtectedLine$StreamReader" 21 "ProtectedLine$StreamReader" "sizes" "[I" ∈ plWG := mt 239 (by decide +kernel) rfl
set_option maxRecDepth 20000 in
theorem fl_SR_21 : plFL "ProtectedLine$StreamReader" 21 "ProtectedLine$StreamReader" "sizes" "[I" := Or.inl fw_SR_21
set_option maxRecDepth 20000 in
theorem fw_SR_24 : Cond.fieldLink "ProtectedLine$StreamReader" 24 "ProtectedLine$StreamReader" "contents" "[I" ∈ plWG := mt 240 (by decide +kernel) rfl
set_option maxRecDepth 20000 in
theorem fl_SR_24 : plFL "ProtectedLine$StreamReader" 24 "ProtectedLine$StreamReader" "contents" "[I" := Or.inl fw_SR_24
set_option maxRecDepth 20000 in
theorem fw_SR_27 : Cond.fieldLink "ProtectedLine$StreamReader" 27 "ProtectedLine$StreamReader" "half" "Z" ∈ plWG := mt 228 (by decide +kernel) rfl
set_option maxRecDepth 20000 in
theorem fl_SR_27 : plFL "ProtectedLine$StreamReader" 27 "ProtectedLine$StreamReader" "half" "Z" := Or.inl fw_SR_27
set_option maxRecDepth 20000 in
theorem fw_SR_31 : Cond.fieldLink "ProtectedLine$StreamReader" 31 "ProtectedLine$StreamReader" "length" "I" ∈ plWG := mt 230 (by decide +kernel) rfl
set_option maxRecDepth 20000 in
theorem fl_SR_31 : plFL "ProtectedLine$StreamReader" 31 "ProtectedLine$StreamReader" "length" "I" := Or.inl fw_SR_31
set_option maxRecDepth 20000 in
theorem fw_SR_34 : Cond.fieldLink "ProtectedLine$StreamReader" 34 "ProtectedLine$StreamReader" "done" "I" ∈ plWG := mt 231 (by decide +kernel) rfl
set_option maxRecDepth 20000 in
theorem fl_SR_34 : plFL "ProtectedLine$StreamReader" 34 "ProtectedLine$StreamReader" "done" "I" := Or.inl fw_SR_34
set_option maxRecDepth 20000 in
theorem ml_SR_37 : plCV "ProtectedLine$StreamReader" 37 y_SR_takeFrameByte b_SR_takeFrameByte 3 none 1 := ⟨Or.inl (mt 508 (by decide +kernel) rfl), im_SR_takeFrameByte, se_SR_takeFrameByte, ini_SR, co_SR_takeFrameByte, mn_SR_takeFrameByte⟩
set_option maxRecDepth 20000 in
theorem ml_SR_41 : plCV "ProtectedLine$StreamReader" 41 y_SR_takeHeader b_SR_takeHeader 4 none 1 := ⟨Or.inl (mt 521 (by decide +kernel) rfl), im_SR_takeHeader, se_SR_takeHeader, ini_SR, co_SR_takeHeader, mn_SR_takeHeader⟩
set_option maxRecDepth 20000 in
theorem fw_SR_44 : Cond.fieldLink "ProtectedLine$StreamReader" 44 "ProtectedLine$StreamReader" "first" "I" ∈ plWG := mt 229 (by decide +kernel) rfl
set_option maxRecDepth 20000 in
theorem fl_SR_44 : plFL "ProtectedLine$StreamReader" 44 "ProtectedLine$StreamReader" "first" "I" := Or.inl fw_SR_44
set_option maxRecDepth 20000 in
theorem ml_SR_47 : plCS "ProtectedLine$StreamReader" 47 y_CO_lengthRepaired b_CO_lengthRepaired 6 (some .int) 2 := ⟨Or.inl (mt 525 (by decide +kernel) rfl), st_CO_lengthRepaired, ini_CO, co_CO_lengthRepaired, mn_CO_lengthRepaired⟩
set_option maxRecDepth 20000 in
theorem ml_SR_51 : plCS "ProtectedLine$StreamReader" 51 y_CO_lengthIn b_CO_lengthIn 3 (some .int) 2 := ⟨Or.inl (mt 530 (by decide +kernel) rfl), st_CO_lengthIn, ini_CO, co_CO_lengthIn, mn_CO_lengthIn⟩
set_option maxRecDepth 20000 in
theorem fw_SR_54 : Cond.fieldLink "ProtectedLine$StreamReader" 54 "ProtectedLine$StreamReader" "check" "I" ∈ plWG := mt 233 (by decide +kernel) rfl
set_option maxRecDepth 20000 in
theorem fl_SR_54 : plFL "ProtectedLine$StreamReader" 54 "ProtectedLine$StreamReader" "check" "I" := Or.inl fw_SR_54
set_option maxRecDepth 20000 in
theorem ml_SR_57 : plCV "ProtectedLine$StreamReader" 57 y_SR_hunt b_SR_hunt 1 none 0 := ⟨Or.inl (mt 533 (by decide +kernel) rfl), im_SR_hunt, se_SR_hunt, ini_SR, co_SR_hunt, mn_SR_hunt⟩
set_option maxRecDepth 20000 in
theorem fw_SR_60 : Cond.fieldLink "ProtectedLine$StreamReader" 60 "ProtectedLine$StreamReader" "before" "I" ∈ plWG := mt 232 (by decide +kernel) rfl
set_option maxRecDepth 20000 in
theorem fl_SR_60 : plFL "ProtectedLine$StreamReader" 60 "ProtectedLine$StreamReader" "before" "I" := Or.inl fw_SR_60
set_option maxRecDepth 20000 in
theorem ml_SR_63 : plCV "ProtectedLine$StreamReader" 63 y_SR_endFrame b_SR_endFrame 2 none 1 := ⟨Or.inl (mt 512 (by decide +kernel) rfl), im_SR_endFrame, se_SR_endFrame, ini_SR, co_SR_endFrame, mn_SR_endFrame⟩
set_option maxRecDepth 20000 in
theorem ml_SR_66 : plCS "ProtectedLine$StreamReader" 66 y_CO_hash b_CO_hash 3 (some .int) 1 := ⟨Or.inl (mt 520 (by decide +kernel) rfl), st_CO_hash, ini_CO, co_CO_hash, mn_CO_hash⟩
set_option maxRecDepth 20000 in
theorem fw_SR_70 : Cond.fieldLink "ProtectedLine$StreamReader" 70 "ProtectedLine$StreamReader" "good" "I" ∈ plWG := mt 235 (by decide +kernel) rfl
set_option maxRecDepth 20000 in
theorem fl_SR_70 : plFL "ProtectedLine$StreamReader" 70 "ProtectedLine$StreamReader" "good" "I" := Or.inl fw_SR_70
set_option maxRecDepth 20000 in
theorem ml_SR_73 : plCS "ProtectedLine$StreamReader" 73 y_SR_slotOf b_SR_slotOf 1 (some .int) 1 := ⟨Or.inl (mt 516 (by decide +kernel) rfl), st_SR_slotOf, ini_SR, co_SR_slotOf, mn_SR_slotOf⟩
set_option maxRecDepth 20000 in
theorem ml_SR_76 : Cond.methodLink "ProtectedLine$StreamReader" 76 arraycopyName ∈ plWG ∧ Cond.native arraycopyName ∈ plWG ∧ Cond.static arraycopyName ∈ plWG ∧ Cond.initialized "java/lang/System" ∈ plWG := ⟨mt 519 (by decide +kernel) rfl, mt 387 (by decide +kernel) rfl, mt 386 (by decide +kernel) rfl, ini_System⟩
set_option maxRecDepth 20000 in
theorem fw_SR_82 : Cond.fieldLink "ProtectedLine$StreamReader" 82 "ProtectedLine$StreamReader" "bad" "I" ∈ plWG := mt 237 (by decide +kernel) rfl
set_option maxRecDepth 20000 in
theorem fl_SR_82 : plFL "ProtectedLine$StreamReader" 82 "ProtectedLine$StreamReader" "bad" "I" := Or.inl fw_SR_82
set_option maxRecDepth 20000 in
theorem oi_SS_3 : Cond.methodLink "ProtectedLine$StreamSource" 3 objectInit ∈ plWG ∧ Cond.instanceMethod objectInit ∈ plWG ∧ Cond.code objectInit ⟨#[0xb1]⟩ 1 none ∈ plWG := ⟨mt 29 (by decide +kernel) rfl, mt 22 (by decide +kernel) rfl, mt 23 rfl rfl⟩
set_option maxRecDepth 20000 in
theorem fw_SS_11 : Cond.fieldLink "ProtectedLine$StreamSource" 11 "ProtectedLine$StreamSource" "ready" "[I" ∈ plWG := mt 30 (by decide +kernel) rfl
set_option maxRecDepth 20000 in
theorem fl_SS_11 : plFL "ProtectedLine$StreamSource" 11 "ProtectedLine$StreamSource" "ready" "[I" := Or.inl fw_SS_11
set_option maxRecDepth 20000 in
theorem fw_SS_15 : Cond.fieldLink "ProtectedLine$StreamSource" 15 "ProtectedLine$StreamSource" "lengths" "[I" ∈ plWG := mt 31 (by decide +kernel) rfl
set_option maxRecDepth 20000 in
theorem fl_SS_15 : plFL "ProtectedLine$StreamSource" 15 "ProtectedLine$StreamSource" "lengths" "[I" := Or.inl fw_SS_15
set_option maxRecDepth 20000 in
theorem fw_SS_18 : Cond.fieldLink "ProtectedLine$StreamSource" 18 "ProtectedLine$StreamSource" "current" "[I" ∈ plWG := mt 36 (by decide +kernel) rfl
set_option maxRecDepth 20000 in
theorem fl_SS_18 : plFL "ProtectedLine$StreamSource" 18 "ProtectedLine$StreamSource" "current" "[I" := Or.inl fw_SS_18
set_option maxRecDepth 20000 in
theorem fw_SS_21 : Cond.fieldLink "ProtectedLine$StreamSource" 21 "ProtectedLine$StreamSource" "queued" "I" ∈ plWG := mt 33 (by decide +kernel) rfl
set_option maxRecDepth 20000 in
theorem fl_SS_21 : plFL "ProtectedLine$StreamSource" 21 "ProtectedLine$StreamSource" "queued" "I" := Or.inl fw_SS_21
set_option maxRecDepth 20000 in
theorem fw_SS_25 : Cond.fieldLink "ProtectedLine$StreamSource" 25 "ProtectedLine$StreamSource" "oldest" "I" ∈ plWG := mt 32 (by decide +kernel) rfl
set_option maxRecDepth 20000 in
theorem fl_SS_25 : plFL "ProtectedLine$StreamSource" 25 "ProtectedLine$StreamSource" "oldest" "I" := Or.inl fw_SS_25
set_option maxRecDepth 20000 in
theorem ml_SS_28 : plCV "ProtectedLine$StreamSource" 28 y_SS_makeReady b_SS_makeReady 8 none 3 := ⟨Or.inl (mt 335 (by decide +kernel) rfl), im_SS_makeReady, se_SS_makeReady, ini_SS, co_SS_makeReady, mn_SS_makeReady⟩
set_option maxRecDepth 20000 in
theorem ml_SS_32 : plCS "ProtectedLine$StreamSource" 32 y_CO_hash b_CO_hash 3 (some .int) 1 := ⟨Or.inl (mt 339 (by decide +kernel) rfl), st_CO_hash, ini_CO, co_CO_hash, mn_CO_hash⟩
set_option maxRecDepth 20000 in
theorem fw_SS_36 : Cond.fieldLink "ProtectedLine$StreamSource" 36 "ProtectedLine$StreamSource" "before" "I" ∈ plWG := mt 35 (by decide +kernel) rfl
set_option maxRecDepth 20000 in
theorem fl_SS_36 : plFL "ProtectedLine$StreamSource" 36 "ProtectedLine$StreamSource" "before" "I" := Or.inl fw_SS_36
set_option maxRecDepth 20000 in
theorem fw_SS_39 : Cond.fieldLink "ProtectedLine$StreamSource" 39 "ProtectedLine$StreamSource" "position" "I" ∈ plWG := mt 38 (by decide +kernel) rfl
set_option maxRecDepth 20000 in
theorem fl_SS_39 : plFL "ProtectedLine$StreamSource" 39 "ProtectedLine$StreamSource" "position" "I" := Or.inl fw_SS_39
set_option maxRecDepth 20000 in
theorem fw_SS_42 : Cond.fieldLink "ProtectedLine$StreamSource" 42 "ProtectedLine$StreamSource" "length" "I" ∈ plWG := mt 37 (by decide +kernel) rfl
set_option maxRecDepth 20000 in
theorem fl_SS_42 : plFL "ProtectedLine$StreamSource" 42 "ProtectedLine$StreamSource" "length" "I" := Or.inl fw_SS_42
set_option maxRecDepth 20000 in
theorem ml_SS_45 : plCV "ProtectedLine$StreamSource" 45 y_SS_begin b_SS_begin 1 none 0 := ⟨Or.inl (mt 381 (by decide +kernel) rfl), im_SS_begin, se_SS_begin, ini_SS, co_SS_begin, mn_SS_begin⟩
set_option maxRecDepth 20000 in
theorem ml_SS_48 : Cond.methodLink "ProtectedLine$StreamSource" 48 arraycopyName ∈ plWG ∧ Cond.native arraycopyName ∈ plWG ∧ Cond.static arraycopyName ∈ plWG ∧ Cond.initialized "java/lang/System" ∈ plWG := ⟨mt 385 (by decide +kernel) rfl, mt 387 (by decide +kernel) rfl, mt 386 (by decide +kernel) rfl, ini_System⟩
end
section
def plwC (g : plG) (a : Nat → Nat) (st : plS) : va_W := [(a 0, .inr (0, [.ref (a 1), .ref (a 5), .ref (a 9), .ref (a 13), .ref (a 17), .ref (a 19), .ref (a 21), .ref (a 25)])), (a 1, .inr (1, [.ref (a 2), .ref (a 3), .int (st 1 2), .int (st 1 3), .int (st 1 4), .ref (a 4), .int (st 1 6), .int (st 1 7)])), (a 2, .inl (plgI g, 72, .inl (st 2))), (a 3, .inl (plgI g, 8, .inl (st 3))), (a 4, .inl (plgI g, 9, .inl (st 4))), (a 5, .inr (2, [.ref (a 6), .ref (a 7), .ref (a 8), .int (st 5 3), .int (st 5 4), .int (st 5 5)])), (a 6, .inr (3, [.ref (a 1), .int (st 6 1), .int (st 6 2)])), (a 7, .inr (4, [.int (st 7 0), .int (st 7 1), .int (st 7 2)])), (a 8, .inl (plgI g, 8, .inl (st 8))), (a 9, .inr (5, [.int (st 9 0), .ref (a 10), .int (st 9 2), .int (st 9 3), .int (st 9 4), .ref (a 11), .ref (a 12), .int (st 9 7), .int (st 9 8), .int (st 9 9), .int (st 9 10), .int (st 9 11)])), (a 10, .inl (plgI g, 96, .inl (st 10))), (a 11, .inl (plgI g, 12, .inl (st 11))), (a 12, .inl (plgI g, 12, .inl (st 12))), (a 13, .inr (5, [.int (st 13 0), .ref (a 14), .int (st 13 2), .int (st 13 3), .int (st 13 4), .ref (a 15), .ref (a 16), .int (st 13 7), .int (st 13 8), .int (st 13 9), .int (st 13 10), .int (st 13 11)])), (a 14, .inl (plgI g, 96, .inl (st 14))), (a 15, .inl (plgI g, 12, .inl (st 15))), (a 16, .inl (plgI g, 12, .inl (st 16))), (a 17, .inr (6, [.int (st 17 0), .ref (a 18), .int (st 17 2)])), (a 18, .inl (plgI g, 8, .inl (st 18))), (a 19, .inr (7, [.int (st 19 0), .int (st 19 1), .ref (a 20), .int (st 19 3), .int (st 19 4), .int (st 19 5), .int (st 19 6), .int (st 19 7)])), (a 20, .inr (4, [.int (st 20 0), .int (st 20 1), .int (st 20 2)])), (a 21, .inr (8, [.int (st 21 0), .int (st 21 1), .int (st 21 2), .int (st 21 3), .int (st 21 4), .int (st 21 5), .int (st 21 6), .ref (a 22), .int (st 21 8), .int (st 21 9), .ref (a 23), .ref (a 24)])), (a 22, .inl (plgI g, 6, .inl (st 22))), (a 23, .inl (plgI g, 8, .inl (st 23))), (a 24, .inl (plgI g, 48, .inl (st 24))), (a 25, .inr (9, [.ref (a 21), .int (st 25 1), .int (st 25 2), .int (st 25 3), .int (st 25 4), .int (st 25 5), .int (st 25 6), .int (st 25 7), .int (st 25 8)]))]
def plwR (g : plG) (a : Nat → Nat) (st : plS) : va_W := [(a 0, .inr (10, [.ref (a 1), .int (st 0 1), .int (st 0 2), .int (st 0 3), .int (st 0 4), .ref (a 2), .ref (a 3), .int (st 0 7), .int (st 0 8), .int (st 0 9), .int (st 0 10), .int (st 0 11), .int (st 0 12), .int (st 0 13), .int (st 0 14), .int (st 0 15), .int (st 0 16), .int (st 0 17), .int (st 0 18), .int (st 0 19), .ref (a 4), .ref (a 5), .ref (a 6), .ref (a 7), .ref (a 8), .ref (a 9), .ref (a 10), .ref (a 11), .ref (a 12), .ref (a 13), .ref (a 14), .ref (a 15), .ref (a 16), .int (st 0 33), .int (st 0 34), .int (st 0 35), .int (st 0 36), .int (st 0 37), .int (st 0 38), .int (st 0 39), .int (st 0 40), .int (st 0 41), .int (st 0 42), .int (st 0 43), .int (st 0 44), .int (st 0 45), .int (st 0 46), .int (st 0 47), .int (st 0 48), .int (st 0 49), .int (st 0 50), .int (st 0 51), .int (st 0 52), .int (st 0 53), .int (st 0 54), .ref (a 17), .int (st 0 56), .int (st 0 57), .ref (a 18)])), (a 1, .inl (plgI g, 2, .inl (st 1))), (a 2, .inl (plgI g, 56, .inl (st 2))), (a 3, .inl (plgI g, 9, .inl (st 3))), (a 4, .inl (plgI g, 192, .inl (st 4))), (a 5, .inl (plgI g, 8, .inl (st 5))), (a 6, .inl (plgI g, 12, .inl (st 6))), (a 7, .inl (plgI g, 12, .inl (st 7))), (a 8, .inl (plgZ g, 2, .inl (st 8))), (a 9, .inl (plgI g, 24, .inl (st 9))), (a 10, .inl (plgI g, 24, .inl (st 10))), (a 11, .inl (plgZ g, 2, .inl (st 11))), (a 12, .inl (plgZ g, 2, .inl (st 12))), (a 13, .inl (plgI g, 2, .inl (st 13))), (a 14, .inl (plgI g, 2, .inl (st 14))), (a 15, .inl (plgI g, 2, .inl (st 15))), (a 16, .inl (plgI g, 2, .inl (st 16))), (a 17, .inl (plgI g, 7, .inl (st 17))), (a 18, .inl (plgI g, 56, .inl (st 18)))]
set_option maxRecDepth 20000 in
theorem bp_m16 : (Int8.ofInt (-16)).toInt32 = (-16) := by decide
set_option maxRecDepth 20000 in
theorem bp_m8 : (Int8.ofInt (-8)).toInt32 = (-8) := by decide
set_option maxRecDepth 20000 in
theorem bp_109 : (Int8.ofInt (109)).toInt32 = 109 := by decide
set_option maxRecDepth 20000 in
theorem bp_11 : (Int8.ofInt (11)).toInt32 = 11 := by decide
set_option maxRecDepth 20000 in
theorem bp_12 : (Int8.ofInt (12)).toInt32 = 12 := by decide
set_option maxRecDepth 20000 in
theorem bp_127 : (Int8.ofInt (127)).toInt32 = 127 := by decide
set_option maxRecDepth 20000 in
theorem bp_15 : (Int8.ofInt (15)).toInt32 = 15 := by decide
set_option maxRecDepth 20000 in
theorem bp_16 : (Int8.ofInt (16)).toInt32 = 16 := by decide
set_option maxRecDepth 20000 in
theorem bp_21 : (Int8.ofInt (21)).toInt32 = 21 := by decide
set_option maxRecDepth 20000 in
theorem bp_40 : (Int8.ofInt (40)).toInt32 = 40 := by decide
set_option maxRecDepth 20000 in
theorem bp_42 : (Int8.ofInt (42)).toInt32 = 42 := by decide
set_option maxRecDepth 20000 in
theorem bp_55 : (Int8.ofInt (55)).toInt32 = 55 := by decide
set_option maxRecDepth 20000 in
theorem bp_6 : (Int8.ofInt (6)).toInt32 = 6 := by decide
set_option maxRecDepth 20000 in
theorem bp_63 : (Int8.ofInt (63)).toInt32 = 63 := by decide
set_option maxRecDepth 20000 in
theorem bp_64 : (Int8.ofInt (64)).toInt32 = 64 := by decide
set_option maxRecDepth 20000 in
theorem bp_7 : (Int8.ofInt (7)).toInt32 = 7 := by decide
set_option maxRecDepth 20000 in
theorem bp_8 : (Int8.ofInt (8)).toInt32 = 8 := by decide
set_option maxRecDepth 20000 in
theorem bp_9 : (Int8.ofInt (9)).toInt32 = 9 := by decide
set_option maxRecDepth 20000 in
theorem ic_m1 : Int32.ofInt (-1) = (-1) := by decide
set_option maxRecDepth 20000 in
theorem ic_0 : Int32.ofInt (0) = 0 := by decide
set_option maxRecDepth 20000 in
theorem ic_1 : Int32.ofInt (1) = 1 := by decide
set_option maxRecDepth 20000 in
theorem ic_2 : Int32.ofInt (2) = 2 := by decide
set_option maxRecDepth 20000 in
theorem ic_3 : Int32.ofInt (3) = 3 := by decide
set_option maxRecDepth 20000 in
theorem ic_4 : Int32.ofInt (4) = 4 := by decide
set_option maxRecDepth 20000 in
theorem ic_5 : Int32.ofInt (5) = 5 := by decide
set_option maxRecDepth 20000 in
theorem nz_16 : ¬ (16 : Int32) = 0 := by decide
set_option maxRecDepth 20000 in
theorem nz_2 : ¬ (2 : Int32) = 0 := by decide
set_option maxRecDepth 20000 in
theorem nz_6 : ¬ (6 : Int32) = 0 := by decide
set_option maxRecDepth 20000 in
theorem nz_64 : ¬ (64 : Int32) = 0 := by decide
set_option maxRecDepth 20000 in
theorem nz_8 : ¬ (8 : Int32) = 0 := by decide
set_option maxRecDepth 20000 in
theorem nz_9 : ¬ (9 : Int32) = 0 := by decide
set_option maxRecDepth 20000 in
theorem sp_128 : (Int16.ofInt (128)).toInt32 = 128 := by decide
set_option maxRecDepth 20000 in
theorem sp_171 : (Int16.ofInt (171)).toInt32 = 171 := by decide
set_option maxRecDepth 20000 in
theorem sp_182 : (Int16.ofInt (182)).toInt32 = 182 := by decide
set_option maxRecDepth 20000 in
theorem sp_246 : (Int16.ofInt (246)).toInt32 = 246 := by decide
set_option maxRecDepth 20000 in
theorem sp_255 : (Int16.ofInt (255)).toInt32 = 255 := by decide
set_option maxRecDepth 20000 in
theorem vi_0_10 : vp_in 0 10 := by unfold vp_in; decide
set_option maxRecDepth 20000 in
theorem vi_0_12 : vp_in 0 12 := by unfold vp_in; decide
set_option maxRecDepth 20000 in
theorem vi_0_2 : vp_in 0 2 := by unfold vp_in; decide
set_option maxRecDepth 20000 in
theorem vi_0_56 : vp_in 0 56 := by unfold vp_in; decide
set_option maxRecDepth 20000 in
theorem vi_0_8 : vp_in 0 8 := by unfold vp_in; decide
set_option maxRecDepth 20000 in
theorem vi_0_9 : vp_in 0 9 := by unfold vp_in; decide
set_option maxRecDepth 20000 in
theorem vi_1_10 : vp_in 1 10 := by unfold vp_in; decide
set_option maxRecDepth 20000 in
theorem vi_1_12 : vp_in 1 12 := by unfold vp_in; decide
set_option maxRecDepth 20000 in
theorem vi_1_2 : vp_in 1 2 := by unfold vp_in; decide
set_option maxRecDepth 20000 in
theorem vi_1_8 : vp_in 1 8 := by unfold vp_in; decide
set_option maxRecDepth 20000 in
theorem vi_1_9 : vp_in 1 9 := by unfold vp_in; decide
set_option maxRecDepth 20000 in
theorem vi_15_24 : vp_in 15 24 := by unfold vp_in; decide
set_option maxRecDepth 20000 in
theorem vi_2_12 : vp_in 2 12 := by unfold vp_in; decide
set_option maxRecDepth 20000 in
theorem vi_2_8 : vp_in 2 8 := by unfold vp_in; decide
set_option maxRecDepth 20000 in
theorem vi_3_12 : vp_in 3 12 := by unfold vp_in; decide
set_option maxRecDepth 20000 in
theorem vi_4_12 : vp_in 4 12 := by unfold vp_in; decide
end
section
set_option maxRecDepth 20000 in
theorem get_PL_source {E : plE} {cc : ByteArray} {own : String} {nL : Nat} {ret : Option FieldType} {fr lo : Nat} {k n : Nat} {lv : List (Nat × Value)} {pc index : Nat} {stk : List Value} {a : Nat → Nat} {st : plS} (X : plX E cc own nL ret fr lo) (hl : plFL own index "ProtectedLine" "source" "LProtectedLine$StreamSource;") (d : decode cc pc = .ok (.getfield index, 3)) (kk : plJ E nL (plwC (plg E) a st) k n lv (pc + 3) (.ref (a 1) :: stk)) : plJ E nL (plwC (plg E) a st) k n lv pc (.ref (a 0) :: stk) := j_get (ci := 0) (kf := 0) (q0 := 0) (T := F_PL) (N := 8) X in_PL rfl (by decide) rfl rfl rfl hl d kk
set_option maxRecDepth 20000 in
theorem get_PL_nodeA {E : plE} {cc : ByteArray} {own : String} {nL : Nat} {ret : Option FieldType} {fr lo : Nat} {k n : Nat} {lv : List (Nat × Value)} {pc index : Nat} {stk : List Value} {a : Nat → Nat} {st : plS} (X : plX E cc own nL ret fr lo) (hl : plFL own index "ProtectedLine" "nodeA" "LProtectedLine$NodeA;") (d : decode cc pc = .ok (.getfield index, 3)) (kk : plJ E nL (plwC (plg E) a st) k n lv (pc + 3) (.ref (a 5) :: stk)) : plJ E nL (plwC (plg E) a st) k n lv pc (.ref (a 0) :: stk) := j_get (ci := 0) (kf := 1) (q0 := 0) (T := F_PL) (N := 8) X in_PL rfl (by decide) rfl rfl rfl hl d kk
set_option maxRecDepth 20000 in
theorem get_PL_working {E : plE} {cc : ByteArray} {own : String} {nL : Nat} {ret : Option FieldType} {fr lo : Nat} {k n : Nat} {lv : List (Nat × Value)} {pc index : Nat} {stk : List Value} {a : Nat → Nat} {st : plS} (X : plX E cc own nL ret fr lo) (hl : plFL own index "ProtectedLine" "working" "LProtectedLine$Line;") (d : decode cc pc = .ok (.getfield index, 3)) (kk : plJ E nL (plwC (plg E) a st) k n lv (pc + 3) (.ref (a 9) :: stk)) : plJ E nL (plwC (plg E) a st) k n lv pc (.ref (a 0) :: stk) := j_get (ci := 0) (kf := 2) (q0 := 0) (T := F_PL) (N := 8) X in_PL rfl (by decide) rfl rfl rfl hl d kk
set_option maxRecDepth 20000 in
theorem get_PL_protection {E : plE} {cc : ByteArray} {own : String} {nL : Nat} {ret : Option FieldType} {fr lo : Nat} {k n : Nat} {lv : List (Nat × Value)} {pc index : Nat} {stk : List Value} {a : Nat → Nat} {st : plS} (X : plX E cc own nL ret fr lo) (hl : plFL own index "ProtectedLine" "protection" "LProtectedLine$Line;") (d : decode cc pc = .ok (.getfield index, 3)) (kk : plJ E nL (plwC (plg E) a st) k n lv (pc + 3) (.ref (a 13) :: stk)) : plJ E nL (plwC (plg E) a st) k n lv pc (.ref (a 0) :: stk) := j_get (ci := 0) (kf := 3) (q0 := 0) (T := F_PL) (N := 8) X in_PL rfl (by decide) rfl rfl rfl hl d kk
set_option maxRecDepth 20000 in
theorem get_PL_back {E : plE} {cc : ByteArray} {own : String} {nL : Nat} {ret : Option FieldType} {fr lo : Nat} {k n : Nat} {lv : List (Nat × Value)} {pc index : Nat} {stk : List Value} {a : Nat → Nat} {st : plS} (X : plX E cc own nL ret fr lo) (hl : plFL own index "ProtectedLine" "back" "LProtectedLine$BackLine;") (d : decode cc pc = .ok (.getfield index, 3)) (kk : plJ E nL (plwC (plg E) a st) k n lv (pc + 3) (.ref (a 17) :: stk)) : plJ E nL (plwC (plg E) a st) k n lv pc (.ref (a 0) :: stk) := j_get (ci := 0) (kf := 4) (q0 := 0) (T := F_PL) (N := 8) X in_PL rfl (by decide) rfl rfl rfl hl d kk
set_option maxRecDepth 20000 in
theorem get_PL_nodeB {E : plE} {cc : ByteArray} {own : String} {nL : Nat} {ret : Option FieldType} {fr lo : Nat} {k n : Nat} {lv : List (Nat × Value)} {pc index : Nat} {stk : List Value} {a : Nat → Nat} {st : plS} (X : plX E cc own nL ret fr lo) (hl : plFL own index "ProtectedLine" "nodeB" "LProtectedLine$Switch;") (d : decode cc pc = .ok (.getfield index, 3)) (kk : plJ E nL (plwC (plg E) a st) k n lv (pc + 3) (.ref (a 19) :: stk)) : plJ E nL (plwC (plg E) a st) k n lv pc (.ref (a 0) :: stk) := j_get (ci := 0) (kf := 5) (q0 := 0) (T := F_PL) (N := 8) X in_PL rfl (by decide) rfl rfl rfl hl d kk
set_option maxRecDepth 20000 in
theorem get_PL_stream {E : plE} {cc : ByteArray} {own : String} {nL : Nat} {ret : Option FieldType} {fr lo : Nat} {k n : Nat} {lv : List (Nat × Value)} {pc index : Nat} {stk : List Value} {a : Nat → Nat} {st : plS} (X : plX E cc own nL ret fr lo) (hl : plFL own index "ProtectedLine" "stream" "LProtectedLine$StreamReader;") (d : decode cc pc = .ok (.getfield index, 3)) (kk : plJ E nL (plwC (plg E) a st) k n lv (pc + 3) (.ref (a 21) :: stk)) : plJ E nL (plwC (plg E) a st) k n lv pc (.ref (a 0) :: stk) := j_get (ci := 0) (kf := 6) (q0 := 0) (T := F_PL) (N := 8) X in_PL rfl (by decide) rfl rfl rfl hl d kk
set_option maxRecDepth 20000 in
theorem get_PL_reader {E : plE} {cc : ByteArray} {own : String} {nL : Nat} {ret : Option FieldType} {fr lo : Nat} {k n : Nat} {lv : List (Nat × Value)} {pc index : Nat} {stk : List Value} {a : Nat → Nat} {st : plS} (X : plX E cc own nL ret fr lo) (hl : plFL own index "ProtectedLine" "reader" "LProtectedLine$PointerReader;") (d : decode cc pc = .ok (.getfield index, 3)) (kk : plJ E nL (plwC (plg E) a st) k n lv (pc + 3) (.ref (a 25) :: stk)) : plJ E nL (plwC (plg E) a st) k n lv pc (.ref (a 0) :: stk) := j_get (ci := 0) (kf := 7) (q0 := 0) (T := F_PL) (N := 8) X in_PL rfl (by decide) rfl rfl rfl hl d kk
set_option maxRecDepth 20000 in
theorem get_SS_ready {E : plE} {cc : ByteArray} {own : String} {nL : Nat} {ret : Option FieldType} {fr lo : Nat} {k n : Nat} {lv : List (Nat × Value)} {pc index : Nat} {stk : List Value} {a : Nat → Nat} {st : plS} (X : plX E cc own nL ret fr lo) (hl : plFL own index "ProtectedLine$StreamSource" "ready" "[I") (d : decode cc pc = .ok (.getfield index, 3)) (kk : plJ E nL (plwC (plg E) a st) k n lv (pc + 3) (.ref (a 2) :: stk)) : plJ E nL (plwC (plg E) a st) k n lv pc (.ref (a 1) :: stk) := j_get (ci := 1) (kf := 0) (q0 := 1) (T := F_SS) (N := 8) X in_SS rfl (by decide) rfl rfl rfl hl d kk
set_option maxRecDepth 20000 in
theorem get_SS_lengths {E : plE} {cc : ByteArray} {own : String} {nL : Nat} {ret : Option FieldType} {fr lo : Nat} {k n : Nat} {lv : List (Nat × Value)} {pc index : Nat} {stk : List Value} {a : Nat → Nat} {st : plS} (X : plX E cc own nL ret fr lo) (hl : plFL own index "ProtectedLine$StreamSource" "lengths" "[I") (d : decode cc pc = .ok (.getfield index, 3)) (kk : plJ E nL (plwC (plg E) a st) k n lv (pc + 3) (.ref (a 3) :: stk)) : plJ E nL (plwC (plg E) a st) k n lv pc (.ref (a 1) :: stk) := j_get (ci := 1) (kf := 1) (q0 := 1) (T := F_SS) (N := 8) X in_SS rfl (by decide) rfl rfl rfl hl d kk
set_option maxRecDepth 20000 in
theorem get_SS_oldest {E : plE} {cc : ByteArray} {own : String} {nL : Nat} {ret : Option FieldType} {fr lo : Nat} {k n : Nat} {lv : List (Nat × Value)} {pc index : Nat} {stk : List Value} {a : Nat → Nat} {st : plS} (X : plX E cc own nL ret fr lo) (hl : plFL own index "ProtectedLine$StreamSource" "oldest" "I") (d : decode cc pc = .ok (.getfield index, 3)) (kk : plJ E nL (plwC (plg E) a st) k n lv (pc + 3) (.int (st 1 2) :: stk)) : plJ E nL (plwC (plg E) a st) k n lv pc (.ref (a 1) :: stk) := j_get (ci := 1) (kf := 2) (q0 := 1) (T := F_SS) (N := 8) X in_SS rfl (by decide) rfl rfl rfl hl d kk
set_option maxRecDepth 20000 in
theorem put_SS_oldest {E : plE} {cc : ByteArray} {own : String} {nL : Nat} {ret : Option FieldType} {fr lo : Nat} {k n : Nat} {lv : List (Nat × Value)} {pc index : Nat} {stk : List Value} {a : Nat → Nat} {st : plS} {v : Int32} (X : plX E cc own nL ret fr lo) (hl : plFL own index "ProtectedLine$StreamSource" "oldest" "I") (d : decode cc pc = .ok (.putfield index, 3)) (kk : plJ E nL (plwC (plg E) a (plUp st 1 2 v)) k n lv (pc + 3) stk) : plJ E nL (plwC (plg E) a st) k n lv pc (.int v :: .ref (a 1) :: stk) := j_put (ci := 1) (kf := 2) (q0 := 1) (T := F_SS) (N := 8) (ty0 := t_SS) (ty := .int) (w' := plwC (plg E) a (plUp st 1 2 v)) X in_SS rfl (by decide) rfl t_SS_ok n_SS rfl rfl rfl (by decide) rfl rfl rfl hl d kk
set_option maxRecDepth 20000 in
theorem get_SS_queued {E : plE} {cc : ByteArray} {own : String} {nL : Nat} {ret : Option FieldType} {fr lo : Nat} {k n : Nat} {lv : List (Nat × Value)} {pc index : Nat} {stk : List Value} {a : Nat → Nat} {st : plS} (X : plX E cc own nL ret fr lo) (hl : plFL own index "ProtectedLine$StreamSource" "queued" "I") (d : decode cc pc = .ok (.getfield index, 3)) (kk : plJ E nL (plwC (plg E) a st) k n lv (pc + 3) (.int (st 1 3) :: stk)) : plJ E nL (plwC (plg E) a st) k n lv pc (.ref (a 1) :: stk) := j_get (ci := 1) (kf := 3) (q0 := 1) (T := F_SS) (N := 8) X in_SS rfl (by decide) rfl rfl rfl hl d kk
set_option maxRecDepth 20000 in
theorem put_SS_queued {E : plE} {cc : ByteArray} {own : String} {nL : Nat} {ret : Option FieldType} {fr lo : Nat} {k n : Nat} {lv : List (Nat × Value)} {pc index : Nat} {stk : List Value} {a : Nat → Nat} {st : plS} {v : Int32} (X : plX E cc own nL ret fr lo) (hl : plFL own index "ProtectedLine$StreamSource" "queued" "I") (d : decode cc pc = .ok (.putfield index, 3)) (kk : plJ E nL (plwC (plg E) a (plUp st 1 3 v)) k n lv (pc + 3) stk) : plJ E nL (plwC (plg E) a st) k n lv pc (.int v :: .ref (a 1) :: stk) := j_put (ci := 1) (kf := 3) (q0 := 1) (T := F_SS) (N := 8) (ty0 := t_SS) (ty := .int) (w' := plwC (plg E) a (plUp st 1 3 v)) X in_SS rfl (by decide) rfl t_SS_ok n_SS rfl rfl rfl (by decide) rfl rfl rfl hl d kk
set_option maxRecDepth 20000 in
theorem get_SS_before {E : plE} {cc : ByteArray} {own : String} {nL : Nat} {ret : Option FieldType} {fr lo : Nat} {k n : Nat} {lv : List (Nat × Value)} {pc index : Nat} {stk : List Value} {a : Nat → Nat} {st : plS} (X : plX E cc own nL ret fr lo) (hl : plFL own index "ProtectedLine$StreamSource" "before" "I") (d : decode cc pc = .ok (.getfield index, 3)) (kk : plJ E nL (plwC (plg E) a st) k n lv (pc + 3) (.int (st 1 4) :: stk)) : plJ E nL (plwC (plg E) a st) k n lv pc (.ref (a 1) :: stk) := j_get (ci := 1) (kf := 4) (q0 := 1) (T := F_SS) (N := 8) X in_SS rfl (by decide) rfl rfl rfl hl d kk
set_option maxRecDepth 20000 in
theorem put_SS_before {E : plE} {cc : ByteArray} {own : String} {nL : Nat} {ret : Option FieldType} {fr lo : Nat} {k n : Nat} {lv : List (Nat × Value)} {pc index : Nat} {stk : List Value} {a : Nat → Nat} {st : plS} {v : Int32} (X : plX E cc own nL ret fr lo) (hl : plFL own index "ProtectedLine$StreamSource" "before" "I") (d : decode cc pc = .ok (.putfield index, 3)) (kk : plJ E nL (plwC (plg E) a (plUp st 1 4 v)) k n lv (pc + 3) stk) : plJ E nL (plwC (plg E) a st) k n lv pc (.int v :: .ref (a 1) :: stk) := j_put (ci := 1) (kf := 4) (q0 := 1) (T := F_SS) (N := 8) (ty0 := t_SS) (ty := .int) (w' := plwC (plg E) a (plUp st 1 4 v)) X in_SS rfl (by decide) rfl t_SS_ok n_SS rfl rfl rfl (by decide) rfl rfl rfl hl d kk
set_option maxRecDepth 20000 in
theorem get_SS_current {E : plE} {cc : ByteArray} {own : String} {nL : Nat} {ret : Option FieldType} {fr lo : Nat} {k n : Nat} {lv : List (Nat × Value)} {pc index : Nat} {stk : List Value} {a : Nat → Nat} {st : plS} (X : plX E cc own nL ret fr lo) (hl : plFL own index "ProtectedLine$StreamSource" "current" "[I") (d : decode cc pc = .ok (.getfield index, 3)) (kk : plJ E nL (plwC (plg E) a st) k n lv (pc + 3) (.ref (a 4) :: stk)) : plJ E nL (plwC (plg E) a st) k n lv pc (.ref (a 1) :: stk) := j_get (ci := 1) (kf := 5) (q0 := 1) (T := F_SS) (N := 8) X in_SS rfl (by decide) rfl rfl rfl hl d kk
set_option maxRecDepth 20000 in
theorem get_SS_length {E : plE} {cc : ByteArray} {own : String} {nL : Nat} {ret : Option FieldType} {fr lo : Nat} {k n : Nat} {lv : List (Nat × Value)} {pc index : Nat} {stk : List Value} {a : Nat → Nat} {st : plS} (X : plX E cc own nL ret fr lo) (hl : plFL own index "ProtectedLine$StreamSource" "length" "I") (d : decode cc pc = .ok (.getfield index, 3)) (kk : plJ E nL (plwC (plg E) a st) k n lv (pc + 3) (.int (st 1 6) :: stk)) : plJ E nL (plwC (plg E) a st) k n lv pc (.ref (a 1) :: stk) := j_get (ci := 1) (kf := 6) (q0 := 1) (T := F_SS) (N := 8) X in_SS rfl (by decide) rfl rfl rfl hl d kk
set_option maxRecDepth 20000 in
theorem put_SS_length {E : plE} {cc : ByteArray} {own : String} {nL : Nat} {ret : Option FieldType} {fr lo : Nat} {k n : Nat} {lv : List (Nat × Value)} {pc index : Nat} {stk : List Value} {a : Nat → Nat} {st : plS} {v : Int32} (X : plX E cc own nL ret fr lo) (hl : plFL own index "ProtectedLine$StreamSource" "length" "I") (d : decode cc pc = .ok (.putfield index, 3)) (kk : plJ E nL (plwC (plg E) a (plUp st 1 6 v)) k n lv (pc + 3) stk) : plJ E nL (plwC (plg E) a st) k n lv pc (.int v :: .ref (a 1) :: stk) := j_put (ci := 1) (kf := 6) (q0 := 1) (T := F_SS) (N := 8) (ty0 := t_SS) (ty := .int) (w' := plwC (plg E) a (plUp st 1 6 v)) X in_SS rfl (by decide) rfl t_SS_ok n_SS rfl rfl rfl (by decide) rfl rfl rfl hl d kk
set_option maxRecDepth 20000 in
theorem get_SS_position {E : plE} {cc : ByteArray} {own : String} {nL : Nat} {ret : Option FieldType} {fr lo : Nat} {k n : Nat} {lv : List (Nat × Value)} {pc index : Nat} {stk : List Value} {a : Nat → Nat} {st : plS} (X : plX E cc own nL ret fr lo) (hl : plFL own index "ProtectedLine$StreamSource" "position" "I") (d : decode cc pc = .ok (.getfield index, 3)) (kk : plJ E nL (plwC (plg E) a st) k n lv (pc + 3) (.int (st 1 7) :: stk)) : plJ E nL (plwC (plg E) a st) k n lv pc (.ref (a 1) :: stk) := j_get (ci := 1) (kf := 7) (q0 := 1) (T := F_SS) (N := 8) X in_SS rfl (by decide) rfl rfl rfl hl d kk
set_option maxRecDepth 20000 in
theorem put_SS_position {E : plE} {cc : ByteArray} {own : String} {nL : Nat} {ret : Option FieldType} {fr lo : Nat} {k n : Nat} {lv : List (Nat × Value)} {pc index : Nat} {stk : List Value} {a : Nat → Nat} {st : plS} {v : Int32} (X : plX E cc own nL ret fr lo) (hl : plFL own index "ProtectedLine$StreamSource" "position" "I") (d : decode cc pc = .ok (.putfield index, 3)) (kk : plJ E nL (plwC (plg E) a (plUp st 1 7 v)) k n lv (pc + 3) stk) : plJ E nL (plwC (plg E) a st) k n lv pc (.int v :: .ref (a 1) :: stk) := j_put (ci := 1) (kf := 7) (q0 := 1) (T := F_SS) (N := 8) (ty0 := t_SS) (ty := .int) (w' := plwC (plg E) a (plUp st 1 7 v)) X in_SS rfl (by decide) rfl t_SS_ok n_SS rfl rfl rfl (by decide) rfl rfl rfl hl d kk
set_option maxRecDepth 20000 in
theorem ast_SSr {E : plE} {cc : ByteArray} {own : String} {nL : Nat} {ret : Option FieldType} {fr lo : Nat} {k n : Nat} {lv : List (Nat × Value)} {pc index : Nat} {stk : List Value} {a : Nat → Nat} {st : plS} {x v : Int32} (X : plX E cc own nL ret fr lo) (h : vp_in x 72) (d : decode cc pc = .ok (.iastore, 1)) (kk : plJ E nL (plwC (plg E) a (plUp st 2 (plIx x) v)) k n lv (pc + 1) stk) : plJ E nL (plwC (plg E) a st) k n lv pc (.int v :: .int x :: .ref (a 2) :: stk) := j_ast (q0 := 2) (f := st 2) (w' := plwC (plg E) a (plUp st 2 (plIx x) v)) X rfl rfl h d kk
set_option maxRecDepth 20000 in
theorem ald_SSl {E : plE} {cc : ByteArray} {own : String} {nL : Nat} {ret : Option FieldType} {fr lo : Nat} {k n : Nat} {lv : List (Nat × Value)} {pc index : Nat} {stk : List Value} {a : Nat → Nat} {st : plS} {x : Int32} (X : plX E cc own nL ret fr lo) (h : vp_in x 8) (d : decode cc pc = .ok (.iaload, 1)) (kk : plJ E nL (plwC (plg E) a st) k n lv (pc + 1) (.int (st 3 (plIx x)) :: stk)) : plJ E nL (plwC (plg E) a st) k n lv pc (.int x :: .ref (a 3) :: stk) := j_ald (q0 := 3) (f := st 3) X rfl h d kk
set_option maxRecDepth 20000 in
theorem ast_SSl {E : plE} {cc : ByteArray} {own : String} {nL : Nat} {ret : Option FieldType} {fr lo : Nat} {k n : Nat} {lv : List (Nat × Value)} {pc index : Nat} {stk : List Value} {a : Nat → Nat} {st : plS} {x v : Int32} (X : plX E cc own nL ret fr lo) (h : vp_in x 8) (d : decode cc pc = .ok (.iastore, 1)) (kk : plJ E nL (plwC (plg E) a (plUp st 3 (plIx x) v)) k n lv (pc + 1) stk) : plJ E nL (plwC (plg E) a st) k n lv pc (.int v :: .int x :: .ref (a 3) :: stk) := j_ast (q0 := 3) (f := st 3) (w' := plwC (plg E) a (plUp st 3 (plIx x) v)) X rfl rfl h d kk
set_option maxRecDepth 20000 in
theorem ald_SSc {E : plE} {cc : ByteArray} {own : String} {nL : Nat} {ret : Option FieldType} {fr lo : Nat} {k n : Nat} {lv : List (Nat × Value)} {pc index : Nat} {stk : List Value} {a : Nat → Nat} {st : plS} {x : Int32} (X : plX E cc own nL ret fr lo) (h : vp_in x 9) (d : decode cc pc = .ok (.iaload, 1)) (kk : plJ E nL (plwC (plg E) a st) k n lv (pc + 1) (.int (st 4 (plIx x)) :: stk)) : plJ E nL (plwC (plg E) a st) k n lv pc (.int x :: .ref (a 4) :: stk) := j_ald (q0 := 4) (f := st 4) X rfl h d kk
set_option maxRecDepth 20000 in
theorem ast_SSc {E : plE} {cc : ByteArray} {own : String} {nL : Nat} {ret : Option FieldType} {fr lo : Nat} {k n : Nat} {lv : List (Nat × Value)} {pc index : Nat} {stk : List Value} {a : Nat → Nat} {st : plS} {x v : Int32} (X : plX E cc own nL ret fr lo) (h : vp_in x 9) (d : decode cc pc = .ok (.iastore, 1)) (kk : plJ E nL (plwC (plg E) a (plUp st 4 (plIx x) v)) k n lv (pc + 1) stk) : plJ E nL (plwC (plg E) a st) k n lv pc (.int v :: .int x :: .ref (a 4) :: stk) := j_ast (q0 := 4) (f := st 4) (w' := plwC (plg E) a (plUp st 4 (plIx x) v)) X rfl rfl h d kk
set_option maxRecDepth 20000 in
theorem get_NA_containers {E : plE} {cc : ByteArray} {own : String} {nL : Nat} {ret : Option FieldType} {fr lo : Nat} {k n : Nat} {lv : List (Nat × Value)} {pc index : Nat} {stk : List Value} {a : Nat → Nat} {st : plS} (X : plX E cc own nL ret fr lo) (hl : plFL own index "ProtectedLine$NodeA" "containers" "LProtectedLine$ContainerSource;") (d : decode cc pc = .ok (.getfield index, 3)) (kk : plJ E nL (plwC (plg E) a st) k n lv (pc + 3) (.ref (a 6) :: stk)) : plJ E nL (plwC (plg E) a st) k n lv pc (.ref (a 5) :: stk) := j_get (ci := 2) (kf := 0) (q0 := 5) (T := F_NA) (N := 6) X in_NA rfl (by decide) rfl rfl rfl hl d kk
set_option maxRecDepth 20000 in
theorem get_NA_heard {E : plE} {cc : ByteArray} {own : String} {nL : Nat} {ret : Option FieldType} {fr lo : Nat} {k n : Nat} {lv : List (Nat × Value)} {pc index : Nat} {stk : List Value} {a : Nat → Nat} {st : plS} (X : plX E cc own nL ret fr lo) (hl : plFL own index "ProtectedLine$NodeA" "heard" "LProtectedLine$Listener;") (d : decode cc pc = .ok (.getfield index, 3)) (kk : plJ E nL (plwC (plg E) a st) k n lv (pc + 3) (.ref (a 7) :: stk)) : plJ E nL (plwC (plg E) a st) k n lv pc (.ref (a 5) :: stk) := j_get (ci := 2) (kf := 1) (q0 := 5) (T := F_NA) (N := 6) X in_NA rfl (by decide) rfl rfl rfl hl d kk
set_option maxRecDepth 20000 in
theorem get_NA_content {E : plE} {cc : ByteArray} {own : String} {nL : Nat} {ret : Option FieldType} {fr lo : Nat} {k n : Nat} {lv : List (Nat × Value)} {pc index : Nat} {stk : List Value} {a : Nat → Nat} {st : plS} (X : plX E cc own nL ret fr lo) (hl : plFL own index "ProtectedLine$NodeA" "content" "[I") (d : decode cc pc = .ok (.getfield index, 3)) (kk : plJ E nL (plwC (plg E) a st) k n lv (pc + 3) (.ref (a 8) :: stk)) : plJ E nL (plwC (plg E) a st) k n lv pc (.ref (a 5) :: stk) := j_get (ci := 2) (kf := 2) (q0 := 5) (T := F_NA) (N := 6) X in_NA rfl (by decide) rfl rfl rfl hl d kk
set_option maxRecDepth 20000 in
theorem get_NA_p {E : plE} {cc : ByteArray} {own : String} {nL : Nat} {ret : Option FieldType} {fr lo : Nat} {k n : Nat} {lv : List (Nat × Value)} {pc index : Nat} {stk : List Value} {a : Nat → Nat} {st : plS} (X : plX E cc own nL ret fr lo) (hl : plFL own index "ProtectedLine$NodeA" "p" "I") (d : decode cc pc = .ok (.getfield index, 3)) (kk : plJ E nL (plwC (plg E) a st) k n lv (pc + 3) (.int (st 5 3) :: stk)) : plJ E nL (plwC (plg E) a st) k n lv pc (.ref (a 5) :: stk) := j_get (ci := 2) (kf := 3) (q0 := 5) (T := F_NA) (N := 6) X in_NA rfl (by decide) rfl rfl rfl hl d kk
set_option maxRecDepth 20000 in
theorem put_NA_p {E : plE} {cc : ByteArray} {own : String} {nL : Nat} {ret : Option FieldType} {fr lo : Nat} {k n : Nat} {lv : List (Nat × Value)} {pc index : Nat} {stk : List Value} {a : Nat → Nat} {st : plS} {v : Int32} (X : plX E cc own nL ret fr lo) (hl : plFL own index "ProtectedLine$NodeA" "p" "I") (d : decode cc pc = .ok (.putfield index, 3)) (kk : plJ E nL (plwC (plg E) a (plUp st 5 3 v)) k n lv (pc + 3) stk) : plJ E nL (plwC (plg E) a st) k n lv pc (.int v :: .ref (a 5) :: stk) := j_put (ci := 2) (kf := 3) (q0 := 5) (T := F_NA) (N := 6) (ty0 := t_NA) (ty := .int) (w' := plwC (plg E) a (plUp st 5 3 v)) X in_NA rfl (by decide) rfl t_NA_ok n_NA rfl rfl rfl (by decide) rfl rfl rfl hl d kk
set_option maxRecDepth 20000 in
theorem get_NA_debt {E : plE} {cc : ByteArray} {own : String} {nL : Nat} {ret : Option FieldType} {fr lo : Nat} {k n : Nat} {lv : List (Nat × Value)} {pc index : Nat} {stk : List Value} {a : Nat → Nat} {st : plS} (X : plX E cc own nL ret fr lo) (hl : plFL own index "ProtectedLine$NodeA" "debt" "I") (d : decode cc pc = .ok (.getfield index, 3)) (kk : plJ E nL (plwC (plg E) a st) k n lv (pc + 3) (.int (st 5 4) :: stk)) : plJ E nL (plwC (plg E) a st) k n lv pc (.ref (a 5) :: stk) := j_get (ci := 2) (kf := 4) (q0 := 5) (T := F_NA) (N := 6) X in_NA rfl (by decide) rfl rfl rfl hl d kk
set_option maxRecDepth 20000 in
theorem put_NA_debt {E : plE} {cc : ByteArray} {own : String} {nL : Nat} {ret : Option FieldType} {fr lo : Nat} {k n : Nat} {lv : List (Nat × Value)} {pc index : Nat} {stk : List Value} {a : Nat → Nat} {st : plS} {v : Int32} (X : plX E cc own nL ret fr lo) (hl : plFL own index "ProtectedLine$NodeA" "debt" "I") (d : decode cc pc = .ok (.putfield index, 3)) (kk : plJ E nL (plwC (plg E) a (plUp st 5 4 v)) k n lv (pc + 3) stk) : plJ E nL (plwC (plg E) a st) k n lv pc (.int v :: .ref (a 5) :: stk) := j_put (ci := 2) (kf := 4) (q0 := 5) (T := F_NA) (N := 6) (ty0 := t_NA) (ty := .int) (w' := plwC (plg E) a (plUp st 5 4 v)) X in_NA rfl (by decide) rfl t_NA_ok n_NA rfl rfl rfl (by decide) rfl rfl rfl hl d kk
set_option maxRecDepth 20000 in
theorem get_NA_rest {E : plE} {cc : ByteArray} {own : String} {nL : Nat} {ret : Option FieldType} {fr lo : Nat} {k n : Nat} {lv : List (Nat × Value)} {pc index : Nat} {stk : List Value} {a : Nat → Nat} {st : plS} (X : plX E cc own nL ret fr lo) (hl : plFL own index "ProtectedLine$NodeA" "rest" "I") (d : decode cc pc = .ok (.getfield index, 3)) (kk : plJ E nL (plwC (plg E) a st) k n lv (pc + 3) (.int (st 5 5) :: stk)) : plJ E nL (plwC (plg E) a st) k n lv pc (.ref (a 5) :: stk) := j_get (ci := 2) (kf := 5) (q0 := 5) (T := F_NA) (N := 6) X in_NA rfl (by decide) rfl rfl rfl hl d kk
set_option maxRecDepth 20000 in
theorem put_NA_rest {E : plE} {cc : ByteArray} {own : String} {nL : Nat} {ret : Option FieldType} {fr lo : Nat} {k n : Nat} {lv : List (Nat × Value)} {pc index : Nat} {stk : List Value} {a : Nat → Nat} {st : plS} {v : Int32} (X : plX E cc own nL ret fr lo) (hl : plFL own index "ProtectedLine$NodeA" "rest" "I") (d : decode cc pc = .ok (.putfield index, 3)) (kk : plJ E nL (plwC (plg E) a (plUp st 5 5 v)) k n lv (pc + 3) stk) : plJ E nL (plwC (plg E) a st) k n lv pc (.int v :: .ref (a 5) :: stk) := j_put (ci := 2) (kf := 5) (q0 := 5) (T := F_NA) (N := 6) (ty0 := t_NA) (ty := .int) (w' := plwC (plg E) a (plUp st 5 5 v)) X in_NA rfl (by decide) rfl t_NA_ok n_NA rfl rfl rfl (by decide) rfl rfl rfl hl d kk
set_option maxRecDepth 20000 in
theorem get_CS_source {E : plE} {cc : ByteArray} {own : String} {nL : Nat} {ret : Option FieldType} {fr lo : Nat} {k n : Nat} {lv : List (Nat × Value)} {pc index : Nat} {stk : List Value} {a : Nat → Nat} {st : plS} (X : plX E cc own nL ret fr lo) (hl : plFL own index "ProtectedLine$ContainerSource" "source" "LProtectedLine$StreamSource;") (d : decode cc pc = .ok (.getfield index, 3)) (kk : plJ E nL (plwC (plg E) a st) k n lv (pc + 3) (.ref (a 1) :: stk)) : plJ E nL (plwC (plg E) a st) k n lv pc (.ref (a 6) :: stk) := j_get (ci := 3) (kf := 0) (q0 := 6) (T := F_CS) (N := 3) X in_CS rfl (by decide) rfl rfl rfl hl d kk
set_option maxRecDepth 20000 in
theorem get_CS_place {E : plE} {cc : ByteArray} {own : String} {nL : Nat} {ret : Option FieldType} {fr lo : Nat} {k n : Nat} {lv : List (Nat × Value)} {pc index : Nat} {stk : List Value} {a : Nat → Nat} {st : plS} (X : plX E cc own nL ret fr lo) (hl : plFL own index "ProtectedLine$ContainerSource" "place" "I") (d : decode cc pc = .ok (.getfield index, 3)) (kk : plJ E nL (plwC (plg E) a st) k n lv (pc + 3) (.int (st 6 1) :: stk)) : plJ E nL (plwC (plg E) a st) k n lv pc (.ref (a 6) :: stk) := j_get (ci := 3) (kf := 1) (q0 := 6) (T := F_CS) (N := 3) X in_CS rfl (by decide) rfl rfl rfl hl d kk
set_option maxRecDepth 20000 in
theorem put_CS_place {E : plE} {cc : ByteArray} {own : String} {nL : Nat} {ret : Option FieldType} {fr lo : Nat} {k n : Nat} {lv : List (Nat × Value)} {pc index : Nat} {stk : List Value} {a : Nat → Nat} {st : plS} {v : Int32} (X : plX E cc own nL ret fr lo) (hl : plFL own index "ProtectedLine$ContainerSource" "place" "I") (d : decode cc pc = .ok (.putfield index, 3)) (kk : plJ E nL (plwC (plg E) a (plUp st 6 1 v)) k n lv (pc + 3) stk) : plJ E nL (plwC (plg E) a st) k n lv pc (.int v :: .ref (a 6) :: stk) := j_put (ci := 3) (kf := 1) (q0 := 6) (T := F_CS) (N := 3) (ty0 := t_CS) (ty := .int) (w' := plwC (plg E) a (plUp st 6 1 v)) X in_CS rfl (by decide) rfl t_CS_ok n_CS rfl rfl rfl (by decide) rfl rfl rfl hl d kk
set_option maxRecDepth 20000 in
theorem get_CS_joined {E : plE} {cc : ByteArray} {own : String} {nL : Nat} {ret : Option FieldType} {fr lo : Nat} {k n : Nat} {lv : List (Nat × Value)} {pc index : Nat} {stk : List Value} {a : Nat → Nat} {st : plS} (X : plX E cc own nL ret fr lo) (hl : plFL own index "ProtectedLine$ContainerSource" "joined" "I") (d : decode cc pc = .ok (.getfield index, 3)) (kk : plJ E nL (plwC (plg E) a st) k n lv (pc + 3) (.int (st 6 2) :: stk)) : plJ E nL (plwC (plg E) a st) k n lv pc (.ref (a 6) :: stk) := j_get (ci := 3) (kf := 2) (q0 := 6) (T := F_CS) (N := 3) X in_CS rfl (by decide) rfl rfl rfl hl d kk
set_option maxRecDepth 20000 in
theorem put_CS_joined {E : plE} {cc : ByteArray} {own : String} {nL : Nat} {ret : Option FieldType} {fr lo : Nat} {k n : Nat} {lv : List (Nat × Value)} {pc index : Nat} {stk : List Value} {a : Nat → Nat} {st : plS} {v : Int32} (X : plX E cc own nL ret fr lo) (hl : plFL own index "ProtectedLine$ContainerSource" "joined" "I") (d : decode cc pc = .ok (.putfield index, 3)) (kk : plJ E nL (plwC (plg E) a (plUp st 6 2 v)) k n lv (pc + 3) stk) : plJ E nL (plwC (plg E) a st) k n lv pc (.int v :: .ref (a 6) :: stk) := j_put (ci := 3) (kf := 2) (q0 := 6) (T := F_CS) (N := 3) (ty0 := t_CS) (ty := .int) (w' := plwC (plg E) a (plUp st 6 2 v)) X in_CS rfl (by decide) rfl t_CS_ok n_CS rfl rfl rfl (by decide) rfl rfl rfl hl d kk
set_option maxRecDepth 20000 in
theorem get_LA_accepted {E : plE} {cc : ByteArray} {own : String} {nL : Nat} {ret : Option FieldType} {fr lo : Nat} {k n : Nat} {lv : List (Nat × Value)} {pc index : Nat} {stk : List Value} {a : Nat → Nat} {st : plS} (X : plX E cc own nL ret fr lo) (hl : plFL own index "ProtectedLine$Listener" "accepted" "I") (d : decode cc pc = .ok (.getfield index, 3)) (kk : plJ E nL (plwC (plg E) a st) k n lv (pc + 3) (.int (st 7 0) :: stk)) : plJ E nL (plwC (plg E) a st) k n lv pc (.ref (a 7) :: stk) := j_get (ci := 4) (kf := 0) (q0 := 7) (T := F_LI) (N := 3) X in_LI rfl (by decide) rfl rfl rfl hl d kk
set_option maxRecDepth 20000 in
theorem put_LA_accepted {E : plE} {cc : ByteArray} {own : String} {nL : Nat} {ret : Option FieldType} {fr lo : Nat} {k n : Nat} {lv : List (Nat × Value)} {pc index : Nat} {stk : List Value} {a : Nat → Nat} {st : plS} {v : Int32} (X : plX E cc own nL ret fr lo) (hl : plFL own index "ProtectedLine$Listener" "accepted" "I") (d : decode cc pc = .ok (.putfield index, 3)) (kk : plJ E nL (plwC (plg E) a (plUp st 7 0 v)) k n lv (pc + 3) stk) : plJ E nL (plwC (plg E) a st) k n lv pc (.int v :: .ref (a 7) :: stk) := j_put (ci := 4) (kf := 0) (q0 := 7) (T := F_LI) (N := 3) (ty0 := t_LI) (ty := .int) (w' := plwC (plg E) a (plUp st 7 0 v)) X in_LI rfl (by decide) rfl t_LI_ok n_LI rfl rfl rfl (by decide) rfl rfl rfl hl d kk
set_option maxRecDepth 20000 in
theorem get_LA_latest {E : plE} {cc : ByteArray} {own : String} {nL : Nat} {ret : Option FieldType} {fr lo : Nat} {k n : Nat} {lv : List (Nat × Value)} {pc index : Nat} {stk : List Value} {a : Nat → Nat} {st : plS} (X : plX E cc own nL ret fr lo) (hl : plFL own index "ProtectedLine$Listener" "latest" "I") (d : decode cc pc = .ok (.getfield index, 3)) (kk : plJ E nL (plwC (plg E) a st) k n lv (pc + 3) (.int (st 7 1) :: stk)) : plJ E nL (plwC (plg E) a st) k n lv pc (.ref (a 7) :: stk) := j_get (ci := 4) (kf := 1) (q0 := 7) (T := F_LI) (N := 3) X in_LI rfl (by decide) rfl rfl rfl hl d kk
set_option maxRecDepth 20000 in
theorem put_LA_latest {E : plE} {cc : ByteArray} {own : String} {nL : Nat} {ret : Option FieldType} {fr lo : Nat} {k n : Nat} {lv : List (Nat × Value)} {pc index : Nat} {stk : List Value} {a : Nat → Nat} {st : plS} {v : Int32} (X : plX E cc own nL ret fr lo) (hl : plFL own index "ProtectedLine$Listener" "latest" "I") (d : decode cc pc = .ok (.putfield index, 3)) (kk : plJ E nL (plwC (plg E) a (plUp st 7 1 v)) k n lv (pc + 3) stk) : plJ E nL (plwC (plg E) a st) k n lv pc (.int v :: .ref (a 7) :: stk) := j_put (ci := 4) (kf := 1) (q0 := 7) (T := F_LI) (N := 3) (ty0 := t_LI) (ty := .int) (w' := plwC (plg E) a (plUp st 7 1 v)) X in_LI rfl (by decide) rfl t_LI_ok n_LI rfl rfl rfl (by decide) rfl rfl rfl hl d kk
set_option maxRecDepth 20000 in
theorem get_LA_row {E : plE} {cc : ByteArray} {own : String} {nL : Nat} {ret : Option FieldType} {fr lo : Nat} {k n : Nat} {lv : List (Nat × Value)} {pc index : Nat} {stk : List Value} {a : Nat → Nat} {st : plS} (X : plX E cc own nL ret fr lo) (hl : plFL own index "ProtectedLine$Listener" "row" "I") (d : decode cc pc = .ok (.getfield index, 3)) (kk : plJ E nL (plwC (plg E) a st) k n lv (pc + 3) (.int (st 7 2) :: stk)) : plJ E nL (plwC (plg E) a st) k n lv pc (.ref (a 7) :: stk) := j_get (ci := 4) (kf := 2) (q0 := 7) (T := F_LI) (N := 3) X in_LI rfl (by decide) rfl rfl rfl hl d kk
set_option maxRecDepth 20000 in
theorem put_LA_row {E : plE} {cc : ByteArray} {own : String} {nL : Nat} {ret : Option FieldType} {fr lo : Nat} {k n : Nat} {lv : List (Nat × Value)} {pc index : Nat} {stk : List Value} {a : Nat → Nat} {st : plS} {v : Int32} (X : plX E cc own nL ret fr lo) (hl : plFL own index "ProtectedLine$Listener" "row" "I") (d : decode cc pc = .ok (.putfield index, 3)) (kk : plJ E nL (plwC (plg E) a (plUp st 7 2 v)) k n lv (pc + 3) stk) : plJ E nL (plwC (plg E) a st) k n lv pc (.int v :: .ref (a 7) :: stk) := j_put (ci := 4) (kf := 2) (q0 := 7) (T := F_LI) (N := 3) (ty0 := t_LI) (ty := .int) (w' := plwC (plg E) a (plUp st 7 2 v)) X in_LI rfl (by decide) rfl t_LI_ok n_LI rfl rfl rfl (by decide) rfl rfl rfl hl d kk
set_option maxRecDepth 20000 in
theorem ald_NAc {E : plE} {cc : ByteArray} {own : String} {nL : Nat} {ret : Option FieldType} {fr lo : Nat} {k n : Nat} {lv : List (Nat × Value)} {pc index : Nat} {stk : List Value} {a : Nat → Nat} {st : plS} {x : Int32} (X : plX E cc own nL ret fr lo) (h : vp_in x 8) (d : decode cc pc = .ok (.iaload, 1)) (kk : plJ E nL (plwC (plg E) a st) k n lv (pc + 1) (.int (st 8 (plIx x)) :: stk)) : plJ E nL (plwC (plg E) a st) k n lv pc (.int x :: .ref (a 8) :: stk) := j_ald (q0 := 8) (f := st 8) X rfl h d kk
set_option maxRecDepth 20000 in
theorem ast_NAc {E : plE} {cc : ByteArray} {own : String} {nL : Nat} {ret : Option FieldType} {fr lo : Nat} {k n : Nat} {lv : List (Nat × Value)} {pc index : Nat} {stk : List Value} {a : Nat → Nat} {st : plS} {x v : Int32} (X : plX E cc own nL ret fr lo) (h : vp_in x 8) (d : decode cc pc = .ok (.iastore, 1)) (kk : plJ E nL (plwC (plg E) a (plUp st 8 (plIx x) v)) k n lv (pc + 1) stk) : plJ E nL (plwC (plg E) a st) k n lv pc (.int v :: .int x :: .ref (a 8) :: stk) := j_ast (q0 := 8) (f := st 8) (w' := plwC (plg E) a (plUp st 8 (plIx x) v)) X rfl rfl h d kk
set_option maxRecDepth 20000 in
theorem len_NAc {E : plE} {cc : ByteArray} {own : String} {nL : Nat} {ret : Option FieldType} {fr lo : Nat} {k n : Nat} {lv : List (Nat × Value)} {pc index : Nat} {stk : List Value} {a : Nat → Nat} {st : plS} (X : plX E cc own nL ret fr lo) (d : decode cc pc = .ok (.arraylength, 1)) (kk : plJ E nL (plwC (plg E) a st) k n lv (pc + 1) (.int 8 :: stk)) : plJ E nL (plwC (plg E) a st) k n lv pc (.ref (a 8) :: stk) := j_len (q0 := 8) X rfl (by decide) d kk
set_option maxRecDepth 20000 in
theorem get_LW_delay {E : plE} {cc : ByteArray} {own : String} {nL : Nat} {ret : Option FieldType} {fr lo : Nat} {k n : Nat} {lv : List (Nat × Value)} {pc index : Nat} {stk : List Value} {a : Nat → Nat} {st : plS} (X : plX E cc own nL ret fr lo) (hl : plFL own index "ProtectedLine$Line" "delay" "I") (d : decode cc pc = .ok (.getfield index, 3)) (kk : plJ E nL (plwC (plg E) a st) k n lv (pc + 3) (.int (st 9 0) :: stk)) : plJ E nL (plwC (plg E) a st) k n lv pc (.ref (a 9) :: stk) := j_get (ci := 5) (kf := 0) (q0 := 9) (T := F_LN) (N := 12) X in_LN rfl (by decide) rfl rfl rfl hl d kk
set_option maxRecDepth 20000 in
theorem get_LW_underWay {E : plE} {cc : ByteArray} {own : String} {nL : Nat} {ret : Option FieldType} {fr lo : Nat} {k n : Nat} {lv : List (Nat × Value)} {pc index : Nat} {stk : List Value} {a : Nat → Nat} {st : plS} (X : plX E cc own nL ret fr lo) (hl : plFL own index "ProtectedLine$Line" "underWay" "[I") (d : decode cc pc = .ok (.getfield index, 3)) (kk : plJ E nL (plwC (plg E) a st) k n lv (pc + 3) (.ref (a 10) :: stk)) : plJ E nL (plwC (plg E) a st) k n lv pc (.ref (a 9) :: stk) := j_get (ci := 5) (kf := 1) (q0 := 9) (T := F_LN) (N := 12) X in_LN rfl (by decide) rfl rfl rfl hl d kk
set_option maxRecDepth 20000 in
theorem get_LW_launched {E : plE} {cc : ByteArray} {own : String} {nL : Nat} {ret : Option FieldType} {fr lo : Nat} {k n : Nat} {lv : List (Nat × Value)} {pc index : Nat} {stk : List Value} {a : Nat → Nat} {st : plS} (X : plX E cc own nL ret fr lo) (hl : plFL own index "ProtectedLine$Line" "launched" "I") (d : decode cc pc = .ok (.getfield index, 3)) (kk : plJ E nL (plwC (plg E) a st) k n lv (pc + 3) (.int (st 9 2) :: stk)) : plJ E nL (plwC (plg E) a st) k n lv pc (.ref (a 9) :: stk) := j_get (ci := 5) (kf := 2) (q0 := 9) (T := F_LN) (N := 12) X in_LN rfl (by decide) rfl rfl rfl hl d kk
set_option maxRecDepth 20000 in
theorem put_LW_launched {E : plE} {cc : ByteArray} {own : String} {nL : Nat} {ret : Option FieldType} {fr lo : Nat} {k n : Nat} {lv : List (Nat × Value)} {pc index : Nat} {stk : List Value} {a : Nat → Nat} {st : plS} {v : Int32} (X : plX E cc own nL ret fr lo) (hl : plFL own index "ProtectedLine$Line" "launched" "I") (d : decode cc pc = .ok (.putfield index, 3)) (kk : plJ E nL (plwC (plg E) a (plUp st 9 2 v)) k n lv (pc + 3) stk) : plJ E nL (plwC (plg E) a st) k n lv pc (.int v :: .ref (a 9) :: stk) := j_put (ci := 5) (kf := 2) (q0 := 9) (T := F_LN) (N := 12) (ty0 := t_LN) (ty := .int) (w' := plwC (plg E) a (plUp st 9 2 v)) X in_LN rfl (by decide) rfl t_LN_ok n_LN rfl rfl rfl (by decide) rfl rfl rfl hl d kk
set_option maxRecDepth 20000 in
theorem get_LW_joinedSent {E : plE} {cc : ByteArray} {own : String} {nL : Nat} {ret : Option FieldType} {fr lo : Nat} {k n : Nat} {lv : List (Nat × Value)} {pc index : Nat} {stk : List Value} {a : Nat → Nat} {st : plS} (X : plX E cc own nL ret fr lo) (hl : plFL own index "ProtectedLine$Line" "joinedSent" "I") (d : decode cc pc = .ok (.getfield index, 3)) (kk : plJ E nL (plwC (plg E) a st) k n lv (pc + 3) (.int (st 9 3) :: stk)) : plJ E nL (plwC (plg E) a st) k n lv pc (.ref (a 9) :: stk) := j_get (ci := 5) (kf := 3) (q0 := 9) (T := F_LN) (N := 12) X in_LN rfl (by decide) rfl rfl rfl hl d kk
set_option maxRecDepth 20000 in
theorem put_LW_joinedSent {E : plE} {cc : ByteArray} {own : String} {nL : Nat} {ret : Option FieldType} {fr lo : Nat} {k n : Nat} {lv : List (Nat × Value)} {pc index : Nat} {stk : List Value} {a : Nat → Nat} {st : plS} {v : Int32} (X : plX E cc own nL ret fr lo) (hl : plFL own index "ProtectedLine$Line" "joinedSent" "I") (d : decode cc pc = .ok (.putfield index, 3)) (kk : plJ E nL (plwC (plg E) a (plUp st 9 3 v)) k n lv (pc + 3) stk) : plJ E nL (plwC (plg E) a st) k n lv pc (.int v :: .ref (a 9) :: stk) := j_put (ci := 5) (kf := 3) (q0 := 9) (T := F_LN) (N := 12) (ty0 := t_LN) (ty := .int) (w' := plwC (plg E) a (plUp st 9 3 v)) X in_LN rfl (by decide) rfl t_LN_ok n_LN rfl rfl rfl (by decide) rfl rfl rfl hl d kk
set_option maxRecDepth 20000 in
theorem get_LW_broken {E : plE} {cc : ByteArray} {own : String} {nL : Nat} {ret : Option FieldType} {fr lo : Nat} {k n : Nat} {lv : List (Nat × Value)} {pc index : Nat} {stk : List Value} {a : Nat → Nat} {st : plS} (X : plX E cc own nL ret fr lo) (hl : plFL own index "ProtectedLine$Line" "broken" "Z") (d : decode cc pc = .ok (.getfield index, 3)) (kk : plJ E nL (plwC (plg E) a st) k n lv (pc + 3) (.int (st 9 4) :: stk)) : plJ E nL (plwC (plg E) a st) k n lv pc (.ref (a 9) :: stk) := j_get (ci := 5) (kf := 4) (q0 := 9) (T := F_LN) (N := 12) X in_LN rfl (by decide) rfl rfl rfl hl d kk
set_option maxRecDepth 20000 in
theorem put_LW_broken {E : plE} {cc : ByteArray} {own : String} {nL : Nat} {ret : Option FieldType} {fr lo : Nat} {k n : Nat} {lv : List (Nat × Value)} {pc index : Nat} {stk : List Value} {a : Nat → Nat} {st : plS} {v : Int32} (X : plX E cc own nL ret fr lo) (hl : plFL own index "ProtectedLine$Line" "broken" "Z") (d : decode cc pc = .ok (.putfield index, 3)) (hz : plB v) (kk : plJ E nL (plwC (plg E) a (plUp st 9 4 v)) k n lv (pc + 3) stk) : plJ E nL (plwC (plg E) a st) k n lv pc (.int v :: .ref (a 9) :: stk) := j_put (ci := 5) (kf := 4) (q0 := 9) (T := F_LN) (N := 12) (ty0 := t_LN) (ty := .boolean) (w' := plwC (plg E) a (plUp st 9 4 v)) X in_LN rfl (by decide) rfl t_LN_ok n_LN rfl rfl rfl (by decide) rfl hz.narrow hz.fits hl d kk
set_option maxRecDepth 20000 in
theorem get_LW_harm {E : plE} {cc : ByteArray} {own : String} {nL : Nat} {ret : Option FieldType} {fr lo : Nat} {k n : Nat} {lv : List (Nat × Value)} {pc index : Nat} {stk : List Value} {a : Nat → Nat} {st : plS} (X : plX E cc own nL ret fr lo) (hl : plFL own index "ProtectedLine$Line" "harm" "[I") (d : decode cc pc = .ok (.getfield index, 3)) (kk : plJ E nL (plwC (plg E) a st) k n lv (pc + 3) (.ref (a 11) :: stk)) : plJ E nL (plwC (plg E) a st) k n lv pc (.ref (a 9) :: stk) := j_get (ci := 5) (kf := 5) (q0 := 9) (T := F_LN) (N := 12) X in_LN rfl (by decide) rfl rfl rfl hl d kk
set_option maxRecDepth 20000 in
theorem get_LW_arrived {E : plE} {cc : ByteArray} {own : String} {nL : Nat} {ret : Option FieldType} {fr lo : Nat} {k n : Nat} {lv : List (Nat × Value)} {pc index : Nat} {stk : List Value} {a : Nat → Nat} {st : plS} (X : plX E cc own nL ret fr lo) (hl : plFL own index "ProtectedLine$Line" "arrived" "[I") (d : decode cc pc = .ok (.getfield index, 3)) (kk : plJ E nL (plwC (plg E) a st) k n lv (pc + 3) (.ref (a 12) :: stk)) : plJ E nL (plwC (plg E) a st) k n lv pc (.ref (a 9) :: stk) := j_get (ci := 5) (kf := 6) (q0 := 9) (T := F_LN) (N := 12) X in_LN rfl (by decide) rfl rfl rfl hl d kk
set_option maxRecDepth 20000 in
theorem get_LW_hasArrived {E : plE} {cc : ByteArray} {own : String} {nL : Nat} {ret : Option FieldType} {fr lo : Nat} {k n : Nat} {lv : List (Nat × Value)} {pc index : Nat} {stk : List Value} {a : Nat → Nat} {st : plS} (X : plX E cc own nL ret fr lo) (hl : plFL own index "ProtectedLine$Line" "hasArrived" "Z") (d : decode cc pc = .ok (.getfield index, 3)) (kk : plJ E nL (plwC (plg E) a st) k n lv (pc + 3) (.int (st 9 7) :: stk)) : plJ E nL (plwC (plg E) a st) k n lv pc (.ref (a 9) :: stk) := j_get (ci := 5) (kf := 7) (q0 := 9) (T := F_LN) (N := 12) X in_LN rfl (by decide) rfl rfl rfl hl d kk
set_option maxRecDepth 20000 in
theorem put_LW_hasArrived {E : plE} {cc : ByteArray} {own : String} {nL : Nat} {ret : Option FieldType} {fr lo : Nat} {k n : Nat} {lv : List (Nat × Value)} {pc index : Nat} {stk : List Value} {a : Nat → Nat} {st : plS} {v : Int32} (X : plX E cc own nL ret fr lo) (hl : plFL own index "ProtectedLine$Line" "hasArrived" "Z") (d : decode cc pc = .ok (.putfield index, 3)) (hz : plB v) (kk : plJ E nL (plwC (plg E) a (plUp st 9 7 v)) k n lv (pc + 3) stk) : plJ E nL (plwC (plg E) a st) k n lv pc (.int v :: .ref (a 9) :: stk) := j_put (ci := 5) (kf := 7) (q0 := 9) (T := F_LN) (N := 12) (ty0 := t_LN) (ty := .boolean) (w' := plwC (plg E) a (plUp st 9 7 v)) X in_LN rfl (by decide) rfl t_LN_ok n_LN rfl rfl rfl (by decide) rfl hz.narrow hz.fits hl d kk
set_option maxRecDepth 20000 in
theorem get_LW_joinedArrived {E : plE} {cc : ByteArray} {own : String} {nL : Nat} {ret : Option FieldType} {fr lo : Nat} {k n : Nat} {lv : List (Nat × Value)} {pc index : Nat} {stk : List Value} {a : Nat → Nat} {st : plS} (X : plX E cc own nL ret fr lo) (hl : plFL own index "ProtectedLine$Line" "joinedArrived" "I") (d : decode cc pc = .ok (.getfield index, 3)) (kk : plJ E nL (plwC (plg E) a st) k n lv (pc + 3) (.int (st 9 8) :: stk)) : plJ E nL (plwC (plg E) a st) k n lv pc (.ref (a 9) :: stk) := j_get (ci := 5) (kf := 8) (q0 := 9) (T := F_LN) (N := 12) X in_LN rfl (by decide) rfl rfl rfl hl d kk
set_option maxRecDepth 20000 in
theorem put_LW_joinedArrived {E : plE} {cc : ByteArray} {own : String} {nL : Nat} {ret : Option FieldType} {fr lo : Nat} {k n : Nat} {lv : List (Nat × Value)} {pc index : Nat} {stk : List Value} {a : Nat → Nat} {st : plS} {v : Int32} (X : plX E cc own nL ret fr lo) (hl : plFL own index "ProtectedLine$Line" "joinedArrived" "I") (d : decode cc pc = .ok (.putfield index, 3)) (kk : plJ E nL (plwC (plg E) a (plUp st 9 8 v)) k n lv (pc + 3) stk) : plJ E nL (plwC (plg E) a st) k n lv pc (.int v :: .ref (a 9) :: stk) := j_put (ci := 5) (kf := 8) (q0 := 9) (T := F_LN) (N := 12) (ty0 := t_LN) (ty := .int) (w' := plwC (plg E) a (plUp st 9 8 v)) X in_LN rfl (by decide) rfl t_LN_ok n_LN rfl rfl rfl (by decide) rfl rfl rfl hl d kk
set_option maxRecDepth 20000 in
theorem get_LW_state {E : plE} {cc : ByteArray} {own : String} {nL : Nat} {ret : Option FieldType} {fr lo : Nat} {k n : Nat} {lv : List (Nat × Value)} {pc index : Nat} {stk : List Value} {a : Nat → Nat} {st : plS} (X : plX E cc own nL ret fr lo) (hl : plFL own index "ProtectedLine$Line" "state" "I") (d : decode cc pc = .ok (.getfield index, 3)) (kk : plJ E nL (plwC (plg E) a st) k n lv (pc + 3) (.int (st 9 9) :: stk)) : plJ E nL (plwC (plg E) a st) k n lv pc (.ref (a 9) :: stk) := j_get (ci := 5) (kf := 9) (q0 := 9) (T := F_LN) (N := 12) X in_LN rfl (by decide) rfl rfl rfl hl d kk
set_option maxRecDepth 20000 in
theorem put_LW_state {E : plE} {cc : ByteArray} {own : String} {nL : Nat} {ret : Option FieldType} {fr lo : Nat} {k n : Nat} {lv : List (Nat × Value)} {pc index : Nat} {stk : List Value} {a : Nat → Nat} {st : plS} {v : Int32} (X : plX E cc own nL ret fr lo) (hl : plFL own index "ProtectedLine$Line" "state" "I") (d : decode cc pc = .ok (.putfield index, 3)) (kk : plJ E nL (plwC (plg E) a (plUp st 9 9 v)) k n lv (pc + 3) stk) : plJ E nL (plwC (plg E) a st) k n lv pc (.int v :: .ref (a 9) :: stk) := j_put (ci := 5) (kf := 9) (q0 := 9) (T := F_LN) (N := 12) (ty0 := t_LN) (ty := .int) (w' := plwC (plg E) a (plUp st 9 9 v)) X in_LN rfl (by decide) rfl t_LN_ok n_LN rfl rfl rfl (by decide) rfl rfl rfl hl d kk
set_option maxRecDepth 20000 in
theorem get_LW_badRow {E : plE} {cc : ByteArray} {own : String} {nL : Nat} {ret : Option FieldType} {fr lo : Nat} {k n : Nat} {lv : List (Nat × Value)} {pc index : Nat} {stk : List Value} {a : Nat → Nat} {st : plS} (X : plX E cc own nL ret fr lo) (hl : plFL own index "ProtectedLine$Line" "badRow" "I") (d : decode cc pc = .ok (.getfield index, 3)) (kk : plJ E nL (plwC (plg E) a st) k n lv (pc + 3) (.int (st 9 10) :: stk)) : plJ E nL (plwC (plg E) a st) k n lv pc (.ref (a 9) :: stk) := j_get (ci := 5) (kf := 10) (q0 := 9) (T := F_LN) (N := 12) X in_LN rfl (by decide) rfl rfl rfl hl d kk
set_option maxRecDepth 20000 in
theorem put_LW_badRow {E : plE} {cc : ByteArray} {own : String} {nL : Nat} {ret : Option FieldType} {fr lo : Nat} {k n : Nat} {lv : List (Nat × Value)} {pc index : Nat} {stk : List Value} {a : Nat → Nat} {st : plS} {v : Int32} (X : plX E cc own nL ret fr lo) (hl : plFL own index "ProtectedLine$Line" "badRow" "I") (d : decode cc pc = .ok (.putfield index, 3)) (kk : plJ E nL (plwC (plg E) a (plUp st 9 10 v)) k n lv (pc + 3) stk) : plJ E nL (plwC (plg E) a st) k n lv pc (.int v :: .ref (a 9) :: stk) := j_put (ci := 5) (kf := 10) (q0 := 9) (T := F_LN) (N := 12) (ty0 := t_LN) (ty := .int) (w' := plwC (plg E) a (plUp st 9 10 v)) X in_LN rfl (by decide) rfl t_LN_ok n_LN rfl rfl rfl (by decide) rfl rfl rfl hl d kk
set_option maxRecDepth 20000 in
theorem get_LW_errorBits {E : plE} {cc : ByteArray} {own : String} {nL : Nat} {ret : Option FieldType} {fr lo : Nat} {k n : Nat} {lv : List (Nat × Value)} {pc index : Nat} {stk : List Value} {a : Nat → Nat} {st : plS} (X : plX E cc own nL ret fr lo) (hl : plFL own index "ProtectedLine$Line" "errorBits" "I") (d : decode cc pc = .ok (.getfield index, 3)) (kk : plJ E nL (plwC (plg E) a st) k n lv (pc + 3) (.int (st 9 11) :: stk)) : plJ E nL (plwC (plg E) a st) k n lv pc (.ref (a 9) :: stk) := j_get (ci := 5) (kf := 11) (q0 := 9) (T := F_LN) (N := 12) X in_LN rfl (by decide) rfl rfl rfl hl d kk
set_option maxRecDepth 20000 in
theorem put_LW_errorBits {E : plE} {cc : ByteArray} {own : String} {nL : Nat} {ret : Option FieldType} {fr lo : Nat} {k n : Nat} {lv : List (Nat × Value)} {pc index : Nat} {stk : List Value} {a : Nat → Nat} {st : plS} {v : Int32} (X : plX E cc own nL ret fr lo) (hl : plFL own index "ProtectedLine$Line" "errorBits" "I") (d : decode cc pc = .ok (.putfield index, 3)) (kk : plJ E nL (plwC (plg E) a (plUp st 9 11 v)) k n lv (pc + 3) stk) : plJ E nL (plwC (plg E) a st) k n lv pc (.int v :: .ref (a 9) :: stk) := j_put (ci := 5) (kf := 11) (q0 := 9) (T := F_LN) (N := 12) (ty0 := t_LN) (ty := .int) (w' := plwC (plg E) a (plUp st 9 11 v)) X in_LN rfl (by decide) rfl t_LN_ok n_LN rfl rfl rfl (by decide) rfl rfl rfl hl d kk
set_option maxRecDepth 20000 in
theorem ald_LWu {E : plE} {cc : ByteArray} {own : String} {nL : Nat} {ret : Option FieldType} {fr lo : Nat} {k n : Nat} {lv : List (Nat × Value)} {pc index : Nat} {stk : List Value} {a : Nat → Nat} {st : plS} {x : Int32} (X : plX E cc own nL ret fr lo) (h : vp_in x 96) (d : decode cc pc = .ok (.iaload, 1)) (kk : plJ E nL (plwC (plg E) a st) k n lv (pc + 1) (.int (st 10 (plIx x)) :: stk)) : plJ E nL (plwC (plg E) a st) k n lv pc (.int x :: .ref (a 10) :: stk) := j_ald (q0 := 10) (f := st 10) X rfl h d kk
set_option maxRecDepth 20000 in
theorem ast_LWu {E : plE} {cc : ByteArray} {own : String} {nL : Nat} {ret : Option FieldType} {fr lo : Nat} {k n : Nat} {lv : List (Nat × Value)} {pc index : Nat} {stk : List Value} {a : Nat → Nat} {st : plS} {x v : Int32} (X : plX E cc own nL ret fr lo) (h : vp_in x 96) (d : decode cc pc = .ok (.iastore, 1)) (kk : plJ E nL (plwC (plg E) a (plUp st 10 (plIx x) v)) k n lv (pc + 1) stk) : plJ E nL (plwC (plg E) a st) k n lv pc (.int v :: .int x :: .ref (a 10) :: stk) := j_ast (q0 := 10) (f := st 10) (w' := plwC (plg E) a (plUp st 10 (plIx x) v)) X rfl rfl h d kk
set_option maxRecDepth 20000 in
theorem ald_LWh {E : plE} {cc : ByteArray} {own : String} {nL : Nat} {ret : Option FieldType} {fr lo : Nat} {k n : Nat} {lv : List (Nat × Value)} {pc index : Nat} {stk : List Value} {a : Nat → Nat} {st : plS} {x : Int32} (X : plX E cc own nL ret fr lo) (h : vp_in x 12) (d : decode cc pc = .ok (.iaload, 1)) (kk : plJ E nL (plwC (plg E) a st) k n lv (pc + 1) (.int (st 11 (plIx x)) :: stk)) : plJ E nL (plwC (plg E) a st) k n lv pc (.int x :: .ref (a 11) :: stk) := j_ald (q0 := 11) (f := st 11) X rfl h d kk
set_option maxRecDepth 20000 in
theorem ast_LWh {E : plE} {cc : ByteArray} {own : String} {nL : Nat} {ret : Option FieldType} {fr lo : Nat} {k n : Nat} {lv : List (Nat × Value)} {pc index : Nat} {stk : List Value} {a : Nat → Nat} {st : plS} {x v : Int32} (X : plX E cc own nL ret fr lo) (h : vp_in x 12) (d : decode cc pc = .ok (.iastore, 1)) (kk : plJ E nL (plwC (plg E) a (plUp st 11 (plIx x) v)) k n lv (pc + 1) stk) : plJ E nL (plwC (plg E) a st) k n lv pc (.int v :: .int x :: .ref (a 11) :: stk) := j_ast (q0 := 11) (f := st 11) (w' := plwC (plg E) a (plUp st 11 (plIx x) v)) X rfl rfl h d kk
set_option maxRecDepth 20000 in
theorem len_LWh {E : plE} {cc : ByteArray} {own : String} {nL : Nat} {ret : Option FieldType} {fr lo : Nat} {k n : Nat} {lv : List (Nat × Value)} {pc index : Nat} {stk : List Value} {a : Nat → Nat} {st : plS} (X : plX E cc own nL ret fr lo) (d : decode cc pc = .ok (.arraylength, 1)) (kk : plJ E nL (plwC (plg E) a st) k n lv (pc + 1) (.int 12 :: stk)) : plJ E nL (plwC (plg E) a st) k n lv pc (.ref (a 11) :: stk) := j_len (q0 := 11) X rfl (by decide) d kk
set_option maxRecDepth 20000 in
theorem ald_LWa {E : plE} {cc : ByteArray} {own : String} {nL : Nat} {ret : Option FieldType} {fr lo : Nat} {k n : Nat} {lv : List (Nat × Value)} {pc index : Nat} {stk : List Value} {a : Nat → Nat} {st : plS} {x : Int32} (X : plX E cc own nL ret fr lo) (h : vp_in x 12) (d : decode cc pc = .ok (.iaload, 1)) (kk : plJ E nL (plwC (plg E) a st) k n lv (pc + 1) (.int (st 12 (plIx x)) :: stk)) : plJ E nL (plwC (plg E) a st) k n lv pc (.int x :: .ref (a 12) :: stk) := j_ald (q0 := 12) (f := st 12) X rfl h d kk
set_option maxRecDepth 20000 in
theorem ast_LWa {E : plE} {cc : ByteArray} {own : String} {nL : Nat} {ret : Option FieldType} {fr lo : Nat} {k n : Nat} {lv : List (Nat × Value)} {pc index : Nat} {stk : List Value} {a : Nat → Nat} {st : plS} {x v : Int32} (X : plX E cc own nL ret fr lo) (h : vp_in x 12) (d : decode cc pc = .ok (.iastore, 1)) (kk : plJ E nL (plwC (plg E) a (plUp st 12 (plIx x) v)) k n lv (pc + 1) stk) : plJ E nL (plwC (plg E) a st) k n lv pc (.int v :: .int x :: .ref (a 12) :: stk) := j_ast (q0 := 12) (f := st 12) (w' := plwC (plg E) a (plUp st 12 (plIx x) v)) X rfl rfl h d kk
set_option maxRecDepth 20000 in
theorem get_LP_delay {E : plE} {cc : ByteArray} {own : String} {nL : Nat} {ret : Option FieldType} {fr lo : Nat} {k n : Nat} {lv : List (Nat × Value)} {pc index : Nat} {stk : List Value} {a : Nat → Nat} {st : plS} (X : plX E cc own nL ret fr lo) (hl : plFL own index "ProtectedLine$Line" "delay" "I") (d : decode cc pc = .ok (.getfield index, 3)) (kk : plJ E nL (plwC (plg E) a st) k n lv (pc + 3) (.int (st 13 0) :: stk)) : plJ E nL (plwC (plg E) a st) k n lv pc (.ref (a 13) :: stk) := j_get (ci := 5) (kf := 0) (q0 := 13) (T := F_LN) (N := 12) X in_LN rfl (by decide) rfl rfl rfl hl d kk
set_option maxRecDepth 20000 in
theorem get_LP_underWay {E : plE} {cc : ByteArray} {own : String} {nL : Nat} {ret : Option FieldType} {fr lo : Nat} {k n : Nat} {lv : List (Nat × Value)} {pc index : Nat} {stk : List Value} {a : Nat → Nat} {st : plS} (X : plX E cc own nL ret fr lo) (hl : plFL own index "ProtectedLine$Line" "underWay" "[I") (d : decode cc pc = .ok (.getfield index, 3)) (kk : plJ E nL (plwC (plg E) a st) k n lv (pc + 3) (.ref (a 14) :: stk)) : plJ E nL (plwC (plg E) a st) k n lv pc (.ref (a 13) :: stk) := j_get (ci := 5) (kf := 1) (q0 := 13) (T := F_LN) (N := 12) X in_LN rfl (by decide) rfl rfl rfl hl d kk
set_option maxRecDepth 20000 in
theorem get_LP_launched {E : plE} {cc : ByteArray} {own : String} {nL : Nat} {ret : Option FieldType} {fr lo : Nat} {k n : Nat} {lv : List (Nat × Value)} {pc index : Nat} {stk : List Value} {a : Nat → Nat} {st : plS} (X : plX E cc own nL ret fr lo) (hl : plFL own index "ProtectedLine$Line" "launched" "I") (d : decode cc pc = .ok (.getfield index, 3)) (kk : plJ E nL (plwC (plg E) a st) k n lv (pc + 3) (.int (st 13 2) :: stk)) : plJ E nL (plwC (plg E) a st) k n lv pc (.ref (a 13) :: stk) := j_get (ci := 5) (kf := 2) (q0 := 13) (T := F_LN) (N := 12) X in_LN rfl (by decide) rfl rfl rfl hl d kk
set_option maxRecDepth 20000 in
theorem put_LP_launched {E : plE} {cc : ByteArray} {own : String} {nL : Nat} {ret : Option FieldType} {fr lo : Nat} {k n : Nat} {lv : List (Nat × Value)} {pc index : Nat} {stk : List Value} {a : Nat → Nat} {st : plS} {v : Int32} (X : plX E cc own nL ret fr lo) (hl : plFL own index "ProtectedLine$Line" "launched" "I") (d : decode cc pc = .ok (.putfield index, 3)) (kk : plJ E nL (plwC (plg E) a (plUp st 13 2 v)) k n lv (pc + 3) stk) : plJ E nL (plwC (plg E) a st) k n lv pc (.int v :: .ref (a 13) :: stk) := j_put (ci := 5) (kf := 2) (q0 := 13) (T := F_LN) (N := 12) (ty0 := t_LN) (ty := .int) (w' := plwC (plg E) a (plUp st 13 2 v)) X in_LN rfl (by decide) rfl t_LN_ok n_LN rfl rfl rfl (by decide) rfl rfl rfl hl d kk
set_option maxRecDepth 20000 in
theorem get_LP_joinedSent {E : plE} {cc : ByteArray} {own : String} {nL : Nat} {ret : Option FieldType} {fr lo : Nat} {k n : Nat} {lv : List (Nat × Value)} {pc index : Nat} {stk : List Value} {a : Nat → Nat} {st : plS} (X : plX E cc own nL ret fr lo) (hl : plFL own index "ProtectedLine$Line" "joinedSent" "I") (d : decode cc pc = .ok (.getfield index, 3)) (kk : plJ E nL (plwC (plg E) a st) k n lv (pc + 3) (.int (st 13 3) :: stk)) : plJ E nL (plwC (plg E) a st) k n lv pc (.ref (a 13) :: stk) := j_get (ci := 5) (kf := 3) (q0 := 13) (T := F_LN) (N := 12) X in_LN rfl (by decide) rfl rfl rfl hl d kk
set_option maxRecDepth 20000 in
theorem put_LP_joinedSent {E : plE} {cc : ByteArray} {own : String} {nL : Nat} {ret : Option FieldType} {fr lo : Nat} {k n : Nat} {lv : List (Nat × Value)} {pc index : Nat} {stk : List Value} {a : Nat → Nat} {st : plS} {v : Int32} (X : plX E cc own nL ret fr lo) (hl : plFL own index "ProtectedLine$Line" "joinedSent" "I") (d : decode cc pc = .ok (.putfield index, 3)) (kk : plJ E nL (plwC (plg E) a (plUp st 13 3 v)) k n lv (pc + 3) stk) : plJ E nL (plwC (plg E) a st) k n lv pc (.int v :: .ref (a 13) :: stk) := j_put (ci := 5) (kf := 3) (q0 := 13) (T := F_LN) (N := 12) (ty0 := t_LN) (ty := .int) (w' := plwC (plg E) a (plUp st 13 3 v)) X in_LN rfl (by decide) rfl t_LN_ok n_LN rfl rfl rfl (by decide) rfl rfl rfl hl d kk
set_option maxRecDepth 20000 in
theorem get_LP_broken {E : plE} {cc : ByteArray} {own : String} {nL : Nat} {ret : Option FieldType} {fr lo : Nat} {k n : Nat} {lv : List (Nat × Value)} {pc index : Nat} {stk : List Value} {a : Nat → Nat} {st : plS} (X : plX E cc own nL ret fr lo) (hl : plFL own index "ProtectedLine$Line" "broken" "Z") (d : decode cc pc = .ok (.getfield index, 3)) (kk : plJ E nL (plwC (plg E) a st) k n lv (pc + 3) (.int (st 13 4) :: stk)) : plJ E nL (plwC (plg E) a st) k n lv pc (.ref (a 13) :: stk) := j_get (ci := 5) (kf := 4) (q0 := 13) (T := F_LN) (N := 12) X in_LN rfl (by decide) rfl rfl rfl hl d kk
set_option maxRecDepth 20000 in
theorem put_LP_broken {E : plE} {cc : ByteArray} {own : String} {nL : Nat} {ret : Option FieldType} {fr lo : Nat} {k n : Nat} {lv : List (Nat × Value)} {pc index : Nat} {stk : List Value} {a : Nat → Nat} {st : plS} {v : Int32} (X : plX E cc own nL ret fr lo) (hl : plFL own index "ProtectedLine$Line" "broken" "Z") (d : decode cc pc = .ok (.putfield index, 3)) (hz : plB v) (kk : plJ E nL (plwC (plg E) a (plUp st 13 4 v)) k n lv (pc + 3) stk) : plJ E nL (plwC (plg E) a st) k n lv pc (.int v :: .ref (a 13) :: stk) := j_put (ci := 5) (kf := 4) (q0 := 13) (T := F_LN) (N := 12) (ty0 := t_LN) (ty := .boolean) (w' := plwC (plg E) a (plUp st 13 4 v)) X in_LN rfl (by decide) rfl t_LN_ok n_LN rfl rfl rfl (by decide) rfl hz.narrow hz.fits hl d kk
set_option maxRecDepth 20000 in
theorem get_LP_harm {E : plE} {cc : ByteArray} {own : String} {nL : Nat} {ret : Option FieldType} {fr lo : Nat} {k n : Nat} {lv : List (Nat × Value)} {pc index : Nat} {stk : List Value} {a : Nat → Nat} {st : plS} (X : plX E cc own nL ret fr lo) (hl : plFL own index "ProtectedLine$Line" "harm" "[I") (d : decode cc pc = .ok (.getfield index, 3)) (kk : plJ E nL (plwC (plg E) a st) k n lv (pc + 3) (.ref (a 15) :: stk)) : plJ E nL (plwC (plg E) a st) k n lv pc (.ref (a 13) :: stk) := j_get (ci := 5) (kf := 5) (q0 := 13) (T := F_LN) (N := 12) X in_LN rfl (by decide) rfl rfl rfl hl d kk
set_option maxRecDepth 20000 in
theorem get_LP_arrived {E : plE} {cc : ByteArray} {own : String} {nL : Nat} {ret : Option FieldType} {fr lo : Nat} {k n : Nat} {lv : List (Nat × Value)} {pc index : Nat} {stk : List Value} {a : Nat → Nat} {st : plS} (X : plX E cc own nL ret fr lo) (hl : plFL own index "ProtectedLine$Line" "arrived" "[I") (d : decode cc pc = .ok (.getfield index, 3)) (kk : plJ E nL (plwC (plg E) a st) k n lv (pc + 3) (.ref (a 16) :: stk)) : plJ E nL (plwC (plg E) a st) k n lv pc (.ref (a 13) :: stk) := j_get (ci := 5) (kf := 6) (q0 := 13) (T := F_LN) (N := 12) X in_LN rfl (by decide) rfl rfl rfl hl d kk
set_option maxRecDepth 20000 in
theorem get_LP_hasArrived {E : plE} {cc : ByteArray} {own : String} {nL : Nat} {ret : Option FieldType} {fr lo : Nat} {k n : Nat} {lv : List (Nat × Value)} {pc index : Nat} {stk : List Value} {a : Nat → Nat} {st : plS} (X : plX E cc own nL ret fr lo) (hl : plFL own index "ProtectedLine$Line" "hasArrived" "Z") (d : decode cc pc = .ok (.getfield index, 3)) (kk : plJ E nL (plwC (plg E) a st) k n lv (pc + 3) (.int (st 13 7) :: stk)) : plJ E nL (plwC (plg E) a st) k n lv pc (.ref (a 13) :: stk) := j_get (ci := 5) (kf := 7) (q0 := 13) (T := F_LN) (N := 12) X in_LN rfl (by decide) rfl rfl rfl hl d kk
set_option maxRecDepth 20000 in
theorem put_LP_hasArrived {E : plE} {cc : ByteArray} {own : String} {nL : Nat} {ret : Option FieldType} {fr lo : Nat} {k n : Nat} {lv : List (Nat × Value)} {pc index : Nat} {stk : List Value} {a : Nat → Nat} {st : plS} {v : Int32} (X : plX E cc own nL ret fr lo) (hl : plFL own index "ProtectedLine$Line" "hasArrived" "Z") (d : decode cc pc = .ok (.putfield index, 3)) (hz : plB v) (kk : plJ E nL (plwC (plg E) a (plUp st 13 7 v)) k n lv (pc + 3) stk) : plJ E nL (plwC (plg E) a st) k n lv pc (.int v :: .ref (a 13) :: stk) := j_put (ci := 5) (kf := 7) (q0 := 13) (T := F_LN) (N := 12) (ty0 := t_LN) (ty := .boolean) (w' := plwC (plg E) a (plUp st 13 7 v)) X in_LN rfl (by decide) rfl t_LN_ok n_LN rfl rfl rfl (by decide) rfl hz.narrow hz.fits hl d kk
set_option maxRecDepth 20000 in
theorem get_LP_joinedArrived {E : plE} {cc : ByteArray} {own : String} {nL : Nat} {ret : Option FieldType} {fr lo : Nat} {k n : Nat} {lv : List (Nat × Value)} {pc index : Nat} {stk : List Value} {a : Nat → Nat} {st : plS} (X : plX E cc own nL ret fr lo) (hl : plFL own index "ProtectedLine$Line" "joinedArrived" "I") (d : decode cc pc = .ok (.getfield index, 3)) (kk : plJ E nL (plwC (plg E) a st) k n lv (pc + 3) (.int (st 13 8) :: stk)) : plJ E nL (plwC (plg E) a st) k n lv pc (.ref (a 13) :: stk) := j_get (ci := 5) (kf := 8) (q0 := 13) (T := F_LN) (N := 12) X in_LN rfl (by decide) rfl rfl rfl hl d kk
set_option maxRecDepth 20000 in
theorem put_LP_joinedArrived {E : plE} {cc : ByteArray} {own : String} {nL : Nat} {ret : Option FieldType} {fr lo : Nat} {k n : Nat} {lv : List (Nat × Value)} {pc index : Nat} {stk : List Value} {a : Nat → Nat} {st : plS} {v : Int32} (X : plX E cc own nL ret fr lo) (hl : plFL own index "ProtectedLine$Line" "joinedArrived" "I") (d : decode cc pc = .ok (.putfield index, 3)) (kk : plJ E nL (plwC (plg E) a (plUp st 13 8 v)) k n lv (pc + 3) stk) : plJ E nL (plwC (plg E) a st) k n lv pc (.int v :: .ref (a 13) :: stk) := j_put (ci := 5) (kf := 8) (q0 := 13) (T := F_LN) (N := 12) (ty0 := t_LN) (ty := .int) (w' := plwC (plg E) a (plUp st 13 8 v)) X in_LN rfl (by decide) rfl t_LN_ok n_LN rfl rfl rfl (by decide) rfl rfl rfl hl d kk
set_option maxRecDepth 20000 in
theorem get_LP_state {E : plE} {cc : ByteArray} {own : String} {nL : Nat} {ret : Option FieldType} {fr lo : Nat} {k n : Nat} {lv : List (Nat × Value)} {pc index : Nat} {stk : List Value} {a : Nat → Nat} {st : plS} (X : plX E cc own nL ret fr lo) (hl : plFL own index "ProtectedLine$Line" "state" "I") (d : decode cc pc = .ok (.getfield index, 3)) (kk : plJ E nL (plwC (plg E) a st) k n lv (pc + 3) (.int (st 13 9) :: stk)) : plJ E nL (plwC (plg E) a st) k n lv pc (.ref (a 13) :: stk) := j_get (ci := 5) (kf := 9) (q0 := 13) (T := F_LN) (N := 12) X in_LN rfl (by decide) rfl rfl rfl hl d kk
set_option maxRecDepth 20000 in
theorem put_LP_state {E : plE} {cc : ByteArray} {own : String} {nL : Nat} {ret : Option FieldType} {fr lo : Nat} {k n : Nat} {lv : List (Nat × Value)} {pc index : Nat} {stk : List Value} {a : Nat → Nat} {st : plS} {v : Int32} (X : plX E cc own nL ret fr lo) (hl : plFL own index "ProtectedLine$Line" "state" "I") (d : decode cc pc = .ok (.putfield index, 3)) (kk : plJ E nL (plwC (plg E) a (plUp st 13 9 v)) k n lv (pc + 3) stk) : plJ E nL (plwC (plg E) a st) k n lv pc (.int v :: .ref (a 13) :: stk) := j_put (ci := 5) (kf := 9) (q0 := 13) (T := F_LN) (N := 12) (ty0 := t_LN) (ty := .int) (w' := plwC (plg E) a (plUp st 13 9 v)) X in_LN rfl (by decide) rfl t_LN_ok n_LN rfl rfl rfl (by decide) rfl rfl rfl hl d kk
set_option maxRecDepth 20000 in
theorem get_LP_badRow {E : plE} {cc : ByteArray} {own : String} {nL : Nat} {ret : Option FieldType} {fr lo : Nat} {k n : Nat} {lv : List (Nat × Value)} {pc index : Nat} {stk : List Value} {a : Nat → Nat} {st : plS} (X : plX E cc own nL ret fr lo) (hl : plFL own index "ProtectedLine$Line" "badRow" "I") (d : decode cc pc = .ok (.getfield index, 3)) (kk : plJ E nL (plwC (plg E) a st) k n lv (pc + 3) (.int (st 13 10) :: stk)) : plJ E nL (plwC (plg E) a st) k n lv pc (.ref (a 13) :: stk) := j_get (ci := 5) (kf := 10) (q0 := 13) (T := F_LN) (N := 12) X in_LN rfl (by decide) rfl rfl rfl hl d kk
set_option maxRecDepth 20000 in
theorem put_LP_badRow {E : plE} {cc : ByteArray} {own : String} {nL : Nat} {ret : Option FieldType} {fr lo : Nat} {k n : Nat} {lv : List (Nat × Value)} {pc index : Nat} {stk : List Value} {a : Nat → Nat} {st : plS} {v : Int32} (X : plX E cc own nL ret fr lo) (hl : plFL own index "ProtectedLine$Line" "badRow" "I") (d : decode cc pc = .ok (.putfield index, 3)) (kk : plJ E nL (plwC (plg E) a (plUp st 13 10 v)) k n lv (pc + 3) stk) : plJ E nL (plwC (plg E) a st) k n lv pc (.int v :: .ref (a 13) :: stk) := j_put (ci := 5) (kf := 10) (q0 := 13) (T := F_LN) (N := 12) (ty0 := t_LN) (ty := .int) (w' := plwC (plg E) a (plUp st 13 10 v)) X in_LN rfl (by decide) rfl t_LN_ok n_LN rfl rfl rfl (by decide) rfl rfl rfl hl d kk
set_option maxRecDepth 20000 in
theorem get_LP_errorBits {E : plE} {cc : ByteArray} {own : String} {nL : Nat} {ret : Option FieldType} {fr lo : Nat} {k n : Nat} {lv : List (Nat × Value)} {pc index : Nat} {stk : List Value} {a : Nat → Nat} {st : plS} (X : plX E cc own nL ret fr lo) (hl : plFL own index "ProtectedLine$Line" "errorBits" "I") (d : decode cc pc = .ok (.getfield index, 3)) (kk : plJ E nL (plwC (plg E) a st) k n lv (pc + 3) (.int (st 13 11) :: stk)) : plJ E nL (plwC (plg E) a st) k n lv pc (.ref (a 13) :: stk) := j_get (ci := 5) (kf := 11) (q0 := 13) (T := F_LN) (N := 12) X in_LN rfl (by decide) rfl rfl rfl hl d kk
set_option maxRecDepth 20000 in
theorem put_LP_errorBits {E : plE} {cc : ByteArray} {own : String} {nL : Nat} {ret : Option FieldType} {fr lo : Nat} {k n : Nat} {lv : List (Nat × Value)} {pc index : Nat} {stk : List Value} {a : Nat → Nat} {st : plS} {v : Int32} (X : plX E cc own nL ret fr lo) (hl : plFL own index "ProtectedLine$Line" "errorBits" "I") (d : decode cc pc = .ok (.putfield index, 3)) (kk : plJ E nL (plwC (plg E) a (plUp st 13 11 v)) k n lv (pc + 3) stk) : plJ E nL (plwC (plg E) a st) k n lv pc (.int v :: .ref (a 13) :: stk) := j_put (ci := 5) (kf := 11) (q0 := 13) (T := F_LN) (N := 12) (ty0 := t_LN) (ty := .int) (w' := plwC (plg E) a (plUp st 13 11 v)) X in_LN rfl (by decide) rfl t_LN_ok n_LN rfl rfl rfl (by decide) rfl rfl rfl hl d kk
set_option maxRecDepth 20000 in
theorem ald_LPu {E : plE} {cc : ByteArray} {own : String} {nL : Nat} {ret : Option FieldType} {fr lo : Nat} {k n : Nat} {lv : List (Nat × Value)} {pc index : Nat} {stk : List Value} {a : Nat → Nat} {st : plS} {x : Int32} (X : plX E cc own nL ret fr lo) (h : vp_in x 96) (d : decode cc pc = .ok (.iaload, 1)) (kk : plJ E nL (plwC (plg E) a st) k n lv (pc + 1) (.int (st 14 (plIx x)) :: stk)) : plJ E nL (plwC (plg E) a st) k n lv pc (.int x :: .ref (a 14) :: stk) := j_ald (q0 := 14) (f := st 14) X rfl h d kk
set_option maxRecDepth 20000 in
theorem ast_LPu {E : plE} {cc : ByteArray} {own : String} {nL : Nat} {ret : Option FieldType} {fr lo : Nat} {k n : Nat} {lv : List (Nat × Value)} {pc index : Nat} {stk : List Value} {a : Nat → Nat} {st : plS} {x v : Int32} (X : plX E cc own nL ret fr lo) (h : vp_in x 96) (d : decode cc pc = .ok (.iastore, 1)) (kk : plJ E nL (plwC (plg E) a (plUp st 14 (plIx x) v)) k n lv (pc + 1) stk) : plJ E nL (plwC (plg E) a st) k n lv pc (.int v :: .int x :: .ref (a 14) :: stk) := j_ast (q0 := 14) (f := st 14) (w' := plwC (plg E) a (plUp st 14 (plIx x) v)) X rfl rfl h d kk
set_option maxRecDepth 20000 in
theorem ald_LPh {E : plE} {cc : ByteArray} {own : String} {nL : Nat} {ret : Option FieldType} {fr lo : Nat} {k n : Nat} {lv : List (Nat × Value)} {pc index : Nat} {stk : List Value} {a : Nat → Nat} {st : plS} {x : Int32} (X : plX E cc own nL ret fr lo) (h : vp_in x 12) (d : decode cc pc = .ok (.iaload, 1)) (kk : plJ E nL (plwC (plg E) a st) k n lv (pc + 1) (.int (st 15 (plIx x)) :: stk)) : plJ E nL (plwC (plg E) a st) k n lv pc (.int x :: .ref (a 15) :: stk) := j_ald (q0 := 15) (f := st 15) X rfl h d kk
set_option maxRecDepth 20000 in
theorem ast_LPh {E : plE} {cc : ByteArray} {own : String} {nL : Nat} {ret : Option FieldType} {fr lo : Nat} {k n : Nat} {lv : List (Nat × Value)} {pc index : Nat} {stk : List Value} {a : Nat → Nat} {st : plS} {x v : Int32} (X : plX E cc own nL ret fr lo) (h : vp_in x 12) (d : decode cc pc = .ok (.iastore, 1)) (kk : plJ E nL (plwC (plg E) a (plUp st 15 (plIx x) v)) k n lv (pc + 1) stk) : plJ E nL (plwC (plg E) a st) k n lv pc (.int v :: .int x :: .ref (a 15) :: stk) := j_ast (q0 := 15) (f := st 15) (w' := plwC (plg E) a (plUp st 15 (plIx x) v)) X rfl rfl h d kk
set_option maxRecDepth 20000 in
theorem len_LPh {E : plE} {cc : ByteArray} {own : String} {nL : Nat} {ret : Option FieldType} {fr lo : Nat} {k n : Nat} {lv : List (Nat × Value)} {pc index : Nat} {stk : List Value} {a : Nat → Nat} {st : plS} (X : plX E cc own nL ret fr lo) (d : decode cc pc = .ok (.arraylength, 1)) (kk : plJ E nL (plwC (plg E) a st) k n lv (pc + 1) (.int 12 :: stk)) : plJ E nL (plwC (plg E) a st) k n lv pc (.ref (a 15) :: stk) := j_len (q0 := 15) X rfl (by decide) d kk
set_option maxRecDepth 20000 in
theorem ald_LPa {E : plE} {cc : ByteArray} {own : String} {nL : Nat} {ret : Option FieldType} {fr lo : Nat} {k n : Nat} {lv : List (Nat × Value)} {pc index : Nat} {stk : List Value} {a : Nat → Nat} {st : plS} {x : Int32} (X : plX E cc own nL ret fr lo) (h : vp_in x 12) (d : decode cc pc = .ok (.iaload, 1)) (kk : plJ E nL (plwC (plg E) a st) k n lv (pc + 1) (.int (st 16 (plIx x)) :: stk)) : plJ E nL (plwC (plg E) a st) k n lv pc (.int x :: .ref (a 16) :: stk) := j_ald (q0 := 16) (f := st 16) X rfl h d kk
set_option maxRecDepth 20000 in
theorem ast_LPa {E : plE} {cc : ByteArray} {own : String} {nL : Nat} {ret : Option FieldType} {fr lo : Nat} {k n : Nat} {lv : List (Nat × Value)} {pc index : Nat} {stk : List Value} {a : Nat → Nat} {st : plS} {x v : Int32} (X : plX E cc own nL ret fr lo) (h : vp_in x 12) (d : decode cc pc = .ok (.iastore, 1)) (kk : plJ E nL (plwC (plg E) a (plUp st 16 (plIx x) v)) k n lv (pc + 1) stk) : plJ E nL (plwC (plg E) a st) k n lv pc (.int v :: .int x :: .ref (a 16) :: stk) := j_ast (q0 := 16) (f := st 16) (w' := plwC (plg E) a (plUp st 16 (plIx x) v)) X rfl rfl h d kk
set_option maxRecDepth 20000 in
theorem get_BL_delay {E : plE} {cc : ByteArray} {own : String} {nL : Nat} {ret : Option FieldType} {fr lo : Nat} {k n : Nat} {lv : List (Nat × Value)} {pc index : Nat} {stk : List Value} {a : Nat → Nat} {st : plS} (X : plX E cc own nL ret fr lo) (hl : plFL own index "ProtectedLine$BackLine" "delay" "I") (d : decode cc pc = .ok (.getfield index, 3)) (kk : plJ E nL (plwC (plg E) a st) k n lv (pc + 3) (.int (st 17 0) :: stk)) : plJ E nL (plwC (plg E) a st) k n lv pc (.ref (a 17) :: stk) := j_get (ci := 6) (kf := 0) (q0 := 17) (T := F_BL) (N := 3) X in_BL rfl (by decide) rfl rfl rfl hl d kk
set_option maxRecDepth 20000 in
theorem get_BL_underWay {E : plE} {cc : ByteArray} {own : String} {nL : Nat} {ret : Option FieldType} {fr lo : Nat} {k n : Nat} {lv : List (Nat × Value)} {pc index : Nat} {stk : List Value} {a : Nat → Nat} {st : plS} (X : plX E cc own nL ret fr lo) (hl : plFL own index "ProtectedLine$BackLine" "underWay" "[I") (d : decode cc pc = .ok (.getfield index, 3)) (kk : plJ E nL (plwC (plg E) a st) k n lv (pc + 3) (.ref (a 18) :: stk)) : plJ E nL (plwC (plg E) a st) k n lv pc (.ref (a 17) :: stk) := j_get (ci := 6) (kf := 1) (q0 := 17) (T := F_BL) (N := 3) X in_BL rfl (by decide) rfl rfl rfl hl d kk
set_option maxRecDepth 20000 in
theorem get_BL_launched {E : plE} {cc : ByteArray} {own : String} {nL : Nat} {ret : Option FieldType} {fr lo : Nat} {k n : Nat} {lv : List (Nat × Value)} {pc index : Nat} {stk : List Value} {a : Nat → Nat} {st : plS} (X : plX E cc own nL ret fr lo) (hl : plFL own index "ProtectedLine$BackLine" "launched" "I") (d : decode cc pc = .ok (.getfield index, 3)) (kk : plJ E nL (plwC (plg E) a st) k n lv (pc + 3) (.int (st 17 2) :: stk)) : plJ E nL (plwC (plg E) a st) k n lv pc (.ref (a 17) :: stk) := j_get (ci := 6) (kf := 2) (q0 := 17) (T := F_BL) (N := 3) X in_BL rfl (by decide) rfl rfl rfl hl d kk
set_option maxRecDepth 20000 in
theorem put_BL_launched {E : plE} {cc : ByteArray} {own : String} {nL : Nat} {ret : Option FieldType} {fr lo : Nat} {k n : Nat} {lv : List (Nat × Value)} {pc index : Nat} {stk : List Value} {a : Nat → Nat} {st : plS} {v : Int32} (X : plX E cc own nL ret fr lo) (hl : plFL own index "ProtectedLine$BackLine" "launched" "I") (d : decode cc pc = .ok (.putfield index, 3)) (kk : plJ E nL (plwC (plg E) a (plUp st 17 2 v)) k n lv (pc + 3) stk) : plJ E nL (plwC (plg E) a st) k n lv pc (.int v :: .ref (a 17) :: stk) := j_put (ci := 6) (kf := 2) (q0 := 17) (T := F_BL) (N := 3) (ty0 := t_BL) (ty := .int) (w' := plwC (plg E) a (plUp st 17 2 v)) X in_BL rfl (by decide) rfl t_BL_ok n_BL rfl rfl rfl (by decide) rfl rfl rfl hl d kk
set_option maxRecDepth 20000 in
theorem ald_BLu {E : plE} {cc : ByteArray} {own : String} {nL : Nat} {ret : Option FieldType} {fr lo : Nat} {k n : Nat} {lv : List (Nat × Value)} {pc index : Nat} {stk : List Value} {a : Nat → Nat} {st : plS} {x : Int32} (X : plX E cc own nL ret fr lo) (h : vp_in x 8) (d : decode cc pc = .ok (.iaload, 1)) (kk : plJ E nL (plwC (plg E) a st) k n lv (pc + 1) (.int (st 18 (plIx x)) :: stk)) : plJ E nL (plwC (plg E) a st) k n lv pc (.int x :: .ref (a 18) :: stk) := j_ald (q0 := 18) (f := st 18) X rfl h d kk
set_option maxRecDepth 20000 in
theorem ast_BLu {E : plE} {cc : ByteArray} {own : String} {nL : Nat} {ret : Option FieldType} {fr lo : Nat} {k n : Nat} {lv : List (Nat × Value)} {pc index : Nat} {stk : List Value} {a : Nat → Nat} {st : plS} {x v : Int32} (X : plX E cc own nL ret fr lo) (h : vp_in x 8) (d : decode cc pc = .ok (.iastore, 1)) (kk : plJ E nL (plwC (plg E) a (plUp st 18 (plIx x) v)) k n lv (pc + 1) stk) : plJ E nL (plwC (plg E) a st) k n lv pc (.int v :: .int x :: .ref (a 18) :: stk) := j_ast (q0 := 18) (f := st 18) (w' := plwC (plg E) a (plUp st 18 (plIx x) v)) X rfl rfl h d kk
set_option maxRecDepth 20000 in
theorem get_SW_hold {E : plE} {cc : ByteArray} {own : String} {nL : Nat} {ret : Option FieldType} {fr lo : Nat} {k n : Nat} {lv : List (Nat × Value)} {pc index : Nat} {stk : List Value} {a : Nat → Nat} {st : plS} (X : plX E cc own nL ret fr lo) (hl : plFL own index "ProtectedLine$Switch" "hold" "I") (d : decode cc pc = .ok (.getfield index, 3)) (kk : plJ E nL (plwC (plg E) a st) k n lv (pc + 3) (.int (st 19 0) :: stk)) : plJ E nL (plwC (plg E) a st) k n lv pc (.ref (a 19) :: stk) := j_get (ci := 7) (kf := 0) (q0 := 19) (T := F_SW) (N := 8) X in_SW rfl (by decide) rfl rfl rfl hl d kk
set_option maxRecDepth 20000 in
theorem get_SW_wait {E : plE} {cc : ByteArray} {own : String} {nL : Nat} {ret : Option FieldType} {fr lo : Nat} {k n : Nat} {lv : List (Nat × Value)} {pc index : Nat} {stk : List Value} {a : Nat → Nat} {st : plS} (X : plX E cc own nL ret fr lo) (hl : plFL own index "ProtectedLine$Switch" "wait" "I") (d : decode cc pc = .ok (.getfield index, 3)) (kk : plJ E nL (plwC (plg E) a st) k n lv (pc + 3) (.int (st 19 1) :: stk)) : plJ E nL (plwC (plg E) a st) k n lv pc (.ref (a 19) :: stk) := j_get (ci := 7) (kf := 1) (q0 := 19) (T := F_SW) (N := 8) X in_SW rfl (by decide) rfl rfl rfl hl d kk
set_option maxRecDepth 20000 in
theorem get_SW_heard {E : plE} {cc : ByteArray} {own : String} {nL : Nat} {ret : Option FieldType} {fr lo : Nat} {k n : Nat} {lv : List (Nat × Value)} {pc index : Nat} {stk : List Value} {a : Nat → Nat} {st : plS} (X : plX E cc own nL ret fr lo) (hl : plFL own index "ProtectedLine$Switch" "heard" "LProtectedLine$Listener;") (d : decode cc pc = .ok (.getfield index, 3)) (kk : plJ E nL (plwC (plg E) a st) k n lv (pc + 3) (.ref (a 20) :: stk)) : plJ E nL (plwC (plg E) a st) k n lv pc (.ref (a 19) :: stk) := j_get (ci := 7) (kf := 2) (q0 := 19) (T := F_SW) (N := 8) X in_SW rfl (by decide) rfl rfl rfl hl d kk
set_option maxRecDepth 20000 in
theorem get_SW_order {E : plE} {cc : ByteArray} {own : String} {nL : Nat} {ret : Option FieldType} {fr lo : Nat} {k n : Nat} {lv : List (Nat × Value)} {pc index : Nat} {stk : List Value} {a : Nat → Nat} {st : plS} (X : plX E cc own nL ret fr lo) (hl : plFL own index "ProtectedLine$Switch" "order" "I") (d : decode cc pc = .ok (.getfield index, 3)) (kk : plJ E nL (plwC (plg E) a st) k n lv (pc + 3) (.int (st 19 3) :: stk)) : plJ E nL (plwC (plg E) a st) k n lv pc (.ref (a 19) :: stk) := j_get (ci := 7) (kf := 3) (q0 := 19) (T := F_SW) (N := 8) X in_SW rfl (by decide) rfl rfl rfl hl d kk
set_option maxRecDepth 20000 in
theorem put_SW_order {E : plE} {cc : ByteArray} {own : String} {nL : Nat} {ret : Option FieldType} {fr lo : Nat} {k n : Nat} {lv : List (Nat × Value)} {pc index : Nat} {stk : List Value} {a : Nat → Nat} {st : plS} {v : Int32} (X : plX E cc own nL ret fr lo) (hl : plFL own index "ProtectedLine$Switch" "order" "I") (d : decode cc pc = .ok (.putfield index, 3)) (kk : plJ E nL (plwC (plg E) a (plUp st 19 3 v)) k n lv (pc + 3) stk) : plJ E nL (plwC (plg E) a st) k n lv pc (.int v :: .ref (a 19) :: stk) := j_put (ci := 7) (kf := 3) (q0 := 19) (T := F_SW) (N := 8) (ty0 := t_SW) (ty := .int) (w' := plwC (plg E) a (plUp st 19 3 v)) X in_SW rfl (by decide) rfl t_SW_ok n_SW rfl rfl rfl (by decide) rfl rfl rfl hl d kk
set_option maxRecDepth 20000 in
theorem get_SW_failedFor {E : plE} {cc : ByteArray} {own : String} {nL : Nat} {ret : Option FieldType} {fr lo : Nat} {k n : Nat} {lv : List (Nat × Value)} {pc index : Nat} {stk : List Value} {a : Nat → Nat} {st : plS} (X : plX E cc own nL ret fr lo) (hl : plFL own index "ProtectedLine$Switch" "failedFor" "I") (d : decode cc pc = .ok (.getfield index, 3)) (kk : plJ E nL (plwC (plg E) a st) k n lv (pc + 3) (.int (st 19 4) :: stk)) : plJ E nL (plwC (plg E) a st) k n lv pc (.ref (a 19) :: stk) := j_get (ci := 7) (kf := 4) (q0 := 19) (T := F_SW) (N := 8) X in_SW rfl (by decide) rfl rfl rfl hl d kk
set_option maxRecDepth 20000 in
theorem put_SW_failedFor {E : plE} {cc : ByteArray} {own : String} {nL : Nat} {ret : Option FieldType} {fr lo : Nat} {k n : Nat} {lv : List (Nat × Value)} {pc index : Nat} {stk : List Value} {a : Nat → Nat} {st : plS} {v : Int32} (X : plX E cc own nL ret fr lo) (hl : plFL own index "ProtectedLine$Switch" "failedFor" "I") (d : decode cc pc = .ok (.putfield index, 3)) (kk : plJ E nL (plwC (plg E) a (plUp st 19 4 v)) k n lv (pc + 3) stk) : plJ E nL (plwC (plg E) a st) k n lv pc (.int v :: .ref (a 19) :: stk) := j_put (ci := 7) (kf := 4) (q0 := 19) (T := F_SW) (N := 8) (ty0 := t_SW) (ty := .int) (w' := plwC (plg E) a (plUp st 19 4 v)) X in_SW rfl (by decide) rfl t_SW_ok n_SW rfl rfl rfl (by decide) rfl rfl rfl hl d kk
set_option maxRecDepth 20000 in
theorem get_SW_waitLeft {E : plE} {cc : ByteArray} {own : String} {nL : Nat} {ret : Option FieldType} {fr lo : Nat} {k n : Nat} {lv : List (Nat × Value)} {pc index : Nat} {stk : List Value} {a : Nat → Nat} {st : plS} (X : plX E cc own nL ret fr lo) (hl : plFL own index "ProtectedLine$Switch" "waitLeft" "I") (d : decode cc pc = .ok (.getfield index, 3)) (kk : plJ E nL (plwC (plg E) a st) k n lv (pc + 3) (.int (st 19 5) :: stk)) : plJ E nL (plwC (plg E) a st) k n lv pc (.ref (a 19) :: stk) := j_get (ci := 7) (kf := 5) (q0 := 19) (T := F_SW) (N := 8) X in_SW rfl (by decide) rfl rfl rfl hl d kk
set_option maxRecDepth 20000 in
theorem put_SW_waitLeft {E : plE} {cc : ByteArray} {own : String} {nL : Nat} {ret : Option FieldType} {fr lo : Nat} {k n : Nat} {lv : List (Nat × Value)} {pc index : Nat} {stk : List Value} {a : Nat → Nat} {st : plS} {v : Int32} (X : plX E cc own nL ret fr lo) (hl : plFL own index "ProtectedLine$Switch" "waitLeft" "I") (d : decode cc pc = .ok (.putfield index, 3)) (kk : plJ E nL (plwC (plg E) a (plUp st 19 5 v)) k n lv (pc + 3) stk) : plJ E nL (plwC (plg E) a st) k n lv pc (.int v :: .ref (a 19) :: stk) := j_put (ci := 7) (kf := 5) (q0 := 19) (T := F_SW) (N := 8) (ty0 := t_SW) (ty := .int) (w' := plwC (plg E) a (plUp st 19 5 v)) X in_SW rfl (by decide) rfl t_SW_ok n_SW rfl rfl rfl (by decide) rfl rfl rfl hl d kk
set_option maxRecDepth 20000 in
theorem get_SW_asked {E : plE} {cc : ByteArray} {own : String} {nL : Nat} {ret : Option FieldType} {fr lo : Nat} {k n : Nat} {lv : List (Nat × Value)} {pc index : Nat} {stk : List Value} {a : Nat → Nat} {st : plS} (X : plX E cc own nL ret fr lo) (hl : plFL own index "ProtectedLine$Switch" "asked" "I") (d : decode cc pc = .ok (.getfield index, 3)) (kk : plJ E nL (plwC (plg E) a st) k n lv (pc + 3) (.int (st 19 6) :: stk)) : plJ E nL (plwC (plg E) a st) k n lv pc (.ref (a 19) :: stk) := j_get (ci := 7) (kf := 6) (q0 := 19) (T := F_SW) (N := 8) X in_SW rfl (by decide) rfl rfl rfl hl d kk
set_option maxRecDepth 20000 in
theorem put_SW_asked {E : plE} {cc : ByteArray} {own : String} {nL : Nat} {ret : Option FieldType} {fr lo : Nat} {k n : Nat} {lv : List (Nat × Value)} {pc index : Nat} {stk : List Value} {a : Nat → Nat} {st : plS} {v : Int32} (X : plX E cc own nL ret fr lo) (hl : plFL own index "ProtectedLine$Switch" "asked" "I") (d : decode cc pc = .ok (.putfield index, 3)) (kk : plJ E nL (plwC (plg E) a (plUp st 19 6 v)) k n lv (pc + 3) stk) : plJ E nL (plwC (plg E) a st) k n lv pc (.int v :: .ref (a 19) :: stk) := j_put (ci := 7) (kf := 6) (q0 := 19) (T := F_SW) (N := 8) (ty0 := t_SW) (ty := .int) (w' := plwC (plg E) a (plUp st 19 6 v)) X in_SW rfl (by decide) rfl t_SW_ok n_SW rfl rfl rfl (by decide) rfl rfl rfl hl d kk
set_option maxRecDepth 20000 in
theorem get_SW_chosen {E : plE} {cc : ByteArray} {own : String} {nL : Nat} {ret : Option FieldType} {fr lo : Nat} {k n : Nat} {lv : List (Nat × Value)} {pc index : Nat} {stk : List Value} {a : Nat → Nat} {st : plS} (X : plX E cc own nL ret fr lo) (hl : plFL own index "ProtectedLine$Switch" "chosen" "I") (d : decode cc pc = .ok (.getfield index, 3)) (kk : plJ E nL (plwC (plg E) a st) k n lv (pc + 3) (.int (st 19 7) :: stk)) : plJ E nL (plwC (plg E) a st) k n lv pc (.ref (a 19) :: stk) := j_get (ci := 7) (kf := 7) (q0 := 19) (T := F_SW) (N := 8) X in_SW rfl (by decide) rfl rfl rfl hl d kk
set_option maxRecDepth 20000 in
theorem put_SW_chosen {E : plE} {cc : ByteArray} {own : String} {nL : Nat} {ret : Option FieldType} {fr lo : Nat} {k n : Nat} {lv : List (Nat × Value)} {pc index : Nat} {stk : List Value} {a : Nat → Nat} {st : plS} {v : Int32} (X : plX E cc own nL ret fr lo) (hl : plFL own index "ProtectedLine$Switch" "chosen" "I") (d : decode cc pc = .ok (.putfield index, 3)) (kk : plJ E nL (plwC (plg E) a (plUp st 19 7 v)) k n lv (pc + 3) stk) : plJ E nL (plwC (plg E) a st) k n lv pc (.int v :: .ref (a 19) :: stk) := j_put (ci := 7) (kf := 7) (q0 := 19) (T := F_SW) (N := 8) (ty0 := t_SW) (ty := .int) (w' := plwC (plg E) a (plUp st 19 7 v)) X in_SW rfl (by decide) rfl t_SW_ok n_SW rfl rfl rfl (by decide) rfl rfl rfl hl d kk
set_option maxRecDepth 20000 in
theorem get_LB_accepted {E : plE} {cc : ByteArray} {own : String} {nL : Nat} {ret : Option FieldType} {fr lo : Nat} {k n : Nat} {lv : List (Nat × Value)} {pc index : Nat} {stk : List Value} {a : Nat → Nat} {st : plS} (X : plX E cc own nL ret fr lo) (hl : plFL own index "ProtectedLine$Listener" "accepted" "I") (d : decode cc pc = .ok (.getfield index, 3)) (kk : plJ E nL (plwC (plg E) a st) k n lv (pc + 3) (.int (st 20 0) :: stk)) : plJ E nL (plwC (plg E) a st) k n lv pc (.ref (a 20) :: stk) := j_get (ci := 4) (kf := 0) (q0 := 20) (T := F_LI) (N := 3) X in_LI rfl (by decide) rfl rfl rfl hl d kk
set_option maxRecDepth 20000 in
theorem put_LB_accepted {E : plE} {cc : ByteArray} {own : String} {nL : Nat} {ret : Option FieldType} {fr lo : Nat} {k n : Nat} {lv : List (Nat × Value)} {pc index : Nat} {stk : List Value} {a : Nat → Nat} {st : plS} {v : Int32} (X : plX E cc own nL ret fr lo) (hl : plFL own index "ProtectedLine$Listener" "accepted" "I") (d : decode cc pc = .ok (.putfield index, 3)) (kk : plJ E nL (plwC (plg E) a (plUp st 20 0 v)) k n lv (pc + 3) stk) : plJ E nL (plwC (plg E) a st) k n lv pc (.int v :: .ref (a 20) :: stk) := j_put (ci := 4) (kf := 0) (q0 := 20) (T := F_LI) (N := 3) (ty0 := t_LI) (ty := .int) (w' := plwC (plg E) a (plUp st 20 0 v)) X in_LI rfl (by decide) rfl t_LI_ok n_LI rfl rfl rfl (by decide) rfl rfl rfl hl d kk
set_option maxRecDepth 20000 in
theorem get_LB_latest {E : plE} {cc : ByteArray} {own : String} {nL : Nat} {ret : Option FieldType} {fr lo : Nat} {k n : Nat} {lv : List (Nat × Value)} {pc index : Nat} {stk : List Value} {a : Nat → Nat} {st : plS} (X : plX E cc own nL ret fr lo) (hl : plFL own index "ProtectedLine$Listener" "latest" "I") (d : decode cc pc = .ok (.getfield index, 3)) (kk : plJ E nL (plwC (plg E) a st) k n lv (pc + 3) (.int (st 20 1) :: stk)) : plJ E nL (plwC (plg E) a st) k n lv pc (.ref (a 20) :: stk) := j_get (ci := 4) (kf := 1) (q0 := 20) (T := F_LI) (N := 3) X in_LI rfl (by decide) rfl rfl rfl hl d kk
set_option maxRecDepth 20000 in
theorem put_LB_latest {E : plE} {cc : ByteArray} {own : String} {nL : Nat} {ret : Option FieldType} {fr lo : Nat} {k n : Nat} {lv : List (Nat × Value)} {pc index : Nat} {stk : List Value} {a : Nat → Nat} {st : plS} {v : Int32} (X : plX E cc own nL ret fr lo) (hl : plFL own index "ProtectedLine$Listener" "latest" "I") (d : decode cc pc = .ok (.putfield index, 3)) (kk : plJ E nL (plwC (plg E) a (plUp st 20 1 v)) k n lv (pc + 3) stk) : plJ E nL (plwC (plg E) a st) k n lv pc (.int v :: .ref (a 20) :: stk) := j_put (ci := 4) (kf := 1) (q0 := 20) (T := F_LI) (N := 3) (ty0 := t_LI) (ty := .int) (w' := plwC (plg E) a (plUp st 20 1 v)) X in_LI rfl (by decide) rfl t_LI_ok n_LI rfl rfl rfl (by decide) rfl rfl rfl hl d kk
set_option maxRecDepth 20000 in
theorem get_LB_row {E : plE} {cc : ByteArray} {own : String} {nL : Nat} {ret : Option FieldType} {fr lo : Nat} {k n : Nat} {lv : List (Nat × Value)} {pc index : Nat} {stk : List Value} {a : Nat → Nat} {st : plS} (X : plX E cc own nL ret fr lo) (hl : plFL own index "ProtectedLine$Listener" "row" "I") (d : decode cc pc = .ok (.getfield index, 3)) (kk : plJ E nL (plwC (plg E) a st) k n lv (pc + 3) (.int (st 20 2) :: stk)) : plJ E nL (plwC (plg E) a st) k n lv pc (.ref (a 20) :: stk) := j_get (ci := 4) (kf := 2) (q0 := 20) (T := F_LI) (N := 3) X in_LI rfl (by decide) rfl rfl rfl hl d kk
set_option maxRecDepth 20000 in
theorem put_LB_row {E : plE} {cc : ByteArray} {own : String} {nL : Nat} {ret : Option FieldType} {fr lo : Nat} {k n : Nat} {lv : List (Nat × Value)} {pc index : Nat} {stk : List Value} {a : Nat → Nat} {st : plS} {v : Int32} (X : plX E cc own nL ret fr lo) (hl : plFL own index "ProtectedLine$Listener" "row" "I") (d : decode cc pc = .ok (.putfield index, 3)) (kk : plJ E nL (plwC (plg E) a (plUp st 20 2 v)) k n lv (pc + 3) stk) : plJ E nL (plwC (plg E) a st) k n lv pc (.int v :: .ref (a 20) :: stk) := j_put (ci := 4) (kf := 2) (q0 := 20) (T := F_LI) (N := 3) (ty0 := t_LI) (ty := .int) (w' := plwC (plg E) a (plUp st 20 2 v)) X in_LI rfl (by decide) rfl t_LI_ok n_LI rfl rfl rfl (by decide) rfl rfl rfl hl d kk
set_option maxRecDepth 20000 in
theorem get_SR_state {E : plE} {cc : ByteArray} {own : String} {nL : Nat} {ret : Option FieldType} {fr lo : Nat} {k n : Nat} {lv : List (Nat × Value)} {pc index : Nat} {stk : List Value} {a : Nat → Nat} {st : plS} (X : plX E cc own nL ret fr lo) (hl : plFL own index "ProtectedLine$StreamReader" "state" "I") (d : decode cc pc = .ok (.getfield index, 3)) (kk : plJ E nL (plwC (plg E) a st) k n lv (pc + 3) (.int (st 21 0) :: stk)) : plJ E nL (plwC (plg E) a st) k n lv pc (.ref (a 21) :: stk) := j_get (ci := 8) (kf := 0) (q0 := 21) (T := F_SR) (N := 12) X in_SR rfl (by decide) rfl rfl rfl hl d kk
set_option maxRecDepth 20000 in
theorem put_SR_state {E : plE} {cc : ByteArray} {own : String} {nL : Nat} {ret : Option FieldType} {fr lo : Nat} {k n : Nat} {lv : List (Nat × Value)} {pc index : Nat} {stk : List Value} {a : Nat → Nat} {st : plS} {v : Int32} (X : plX E cc own nL ret fr lo) (hl : plFL own index "ProtectedLine$StreamReader" "state" "I") (d : decode cc pc = .ok (.putfield index, 3)) (kk : plJ E nL (plwC (plg E) a (plUp st 21 0 v)) k n lv (pc + 3) stk) : plJ E nL (plwC (plg E) a st) k n lv pc (.int v :: .ref (a 21) :: stk) := j_put (ci := 8) (kf := 0) (q0 := 21) (T := F_SR) (N := 12) (ty0 := t_SR) (ty := .int) (w' := plwC (plg E) a (plUp st 21 0 v)) X in_SR rfl (by decide) rfl t_SR_ok n_SR rfl rfl rfl (by decide) rfl rfl rfl hl d kk
set_option maxRecDepth 20000 in
theorem get_SR_half {E : plE} {cc : ByteArray} {own : String} {nL : Nat} {ret : Option FieldType} {fr lo : Nat} {k n : Nat} {lv : List (Nat × Value)} {pc index : Nat} {stk : List Value} {a : Nat → Nat} {st : plS} (X : plX E cc own nL ret fr lo) (hl : plFL own index "ProtectedLine$StreamReader" "half" "Z") (d : decode cc pc = .ok (.getfield index, 3)) (kk : plJ E nL (plwC (plg E) a st) k n lv (pc + 3) (.int (st 21 1) :: stk)) : plJ E nL (plwC (plg E) a st) k n lv pc (.ref (a 21) :: stk) := j_get (ci := 8) (kf := 1) (q0 := 21) (T := F_SR) (N := 12) X in_SR rfl (by decide) rfl rfl rfl hl d kk
set_option maxRecDepth 20000 in
theorem put_SR_half {E : plE} {cc : ByteArray} {own : String} {nL : Nat} {ret : Option FieldType} {fr lo : Nat} {k n : Nat} {lv : List (Nat × Value)} {pc index : Nat} {stk : List Value} {a : Nat → Nat} {st : plS} {v : Int32} (X : plX E cc own nL ret fr lo) (hl : plFL own index "ProtectedLine$StreamReader" "half" "Z") (d : decode cc pc = .ok (.putfield index, 3)) (hz : plB v) (kk : plJ E nL (plwC (plg E) a (plUp st 21 1 v)) k n lv (pc + 3) stk) : plJ E nL (plwC (plg E) a st) k n lv pc (.int v :: .ref (a 21) :: stk) := j_put (ci := 8) (kf := 1) (q0 := 21) (T := F_SR) (N := 12) (ty0 := t_SR) (ty := .boolean) (w' := plwC (plg E) a (plUp st 21 1 v)) X in_SR rfl (by decide) rfl t_SR_ok n_SR rfl rfl rfl (by decide) rfl hz.narrow hz.fits hl d kk
set_option maxRecDepth 20000 in
theorem get_SR_first {E : plE} {cc : ByteArray} {own : String} {nL : Nat} {ret : Option FieldType} {fr lo : Nat} {k n : Nat} {lv : List (Nat × Value)} {pc index : Nat} {stk : List Value} {a : Nat → Nat} {st : plS} (X : plX E cc own nL ret fr lo) (hl : plFL own index "ProtectedLine$StreamReader" "first" "I") (d : decode cc pc = .ok (.getfield index, 3)) (kk : plJ E nL (plwC (plg E) a st) k n lv (pc + 3) (.int (st 21 2) :: stk)) : plJ E nL (plwC (plg E) a st) k n lv pc (.ref (a 21) :: stk) := j_get (ci := 8) (kf := 2) (q0 := 21) (T := F_SR) (N := 12) X in_SR rfl (by decide) rfl rfl rfl hl d kk
set_option maxRecDepth 20000 in
theorem put_SR_first {E : plE} {cc : ByteArray} {own : String} {nL : Nat} {ret : Option FieldType} {fr lo : Nat} {k n : Nat} {lv : List (Nat × Value)} {pc index : Nat} {stk : List Value} {a : Nat → Nat} {st : plS} {v : Int32} (X : plX E cc own nL ret fr lo) (hl : plFL own index "ProtectedLine$StreamReader" "first" "I") (d : decode cc pc = .ok (.putfield index, 3)) (kk : plJ E nL (plwC (plg E) a (plUp st 21 2 v)) k n lv (pc + 3) stk) : plJ E nL (plwC (plg E) a st) k n lv pc (.int v :: .ref (a 21) :: stk) := j_put (ci := 8) (kf := 2) (q0 := 21) (T := F_SR) (N := 12) (ty0 := t_SR) (ty := .int) (w' := plwC (plg E) a (plUp st 21 2 v)) X in_SR rfl (by decide) rfl t_SR_ok n_SR rfl rfl rfl (by decide) rfl rfl rfl hl d kk
set_option maxRecDepth 20000 in
theorem get_SR_length {E : plE} {cc : ByteArray} {own : String} {nL : Nat} {ret : Option FieldType} {fr lo : Nat} {k n : Nat} {lv : List (Nat × Value)} {pc index : Nat} {stk : List Value} {a : Nat → Nat} {st : plS} (X : plX E cc own nL ret fr lo) (hl : plFL own index "ProtectedLine$StreamReader" "length" "I") (d : decode cc pc = .ok (.getfield index, 3)) (kk : plJ E nL (plwC (plg E) a st) k n lv (pc + 3) (.int (st 21 3) :: stk)) : plJ E nL (plwC (plg E) a st) k n lv pc (.ref (a 21) :: stk) := j_get (ci := 8) (kf := 3) (q0 := 21) (T := F_SR) (N := 12) X in_SR rfl (by decide) rfl rfl rfl hl d kk
set_option maxRecDepth 20000 in
theorem put_SR_length {E : plE} {cc : ByteArray} {own : String} {nL : Nat} {ret : Option FieldType} {fr lo : Nat} {k n : Nat} {lv : List (Nat × Value)} {pc index : Nat} {stk : List Value} {a : Nat → Nat} {st : plS} {v : Int32} (X : plX E cc own nL ret fr lo) (hl : plFL own index "ProtectedLine$StreamReader" "length" "I") (d : decode cc pc = .ok (.putfield index, 3)) (kk : plJ E nL (plwC (plg E) a (plUp st 21 3 v)) k n lv (pc + 3) stk) : plJ E nL (plwC (plg E) a st) k n lv pc (.int v :: .ref (a 21) :: stk) := j_put (ci := 8) (kf := 3) (q0 := 21) (T := F_SR) (N := 12) (ty0 := t_SR) (ty := .int) (w' := plwC (plg E) a (plUp st 21 3 v)) X in_SR rfl (by decide) rfl t_SR_ok n_SR rfl rfl rfl (by decide) rfl rfl rfl hl d kk
set_option maxRecDepth 20000 in
theorem get_SR_done {E : plE} {cc : ByteArray} {own : String} {nL : Nat} {ret : Option FieldType} {fr lo : Nat} {k n : Nat} {lv : List (Nat × Value)} {pc index : Nat} {stk : List Value} {a : Nat → Nat} {st : plS} (X : plX E cc own nL ret fr lo) (hl : plFL own index "ProtectedLine$StreamReader" "done" "I") (d : decode cc pc = .ok (.getfield index, 3)) (kk : plJ E nL (plwC (plg E) a st) k n lv (pc + 3) (.int (st 21 4) :: stk)) : plJ E nL (plwC (plg E) a st) k n lv pc (.ref (a 21) :: stk) := j_get (ci := 8) (kf := 4) (q0 := 21) (T := F_SR) (N := 12) X in_SR rfl (by decide) rfl rfl rfl hl d kk
set_option maxRecDepth 20000 in
theorem put_SR_done {E : plE} {cc : ByteArray} {own : String} {nL : Nat} {ret : Option FieldType} {fr lo : Nat} {k n : Nat} {lv : List (Nat × Value)} {pc index : Nat} {stk : List Value} {a : Nat → Nat} {st : plS} {v : Int32} (X : plX E cc own nL ret fr lo) (hl : plFL own index "ProtectedLine$StreamReader" "done" "I") (d : decode cc pc = .ok (.putfield index, 3)) (kk : plJ E nL (plwC (plg E) a (plUp st 21 4 v)) k n lv (pc + 3) stk) : plJ E nL (plwC (plg E) a st) k n lv pc (.int v :: .ref (a 21) :: stk) := j_put (ci := 8) (kf := 4) (q0 := 21) (T := F_SR) (N := 12) (ty0 := t_SR) (ty := .int) (w' := plwC (plg E) a (plUp st 21 4 v)) X in_SR rfl (by decide) rfl t_SR_ok n_SR rfl rfl rfl (by decide) rfl rfl rfl hl d kk
set_option maxRecDepth 20000 in
theorem get_SR_before {E : plE} {cc : ByteArray} {own : String} {nL : Nat} {ret : Option FieldType} {fr lo : Nat} {k n : Nat} {lv : List (Nat × Value)} {pc index : Nat} {stk : List Value} {a : Nat → Nat} {st : plS} (X : plX E cc own nL ret fr lo) (hl : plFL own index "ProtectedLine$StreamReader" "before" "I") (d : decode cc pc = .ok (.getfield index, 3)) (kk : plJ E nL (plwC (plg E) a st) k n lv (pc + 3) (.int (st 21 5) :: stk)) : plJ E nL (plwC (plg E) a st) k n lv pc (.ref (a 21) :: stk) := j_get (ci := 8) (kf := 5) (q0 := 21) (T := F_SR) (N := 12) X in_SR rfl (by decide) rfl rfl rfl hl d kk
set_option maxRecDepth 20000 in
theorem put_SR_before {E : plE} {cc : ByteArray} {own : String} {nL : Nat} {ret : Option FieldType} {fr lo : Nat} {k n : Nat} {lv : List (Nat × Value)} {pc index : Nat} {stk : List Value} {a : Nat → Nat} {st : plS} {v : Int32} (X : plX E cc own nL ret fr lo) (hl : plFL own index "ProtectedLine$StreamReader" "before" "I") (d : decode cc pc = .ok (.putfield index, 3)) (kk : plJ E nL (plwC (plg E) a (plUp st 21 5 v)) k n lv (pc + 3) stk) : plJ E nL (plwC (plg E) a st) k n lv pc (.int v :: .ref (a 21) :: stk) := j_put (ci := 8) (kf := 5) (q0 := 21) (T := F_SR) (N := 12) (ty0 := t_SR) (ty := .int) (w' := plwC (plg E) a (plUp st 21 5 v)) X in_SR rfl (by decide) rfl t_SR_ok n_SR rfl rfl rfl (by decide) rfl rfl rfl hl d kk
set_option maxRecDepth 20000 in
theorem get_SR_check {E : plE} {cc : ByteArray} {own : String} {nL : Nat} {ret : Option FieldType} {fr lo : Nat} {k n : Nat} {lv : List (Nat × Value)} {pc index : Nat} {stk : List Value} {a : Nat → Nat} {st : plS} (X : plX E cc own nL ret fr lo) (hl : plFL own index "ProtectedLine$StreamReader" "check" "I") (d : decode cc pc = .ok (.getfield index, 3)) (kk : plJ E nL (plwC (plg E) a st) k n lv (pc + 3) (.int (st 21 6) :: stk)) : plJ E nL (plwC (plg E) a st) k n lv pc (.ref (a 21) :: stk) := j_get (ci := 8) (kf := 6) (q0 := 21) (T := F_SR) (N := 12) X in_SR rfl (by decide) rfl rfl rfl hl d kk
set_option maxRecDepth 20000 in
theorem put_SR_check {E : plE} {cc : ByteArray} {own : String} {nL : Nat} {ret : Option FieldType} {fr lo : Nat} {k n : Nat} {lv : List (Nat × Value)} {pc index : Nat} {stk : List Value} {a : Nat → Nat} {st : plS} {v : Int32} (X : plX E cc own nL ret fr lo) (hl : plFL own index "ProtectedLine$StreamReader" "check" "I") (d : decode cc pc = .ok (.putfield index, 3)) (kk : plJ E nL (plwC (plg E) a (plUp st 21 6 v)) k n lv (pc + 3) stk) : plJ E nL (plwC (plg E) a st) k n lv pc (.int v :: .ref (a 21) :: stk) := j_put (ci := 8) (kf := 6) (q0 := 21) (T := F_SR) (N := 12) (ty0 := t_SR) (ty := .int) (w' := plwC (plg E) a (plUp st 21 6 v)) X in_SR rfl (by decide) rfl t_SR_ok n_SR rfl rfl rfl (by decide) rfl rfl rfl hl d kk
set_option maxRecDepth 20000 in
theorem get_SR_frame {E : plE} {cc : ByteArray} {own : String} {nL : Nat} {ret : Option FieldType} {fr lo : Nat} {k n : Nat} {lv : List (Nat × Value)} {pc index : Nat} {stk : List Value} {a : Nat → Nat} {st : plS} (X : plX E cc own nL ret fr lo) (hl : plFL own index "ProtectedLine$StreamReader" "frame" "[I") (d : decode cc pc = .ok (.getfield index, 3)) (kk : plJ E nL (plwC (plg E) a st) k n lv (pc + 3) (.ref (a 22) :: stk)) : plJ E nL (plwC (plg E) a st) k n lv pc (.ref (a 21) :: stk) := j_get (ci := 8) (kf := 7) (q0 := 21) (T := F_SR) (N := 12) X in_SR rfl (by decide) rfl rfl rfl hl d kk
set_option maxRecDepth 20000 in
theorem get_SR_good {E : plE} {cc : ByteArray} {own : String} {nL : Nat} {ret : Option FieldType} {fr lo : Nat} {k n : Nat} {lv : List (Nat × Value)} {pc index : Nat} {stk : List Value} {a : Nat → Nat} {st : plS} (X : plX E cc own nL ret fr lo) (hl : plFL own index "ProtectedLine$StreamReader" "good" "I") (d : decode cc pc = .ok (.getfield index, 3)) (kk : plJ E nL (plwC (plg E) a st) k n lv (pc + 3) (.int (st 21 8) :: stk)) : plJ E nL (plwC (plg E) a st) k n lv pc (.ref (a 21) :: stk) := j_get (ci := 8) (kf := 8) (q0 := 21) (T := F_SR) (N := 12) X in_SR rfl (by decide) rfl rfl rfl hl d kk
set_option maxRecDepth 20000 in
theorem put_SR_good {E : plE} {cc : ByteArray} {own : String} {nL : Nat} {ret : Option FieldType} {fr lo : Nat} {k n : Nat} {lv : List (Nat × Value)} {pc index : Nat} {stk : List Value} {a : Nat → Nat} {st : plS} {v : Int32} (X : plX E cc own nL ret fr lo) (hl : plFL own index "ProtectedLine$StreamReader" "good" "I") (d : decode cc pc = .ok (.putfield index, 3)) (kk : plJ E nL (plwC (plg E) a (plUp st 21 8 v)) k n lv (pc + 3) stk) : plJ E nL (plwC (plg E) a st) k n lv pc (.int v :: .ref (a 21) :: stk) := j_put (ci := 8) (kf := 8) (q0 := 21) (T := F_SR) (N := 12) (ty0 := t_SR) (ty := .int) (w' := plwC (plg E) a (plUp st 21 8 v)) X in_SR rfl (by decide) rfl t_SR_ok n_SR rfl rfl rfl (by decide) rfl rfl rfl hl d kk
set_option maxRecDepth 20000 in
theorem get_SR_bad {E : plE} {cc : ByteArray} {own : String} {nL : Nat} {ret : Option FieldType} {fr lo : Nat} {k n : Nat} {lv : List (Nat × Value)} {pc index : Nat} {stk : List Value} {a : Nat → Nat} {st : plS} (X : plX E cc own nL ret fr lo) (hl : plFL own index "ProtectedLine$StreamReader" "bad" "I") (d : decode cc pc = .ok (.getfield index, 3)) (kk : plJ E nL (plwC (plg E) a st) k n lv (pc + 3) (.int (st 21 9) :: stk)) : plJ E nL (plwC (plg E) a st) k n lv pc (.ref (a 21) :: stk) := j_get (ci := 8) (kf := 9) (q0 := 21) (T := F_SR) (N := 12) X in_SR rfl (by decide) rfl rfl rfl hl d kk
set_option maxRecDepth 20000 in
theorem put_SR_bad {E : plE} {cc : ByteArray} {own : String} {nL : Nat} {ret : Option FieldType} {fr lo : Nat} {k n : Nat} {lv : List (Nat × Value)} {pc index : Nat} {stk : List Value} {a : Nat → Nat} {st : plS} {v : Int32} (X : plX E cc own nL ret fr lo) (hl : plFL own index "ProtectedLine$StreamReader" "bad" "I") (d : decode cc pc = .ok (.putfield index, 3)) (kk : plJ E nL (plwC (plg E) a (plUp st 21 9 v)) k n lv (pc + 3) stk) : plJ E nL (plwC (plg E) a st) k n lv pc (.int v :: .ref (a 21) :: stk) := j_put (ci := 8) (kf := 9) (q0 := 21) (T := F_SR) (N := 12) (ty0 := t_SR) (ty := .int) (w' := plwC (plg E) a (plUp st 21 9 v)) X in_SR rfl (by decide) rfl t_SR_ok n_SR rfl rfl rfl (by decide) rfl rfl rfl hl d kk
set_option maxRecDepth 20000 in
theorem get_SR_sizes {E : plE} {cc : ByteArray} {own : String} {nL : Nat} {ret : Option FieldType} {fr lo : Nat} {k n : Nat} {lv : List (Nat × Value)} {pc index : Nat} {stk : List Value} {a : Nat → Nat} {st : plS} (X : plX E cc own nL ret fr lo) (hl : plFL own index "ProtectedLine$StreamReader" "sizes" "[I") (d : decode cc pc = .ok (.getfield index, 3)) (kk : plJ E nL (plwC (plg E) a st) k n lv (pc + 3) (.ref (a 23) :: stk)) : plJ E nL (plwC (plg E) a st) k n lv pc (.ref (a 21) :: stk) := j_get (ci := 8) (kf := 10) (q0 := 21) (T := F_SR) (N := 12) X in_SR rfl (by decide) rfl rfl rfl hl d kk
set_option maxRecDepth 20000 in
theorem get_SR_contents {E : plE} {cc : ByteArray} {own : String} {nL : Nat} {ret : Option FieldType} {fr lo : Nat} {k n : Nat} {lv : List (Nat × Value)} {pc index : Nat} {stk : List Value} {a : Nat → Nat} {st : plS} (X : plX E cc own nL ret fr lo) (hl : plFL own index "ProtectedLine$StreamReader" "contents" "[I") (d : decode cc pc = .ok (.getfield index, 3)) (kk : plJ E nL (plwC (plg E) a st) k n lv (pc + 3) (.ref (a 24) :: stk)) : plJ E nL (plwC (plg E) a st) k n lv pc (.ref (a 21) :: stk) := j_get (ci := 8) (kf := 11) (q0 := 21) (T := F_SR) (N := 12) X in_SR rfl (by decide) rfl rfl rfl hl d kk
set_option maxRecDepth 20000 in
theorem ast_SRf {E : plE} {cc : ByteArray} {own : String} {nL : Nat} {ret : Option FieldType} {fr lo : Nat} {k n : Nat} {lv : List (Nat × Value)} {pc index : Nat} {stk : List Value} {a : Nat → Nat} {st : plS} {x v : Int32} (X : plX E cc own nL ret fr lo) (h : vp_in x 6) (d : decode cc pc = .ok (.iastore, 1)) (kk : plJ E nL (plwC (plg E) a (plUp st 22 (plIx x) v)) k n lv (pc + 1) stk) : plJ E nL (plwC (plg E) a st) k n lv pc (.int v :: .int x :: .ref (a 22) :: stk) := j_ast (q0 := 22) (f := st 22) (w' := plwC (plg E) a (plUp st 22 (plIx x) v)) X rfl rfl h d kk
set_option maxRecDepth 20000 in
theorem ald_SRs {E : plE} {cc : ByteArray} {own : String} {nL : Nat} {ret : Option FieldType} {fr lo : Nat} {k n : Nat} {lv : List (Nat × Value)} {pc index : Nat} {stk : List Value} {a : Nat → Nat} {st : plS} {x : Int32} (X : plX E cc own nL ret fr lo) (h : vp_in x 8) (d : decode cc pc = .ok (.iaload, 1)) (kk : plJ E nL (plwC (plg E) a st) k n lv (pc + 1) (.int (st 23 (plIx x)) :: stk)) : plJ E nL (plwC (plg E) a st) k n lv pc (.int x :: .ref (a 23) :: stk) := j_ald (q0 := 23) (f := st 23) X rfl h d kk
set_option maxRecDepth 20000 in
theorem ast_SRs {E : plE} {cc : ByteArray} {own : String} {nL : Nat} {ret : Option FieldType} {fr lo : Nat} {k n : Nat} {lv : List (Nat × Value)} {pc index : Nat} {stk : List Value} {a : Nat → Nat} {st : plS} {x v : Int32} (X : plX E cc own nL ret fr lo) (h : vp_in x 8) (d : decode cc pc = .ok (.iastore, 1)) (kk : plJ E nL (plwC (plg E) a (plUp st 23 (plIx x) v)) k n lv (pc + 1) stk) : plJ E nL (plwC (plg E) a st) k n lv pc (.int v :: .int x :: .ref (a 23) :: stk) := j_ast (q0 := 23) (f := st 23) (w' := plwC (plg E) a (plUp st 23 (plIx x) v)) X rfl rfl h d kk
set_option maxRecDepth 20000 in
theorem ald_SRc {E : plE} {cc : ByteArray} {own : String} {nL : Nat} {ret : Option FieldType} {fr lo : Nat} {k n : Nat} {lv : List (Nat × Value)} {pc index : Nat} {stk : List Value} {a : Nat → Nat} {st : plS} {x : Int32} (X : plX E cc own nL ret fr lo) (h : vp_in x 48) (d : decode cc pc = .ok (.iaload, 1)) (kk : plJ E nL (plwC (plg E) a st) k n lv (pc + 1) (.int (st 24 (plIx x)) :: stk)) : plJ E nL (plwC (plg E) a st) k n lv pc (.int x :: .ref (a 24) :: stk) := j_ald (q0 := 24) (f := st 24) X rfl h d kk
set_option maxRecDepth 20000 in
theorem get_PR_stream {E : plE} {cc : ByteArray} {own : String} {nL : Nat} {ret : Option FieldType} {fr lo : Nat} {k n : Nat} {lv : List (Nat × Value)} {pc index : Nat} {stk : List Value} {a : Nat → Nat} {st : plS} (X : plX E cc own nL ret fr lo) (hl : plFL own index "ProtectedLine$PointerReader" "stream" "LProtectedLine$StreamReader;") (d : decode cc pc = .ok (.getfield index, 3)) (kk : plJ E nL (plwC (plg E) a st) k n lv (pc + 3) (.ref (a 21) :: stk)) : plJ E nL (plwC (plg E) a st) k n lv pc (.ref (a 25) :: stk) := j_get (ci := 9) (kf := 0) (q0 := 25) (T := F_PR) (N := 9) X in_PR rfl (by decide) rfl rfl rfl hl d kk
set_option maxRecDepth 20000 in
theorem get_PR_v {E : plE} {cc : ByteArray} {own : String} {nL : Nat} {ret : Option FieldType} {fr lo : Nat} {k n : Nat} {lv : List (Nat × Value)} {pc index : Nat} {stk : List Value} {a : Nat → Nat} {st : plS} (X : plX E cc own nL ret fr lo) (hl : plFL own index "ProtectedLine$PointerReader" "v" "I") (d : decode cc pc = .ok (.getfield index, 3)) (kk : plJ E nL (plwC (plg E) a st) k n lv (pc + 3) (.int (st 25 1) :: stk)) : plJ E nL (plwC (plg E) a st) k n lv pc (.ref (a 25) :: stk) := j_get (ci := 9) (kf := 1) (q0 := 25) (T := F_PR) (N := 9) X in_PR rfl (by decide) rfl rfl rfl hl d kk
set_option maxRecDepth 20000 in
theorem put_PR_v {E : plE} {cc : ByteArray} {own : String} {nL : Nat} {ret : Option FieldType} {fr lo : Nat} {k n : Nat} {lv : List (Nat × Value)} {pc index : Nat} {stk : List Value} {a : Nat → Nat} {st : plS} {v : Int32} (X : plX E cc own nL ret fr lo) (hl : plFL own index "ProtectedLine$PointerReader" "v" "I") (d : decode cc pc = .ok (.putfield index, 3)) (kk : plJ E nL (plwC (plg E) a (plUp st 25 1 v)) k n lv (pc + 3) stk) : plJ E nL (plwC (plg E) a st) k n lv pc (.int v :: .ref (a 25) :: stk) := j_put (ci := 9) (kf := 1) (q0 := 25) (T := F_PR) (N := 9) (ty0 := t_PR) (ty := .int) (w' := plwC (plg E) a (plUp st 25 1 v)) X in_PR rfl (by decide) rfl t_PR_ok n_PR rfl rfl rfl (by decide) rfl rfl rfl hl d kk
set_option maxRecDepth 20000 in
theorem get_PR_gapRow {E : plE} {cc : ByteArray} {own : String} {nL : Nat} {ret : Option FieldType} {fr lo : Nat} {k n : Nat} {lv : List (Nat × Value)} {pc index : Nat} {stk : List Value} {a : Nat → Nat} {st : plS} (X : plX E cc own nL ret fr lo) (hl : plFL own index "ProtectedLine$PointerReader" "gapRow" "I") (d : decode cc pc = .ok (.getfield index, 3)) (kk : plJ E nL (plwC (plg E) a st) k n lv (pc + 3) (.int (st 25 2) :: stk)) : plJ E nL (plwC (plg E) a st) k n lv pc (.ref (a 25) :: stk) := j_get (ci := 9) (kf := 2) (q0 := 25) (T := F_PR) (N := 9) X in_PR rfl (by decide) rfl rfl rfl hl d kk
set_option maxRecDepth 20000 in
theorem put_PR_gapRow {E : plE} {cc : ByteArray} {own : String} {nL : Nat} {ret : Option FieldType} {fr lo : Nat} {k n : Nat} {lv : List (Nat × Value)} {pc index : Nat} {stk : List Value} {a : Nat → Nat} {st : plS} {v : Int32} (X : plX E cc own nL ret fr lo) (hl : plFL own index "ProtectedLine$PointerReader" "gapRow" "I") (d : decode cc pc = .ok (.putfield index, 3)) (kk : plJ E nL (plwC (plg E) a (plUp st 25 2 v)) k n lv (pc + 3) stk) : plJ E nL (plwC (plg E) a st) k n lv pc (.int v :: .ref (a 25) :: stk) := j_put (ci := 9) (kf := 2) (q0 := 25) (T := F_PR) (N := 9) (ty0 := t_PR) (ty := .int) (w' := plwC (plg E) a (plUp st 25 2 v)) X in_PR rfl (by decide) rfl t_PR_ok n_PR rfl rfl rfl (by decide) rfl rfl rfl hl d kk
set_option maxRecDepth 20000 in
theorem get_PR_plainRow {E : plE} {cc : ByteArray} {own : String} {nL : Nat} {ret : Option FieldType} {fr lo : Nat} {k n : Nat} {lv : List (Nat × Value)} {pc index : Nat} {stk : List Value} {a : Nat → Nat} {st : plS} (X : plX E cc own nL ret fr lo) (hl : plFL own index "ProtectedLine$PointerReader" "plainRow" "I") (d : decode cc pc = .ok (.getfield index, 3)) (kk : plJ E nL (plwC (plg E) a st) k n lv (pc + 3) (.int (st 25 3) :: stk)) : plJ E nL (plwC (plg E) a st) k n lv pc (.ref (a 25) :: stk) := j_get (ci := 9) (kf := 3) (q0 := 25) (T := F_PR) (N := 9) X in_PR rfl (by decide) rfl rfl rfl hl d kk
set_option maxRecDepth 20000 in
theorem put_PR_plainRow {E : plE} {cc : ByteArray} {own : String} {nL : Nat} {ret : Option FieldType} {fr lo : Nat} {k n : Nat} {lv : List (Nat × Value)} {pc index : Nat} {stk : List Value} {a : Nat → Nat} {st : plS} {v : Int32} (X : plX E cc own nL ret fr lo) (hl : plFL own index "ProtectedLine$PointerReader" "plainRow" "I") (d : decode cc pc = .ok (.putfield index, 3)) (kk : plJ E nL (plwC (plg E) a (plUp st 25 3 v)) k n lv (pc + 3) stk) : plJ E nL (plwC (plg E) a st) k n lv pc (.int v :: .ref (a 25) :: stk) := j_put (ci := 9) (kf := 3) (q0 := 25) (T := F_PR) (N := 9) (ty0 := t_PR) (ty := .int) (w' := plwC (plg E) a (plUp st 25 3 v)) X in_PR rfl (by decide) rfl t_PR_ok n_PR rfl rfl rfl (by decide) rfl rfl rfl hl d kk
set_option maxRecDepth 20000 in
theorem get_PR_plainQ {E : plE} {cc : ByteArray} {own : String} {nL : Nat} {ret : Option FieldType} {fr lo : Nat} {k n : Nat} {lv : List (Nat × Value)} {pc index : Nat} {stk : List Value} {a : Nat → Nat} {st : plS} (X : plX E cc own nL ret fr lo) (hl : plFL own index "ProtectedLine$PointerReader" "plainQ" "I") (d : decode cc pc = .ok (.getfield index, 3)) (kk : plJ E nL (plwC (plg E) a st) k n lv (pc + 3) (.int (st 25 4) :: stk)) : plJ E nL (plwC (plg E) a st) k n lv pc (.ref (a 25) :: stk) := j_get (ci := 9) (kf := 4) (q0 := 25) (T := F_PR) (N := 9) X in_PR rfl (by decide) rfl rfl rfl hl d kk
set_option maxRecDepth 20000 in
theorem put_PR_plainQ {E : plE} {cc : ByteArray} {own : String} {nL : Nat} {ret : Option FieldType} {fr lo : Nat} {k n : Nat} {lv : List (Nat × Value)} {pc index : Nat} {stk : List Value} {a : Nat → Nat} {st : plS} {v : Int32} (X : plX E cc own nL ret fr lo) (hl : plFL own index "ProtectedLine$PointerReader" "plainQ" "I") (d : decode cc pc = .ok (.putfield index, 3)) (kk : plJ E nL (plwC (plg E) a (plUp st 25 4 v)) k n lv (pc + 3) stk) : plJ E nL (plwC (plg E) a st) k n lv pc (.int v :: .ref (a 25) :: stk) := j_put (ci := 9) (kf := 4) (q0 := 25) (T := F_PR) (N := 9) (ty0 := t_PR) (ty := .int) (w' := plwC (plg E) a (plUp st 25 4 v)) X in_PR rfl (by decide) rfl t_PR_ok n_PR rfl rfl rfl (by decide) rfl rfl rfl hl d kk
set_option maxRecDepth 20000 in
theorem get_PR_strangeRow {E : plE} {cc : ByteArray} {own : String} {nL : Nat} {ret : Option FieldType} {fr lo : Nat} {k n : Nat} {lv : List (Nat × Value)} {pc index : Nat} {stk : List Value} {a : Nat → Nat} {st : plS} (X : plX E cc own nL ret fr lo) (hl : plFL own index "ProtectedLine$PointerReader" "strangeRow" "I") (d : decode cc pc = .ok (.getfield index, 3)) (kk : plJ E nL (plwC (plg E) a st) k n lv (pc + 3) (.int (st 25 5) :: stk)) : plJ E nL (plwC (plg E) a st) k n lv pc (.ref (a 25) :: stk) := j_get (ci := 9) (kf := 5) (q0 := 25) (T := F_PR) (N := 9) X in_PR rfl (by decide) rfl rfl rfl hl d kk
set_option maxRecDepth 20000 in
theorem put_PR_strangeRow {E : plE} {cc : ByteArray} {own : String} {nL : Nat} {ret : Option FieldType} {fr lo : Nat} {k n : Nat} {lv : List (Nat × Value)} {pc index : Nat} {stk : List Value} {a : Nat → Nat} {st : plS} {v : Int32} (X : plX E cc own nL ret fr lo) (hl : plFL own index "ProtectedLine$PointerReader" "strangeRow" "I") (d : decode cc pc = .ok (.putfield index, 3)) (kk : plJ E nL (plwC (plg E) a (plUp st 25 5 v)) k n lv (pc + 3) stk) : plJ E nL (plwC (plg E) a st) k n lv pc (.int v :: .ref (a 25) :: stk) := j_put (ci := 9) (kf := 5) (q0 := 25) (T := F_PR) (N := 9) (ty0 := t_PR) (ty := .int) (w' := plwC (plg E) a (plUp st 25 5 v)) X in_PR rfl (by decide) rfl t_PR_ok n_PR rfl rfl rfl (by decide) rfl rfl rfl hl d kk
set_option maxRecDepth 20000 in
theorem get_PR_sinceFirst {E : plE} {cc : ByteArray} {own : String} {nL : Nat} {ret : Option FieldType} {fr lo : Nat} {k n : Nat} {lv : List (Nat × Value)} {pc index : Nat} {stk : List Value} {a : Nat → Nat} {st : plS} (X : plX E cc own nL ret fr lo) (hl : plFL own index "ProtectedLine$PointerReader" "sinceFirst" "I") (d : decode cc pc = .ok (.getfield index, 3)) (kk : plJ E nL (plwC (plg E) a st) k n lv (pc + 3) (.int (st 25 6) :: stk)) : plJ E nL (plwC (plg E) a st) k n lv pc (.ref (a 25) :: stk) := j_get (ci := 9) (kf := 6) (q0 := 25) (T := F_PR) (N := 9) X in_PR rfl (by decide) rfl rfl rfl hl d kk
set_option maxRecDepth 20000 in
theorem put_PR_sinceFirst {E : plE} {cc : ByteArray} {own : String} {nL : Nat} {ret : Option FieldType} {fr lo : Nat} {k n : Nat} {lv : List (Nat × Value)} {pc index : Nat} {stk : List Value} {a : Nat → Nat} {st : plS} {v : Int32} (X : plX E cc own nL ret fr lo) (hl : plFL own index "ProtectedLine$PointerReader" "sinceFirst" "I") (d : decode cc pc = .ok (.putfield index, 3)) (kk : plJ E nL (plwC (plg E) a (plUp st 25 6 v)) k n lv (pc + 3) stk) : plJ E nL (plwC (plg E) a st) k n lv pc (.int v :: .ref (a 25) :: stk) := j_put (ci := 9) (kf := 6) (q0 := 25) (T := F_PR) (N := 9) (ty0 := t_PR) (ty := .int) (w' := plwC (plg E) a (plUp st 25 6 v)) X in_PR rfl (by decide) rfl t_PR_ok n_PR rfl rfl rfl (by decide) rfl rfl rfl hl d kk
set_option maxRecDepth 20000 in
theorem get_PR_joined {E : plE} {cc : ByteArray} {own : String} {nL : Nat} {ret : Option FieldType} {fr lo : Nat} {k n : Nat} {lv : List (Nat × Value)} {pc index : Nat} {stk : List Value} {a : Nat → Nat} {st : plS} (X : plX E cc own nL ret fr lo) (hl : plFL own index "ProtectedLine$PointerReader" "joined" "I") (d : decode cc pc = .ok (.getfield index, 3)) (kk : plJ E nL (plwC (plg E) a st) k n lv (pc + 3) (.int (st 25 7) :: stk)) : plJ E nL (plwC (plg E) a st) k n lv pc (.ref (a 25) :: stk) := j_get (ci := 9) (kf := 7) (q0 := 25) (T := F_PR) (N := 9) X in_PR rfl (by decide) rfl rfl rfl hl d kk
set_option maxRecDepth 20000 in
theorem put_PR_joined {E : plE} {cc : ByteArray} {own : String} {nL : Nat} {ret : Option FieldType} {fr lo : Nat} {k n : Nat} {lv : List (Nat × Value)} {pc index : Nat} {stk : List Value} {a : Nat → Nat} {st : plS} {v : Int32} (X : plX E cc own nL ret fr lo) (hl : plFL own index "ProtectedLine$PointerReader" "joined" "I") (d : decode cc pc = .ok (.putfield index, 3)) (kk : plJ E nL (plwC (plg E) a (plUp st 25 7 v)) k n lv (pc + 3) stk) : plJ E nL (plwC (plg E) a st) k n lv pc (.int v :: .ref (a 25) :: stk) := j_put (ci := 9) (kf := 7) (q0 := 25) (T := F_PR) (N := 9) (ty0 := t_PR) (ty := .int) (w' := plwC (plg E) a (plUp st 25 7 v)) X in_PR rfl (by decide) rfl t_PR_ok n_PR rfl rfl rfl (by decide) rfl rfl rfl hl d kk
set_option maxRecDepth 20000 in
theorem get_PR_errorBits {E : plE} {cc : ByteArray} {own : String} {nL : Nat} {ret : Option FieldType} {fr lo : Nat} {k n : Nat} {lv : List (Nat × Value)} {pc index : Nat} {stk : List Value} {a : Nat → Nat} {st : plS} (X : plX E cc own nL ret fr lo) (hl : plFL own index "ProtectedLine$PointerReader" "errorBits" "I") (d : decode cc pc = .ok (.getfield index, 3)) (kk : plJ E nL (plwC (plg E) a st) k n lv (pc + 3) (.int (st 25 8) :: stk)) : plJ E nL (plwC (plg E) a st) k n lv pc (.ref (a 25) :: stk) := j_get (ci := 9) (kf := 8) (q0 := 25) (T := F_PR) (N := 9) X in_PR rfl (by decide) rfl rfl rfl hl d kk
set_option maxRecDepth 20000 in
theorem put_PR_errorBits {E : plE} {cc : ByteArray} {own : String} {nL : Nat} {ret : Option FieldType} {fr lo : Nat} {k n : Nat} {lv : List (Nat × Value)} {pc index : Nat} {stk : List Value} {a : Nat → Nat} {st : plS} {v : Int32} (X : plX E cc own nL ret fr lo) (hl : plFL own index "ProtectedLine$PointerReader" "errorBits" "I") (d : decode cc pc = .ok (.putfield index, 3)) (kk : plJ E nL (plwC (plg E) a (plUp st 25 8 v)) k n lv (pc + 3) stk) : plJ E nL (plwC (plg E) a st) k n lv pc (.int v :: .ref (a 25) :: stk) := j_put (ci := 9) (kf := 8) (q0 := 25) (T := F_PR) (N := 9) (ty0 := t_PR) (ty := .int) (w' := plwC (plg E) a (plUp st 25 8 v)) X in_PR rfl (by decide) rfl t_PR_ok n_PR rfl rfl rfl (by decide) rfl rfl rfl hl d kk
set_option maxRecDepth 20000 in
theorem get_RM_delay {E : plE} {cc : ByteArray} {own : String} {nL : Nat} {ret : Option FieldType} {fr lo : Nat} {k n : Nat} {lv : List (Nat × Value)} {pc index : Nat} {stk : List Value} {a : Nat → Nat} {st : plS} (X : plX E cc own nL ret fr lo) (hl : plFL own index "ProtectedLineModel" "delay" "[I") (d : decode cc pc = .ok (.getfield index, 3)) (kk : plJ E nL (plwR (plg E) a st) k n lv (pc + 3) (.ref (a 1) :: stk)) : plJ E nL (plwR (plg E) a st) k n lv pc (.ref (a 0) :: stk) := j_get (ci := 10) (kf := 0) (q0 := 0) (T := F_RM) (N := 59) X in_RM rfl (by decide) rfl rfl rfl hl d kk
set_option maxRecDepth 20000 in
theorem get_RM_hold {E : plE} {cc : ByteArray} {own : String} {nL : Nat} {ret : Option FieldType} {fr lo : Nat} {k n : Nat} {lv : List (Nat × Value)} {pc index : Nat} {stk : List Value} {a : Nat → Nat} {st : plS} (X : plX E cc own nL ret fr lo) (hl : plFL own index "ProtectedLineModel" "hold" "I") (d : decode cc pc = .ok (.getfield index, 3)) (kk : plJ E nL (plwR (plg E) a st) k n lv (pc + 3) (.int (st 0 1) :: stk)) : plJ E nL (plwR (plg E) a st) k n lv pc (.ref (a 0) :: stk) := j_get (ci := 10) (kf := 1) (q0 := 0) (T := F_RM) (N := 59) X in_RM rfl (by decide) rfl rfl rfl hl d kk
set_option maxRecDepth 20000 in
theorem get_RM_wait {E : plE} {cc : ByteArray} {own : String} {nL : Nat} {ret : Option FieldType} {fr lo : Nat} {k n : Nat} {lv : List (Nat × Value)} {pc index : Nat} {stk : List Value} {a : Nat → Nat} {st : plS} (X : plX E cc own nL ret fr lo) (hl : plFL own index "ProtectedLineModel" "wait" "I") (d : decode cc pc = .ok (.getfield index, 3)) (kk : plJ E nL (plwR (plg E) a st) k n lv (pc + 3) (.int (st 0 2) :: stk)) : plJ E nL (plwR (plg E) a st) k n lv pc (.ref (a 0) :: stk) := j_get (ci := 10) (kf := 2) (q0 := 0) (T := F_RM) (N := 59) X in_RM rfl (by decide) rfl rfl rfl hl d kk
set_option maxRecDepth 20000 in
theorem get_RM_time {E : plE} {cc : ByteArray} {own : String} {nL : Nat} {ret : Option FieldType} {fr lo : Nat} {k n : Nat} {lv : List (Nat × Value)} {pc index : Nat} {stk : List Value} {a : Nat → Nat} {st : plS} (X : plX E cc own nL ret fr lo) (hl : plFL own index "ProtectedLineModel" "time" "I") (d : decode cc pc = .ok (.getfield index, 3)) (kk : plJ E nL (plwR (plg E) a st) k n lv (pc + 3) (.int (st 0 3) :: stk)) : plJ E nL (plwR (plg E) a st) k n lv pc (.ref (a 0) :: stk) := j_get (ci := 10) (kf := 3) (q0 := 0) (T := F_RM) (N := 59) X in_RM rfl (by decide) rfl rfl rfl hl d kk
set_option maxRecDepth 20000 in
theorem put_RM_time {E : plE} {cc : ByteArray} {own : String} {nL : Nat} {ret : Option FieldType} {fr lo : Nat} {k n : Nat} {lv : List (Nat × Value)} {pc index : Nat} {stk : List Value} {a : Nat → Nat} {st : plS} {v : Int32} (X : plX E cc own nL ret fr lo) (hl : plFL own index "ProtectedLineModel" "time" "I") (d : decode cc pc = .ok (.putfield index, 3)) (kk : plJ E nL (plwR (plg E) a (plUp st 0 3 v)) k n lv (pc + 3) stk) : plJ E nL (plwR (plg E) a st) k n lv pc (.int v :: .ref (a 0) :: stk) := j_put (ci := 10) (kf := 3) (q0 := 0) (T := F_RM) (N := 59) (ty0 := t_RM) (ty := .int) (w' := plwR (plg E) a (plUp st 0 3 v)) X in_RM rfl (by decide) rfl t_RM_ok n_RM rfl rfl rfl (by decide) rfl rfl rfl hl d kk
set_option maxRecDepth 20000 in
theorem get_RM_waiting {E : plE} {cc : ByteArray} {own : String} {nL : Nat} {ret : Option FieldType} {fr lo : Nat} {k n : Nat} {lv : List (Nat × Value)} {pc index : Nat} {stk : List Value} {a : Nat → Nat} {st : plS} (X : plX E cc own nL ret fr lo) (hl : plFL own index "ProtectedLineModel" "waiting" "I") (d : decode cc pc = .ok (.getfield index, 3)) (kk : plJ E nL (plwR (plg E) a st) k n lv (pc + 3) (.int (st 0 4) :: stk)) : plJ E nL (plwR (plg E) a st) k n lv pc (.ref (a 0) :: stk) := j_get (ci := 10) (kf := 4) (q0 := 0) (T := F_RM) (N := 59) X in_RM rfl (by decide) rfl rfl rfl hl d kk
set_option maxRecDepth 20000 in
theorem put_RM_waiting {E : plE} {cc : ByteArray} {own : String} {nL : Nat} {ret : Option FieldType} {fr lo : Nat} {k n : Nat} {lv : List (Nat × Value)} {pc index : Nat} {stk : List Value} {a : Nat → Nat} {st : plS} {v : Int32} (X : plX E cc own nL ret fr lo) (hl : plFL own index "ProtectedLineModel" "waiting" "I") (d : decode cc pc = .ok (.putfield index, 3)) (kk : plJ E nL (plwR (plg E) a (plUp st 0 4 v)) k n lv (pc + 3) stk) : plJ E nL (plwR (plg E) a st) k n lv pc (.int v :: .ref (a 0) :: stk) := j_put (ci := 10) (kf := 4) (q0 := 0) (T := F_RM) (N := 59) (ty0 := t_RM) (ty := .int) (w' := plwR (plg E) a (plUp st 0 4 v)) X in_RM rfl (by decide) rfl t_RM_ok n_RM rfl rfl rfl (by decide) rfl rfl rfl hl d kk
set_option maxRecDepth 20000 in
theorem get_RM_queue {E : plE} {cc : ByteArray} {own : String} {nL : Nat} {ret : Option FieldType} {fr lo : Nat} {k n : Nat} {lv : List (Nat × Value)} {pc index : Nat} {stk : List Value} {a : Nat → Nat} {st : plS} (X : plX E cc own nL ret fr lo) (hl : plFL own index "ProtectedLineModel" "queue" "[I") (d : decode cc pc = .ok (.getfield index, 3)) (kk : plJ E nL (plwR (plg E) a st) k n lv (pc + 3) (.ref (a 2) :: stk)) : plJ E nL (plwR (plg E) a st) k n lv pc (.ref (a 0) :: stk) := j_get (ci := 10) (kf := 5) (q0 := 0) (T := F_RM) (N := 59) X in_RM rfl (by decide) rfl rfl rfl hl d kk
set_option maxRecDepth 20000 in
theorem get_RM_going {E : plE} {cc : ByteArray} {own : String} {nL : Nat} {ret : Option FieldType} {fr lo : Nat} {k n : Nat} {lv : List (Nat × Value)} {pc index : Nat} {stk : List Value} {a : Nat → Nat} {st : plS} (X : plX E cc own nL ret fr lo) (hl : plFL own index "ProtectedLineModel" "going" "[I") (d : decode cc pc = .ok (.getfield index, 3)) (kk : plJ E nL (plwR (plg E) a st) k n lv (pc + 3) (.ref (a 3) :: stk)) : plJ E nL (plwR (plg E) a st) k n lv pc (.ref (a 0) :: stk) := j_get (ci := 10) (kf := 6) (q0 := 0) (T := F_RM) (N := 59) X in_RM rfl (by decide) rfl rfl rfl hl d kk
set_option maxRecDepth 20000 in
theorem get_RM_length {E : plE} {cc : ByteArray} {own : String} {nL : Nat} {ret : Option FieldType} {fr lo : Nat} {k n : Nat} {lv : List (Nat × Value)} {pc index : Nat} {stk : List Value} {a : Nat → Nat} {st : plS} (X : plX E cc own nL ret fr lo) (hl : plFL own index "ProtectedLineModel" "length" "I") (d : decode cc pc = .ok (.getfield index, 3)) (kk : plJ E nL (plwR (plg E) a st) k n lv (pc + 3) (.int (st 0 7) :: stk)) : plJ E nL (plwR (plg E) a st) k n lv pc (.ref (a 0) :: stk) := j_get (ci := 10) (kf := 7) (q0 := 0) (T := F_RM) (N := 59) X in_RM rfl (by decide) rfl rfl rfl hl d kk
set_option maxRecDepth 20000 in
theorem put_RM_length {E : plE} {cc : ByteArray} {own : String} {nL : Nat} {ret : Option FieldType} {fr lo : Nat} {k n : Nat} {lv : List (Nat × Value)} {pc index : Nat} {stk : List Value} {a : Nat → Nat} {st : plS} {v : Int32} (X : plX E cc own nL ret fr lo) (hl : plFL own index "ProtectedLineModel" "length" "I") (d : decode cc pc = .ok (.putfield index, 3)) (kk : plJ E nL (plwR (plg E) a (plUp st 0 7 v)) k n lv (pc + 3) stk) : plJ E nL (plwR (plg E) a st) k n lv pc (.int v :: .ref (a 0) :: stk) := j_put (ci := 10) (kf := 7) (q0 := 0) (T := F_RM) (N := 59) (ty0 := t_RM) (ty := .int) (w' := plwR (plg E) a (plUp st 0 7 v)) X in_RM rfl (by decide) rfl t_RM_ok n_RM rfl rfl rfl (by decide) rfl rfl rfl hl d kk
set_option maxRecDepth 20000 in
theorem get_RM_taken {E : plE} {cc : ByteArray} {own : String} {nL : Nat} {ret : Option FieldType} {fr lo : Nat} {k n : Nat} {lv : List (Nat × Value)} {pc index : Nat} {stk : List Value} {a : Nat → Nat} {st : plS} (X : plX E cc own nL ret fr lo) (hl : plFL own index "ProtectedLineModel" "taken" "I") (d : decode cc pc = .ok (.getfield index, 3)) (kk : plJ E nL (plwR (plg E) a st) k n lv (pc + 3) (.int (st 0 8) :: stk)) : plJ E nL (plwR (plg E) a st) k n lv pc (.ref (a 0) :: stk) := j_get (ci := 10) (kf := 8) (q0 := 0) (T := F_RM) (N := 59) X in_RM rfl (by decide) rfl rfl rfl hl d kk
set_option maxRecDepth 20000 in
theorem put_RM_taken {E : plE} {cc : ByteArray} {own : String} {nL : Nat} {ret : Option FieldType} {fr lo : Nat} {k n : Nat} {lv : List (Nat × Value)} {pc index : Nat} {stk : List Value} {a : Nat → Nat} {st : plS} {v : Int32} (X : plX E cc own nL ret fr lo) (hl : plFL own index "ProtectedLineModel" "taken" "I") (d : decode cc pc = .ok (.putfield index, 3)) (kk : plJ E nL (plwR (plg E) a (plUp st 0 8 v)) k n lv (pc + 3) stk) : plJ E nL (plwR (plg E) a st) k n lv pc (.int v :: .ref (a 0) :: stk) := j_put (ci := 10) (kf := 8) (q0 := 0) (T := F_RM) (N := 59) (ty0 := t_RM) (ty := .int) (w' := plwR (plg E) a (plUp st 0 8 v)) X in_RM rfl (by decide) rfl t_RM_ok n_RM rfl rfl rfl (by decide) rfl rfl rfl hl d kk
set_option maxRecDepth 20000 in
theorem get_RM_scrambled {E : plE} {cc : ByteArray} {own : String} {nL : Nat} {ret : Option FieldType} {fr lo : Nat} {k n : Nat} {lv : List (Nat × Value)} {pc index : Nat} {stk : List Value} {a : Nat → Nat} {st : plS} (X : plX E cc own nL ret fr lo) (hl : plFL own index "ProtectedLineModel" "scrambled" "I") (d : decode cc pc = .ok (.getfield index, 3)) (kk : plJ E nL (plwR (plg E) a st) k n lv (pc + 3) (.int (st 0 9) :: stk)) : plJ E nL (plwR (plg E) a st) k n lv pc (.ref (a 0) :: stk) := j_get (ci := 10) (kf := 9) (q0 := 0) (T := F_RM) (N := 59) X in_RM rfl (by decide) rfl rfl rfl hl d kk
set_option maxRecDepth 20000 in
theorem put_RM_scrambled {E : plE} {cc : ByteArray} {own : String} {nL : Nat} {ret : Option FieldType} {fr lo : Nat} {k n : Nat} {lv : List (Nat × Value)} {pc index : Nat} {stk : List Value} {a : Nat → Nat} {st : plS} {v : Int32} (X : plX E cc own nL ret fr lo) (hl : plFL own index "ProtectedLineModel" "scrambled" "I") (d : decode cc pc = .ok (.putfield index, 3)) (kk : plJ E nL (plwR (plg E) a (plUp st 0 9 v)) k n lv (pc + 3) stk) : plJ E nL (plwR (plg E) a st) k n lv pc (.int v :: .ref (a 0) :: stk) := j_put (ci := 10) (kf := 9) (q0 := 0) (T := F_RM) (N := 59) (ty0 := t_RM) (ty := .int) (w' := plwR (plg E) a (plUp st 0 9 v)) X in_RM rfl (by decide) rfl t_RM_ok n_RM rfl rfl rfl (by decide) rfl rfl rfl hl d kk
set_option maxRecDepth 20000 in
theorem get_RM_place {E : plE} {cc : ByteArray} {own : String} {nL : Nat} {ret : Option FieldType} {fr lo : Nat} {k n : Nat} {lv : List (Nat × Value)} {pc index : Nat} {stk : List Value} {a : Nat → Nat} {st : plS} (X : plX E cc own nL ret fr lo) (hl : plFL own index "ProtectedLineModel" "place" "I") (d : decode cc pc = .ok (.getfield index, 3)) (kk : plJ E nL (plwR (plg E) a st) k n lv (pc + 3) (.int (st 0 10) :: stk)) : plJ E nL (plwR (plg E) a st) k n lv pc (.ref (a 0) :: stk) := j_get (ci := 10) (kf := 10) (q0 := 0) (T := F_RM) (N := 59) X in_RM rfl (by decide) rfl rfl rfl hl d kk
set_option maxRecDepth 20000 in
theorem put_RM_place {E : plE} {cc : ByteArray} {own : String} {nL : Nat} {ret : Option FieldType} {fr lo : Nat} {k n : Nat} {lv : List (Nat × Value)} {pc index : Nat} {stk : List Value} {a : Nat → Nat} {st : plS} {v : Int32} (X : plX E cc own nL ret fr lo) (hl : plFL own index "ProtectedLineModel" "place" "I") (d : decode cc pc = .ok (.putfield index, 3)) (kk : plJ E nL (plwR (plg E) a (plUp st 0 10 v)) k n lv (pc + 3) stk) : plJ E nL (plwR (plg E) a st) k n lv pc (.int v :: .ref (a 0) :: stk) := j_put (ci := 10) (kf := 10) (q0 := 0) (T := F_RM) (N := 59) (ty0 := t_RM) (ty := .int) (w' := plwR (plg E) a (plUp st 0 10 v)) X in_RM rfl (by decide) rfl t_RM_ok n_RM rfl rfl rfl (by decide) rfl rfl rfl hl d kk
set_option maxRecDepth 20000 in
theorem get_RM_parity {E : plE} {cc : ByteArray} {own : String} {nL : Nat} {ret : Option FieldType} {fr lo : Nat} {k n : Nat} {lv : List (Nat × Value)} {pc index : Nat} {stk : List Value} {a : Nat → Nat} {st : plS} (X : plX E cc own nL ret fr lo) (hl : plFL own index "ProtectedLineModel" "parity" "I") (d : decode cc pc = .ok (.getfield index, 3)) (kk : plJ E nL (plwR (plg E) a st) k n lv (pc + 3) (.int (st 0 11) :: stk)) : plJ E nL (plwR (plg E) a st) k n lv pc (.ref (a 0) :: stk) := j_get (ci := 10) (kf := 11) (q0 := 0) (T := F_RM) (N := 59) X in_RM rfl (by decide) rfl rfl rfl hl d kk
set_option maxRecDepth 20000 in
theorem put_RM_parity {E : plE} {cc : ByteArray} {own : String} {nL : Nat} {ret : Option FieldType} {fr lo : Nat} {k n : Nat} {lv : List (Nat × Value)} {pc index : Nat} {stk : List Value} {a : Nat → Nat} {st : plS} {v : Int32} (X : plX E cc own nL ret fr lo) (hl : plFL own index "ProtectedLineModel" "parity" "I") (d : decode cc pc = .ok (.putfield index, 3)) (kk : plJ E nL (plwR (plg E) a (plUp st 0 11 v)) k n lv (pc + 3) stk) : plJ E nL (plwR (plg E) a st) k n lv pc (.int v :: .ref (a 0) :: stk) := j_put (ci := 10) (kf := 11) (q0 := 0) (T := F_RM) (N := 59) (ty0 := t_RM) (ty := .int) (w' := plwR (plg E) a (plUp st 0 11 v)) X in_RM rfl (by decide) rfl t_RM_ok n_RM rfl rfl rfl (by decide) rfl rfl rfl hl d kk
set_option maxRecDepth 20000 in
theorem get_RM_joined {E : plE} {cc : ByteArray} {own : String} {nL : Nat} {ret : Option FieldType} {fr lo : Nat} {k n : Nat} {lv : List (Nat × Value)} {pc index : Nat} {stk : List Value} {a : Nat → Nat} {st : plS} (X : plX E cc own nL ret fr lo) (hl : plFL own index "ProtectedLineModel" "joined" "I") (d : decode cc pc = .ok (.getfield index, 3)) (kk : plJ E nL (plwR (plg E) a st) k n lv (pc + 3) (.int (st 0 12) :: stk)) : plJ E nL (plwR (plg E) a st) k n lv pc (.ref (a 0) :: stk) := j_get (ci := 10) (kf := 12) (q0 := 0) (T := F_RM) (N := 59) X in_RM rfl (by decide) rfl rfl rfl hl d kk
set_option maxRecDepth 20000 in
theorem put_RM_joined {E : plE} {cc : ByteArray} {own : String} {nL : Nat} {ret : Option FieldType} {fr lo : Nat} {k n : Nat} {lv : List (Nat × Value)} {pc index : Nat} {stk : List Value} {a : Nat → Nat} {st : plS} {v : Int32} (X : plX E cc own nL ret fr lo) (hl : plFL own index "ProtectedLineModel" "joined" "I") (d : decode cc pc = .ok (.putfield index, 3)) (kk : plJ E nL (plwR (plg E) a (plUp st 0 12 v)) k n lv (pc + 3) stk) : plJ E nL (plwR (plg E) a st) k n lv pc (.int v :: .ref (a 0) :: stk) := j_put (ci := 10) (kf := 12) (q0 := 0) (T := F_RM) (N := 59) (ty0 := t_RM) (ty := .int) (w' := plwR (plg E) a (plUp st 0 12 v)) X in_RM rfl (by decide) rfl t_RM_ok n_RM rfl rfl rfl (by decide) rfl rfl rfl hl d kk
set_option maxRecDepth 20000 in
theorem get_RM_lead {E : plE} {cc : ByteArray} {own : String} {nL : Nat} {ret : Option FieldType} {fr lo : Nat} {k n : Nat} {lv : List (Nat × Value)} {pc index : Nat} {stk : List Value} {a : Nat → Nat} {st : plS} (X : plX E cc own nL ret fr lo) (hl : plFL own index "ProtectedLineModel" "lead" "I") (d : decode cc pc = .ok (.getfield index, 3)) (kk : plJ E nL (plwR (plg E) a st) k n lv (pc + 3) (.int (st 0 13) :: stk)) : plJ E nL (plwR (plg E) a st) k n lv pc (.ref (a 0) :: stk) := j_get (ci := 10) (kf := 13) (q0 := 0) (T := F_RM) (N := 59) X in_RM rfl (by decide) rfl rfl rfl hl d kk
set_option maxRecDepth 20000 in
theorem put_RM_lead {E : plE} {cc : ByteArray} {own : String} {nL : Nat} {ret : Option FieldType} {fr lo : Nat} {k n : Nat} {lv : List (Nat × Value)} {pc index : Nat} {stk : List Value} {a : Nat → Nat} {st : plS} {v : Int32} (X : plX E cc own nL ret fr lo) (hl : plFL own index "ProtectedLineModel" "lead" "I") (d : decode cc pc = .ok (.putfield index, 3)) (kk : plJ E nL (plwR (plg E) a (plUp st 0 13 v)) k n lv (pc + 3) stk) : plJ E nL (plwR (plg E) a st) k n lv pc (.int v :: .ref (a 0) :: stk) := j_put (ci := 10) (kf := 13) (q0 := 0) (T := F_RM) (N := 59) (ty0 := t_RM) (ty := .int) (w' := plwR (plg E) a (plUp st 0 13 v)) X in_RM rfl (by decide) rfl t_RM_ok n_RM rfl rfl rfl (by decide) rfl rfl rfl hl d kk
set_option maxRecDepth 20000 in
theorem get_RM_debt {E : plE} {cc : ByteArray} {own : String} {nL : Nat} {ret : Option FieldType} {fr lo : Nat} {k n : Nat} {lv : List (Nat × Value)} {pc index : Nat} {stk : List Value} {a : Nat → Nat} {st : plS} (X : plX E cc own nL ret fr lo) (hl : plFL own index "ProtectedLineModel" "debt" "I") (d : decode cc pc = .ok (.getfield index, 3)) (kk : plJ E nL (plwR (plg E) a st) k n lv (pc + 3) (.int (st 0 14) :: stk)) : plJ E nL (plwR (plg E) a st) k n lv pc (.ref (a 0) :: stk) := j_get (ci := 10) (kf := 14) (q0 := 0) (T := F_RM) (N := 59) X in_RM rfl (by decide) rfl rfl rfl hl d kk
set_option maxRecDepth 20000 in
theorem put_RM_debt {E : plE} {cc : ByteArray} {own : String} {nL : Nat} {ret : Option FieldType} {fr lo : Nat} {k n : Nat} {lv : List (Nat × Value)} {pc index : Nat} {stk : List Value} {a : Nat → Nat} {st : plS} {v : Int32} (X : plX E cc own nL ret fr lo) (hl : plFL own index "ProtectedLineModel" "debt" "I") (d : decode cc pc = .ok (.putfield index, 3)) (kk : plJ E nL (plwR (plg E) a (plUp st 0 14 v)) k n lv (pc + 3) stk) : plJ E nL (plwR (plg E) a st) k n lv pc (.int v :: .ref (a 0) :: stk) := j_put (ci := 10) (kf := 14) (q0 := 0) (T := F_RM) (N := 59) (ty0 := t_RM) (ty := .int) (w' := plwR (plg E) a (plUp st 0 14 v)) X in_RM rfl (by decide) rfl t_RM_ok n_RM rfl rfl rfl (by decide) rfl rfl rfl hl d kk
set_option maxRecDepth 20000 in
theorem get_RM_quiet {E : plE} {cc : ByteArray} {own : String} {nL : Nat} {ret : Option FieldType} {fr lo : Nat} {k n : Nat} {lv : List (Nat × Value)} {pc index : Nat} {stk : List Value} {a : Nat → Nat} {st : plS} (X : plX E cc own nL ret fr lo) (hl : plFL own index "ProtectedLineModel" "quiet" "I") (d : decode cc pc = .ok (.getfield index, 3)) (kk : plJ E nL (plwR (plg E) a st) k n lv (pc + 3) (.int (st 0 15) :: stk)) : plJ E nL (plwR (plg E) a st) k n lv pc (.ref (a 0) :: stk) := j_get (ci := 10) (kf := 15) (q0 := 0) (T := F_RM) (N := 59) X in_RM rfl (by decide) rfl rfl rfl hl d kk
set_option maxRecDepth 20000 in
theorem put_RM_quiet {E : plE} {cc : ByteArray} {own : String} {nL : Nat} {ret : Option FieldType} {fr lo : Nat} {k n : Nat} {lv : List (Nat × Value)} {pc index : Nat} {stk : List Value} {a : Nat → Nat} {st : plS} {v : Int32} (X : plX E cc own nL ret fr lo) (hl : plFL own index "ProtectedLineModel" "quiet" "I") (d : decode cc pc = .ok (.putfield index, 3)) (kk : plJ E nL (plwR (plg E) a (plUp st 0 15 v)) k n lv (pc + 3) stk) : plJ E nL (plwR (plg E) a st) k n lv pc (.int v :: .ref (a 0) :: stk) := j_put (ci := 10) (kf := 15) (q0 := 0) (T := F_RM) (N := 59) (ty0 := t_RM) (ty := .int) (w' := plwR (plg E) a (plUp st 0 15 v)) X in_RM rfl (by decide) rfl t_RM_ok n_RM rfl rfl rfl (by decide) rfl rfl rfl hl d kk
set_option maxRecDepth 20000 in
theorem get_RM_bridge {E : plE} {cc : ByteArray} {own : String} {nL : Nat} {ret : Option FieldType} {fr lo : Nat} {k n : Nat} {lv : List (Nat × Value)} {pc index : Nat} {stk : List Value} {a : Nat → Nat} {st : plS} (X : plX E cc own nL ret fr lo) (hl : plFL own index "ProtectedLineModel" "bridge" "Z") (d : decode cc pc = .ok (.getfield index, 3)) (kk : plJ E nL (plwR (plg E) a st) k n lv (pc + 3) (.int (st 0 16) :: stk)) : plJ E nL (plwR (plg E) a st) k n lv pc (.ref (a 0) :: stk) := j_get (ci := 10) (kf := 16) (q0 := 0) (T := F_RM) (N := 59) X in_RM rfl (by decide) rfl rfl rfl hl d kk
set_option maxRecDepth 20000 in
theorem put_RM_bridge {E : plE} {cc : ByteArray} {own : String} {nL : Nat} {ret : Option FieldType} {fr lo : Nat} {k n : Nat} {lv : List (Nat × Value)} {pc index : Nat} {stk : List Value} {a : Nat → Nat} {st : plS} {v : Int32} (X : plX E cc own nL ret fr lo) (hl : plFL own index "ProtectedLineModel" "bridge" "Z") (d : decode cc pc = .ok (.putfield index, 3)) (hz : plB v) (kk : plJ E nL (plwR (plg E) a (plUp st 0 16 v)) k n lv (pc + 3) stk) : plJ E nL (plwR (plg E) a st) k n lv pc (.int v :: .ref (a 0) :: stk) := j_put (ci := 10) (kf := 16) (q0 := 0) (T := F_RM) (N := 59) (ty0 := t_RM) (ty := .boolean) (w' := plwR (plg E) a (plUp st 0 16 v)) X in_RM rfl (by decide) rfl t_RM_ok n_RM rfl rfl rfl (by decide) rfl hz.narrow hz.fits hl d kk
set_option maxRecDepth 20000 in
theorem get_RM_acceptedA {E : plE} {cc : ByteArray} {own : String} {nL : Nat} {ret : Option FieldType} {fr lo : Nat} {k n : Nat} {lv : List (Nat × Value)} {pc index : Nat} {stk : List Value} {a : Nat → Nat} {st : plS} (X : plX E cc own nL ret fr lo) (hl : plFL own index "ProtectedLineModel" "acceptedA" "I") (d : decode cc pc = .ok (.getfield index, 3)) (kk : plJ E nL (plwR (plg E) a st) k n lv (pc + 3) (.int (st 0 17) :: stk)) : plJ E nL (plwR (plg E) a st) k n lv pc (.ref (a 0) :: stk) := j_get (ci := 10) (kf := 17) (q0 := 0) (T := F_RM) (N := 59) X in_RM rfl (by decide) rfl rfl rfl hl d kk
set_option maxRecDepth 20000 in
theorem put_RM_acceptedA {E : plE} {cc : ByteArray} {own : String} {nL : Nat} {ret : Option FieldType} {fr lo : Nat} {k n : Nat} {lv : List (Nat × Value)} {pc index : Nat} {stk : List Value} {a : Nat → Nat} {st : plS} {v : Int32} (X : plX E cc own nL ret fr lo) (hl : plFL own index "ProtectedLineModel" "acceptedA" "I") (d : decode cc pc = .ok (.putfield index, 3)) (kk : plJ E nL (plwR (plg E) a (plUp st 0 17 v)) k n lv (pc + 3) stk) : plJ E nL (plwR (plg E) a st) k n lv pc (.int v :: .ref (a 0) :: stk) := j_put (ci := 10) (kf := 17) (q0 := 0) (T := F_RM) (N := 59) (ty0 := t_RM) (ty := .int) (w' := plwR (plg E) a (plUp st 0 17 v)) X in_RM rfl (by decide) rfl t_RM_ok n_RM rfl rfl rfl (by decide) rfl rfl rfl hl d kk
set_option maxRecDepth 20000 in
theorem get_RM_sameA {E : plE} {cc : ByteArray} {own : String} {nL : Nat} {ret : Option FieldType} {fr lo : Nat} {k n : Nat} {lv : List (Nat × Value)} {pc index : Nat} {stk : List Value} {a : Nat → Nat} {st : plS} (X : plX E cc own nL ret fr lo) (hl : plFL own index "ProtectedLineModel" "sameA" "I") (d : decode cc pc = .ok (.getfield index, 3)) (kk : plJ E nL (plwR (plg E) a st) k n lv (pc + 3) (.int (st 0 18) :: stk)) : plJ E nL (plwR (plg E) a st) k n lv pc (.ref (a 0) :: stk) := j_get (ci := 10) (kf := 18) (q0 := 0) (T := F_RM) (N := 59) X in_RM rfl (by decide) rfl rfl rfl hl d kk
set_option maxRecDepth 20000 in
theorem put_RM_sameA {E : plE} {cc : ByteArray} {own : String} {nL : Nat} {ret : Option FieldType} {fr lo : Nat} {k n : Nat} {lv : List (Nat × Value)} {pc index : Nat} {stk : List Value} {a : Nat → Nat} {st : plS} {v : Int32} (X : plX E cc own nL ret fr lo) (hl : plFL own index "ProtectedLineModel" "sameA" "I") (d : decode cc pc = .ok (.putfield index, 3)) (kk : plJ E nL (plwR (plg E) a (plUp st 0 18 v)) k n lv (pc + 3) stk) : plJ E nL (plwR (plg E) a st) k n lv pc (.int v :: .ref (a 0) :: stk) := j_put (ci := 10) (kf := 18) (q0 := 0) (T := F_RM) (N := 59) (ty0 := t_RM) (ty := .int) (w' := plwR (plg E) a (plUp st 0 18 v)) X in_RM rfl (by decide) rfl t_RM_ok n_RM rfl rfl rfl (by decide) rfl rfl rfl hl d kk
set_option maxRecDepth 20000 in
theorem get_RM_latestA {E : plE} {cc : ByteArray} {own : String} {nL : Nat} {ret : Option FieldType} {fr lo : Nat} {k n : Nat} {lv : List (Nat × Value)} {pc index : Nat} {stk : List Value} {a : Nat → Nat} {st : plS} (X : plX E cc own nL ret fr lo) (hl : plFL own index "ProtectedLineModel" "latestA" "I") (d : decode cc pc = .ok (.getfield index, 3)) (kk : plJ E nL (plwR (plg E) a st) k n lv (pc + 3) (.int (st 0 19) :: stk)) : plJ E nL (plwR (plg E) a st) k n lv pc (.ref (a 0) :: stk) := j_get (ci := 10) (kf := 19) (q0 := 0) (T := F_RM) (N := 59) X in_RM rfl (by decide) rfl rfl rfl hl d kk
set_option maxRecDepth 20000 in
theorem put_RM_latestA {E : plE} {cc : ByteArray} {own : String} {nL : Nat} {ret : Option FieldType} {fr lo : Nat} {k n : Nat} {lv : List (Nat × Value)} {pc index : Nat} {stk : List Value} {a : Nat → Nat} {st : plS} {v : Int32} (X : plX E cc own nL ret fr lo) (hl : plFL own index "ProtectedLineModel" "latestA" "I") (d : decode cc pc = .ok (.putfield index, 3)) (kk : plJ E nL (plwR (plg E) a (plUp st 0 19 v)) k n lv (pc + 3) stk) : plJ E nL (plwR (plg E) a st) k n lv pc (.int v :: .ref (a 0) :: stk) := j_put (ci := 10) (kf := 19) (q0 := 0) (T := F_RM) (N := 59) (ty0 := t_RM) (ty := .int) (w' := plwR (plg E) a (plUp st 0 19 v)) X in_RM rfl (by decide) rfl t_RM_ok n_RM rfl rfl rfl (by decide) rfl rfl rfl hl d kk
set_option maxRecDepth 20000 in
theorem get_RM_sent {E : plE} {cc : ByteArray} {own : String} {nL : Nat} {ret : Option FieldType} {fr lo : Nat} {k n : Nat} {lv : List (Nat × Value)} {pc index : Nat} {stk : List Value} {a : Nat → Nat} {st : plS} (X : plX E cc own nL ret fr lo) (hl : plFL own index "ProtectedLineModel" "sent" "[I") (d : decode cc pc = .ok (.getfield index, 3)) (kk : plJ E nL (plwR (plg E) a st) k n lv (pc + 3) (.ref (a 4) :: stk)) : plJ E nL (plwR (plg E) a st) k n lv pc (.ref (a 0) :: stk) := j_get (ci := 10) (kf := 20) (q0 := 0) (T := F_RM) (N := 59) X in_RM rfl (by decide) rfl rfl rfl hl d kk
set_option maxRecDepth 20000 in
theorem get_RM_back {E : plE} {cc : ByteArray} {own : String} {nL : Nat} {ret : Option FieldType} {fr lo : Nat} {k n : Nat} {lv : List (Nat × Value)} {pc index : Nat} {stk : List Value} {a : Nat → Nat} {st : plS} (X : plX E cc own nL ret fr lo) (hl : plFL own index "ProtectedLineModel" "back" "[I") (d : decode cc pc = .ok (.getfield index, 3)) (kk : plJ E nL (plwR (plg E) a st) k n lv (pc + 3) (.ref (a 5) :: stk)) : plJ E nL (plwR (plg E) a st) k n lv pc (.ref (a 0) :: stk) := j_get (ci := 10) (kf := 21) (q0 := 0) (T := F_RM) (N := 59) X in_RM rfl (by decide) rfl rfl rfl hl d kk
set_option maxRecDepth 20000 in
theorem get_RM_row {E : plE} {cc : ByteArray} {own : String} {nL : Nat} {ret : Option FieldType} {fr lo : Nat} {k n : Nat} {lv : List (Nat × Value)} {pc index : Nat} {stk : List Value} {a : Nat → Nat} {st : plS} (X : plX E cc own nL ret fr lo) (hl : plFL own index "ProtectedLineModel" "row" "[I") (d : decode cc pc = .ok (.getfield index, 3)) (kk : plJ E nL (plwR (plg E) a st) k n lv (pc + 3) (.ref (a 6) :: stk)) : plJ E nL (plwR (plg E) a st) k n lv pc (.ref (a 0) :: stk) := j_get (ci := 10) (kf := 22) (q0 := 0) (T := F_RM) (N := 59) X in_RM rfl (by decide) rfl rfl rfl hl d kk
set_option maxRecDepth 20000 in
theorem get_RM_frame {E : plE} {cc : ByteArray} {own : String} {nL : Nat} {ret : Option FieldType} {fr lo : Nat} {k n : Nat} {lv : List (Nat × Value)} {pc index : Nat} {stk : List Value} {a : Nat → Nat} {st : plS} (X : plX E cc own nL ret fr lo) (hl : plFL own index "ProtectedLineModel" "frame" "[I") (d : decode cc pc = .ok (.getfield index, 3)) (kk : plJ E nL (plwR (plg E) a st) k n lv (pc + 3) (.ref (a 7) :: stk)) : plJ E nL (plwR (plg E) a st) k n lv pc (.ref (a 0) :: stk) := j_get (ci := 10) (kf := 23) (q0 := 0) (T := F_RM) (N := 59) X in_RM rfl (by decide) rfl rfl rfl hl d kk
set_option maxRecDepth 20000 in
theorem get_RM_cut {E : plE} {cc : ByteArray} {own : String} {nL : Nat} {ret : Option FieldType} {fr lo : Nat} {k n : Nat} {lv : List (Nat × Value)} {pc index : Nat} {stk : List Value} {a : Nat → Nat} {st : plS} (X : plX E cc own nL ret fr lo) (hl : plFL own index "ProtectedLineModel" "cut" "[Z") (d : decode cc pc = .ok (.getfield index, 3)) (kk : plJ E nL (plwR (plg E) a st) k n lv (pc + 3) (.ref (a 8) :: stk)) : plJ E nL (plwR (plg E) a st) k n lv pc (.ref (a 0) :: stk) := j_get (ci := 10) (kf := 24) (q0 := 0) (T := F_RM) (N := 59) X in_RM rfl (by decide) rfl rfl rfl hl d kk
set_option maxRecDepth 20000 in
theorem get_RM_spoil {E : plE} {cc : ByteArray} {own : String} {nL : Nat} {ret : Option FieldType} {fr lo : Nat} {k n : Nat} {lv : List (Nat × Value)} {pc index : Nat} {stk : List Value} {a : Nat → Nat} {st : plS} (X : plX E cc own nL ret fr lo) (hl : plFL own index "ProtectedLineModel" "spoil" "[I") (d : decode cc pc = .ok (.getfield index, 3)) (kk : plJ E nL (plwR (plg E) a st) k n lv (pc + 3) (.ref (a 9) :: stk)) : plJ E nL (plwR (plg E) a st) k n lv pc (.ref (a 0) :: stk) := j_get (ci := 10) (kf := 25) (q0 := 0) (T := F_RM) (N := 59) X in_RM rfl (by decide) rfl rfl rfl hl d kk
set_option maxRecDepth 20000 in
theorem get_RM_now {E : plE} {cc : ByteArray} {own : String} {nL : Nat} {ret : Option FieldType} {fr lo : Nat} {k n : Nat} {lv : List (Nat × Value)} {pc index : Nat} {stk : List Value} {a : Nat → Nat} {st : plS} (X : plX E cc own nL ret fr lo) (hl : plFL own index "ProtectedLineModel" "now" "[I") (d : decode cc pc = .ok (.getfield index, 3)) (kk : plJ E nL (plwR (plg E) a st) k n lv (pc + 3) (.ref (a 10) :: stk)) : plJ E nL (plwR (plg E) a st) k n lv pc (.ref (a 0) :: stk) := j_get (ci := 10) (kf := 26) (q0 := 0) (T := F_RM) (N := 59) X in_RM rfl (by decide) rfl rfl rfl hl d kk
set_option maxRecDepth 20000 in
theorem get_RM_came {E : plE} {cc : ByteArray} {own : String} {nL : Nat} {ret : Option FieldType} {fr lo : Nat} {k n : Nat} {lv : List (Nat × Value)} {pc index : Nat} {stk : List Value} {a : Nat → Nat} {st : plS} (X : plX E cc own nL ret fr lo) (hl : plFL own index "ProtectedLineModel" "came" "[Z") (d : decode cc pc = .ok (.getfield index, 3)) (kk : plJ E nL (plwR (plg E) a st) k n lv (pc + 3) (.ref (a 11) :: stk)) : plJ E nL (plwR (plg E) a st) k n lv pc (.ref (a 0) :: stk) := j_get (ci := 10) (kf := 27) (q0 := 0) (T := F_RM) (N := 59) X in_RM rfl (by decide) rfl rfl rfl hl d kk
set_option maxRecDepth 20000 in
theorem get_RM_before {E : plE} {cc : ByteArray} {own : String} {nL : Nat} {ret : Option FieldType} {fr lo : Nat} {k n : Nat} {lv : List (Nat × Value)} {pc index : Nat} {stk : List Value} {a : Nat → Nat} {st : plS} (X : plX E cc own nL ret fr lo) (hl : plFL own index "ProtectedLineModel" "before" "[Z") (d : decode cc pc = .ok (.getfield index, 3)) (kk : plJ E nL (plwR (plg E) a st) k n lv (pc + 3) (.ref (a 12) :: stk)) : plJ E nL (plwR (plg E) a st) k n lv pc (.ref (a 0) :: stk) := j_get (ci := 10) (kf := 28) (q0 := 0) (T := F_RM) (N := 59) X in_RM rfl (by decide) rfl rfl rfl hl d kk
set_option maxRecDepth 20000 in
theorem get_RM_was {E : plE} {cc : ByteArray} {own : String} {nL : Nat} {ret : Option FieldType} {fr lo : Nat} {k n : Nat} {lv : List (Nat × Value)} {pc index : Nat} {stk : List Value} {a : Nat → Nat} {st : plS} (X : plX E cc own nL ret fr lo) (hl : plFL own index "ProtectedLineModel" "was" "[I") (d : decode cc pc = .ok (.getfield index, 3)) (kk : plJ E nL (plwR (plg E) a st) k n lv (pc + 3) (.ref (a 13) :: stk)) : plJ E nL (plwR (plg E) a st) k n lv pc (.ref (a 0) :: stk) := j_get (ci := 10) (kf := 29) (q0 := 0) (T := F_RM) (N := 59) X in_RM rfl (by decide) rfl rfl rfl hl d kk
set_option maxRecDepth 20000 in
theorem get_RM_state {E : plE} {cc : ByteArray} {own : String} {nL : Nat} {ret : Option FieldType} {fr lo : Nat} {k n : Nat} {lv : List (Nat × Value)} {pc index : Nat} {stk : List Value} {a : Nat → Nat} {st : plS} (X : plX E cc own nL ret fr lo) (hl : plFL own index "ProtectedLineModel" "state" "[I") (d : decode cc pc = .ok (.getfield index, 3)) (kk : plJ E nL (plwR (plg E) a st) k n lv (pc + 3) (.ref (a 14) :: stk)) : plJ E nL (plwR (plg E) a st) k n lv pc (.ref (a 0) :: stk) := j_get (ci := 10) (kf := 30) (q0 := 0) (T := F_RM) (N := 59) X in_RM rfl (by decide) rfl rfl rfl hl d kk
set_option maxRecDepth 20000 in
theorem get_RM_bad {E : plE} {cc : ByteArray} {own : String} {nL : Nat} {ret : Option FieldType} {fr lo : Nat} {k n : Nat} {lv : List (Nat × Value)} {pc index : Nat} {stk : List Value} {a : Nat → Nat} {st : plS} (X : plX E cc own nL ret fr lo) (hl : plFL own index "ProtectedLineModel" "bad" "[I") (d : decode cc pc = .ok (.getfield index, 3)) (kk : plJ E nL (plwR (plg E) a st) k n lv (pc + 3) (.ref (a 15) :: stk)) : plJ E nL (plwR (plg E) a st) k n lv pc (.ref (a 0) :: stk) := j_get (ci := 10) (kf := 31) (q0 := 0) (T := F_RM) (N := 59) X in_RM rfl (by decide) rfl rfl rfl hl d kk
set_option maxRecDepth 20000 in
theorem get_RM_errors {E : plE} {cc : ByteArray} {own : String} {nL : Nat} {ret : Option FieldType} {fr lo : Nat} {k n : Nat} {lv : List (Nat × Value)} {pc index : Nat} {stk : List Value} {a : Nat → Nat} {st : plS} (X : plX E cc own nL ret fr lo) (hl : plFL own index "ProtectedLineModel" "errors" "[I") (d : decode cc pc = .ok (.getfield index, 3)) (kk : plJ E nL (plwR (plg E) a st) k n lv (pc + 3) (.ref (a 16) :: stk)) : plJ E nL (plwR (plg E) a st) k n lv pc (.ref (a 0) :: stk) := j_get (ci := 10) (kf := 32) (q0 := 0) (T := F_RM) (N := 59) X in_RM rfl (by decide) rfl rfl rfl hl d kk
set_option maxRecDepth 20000 in
theorem get_RM_failedFor {E : plE} {cc : ByteArray} {own : String} {nL : Nat} {ret : Option FieldType} {fr lo : Nat} {k n : Nat} {lv : List (Nat × Value)} {pc index : Nat} {stk : List Value} {a : Nat → Nat} {st : plS} (X : plX E cc own nL ret fr lo) (hl : plFL own index "ProtectedLineModel" "failedFor" "I") (d : decode cc pc = .ok (.getfield index, 3)) (kk : plJ E nL (plwR (plg E) a st) k n lv (pc + 3) (.int (st 0 33) :: stk)) : plJ E nL (plwR (plg E) a st) k n lv pc (.ref (a 0) :: stk) := j_get (ci := 10) (kf := 33) (q0 := 0) (T := F_RM) (N := 59) X in_RM rfl (by decide) rfl rfl rfl hl d kk
set_option maxRecDepth 20000 in
theorem put_RM_failedFor {E : plE} {cc : ByteArray} {own : String} {nL : Nat} {ret : Option FieldType} {fr lo : Nat} {k n : Nat} {lv : List (Nat × Value)} {pc index : Nat} {stk : List Value} {a : Nat → Nat} {st : plS} {v : Int32} (X : plX E cc own nL ret fr lo) (hl : plFL own index "ProtectedLineModel" "failedFor" "I") (d : decode cc pc = .ok (.putfield index, 3)) (kk : plJ E nL (plwR (plg E) a (plUp st 0 33 v)) k n lv (pc + 3) stk) : plJ E nL (plwR (plg E) a st) k n lv pc (.int v :: .ref (a 0) :: stk) := j_put (ci := 10) (kf := 33) (q0 := 0) (T := F_RM) (N := 59) (ty0 := t_RM) (ty := .int) (w' := plwR (plg E) a (plUp st 0 33 v)) X in_RM rfl (by decide) rfl t_RM_ok n_RM rfl rfl rfl (by decide) rfl rfl rfl hl d kk
set_option maxRecDepth 20000 in
theorem get_RM_acceptedB {E : plE} {cc : ByteArray} {own : String} {nL : Nat} {ret : Option FieldType} {fr lo : Nat} {k n : Nat} {lv : List (Nat × Value)} {pc index : Nat} {stk : List Value} {a : Nat → Nat} {st : plS} (X : plX E cc own nL ret fr lo) (hl : plFL own index "ProtectedLineModel" "acceptedB" "I") (d : decode cc pc = .ok (.getfield index, 3)) (kk : plJ E nL (plwR (plg E) a st) k n lv (pc + 3) (.int (st 0 34) :: stk)) : plJ E nL (plwR (plg E) a st) k n lv pc (.ref (a 0) :: stk) := j_get (ci := 10) (kf := 34) (q0 := 0) (T := F_RM) (N := 59) X in_RM rfl (by decide) rfl rfl rfl hl d kk
set_option maxRecDepth 20000 in
theorem put_RM_acceptedB {E : plE} {cc : ByteArray} {own : String} {nL : Nat} {ret : Option FieldType} {fr lo : Nat} {k n : Nat} {lv : List (Nat × Value)} {pc index : Nat} {stk : List Value} {a : Nat → Nat} {st : plS} {v : Int32} (X : plX E cc own nL ret fr lo) (hl : plFL own index "ProtectedLineModel" "acceptedB" "I") (d : decode cc pc = .ok (.putfield index, 3)) (kk : plJ E nL (plwR (plg E) a (plUp st 0 34 v)) k n lv (pc + 3) stk) : plJ E nL (plwR (plg E) a st) k n lv pc (.int v :: .ref (a 0) :: stk) := j_put (ci := 10) (kf := 34) (q0 := 0) (T := F_RM) (N := 59) (ty0 := t_RM) (ty := .int) (w' := plwR (plg E) a (plUp st 0 34 v)) X in_RM rfl (by decide) rfl t_RM_ok n_RM rfl rfl rfl (by decide) rfl rfl rfl hl d kk
set_option maxRecDepth 20000 in
theorem get_RM_sameB {E : plE} {cc : ByteArray} {own : String} {nL : Nat} {ret : Option FieldType} {fr lo : Nat} {k n : Nat} {lv : List (Nat × Value)} {pc index : Nat} {stk : List Value} {a : Nat → Nat} {st : plS} (X : plX E cc own nL ret fr lo) (hl : plFL own index "ProtectedLineModel" "sameB" "I") (d : decode cc pc = .ok (.getfield index, 3)) (kk : plJ E nL (plwR (plg E) a st) k n lv (pc + 3) (.int (st 0 35) :: stk)) : plJ E nL (plwR (plg E) a st) k n lv pc (.ref (a 0) :: stk) := j_get (ci := 10) (kf := 35) (q0 := 0) (T := F_RM) (N := 59) X in_RM rfl (by decide) rfl rfl rfl hl d kk
set_option maxRecDepth 20000 in
theorem put_RM_sameB {E : plE} {cc : ByteArray} {own : String} {nL : Nat} {ret : Option FieldType} {fr lo : Nat} {k n : Nat} {lv : List (Nat × Value)} {pc index : Nat} {stk : List Value} {a : Nat → Nat} {st : plS} {v : Int32} (X : plX E cc own nL ret fr lo) (hl : plFL own index "ProtectedLineModel" "sameB" "I") (d : decode cc pc = .ok (.putfield index, 3)) (kk : plJ E nL (plwR (plg E) a (plUp st 0 35 v)) k n lv (pc + 3) stk) : plJ E nL (plwR (plg E) a st) k n lv pc (.int v :: .ref (a 0) :: stk) := j_put (ci := 10) (kf := 35) (q0 := 0) (T := F_RM) (N := 59) (ty0 := t_RM) (ty := .int) (w' := plwR (plg E) a (plUp st 0 35 v)) X in_RM rfl (by decide) rfl t_RM_ok n_RM rfl rfl rfl (by decide) rfl rfl rfl hl d kk
set_option maxRecDepth 20000 in
theorem get_RM_latestB {E : plE} {cc : ByteArray} {own : String} {nL : Nat} {ret : Option FieldType} {fr lo : Nat} {k n : Nat} {lv : List (Nat × Value)} {pc index : Nat} {stk : List Value} {a : Nat → Nat} {st : plS} (X : plX E cc own nL ret fr lo) (hl : plFL own index "ProtectedLineModel" "latestB" "I") (d : decode cc pc = .ok (.getfield index, 3)) (kk : plJ E nL (plwR (plg E) a st) k n lv (pc + 3) (.int (st 0 36) :: stk)) : plJ E nL (plwR (plg E) a st) k n lv pc (.ref (a 0) :: stk) := j_get (ci := 10) (kf := 36) (q0 := 0) (T := F_RM) (N := 59) X in_RM rfl (by decide) rfl rfl rfl hl d kk
set_option maxRecDepth 20000 in
theorem put_RM_latestB {E : plE} {cc : ByteArray} {own : String} {nL : Nat} {ret : Option FieldType} {fr lo : Nat} {k n : Nat} {lv : List (Nat × Value)} {pc index : Nat} {stk : List Value} {a : Nat → Nat} {st : plS} {v : Int32} (X : plX E cc own nL ret fr lo) (hl : plFL own index "ProtectedLineModel" "latestB" "I") (d : decode cc pc = .ok (.putfield index, 3)) (kk : plJ E nL (plwR (plg E) a (plUp st 0 36 v)) k n lv (pc + 3) stk) : plJ E nL (plwR (plg E) a st) k n lv pc (.int v :: .ref (a 0) :: stk) := j_put (ci := 10) (kf := 36) (q0 := 0) (T := F_RM) (N := 59) (ty0 := t_RM) (ty := .int) (w' := plwR (plg E) a (plUp st 0 36 v)) X in_RM rfl (by decide) rfl t_RM_ok n_RM rfl rfl rfl (by decide) rfl rfl rfl hl d kk
set_option maxRecDepth 20000 in
theorem get_RM_order {E : plE} {cc : ByteArray} {own : String} {nL : Nat} {ret : Option FieldType} {fr lo : Nat} {k n : Nat} {lv : List (Nat × Value)} {pc index : Nat} {stk : List Value} {a : Nat → Nat} {st : plS} (X : plX E cc own nL ret fr lo) (hl : plFL own index "ProtectedLineModel" "order" "I") (d : decode cc pc = .ok (.getfield index, 3)) (kk : plJ E nL (plwR (plg E) a st) k n lv (pc + 3) (.int (st 0 37) :: stk)) : plJ E nL (plwR (plg E) a st) k n lv pc (.ref (a 0) :: stk) := j_get (ci := 10) (kf := 37) (q0 := 0) (T := F_RM) (N := 59) X in_RM rfl (by decide) rfl rfl rfl hl d kk
set_option maxRecDepth 20000 in
theorem put_RM_order {E : plE} {cc : ByteArray} {own : String} {nL : Nat} {ret : Option FieldType} {fr lo : Nat} {k n : Nat} {lv : List (Nat × Value)} {pc index : Nat} {stk : List Value} {a : Nat → Nat} {st : plS} {v : Int32} (X : plX E cc own nL ret fr lo) (hl : plFL own index "ProtectedLineModel" "order" "I") (d : decode cc pc = .ok (.putfield index, 3)) (kk : plJ E nL (plwR (plg E) a (plUp st 0 37 v)) k n lv (pc + 3) stk) : plJ E nL (plwR (plg E) a st) k n lv pc (.int v :: .ref (a 0) :: stk) := j_put (ci := 10) (kf := 37) (q0 := 0) (T := F_RM) (N := 59) (ty0 := t_RM) (ty := .int) (w' := plwR (plg E) a (plUp st 0 37 v)) X in_RM rfl (by decide) rfl t_RM_ok n_RM rfl rfl rfl (by decide) rfl rfl rfl hl d kk
set_option maxRecDepth 20000 in
theorem get_RM_request {E : plE} {cc : ByteArray} {own : String} {nL : Nat} {ret : Option FieldType} {fr lo : Nat} {k n : Nat} {lv : List (Nat × Value)} {pc index : Nat} {stk : List Value} {a : Nat → Nat} {st : plS} (X : plX E cc own nL ret fr lo) (hl : plFL own index "ProtectedLineModel" "request" "I") (d : decode cc pc = .ok (.getfield index, 3)) (kk : plJ E nL (plwR (plg E) a st) k n lv (pc + 3) (.int (st 0 38) :: stk)) : plJ E nL (plwR (plg E) a st) k n lv pc (.ref (a 0) :: stk) := j_get (ci := 10) (kf := 38) (q0 := 0) (T := F_RM) (N := 59) X in_RM rfl (by decide) rfl rfl rfl hl d kk
set_option maxRecDepth 20000 in
theorem put_RM_request {E : plE} {cc : ByteArray} {own : String} {nL : Nat} {ret : Option FieldType} {fr lo : Nat} {k n : Nat} {lv : List (Nat × Value)} {pc index : Nat} {stk : List Value} {a : Nat → Nat} {st : plS} {v : Int32} (X : plX E cc own nL ret fr lo) (hl : plFL own index "ProtectedLineModel" "request" "I") (d : decode cc pc = .ok (.putfield index, 3)) (kk : plJ E nL (plwR (plg E) a (plUp st 0 38 v)) k n lv (pc + 3) stk) : plJ E nL (plwR (plg E) a st) k n lv pc (.int v :: .ref (a 0) :: stk) := j_put (ci := 10) (kf := 38) (q0 := 0) (T := F_RM) (N := 59) (ty0 := t_RM) (ty := .int) (w' := plwR (plg E) a (plUp st 0 38 v)) X in_RM rfl (by decide) rfl t_RM_ok n_RM rfl rfl rfl (by decide) rfl rfl rfl hl d kk
set_option maxRecDepth 20000 in
theorem get_RM_waits {E : plE} {cc : ByteArray} {own : String} {nL : Nat} {ret : Option FieldType} {fr lo : Nat} {k n : Nat} {lv : List (Nat × Value)} {pc index : Nat} {stk : List Value} {a : Nat → Nat} {st : plS} (X : plX E cc own nL ret fr lo) (hl : plFL own index "ProtectedLineModel" "waits" "I") (d : decode cc pc = .ok (.getfield index, 3)) (kk : plJ E nL (plwR (plg E) a st) k n lv (pc + 3) (.int (st 0 39) :: stk)) : plJ E nL (plwR (plg E) a st) k n lv pc (.ref (a 0) :: stk) := j_get (ci := 10) (kf := 39) (q0 := 0) (T := F_RM) (N := 59) X in_RM rfl (by decide) rfl rfl rfl hl d kk
set_option maxRecDepth 20000 in
theorem put_RM_waits {E : plE} {cc : ByteArray} {own : String} {nL : Nat} {ret : Option FieldType} {fr lo : Nat} {k n : Nat} {lv : List (Nat × Value)} {pc index : Nat} {stk : List Value} {a : Nat → Nat} {st : plS} {v : Int32} (X : plX E cc own nL ret fr lo) (hl : plFL own index "ProtectedLineModel" "waits" "I") (d : decode cc pc = .ok (.putfield index, 3)) (kk : plJ E nL (plwR (plg E) a (plUp st 0 39 v)) k n lv (pc + 3) stk) : plJ E nL (plwR (plg E) a st) k n lv pc (.int v :: .ref (a 0) :: stk) := j_put (ci := 10) (kf := 39) (q0 := 0) (T := F_RM) (N := 59) (ty0 := t_RM) (ty := .int) (w' := plwR (plg E) a (plUp st 0 39 v)) X in_RM rfl (by decide) rfl t_RM_ok n_RM rfl rfl rfl (by decide) rfl rfl rfl hl d kk
set_option maxRecDepth 20000 in
theorem get_RM_selected {E : plE} {cc : ByteArray} {own : String} {nL : Nat} {ret : Option FieldType} {fr lo : Nat} {k n : Nat} {lv : List (Nat × Value)} {pc index : Nat} {stk : List Value} {a : Nat → Nat} {st : plS} (X : plX E cc own nL ret fr lo) (hl : plFL own index "ProtectedLineModel" "selected" "I") (d : decode cc pc = .ok (.getfield index, 3)) (kk : plJ E nL (plwR (plg E) a st) k n lv (pc + 3) (.int (st 0 40) :: stk)) : plJ E nL (plwR (plg E) a st) k n lv pc (.ref (a 0) :: stk) := j_get (ci := 10) (kf := 40) (q0 := 0) (T := F_RM) (N := 59) X in_RM rfl (by decide) rfl rfl rfl hl d kk
set_option maxRecDepth 20000 in
theorem put_RM_selected {E : plE} {cc : ByteArray} {own : String} {nL : Nat} {ret : Option FieldType} {fr lo : Nat} {k n : Nat} {lv : List (Nat × Value)} {pc index : Nat} {stk : List Value} {a : Nat → Nat} {st : plS} {v : Int32} (X : plX E cc own nL ret fr lo) (hl : plFL own index "ProtectedLineModel" "selected" "I") (d : decode cc pc = .ok (.putfield index, 3)) (kk : plJ E nL (plwR (plg E) a (plUp st 0 40 v)) k n lv (pc + 3) stk) : plJ E nL (plwR (plg E) a st) k n lv pc (.int v :: .ref (a 0) :: stk) := j_put (ci := 10) (kf := 40) (q0 := 0) (T := F_RM) (N := 59) (ty0 := t_RM) (ty := .int) (w' := plwR (plg E) a (plUp st 0 40 v)) X in_RM rfl (by decide) rfl t_RM_ok n_RM rfl rfl rfl (by decide) rfl rfl rfl hl d kk
set_option maxRecDepth 20000 in
theorem get_RM_pointer {E : plE} {cc : ByteArray} {own : String} {nL : Nat} {ret : Option FieldType} {fr lo : Nat} {k n : Nat} {lv : List (Nat × Value)} {pc index : Nat} {stk : List Value} {a : Nat → Nat} {st : plS} (X : plX E cc own nL ret fr lo) (hl : plFL own index "ProtectedLineModel" "pointer" "I") (d : decode cc pc = .ok (.getfield index, 3)) (kk : plJ E nL (plwR (plg E) a st) k n lv (pc + 3) (.int (st 0 41) :: stk)) : plJ E nL (plwR (plg E) a st) k n lv pc (.ref (a 0) :: stk) := j_get (ci := 10) (kf := 41) (q0 := 0) (T := F_RM) (N := 59) X in_RM rfl (by decide) rfl rfl rfl hl d kk
set_option maxRecDepth 20000 in
theorem put_RM_pointer {E : plE} {cc : ByteArray} {own : String} {nL : Nat} {ret : Option FieldType} {fr lo : Nat} {k n : Nat} {lv : List (Nat × Value)} {pc index : Nat} {stk : List Value} {a : Nat → Nat} {st : plS} {v : Int32} (X : plX E cc own nL ret fr lo) (hl : plFL own index "ProtectedLineModel" "pointer" "I") (d : decode cc pc = .ok (.putfield index, 3)) (kk : plJ E nL (plwR (plg E) a (plUp st 0 41 v)) k n lv (pc + 3) stk) : plJ E nL (plwR (plg E) a st) k n lv pc (.int v :: .ref (a 0) :: stk) := j_put (ci := 10) (kf := 41) (q0 := 0) (T := F_RM) (N := 59) (ty0 := t_RM) (ty := .int) (w' := plwR (plg E) a (plUp st 0 41 v)) X in_RM rfl (by decide) rfl t_RM_ok n_RM rfl rfl rfl (by decide) rfl rfl rfl hl d kk
set_option maxRecDepth 20000 in
theorem get_RM_gaps {E : plE} {cc : ByteArray} {own : String} {nL : Nat} {ret : Option FieldType} {fr lo : Nat} {k n : Nat} {lv : List (Nat × Value)} {pc index : Nat} {stk : List Value} {a : Nat → Nat} {st : plS} (X : plX E cc own nL ret fr lo) (hl : plFL own index "ProtectedLineModel" "gaps" "I") (d : decode cc pc = .ok (.getfield index, 3)) (kk : plJ E nL (plwR (plg E) a st) k n lv (pc + 3) (.int (st 0 42) :: stk)) : plJ E nL (plwR (plg E) a st) k n lv pc (.ref (a 0) :: stk) := j_get (ci := 10) (kf := 42) (q0 := 0) (T := F_RM) (N := 59) X in_RM rfl (by decide) rfl rfl rfl hl d kk
set_option maxRecDepth 20000 in
theorem put_RM_gaps {E : plE} {cc : ByteArray} {own : String} {nL : Nat} {ret : Option FieldType} {fr lo : Nat} {k n : Nat} {lv : List (Nat × Value)} {pc index : Nat} {stk : List Value} {a : Nat → Nat} {st : plS} {v : Int32} (X : plX E cc own nL ret fr lo) (hl : plFL own index "ProtectedLineModel" "gaps" "I") (d : decode cc pc = .ok (.putfield index, 3)) (kk : plJ E nL (plwR (plg E) a (plUp st 0 42 v)) k n lv (pc + 3) stk) : plJ E nL (plwR (plg E) a st) k n lv pc (.int v :: .ref (a 0) :: stk) := j_put (ci := 10) (kf := 42) (q0 := 0) (T := F_RM) (N := 59) (ty0 := t_RM) (ty := .int) (w' := plwR (plg E) a (plUp st 0 42 v)) X in_RM rfl (by decide) rfl t_RM_ok n_RM rfl rfl rfl (by decide) rfl rfl rfl hl d kk
set_option maxRecDepth 20000 in
theorem get_RM_strange {E : plE} {cc : ByteArray} {own : String} {nL : Nat} {ret : Option FieldType} {fr lo : Nat} {k n : Nat} {lv : List (Nat × Value)} {pc index : Nat} {stk : List Value} {a : Nat → Nat} {st : plS} (X : plX E cc own nL ret fr lo) (hl : plFL own index "ProtectedLineModel" "strange" "I") (d : decode cc pc = .ok (.getfield index, 3)) (kk : plJ E nL (plwR (plg E) a st) k n lv (pc + 3) (.int (st 0 43) :: stk)) : plJ E nL (plwR (plg E) a st) k n lv pc (.ref (a 0) :: stk) := j_get (ci := 10) (kf := 43) (q0 := 0) (T := F_RM) (N := 59) X in_RM rfl (by decide) rfl rfl rfl hl d kk
set_option maxRecDepth 20000 in
theorem put_RM_strange {E : plE} {cc : ByteArray} {own : String} {nL : Nat} {ret : Option FieldType} {fr lo : Nat} {k n : Nat} {lv : List (Nat × Value)} {pc index : Nat} {stk : List Value} {a : Nat → Nat} {st : plS} {v : Int32} (X : plX E cc own nL ret fr lo) (hl : plFL own index "ProtectedLineModel" "strange" "I") (d : decode cc pc = .ok (.putfield index, 3)) (kk : plJ E nL (plwR (plg E) a (plUp st 0 43 v)) k n lv (pc + 3) stk) : plJ E nL (plwR (plg E) a st) k n lv pc (.int v :: .ref (a 0) :: stk) := j_put (ci := 10) (kf := 43) (q0 := 0) (T := F_RM) (N := 59) (ty0 := t_RM) (ty := .int) (w' := plwR (plg E) a (plUp st 0 43 v)) X in_RM rfl (by decide) rfl t_RM_ok n_RM rfl rfl rfl (by decide) rfl rfl rfl hl d kk
set_option maxRecDepth 20000 in
theorem get_RM_rowFor {E : plE} {cc : ByteArray} {own : String} {nL : Nat} {ret : Option FieldType} {fr lo : Nat} {k n : Nat} {lv : List (Nat × Value)} {pc index : Nat} {stk : List Value} {a : Nat → Nat} {st : plS} (X : plX E cc own nL ret fr lo) (hl : plFL own index "ProtectedLineModel" "rowFor" "I") (d : decode cc pc = .ok (.getfield index, 3)) (kk : plJ E nL (plwR (plg E) a st) k n lv (pc + 3) (.int (st 0 44) :: stk)) : plJ E nL (plwR (plg E) a st) k n lv pc (.ref (a 0) :: stk) := j_get (ci := 10) (kf := 44) (q0 := 0) (T := F_RM) (N := 59) X in_RM rfl (by decide) rfl rfl rfl hl d kk
set_option maxRecDepth 20000 in
theorem put_RM_rowFor {E : plE} {cc : ByteArray} {own : String} {nL : Nat} {ret : Option FieldType} {fr lo : Nat} {k n : Nat} {lv : List (Nat × Value)} {pc index : Nat} {stk : List Value} {a : Nat → Nat} {st : plS} {v : Int32} (X : plX E cc own nL ret fr lo) (hl : plFL own index "ProtectedLineModel" "rowFor" "I") (d : decode cc pc = .ok (.putfield index, 3)) (kk : plJ E nL (plwR (plg E) a (plUp st 0 44 v)) k n lv (pc + 3) stk) : plJ E nL (plwR (plg E) a st) k n lv pc (.int v :: .ref (a 0) :: stk) := j_put (ci := 10) (kf := 44) (q0 := 0) (T := F_RM) (N := 59) (ty0 := t_RM) (ty := .int) (w' := plwR (plg E) a (plUp st 0 44 v)) X in_RM rfl (by decide) rfl t_RM_ok n_RM rfl rfl rfl (by decide) rfl rfl rfl hl d kk
set_option maxRecDepth 20000 in
theorem get_RM_rowOf {E : plE} {cc : ByteArray} {own : String} {nL : Nat} {ret : Option FieldType} {fr lo : Nat} {k n : Nat} {lv : List (Nat × Value)} {pc index : Nat} {stk : List Value} {a : Nat → Nat} {st : plS} (X : plX E cc own nL ret fr lo) (hl : plFL own index "ProtectedLineModel" "rowOf" "I") (d : decode cc pc = .ok (.getfield index, 3)) (kk : plJ E nL (plwR (plg E) a st) k n lv (pc + 3) (.int (st 0 45) :: stk)) : plJ E nL (plwR (plg E) a st) k n lv pc (.ref (a 0) :: stk) := j_get (ci := 10) (kf := 45) (q0 := 0) (T := F_RM) (N := 59) X in_RM rfl (by decide) rfl rfl rfl hl d kk
set_option maxRecDepth 20000 in
theorem put_RM_rowOf {E : plE} {cc : ByteArray} {own : String} {nL : Nat} {ret : Option FieldType} {fr lo : Nat} {k n : Nat} {lv : List (Nat × Value)} {pc index : Nat} {stk : List Value} {a : Nat → Nat} {st : plS} {v : Int32} (X : plX E cc own nL ret fr lo) (hl : plFL own index "ProtectedLineModel" "rowOf" "I") (d : decode cc pc = .ok (.putfield index, 3)) (kk : plJ E nL (plwR (plg E) a (plUp st 0 45 v)) k n lv (pc + 3) stk) : plJ E nL (plwR (plg E) a st) k n lv pc (.int v :: .ref (a 0) :: stk) := j_put (ci := 10) (kf := 45) (q0 := 0) (T := F_RM) (N := 59) (ty0 := t_RM) (ty := .int) (w' := plwR (plg E) a (plUp st 0 45 v)) X in_RM rfl (by decide) rfl t_RM_ok n_RM rfl rfl rfl (by decide) rfl rfl rfl hl d kk
set_option maxRecDepth 20000 in
theorem get_RM_chain {E : plE} {cc : ByteArray} {own : String} {nL : Nat} {ret : Option FieldType} {fr lo : Nat} {k n : Nat} {lv : List (Nat × Value)} {pc index : Nat} {stk : List Value} {a : Nat → Nat} {st : plS} (X : plX E cc own nL ret fr lo) (hl : plFL own index "ProtectedLineModel" "chain" "I") (d : decode cc pc = .ok (.getfield index, 3)) (kk : plJ E nL (plwR (plg E) a st) k n lv (pc + 3) (.int (st 0 46) :: stk)) : plJ E nL (plwR (plg E) a st) k n lv pc (.ref (a 0) :: stk) := j_get (ci := 10) (kf := 46) (q0 := 0) (T := F_RM) (N := 59) X in_RM rfl (by decide) rfl rfl rfl hl d kk
set_option maxRecDepth 20000 in
theorem put_RM_chain {E : plE} {cc : ByteArray} {own : String} {nL : Nat} {ret : Option FieldType} {fr lo : Nat} {k n : Nat} {lv : List (Nat × Value)} {pc index : Nat} {stk : List Value} {a : Nat → Nat} {st : plS} {v : Int32} (X : plX E cc own nL ret fr lo) (hl : plFL own index "ProtectedLineModel" "chain" "I") (d : decode cc pc = .ok (.putfield index, 3)) (kk : plJ E nL (plwR (plg E) a (plUp st 0 46 v)) k n lv (pc + 3) stk) : plJ E nL (plwR (plg E) a st) k n lv pc (.int v :: .ref (a 0) :: stk) := j_put (ci := 10) (kf := 46) (q0 := 0) (T := F_RM) (N := 59) (ty0 := t_RM) (ty := .int) (w' := plwR (plg E) a (plUp st 0 46 v)) X in_RM rfl (by decide) rfl t_RM_ok n_RM rfl rfl rfl (by decide) rfl rfl rfl hl d kk
set_option maxRecDepth 20000 in
theorem get_RM_sum {E : plE} {cc : ByteArray} {own : String} {nL : Nat} {ret : Option FieldType} {fr lo : Nat} {k n : Nat} {lv : List (Nat × Value)} {pc index : Nat} {stk : List Value} {a : Nat → Nat} {st : plS} (X : plX E cc own nL ret fr lo) (hl : plFL own index "ProtectedLineModel" "sum" "I") (d : decode cc pc = .ok (.getfield index, 3)) (kk : plJ E nL (plwR (plg E) a st) k n lv (pc + 3) (.int (st 0 47) :: stk)) : plJ E nL (plwR (plg E) a st) k n lv pc (.ref (a 0) :: stk) := j_get (ci := 10) (kf := 47) (q0 := 0) (T := F_RM) (N := 59) X in_RM rfl (by decide) rfl rfl rfl hl d kk
set_option maxRecDepth 20000 in
theorem put_RM_sum {E : plE} {cc : ByteArray} {own : String} {nL : Nat} {ret : Option FieldType} {fr lo : Nat} {k n : Nat} {lv : List (Nat × Value)} {pc index : Nat} {stk : List Value} {a : Nat → Nat} {st : plS} {v : Int32} (X : plX E cc own nL ret fr lo) (hl : plFL own index "ProtectedLineModel" "sum" "I") (d : decode cc pc = .ok (.putfield index, 3)) (kk : plJ E nL (plwR (plg E) a (plUp st 0 47 v)) k n lv (pc + 3) stk) : plJ E nL (plwR (plg E) a st) k n lv pc (.int v :: .ref (a 0) :: stk) := j_put (ci := 10) (kf := 47) (q0 := 0) (T := F_RM) (N := 59) (ty0 := t_RM) (ty := .int) (w' := plwR (plg E) a (plUp st 0 47 v)) X in_RM rfl (by decide) rfl t_RM_ok n_RM rfl rfl rfl (by decide) rfl rfl rfl hl d kk
set_option maxRecDepth 20000 in
theorem get_RM_pathErrors {E : plE} {cc : ByteArray} {own : String} {nL : Nat} {ret : Option FieldType} {fr lo : Nat} {k n : Nat} {lv : List (Nat × Value)} {pc index : Nat} {stk : List Value} {a : Nat → Nat} {st : plS} (X : plX E cc own nL ret fr lo) (hl : plFL own index "ProtectedLineModel" "pathErrors" "I") (d : decode cc pc = .ok (.getfield index, 3)) (kk : plJ E nL (plwR (plg E) a st) k n lv (pc + 3) (.int (st 0 48) :: stk)) : plJ E nL (plwR (plg E) a st) k n lv pc (.ref (a 0) :: stk) := j_get (ci := 10) (kf := 48) (q0 := 0) (T := F_RM) (N := 59) X in_RM rfl (by decide) rfl rfl rfl hl d kk
set_option maxRecDepth 20000 in
theorem put_RM_pathErrors {E : plE} {cc : ByteArray} {own : String} {nL : Nat} {ret : Option FieldType} {fr lo : Nat} {k n : Nat} {lv : List (Nat × Value)} {pc index : Nat} {stk : List Value} {a : Nat → Nat} {st : plS} {v : Int32} (X : plX E cc own nL ret fr lo) (hl : plFL own index "ProtectedLineModel" "pathErrors" "I") (d : decode cc pc = .ok (.putfield index, 3)) (kk : plJ E nL (plwR (plg E) a (plUp st 0 48 v)) k n lv (pc + 3) stk) : plJ E nL (plwR (plg E) a st) k n lv pc (.int v :: .ref (a 0) :: stk) := j_put (ci := 10) (kf := 48) (q0 := 0) (T := F_RM) (N := 59) (ty0 := t_RM) (ty := .int) (w' := plwR (plg E) a (plUp st 0 48 v)) X in_RM rfl (by decide) rfl t_RM_ok n_RM rfl rfl rfl (by decide) rfl rfl rfl hl d kk
set_option maxRecDepth 20000 in
theorem get_RM_sync {E : plE} {cc : ByteArray} {own : String} {nL : Nat} {ret : Option FieldType} {fr lo : Nat} {k n : Nat} {lv : List (Nat × Value)} {pc index : Nat} {stk : List Value} {a : Nat → Nat} {st : plS} (X : plX E cc own nL ret fr lo) (hl : plFL own index "ProtectedLineModel" "sync" "I") (d : decode cc pc = .ok (.getfield index, 3)) (kk : plJ E nL (plwR (plg E) a st) k n lv (pc + 3) (.int (st 0 49) :: stk)) : plJ E nL (plwR (plg E) a st) k n lv pc (.ref (a 0) :: stk) := j_get (ci := 10) (kf := 49) (q0 := 0) (T := F_RM) (N := 59) X in_RM rfl (by decide) rfl rfl rfl hl d kk
set_option maxRecDepth 20000 in
theorem put_RM_sync {E : plE} {cc : ByteArray} {own : String} {nL : Nat} {ret : Option FieldType} {fr lo : Nat} {k n : Nat} {lv : List (Nat × Value)} {pc index : Nat} {stk : List Value} {a : Nat → Nat} {st : plS} {v : Int32} (X : plX E cc own nL ret fr lo) (hl : plFL own index "ProtectedLineModel" "sync" "I") (d : decode cc pc = .ok (.putfield index, 3)) (kk : plJ E nL (plwR (plg E) a (plUp st 0 49 v)) k n lv (pc + 3) stk) : plJ E nL (plwR (plg E) a st) k n lv pc (.int v :: .ref (a 0) :: stk) := j_put (ci := 10) (kf := 49) (q0 := 0) (T := F_RM) (N := 59) (ty0 := t_RM) (ty := .int) (w' := plwR (plg E) a (plUp st 0 49 v)) X in_RM rfl (by decide) rfl t_RM_ok n_RM rfl rfl rfl (by decide) rfl rfl rfl hl d kk
set_option maxRecDepth 20000 in
theorem get_RM_first {E : plE} {cc : ByteArray} {own : String} {nL : Nat} {ret : Option FieldType} {fr lo : Nat} {k n : Nat} {lv : List (Nat × Value)} {pc index : Nat} {stk : List Value} {a : Nat → Nat} {st : plS} (X : plX E cc own nL ret fr lo) (hl : plFL own index "ProtectedLineModel" "first" "I") (d : decode cc pc = .ok (.getfield index, 3)) (kk : plJ E nL (plwR (plg E) a st) k n lv (pc + 3) (.int (st 0 50) :: stk)) : plJ E nL (plwR (plg E) a st) k n lv pc (.ref (a 0) :: stk) := j_get (ci := 10) (kf := 50) (q0 := 0) (T := F_RM) (N := 59) X in_RM rfl (by decide) rfl rfl rfl hl d kk
set_option maxRecDepth 20000 in
theorem put_RM_first {E : plE} {cc : ByteArray} {own : String} {nL : Nat} {ret : Option FieldType} {fr lo : Nat} {k n : Nat} {lv : List (Nat × Value)} {pc index : Nat} {stk : List Value} {a : Nat → Nat} {st : plS} {v : Int32} (X : plX E cc own nL ret fr lo) (hl : plFL own index "ProtectedLineModel" "first" "I") (d : decode cc pc = .ok (.putfield index, 3)) (kk : plJ E nL (plwR (plg E) a (plUp st 0 50 v)) k n lv (pc + 3) stk) : plJ E nL (plwR (plg E) a st) k n lv pc (.int v :: .ref (a 0) :: stk) := j_put (ci := 10) (kf := 50) (q0 := 0) (T := F_RM) (N := 59) (ty0 := t_RM) (ty := .int) (w' := plwR (plg E) a (plUp st 0 50 v)) X in_RM rfl (by decide) rfl t_RM_ok n_RM rfl rfl rfl (by decide) rfl rfl rfl hl d kk
set_option maxRecDepth 20000 in
theorem get_RM_left {E : plE} {cc : ByteArray} {own : String} {nL : Nat} {ret : Option FieldType} {fr lo : Nat} {k n : Nat} {lv : List (Nat × Value)} {pc index : Nat} {stk : List Value} {a : Nat → Nat} {st : plS} (X : plX E cc own nL ret fr lo) (hl : plFL own index "ProtectedLineModel" "left" "I") (d : decode cc pc = .ok (.getfield index, 3)) (kk : plJ E nL (plwR (plg E) a st) k n lv (pc + 3) (.int (st 0 51) :: stk)) : plJ E nL (plwR (plg E) a st) k n lv pc (.ref (a 0) :: stk) := j_get (ci := 10) (kf := 51) (q0 := 0) (T := F_RM) (N := 59) X in_RM rfl (by decide) rfl rfl rfl hl d kk
set_option maxRecDepth 20000 in
theorem put_RM_left {E : plE} {cc : ByteArray} {own : String} {nL : Nat} {ret : Option FieldType} {fr lo : Nat} {k n : Nat} {lv : List (Nat × Value)} {pc index : Nat} {stk : List Value} {a : Nat → Nat} {st : plS} {v : Int32} (X : plX E cc own nL ret fr lo) (hl : plFL own index "ProtectedLineModel" "left" "I") (d : decode cc pc = .ok (.putfield index, 3)) (kk : plJ E nL (plwR (plg E) a (plUp st 0 51 v)) k n lv (pc + 3) stk) : plJ E nL (plwR (plg E) a st) k n lv pc (.int v :: .ref (a 0) :: stk) := j_put (ci := 10) (kf := 51) (q0 := 0) (T := F_RM) (N := 59) (ty0 := t_RM) (ty := .int) (w' := plwR (plg E) a (plUp st 0 51 v)) X in_RM rfl (by decide) rfl t_RM_ok n_RM rfl rfl rfl (by decide) rfl rfl rfl hl d kk
set_option maxRecDepth 20000 in
theorem get_RM_long0 {E : plE} {cc : ByteArray} {own : String} {nL : Nat} {ret : Option FieldType} {fr lo : Nat} {k n : Nat} {lv : List (Nat × Value)} {pc index : Nat} {stk : List Value} {a : Nat → Nat} {st : plS} (X : plX E cc own nL ret fr lo) (hl : plFL own index "ProtectedLineModel" "long0" "I") (d : decode cc pc = .ok (.getfield index, 3)) (kk : plJ E nL (plwR (plg E) a st) k n lv (pc + 3) (.int (st 0 52) :: stk)) : plJ E nL (plwR (plg E) a st) k n lv pc (.ref (a 0) :: stk) := j_get (ci := 10) (kf := 52) (q0 := 0) (T := F_RM) (N := 59) X in_RM rfl (by decide) rfl rfl rfl hl d kk
set_option maxRecDepth 20000 in
theorem put_RM_long0 {E : plE} {cc : ByteArray} {own : String} {nL : Nat} {ret : Option FieldType} {fr lo : Nat} {k n : Nat} {lv : List (Nat × Value)} {pc index : Nat} {stk : List Value} {a : Nat → Nat} {st : plS} {v : Int32} (X : plX E cc own nL ret fr lo) (hl : plFL own index "ProtectedLineModel" "long0" "I") (d : decode cc pc = .ok (.putfield index, 3)) (kk : plJ E nL (plwR (plg E) a (plUp st 0 52 v)) k n lv (pc + 3) stk) : plJ E nL (plwR (plg E) a st) k n lv pc (.int v :: .ref (a 0) :: stk) := j_put (ci := 10) (kf := 52) (q0 := 0) (T := F_RM) (N := 59) (ty0 := t_RM) (ty := .int) (w' := plwR (plg E) a (plUp st 0 52 v)) X in_RM rfl (by decide) rfl t_RM_ok n_RM rfl rfl rfl (by decide) rfl rfl rfl hl d kk
set_option maxRecDepth 20000 in
theorem get_RM_filled {E : plE} {cc : ByteArray} {own : String} {nL : Nat} {ret : Option FieldType} {fr lo : Nat} {k n : Nat} {lv : List (Nat × Value)} {pc index : Nat} {stk : List Value} {a : Nat → Nat} {st : plS} (X : plX E cc own nL ret fr lo) (hl : plFL own index "ProtectedLineModel" "filled" "I") (d : decode cc pc = .ok (.getfield index, 3)) (kk : plJ E nL (plwR (plg E) a st) k n lv (pc + 3) (.int (st 0 53) :: stk)) : plJ E nL (plwR (plg E) a st) k n lv pc (.ref (a 0) :: stk) := j_get (ci := 10) (kf := 53) (q0 := 0) (T := F_RM) (N := 59) X in_RM rfl (by decide) rfl rfl rfl hl d kk
set_option maxRecDepth 20000 in
theorem put_RM_filled {E : plE} {cc : ByteArray} {own : String} {nL : Nat} {ret : Option FieldType} {fr lo : Nat} {k n : Nat} {lv : List (Nat × Value)} {pc index : Nat} {stk : List Value} {a : Nat → Nat} {st : plS} {v : Int32} (X : plX E cc own nL ret fr lo) (hl : plFL own index "ProtectedLineModel" "filled" "I") (d : decode cc pc = .ok (.putfield index, 3)) (kk : plJ E nL (plwR (plg E) a (plUp st 0 53 v)) k n lv (pc + 3) stk) : plJ E nL (plwR (plg E) a st) k n lv pc (.int v :: .ref (a 0) :: stk) := j_put (ci := 10) (kf := 53) (q0 := 0) (T := F_RM) (N := 59) (ty0 := t_RM) (ty := .int) (w' := plwR (plg E) a (plUp st 0 53 v)) X in_RM rfl (by decide) rfl t_RM_ok n_RM rfl rfl rfl (by decide) rfl rfl rfl hl d kk
set_option maxRecDepth 20000 in
theorem get_RM_memory {E : plE} {cc : ByteArray} {own : String} {nL : Nat} {ret : Option FieldType} {fr lo : Nat} {k n : Nat} {lv : List (Nat × Value)} {pc index : Nat} {stk : List Value} {a : Nat → Nat} {st : plS} (X : plX E cc own nL ret fr lo) (hl : plFL own index "ProtectedLineModel" "memory" "I") (d : decode cc pc = .ok (.getfield index, 3)) (kk : plJ E nL (plwR (plg E) a st) k n lv (pc + 3) (.int (st 0 54) :: stk)) : plJ E nL (plwR (plg E) a st) k n lv pc (.ref (a 0) :: stk) := j_get (ci := 10) (kf := 54) (q0 := 0) (T := F_RM) (N := 59) X in_RM rfl (by decide) rfl rfl rfl hl d kk
set_option maxRecDepth 20000 in
theorem put_RM_memory {E : plE} {cc : ByteArray} {own : String} {nL : Nat} {ret : Option FieldType} {fr lo : Nat} {k n : Nat} {lv : List (Nat × Value)} {pc index : Nat} {stk : List Value} {a : Nat → Nat} {st : plS} {v : Int32} (X : plX E cc own nL ret fr lo) (hl : plFL own index "ProtectedLineModel" "memory" "I") (d : decode cc pc = .ok (.putfield index, 3)) (kk : plJ E nL (plwR (plg E) a (plUp st 0 54 v)) k n lv (pc + 3) stk) : plJ E nL (plwR (plg E) a st) k n lv pc (.int v :: .ref (a 0) :: stk) := j_put (ci := 10) (kf := 54) (q0 := 0) (T := F_RM) (N := 59) (ty0 := t_RM) (ty := .int) (w' := plwR (plg E) a (plUp st 0 54 v)) X in_RM rfl (by decide) rfl t_RM_ok n_RM rfl rfl rfl (by decide) rfl rfl rfl hl d kk
set_option maxRecDepth 20000 in
theorem get_RM_body {E : plE} {cc : ByteArray} {own : String} {nL : Nat} {ret : Option FieldType} {fr lo : Nat} {k n : Nat} {lv : List (Nat × Value)} {pc index : Nat} {stk : List Value} {a : Nat → Nat} {st : plS} (X : plX E cc own nL ret fr lo) (hl : plFL own index "ProtectedLineModel" "body" "[I") (d : decode cc pc = .ok (.getfield index, 3)) (kk : plJ E nL (plwR (plg E) a st) k n lv (pc + 3) (.ref (a 17) :: stk)) : plJ E nL (plwR (plg E) a st) k n lv pc (.ref (a 0) :: stk) := j_get (ci := 10) (kf := 55) (q0 := 0) (T := F_RM) (N := 59) X in_RM rfl (by decide) rfl rfl rfl hl d kk
set_option maxRecDepth 20000 in
theorem get_RM_delivered {E : plE} {cc : ByteArray} {own : String} {nL : Nat} {ret : Option FieldType} {fr lo : Nat} {k n : Nat} {lv : List (Nat × Value)} {pc index : Nat} {stk : List Value} {a : Nat → Nat} {st : plS} (X : plX E cc own nL ret fr lo) (hl : plFL own index "ProtectedLineModel" "delivered" "I") (d : decode cc pc = .ok (.getfield index, 3)) (kk : plJ E nL (plwR (plg E) a st) k n lv (pc + 3) (.int (st 0 56) :: stk)) : plJ E nL (plwR (plg E) a st) k n lv pc (.ref (a 0) :: stk) := j_get (ci := 10) (kf := 56) (q0 := 0) (T := F_RM) (N := 59) X in_RM rfl (by decide) rfl rfl rfl hl d kk
set_option maxRecDepth 20000 in
theorem put_RM_delivered {E : plE} {cc : ByteArray} {own : String} {nL : Nat} {ret : Option FieldType} {fr lo : Nat} {k n : Nat} {lv : List (Nat × Value)} {pc index : Nat} {stk : List Value} {a : Nat → Nat} {st : plS} {v : Int32} (X : plX E cc own nL ret fr lo) (hl : plFL own index "ProtectedLineModel" "delivered" "I") (d : decode cc pc = .ok (.putfield index, 3)) (kk : plJ E nL (plwR (plg E) a (plUp st 0 56 v)) k n lv (pc + 3) stk) : plJ E nL (plwR (plg E) a st) k n lv pc (.int v :: .ref (a 0) :: stk) := j_put (ci := 10) (kf := 56) (q0 := 0) (T := F_RM) (N := 59) (ty0 := t_RM) (ty := .int) (w' := plwR (plg E) a (plUp st 0 56 v)) X in_RM rfl (by decide) rfl t_RM_ok n_RM rfl rfl rfl (by decide) rfl rfl rfl hl d kk
set_option maxRecDepth 20000 in
theorem get_RM_dropped {E : plE} {cc : ByteArray} {own : String} {nL : Nat} {ret : Option FieldType} {fr lo : Nat} {k n : Nat} {lv : List (Nat × Value)} {pc index : Nat} {stk : List Value} {a : Nat → Nat} {st : plS} (X : plX E cc own nL ret fr lo) (hl : plFL own index "ProtectedLineModel" "dropped" "I") (d : decode cc pc = .ok (.getfield index, 3)) (kk : plJ E nL (plwR (plg E) a st) k n lv (pc + 3) (.int (st 0 57) :: stk)) : plJ E nL (plwR (plg E) a st) k n lv pc (.ref (a 0) :: stk) := j_get (ci := 10) (kf := 57) (q0 := 0) (T := F_RM) (N := 59) X in_RM rfl (by decide) rfl rfl rfl hl d kk
set_option maxRecDepth 20000 in
theorem put_RM_dropped {E : plE} {cc : ByteArray} {own : String} {nL : Nat} {ret : Option FieldType} {fr lo : Nat} {k n : Nat} {lv : List (Nat × Value)} {pc index : Nat} {stk : List Value} {a : Nat → Nat} {st : plS} {v : Int32} (X : plX E cc own nL ret fr lo) (hl : plFL own index "ProtectedLineModel" "dropped" "I") (d : decode cc pc = .ok (.putfield index, 3)) (kk : plJ E nL (plwR (plg E) a (plUp st 0 57 v)) k n lv (pc + 3) stk) : plJ E nL (plwR (plg E) a st) k n lv pc (.int v :: .ref (a 0) :: stk) := j_put (ci := 10) (kf := 57) (q0 := 0) (T := F_RM) (N := 59) (ty0 := t_RM) (ty := .int) (w' := plwR (plg E) a (plUp st 0 57 v)) X in_RM rfl (by decide) rfl t_RM_ok n_RM rfl rfl rfl (by decide) rfl rfl rfl hl d kk
set_option maxRecDepth 20000 in
theorem get_RM_kept {E : plE} {cc : ByteArray} {own : String} {nL : Nat} {ret : Option FieldType} {fr lo : Nat} {k n : Nat} {lv : List (Nat × Value)} {pc index : Nat} {stk : List Value} {a : Nat → Nat} {st : plS} (X : plX E cc own nL ret fr lo) (hl : plFL own index "ProtectedLineModel" "kept" "[I") (d : decode cc pc = .ok (.getfield index, 3)) (kk : plJ E nL (plwR (plg E) a st) k n lv (pc + 3) (.ref (a 18) :: stk)) : plJ E nL (plwR (plg E) a st) k n lv pc (.ref (a 0) :: stk) := j_get (ci := 10) (kf := 58) (q0 := 0) (T := F_RM) (N := 59) X in_RM rfl (by decide) rfl rfl rfl hl d kk
set_option maxRecDepth 20000 in
theorem ald_RMdelay {E : plE} {cc : ByteArray} {own : String} {nL : Nat} {ret : Option FieldType} {fr lo : Nat} {k n : Nat} {lv : List (Nat × Value)} {pc index : Nat} {stk : List Value} {a : Nat → Nat} {st : plS} {x : Int32} (X : plX E cc own nL ret fr lo) (h : vp_in x 2) (d : decode cc pc = .ok (.iaload, 1)) (kk : plJ E nL (plwR (plg E) a st) k n lv (pc + 1) (.int (st 1 (plIx x)) :: stk)) : plJ E nL (plwR (plg E) a st) k n lv pc (.int x :: .ref (a 1) :: stk) := j_ald (q0 := 1) (f := st 1) X rfl h d kk
set_option maxRecDepth 20000 in
theorem ast_RMdelay {E : plE} {cc : ByteArray} {own : String} {nL : Nat} {ret : Option FieldType} {fr lo : Nat} {k n : Nat} {lv : List (Nat × Value)} {pc index : Nat} {stk : List Value} {a : Nat → Nat} {st : plS} {x v : Int32} (X : plX E cc own nL ret fr lo) (h : vp_in x 2) (d : decode cc pc = .ok (.iastore, 1)) (kk : plJ E nL (plwR (plg E) a (plUp st 1 (plIx x) v)) k n lv (pc + 1) stk) : plJ E nL (plwR (plg E) a st) k n lv pc (.int v :: .int x :: .ref (a 1) :: stk) := j_ast (q0 := 1) (f := st 1) (w' := plwR (plg E) a (plUp st 1 (plIx x) v)) X rfl rfl h d kk
set_option maxRecDepth 20000 in
theorem ald_RMqueue {E : plE} {cc : ByteArray} {own : String} {nL : Nat} {ret : Option FieldType} {fr lo : Nat} {k n : Nat} {lv : List (Nat × Value)} {pc index : Nat} {stk : List Value} {a : Nat → Nat} {st : plS} {x : Int32} (X : plX E cc own nL ret fr lo) (h : vp_in x 56) (d : decode cc pc = .ok (.iaload, 1)) (kk : plJ E nL (plwR (plg E) a st) k n lv (pc + 1) (.int (st 2 (plIx x)) :: stk)) : plJ E nL (plwR (plg E) a st) k n lv pc (.int x :: .ref (a 2) :: stk) := j_ald (q0 := 2) (f := st 2) X rfl h d kk
set_option maxRecDepth 20000 in
theorem ast_RMqueue {E : plE} {cc : ByteArray} {own : String} {nL : Nat} {ret : Option FieldType} {fr lo : Nat} {k n : Nat} {lv : List (Nat × Value)} {pc index : Nat} {stk : List Value} {a : Nat → Nat} {st : plS} {x v : Int32} (X : plX E cc own nL ret fr lo) (h : vp_in x 56) (d : decode cc pc = .ok (.iastore, 1)) (kk : plJ E nL (plwR (plg E) a (plUp st 2 (plIx x) v)) k n lv (pc + 1) stk) : plJ E nL (plwR (plg E) a st) k n lv pc (.int v :: .int x :: .ref (a 2) :: stk) := j_ast (q0 := 2) (f := st 2) (w' := plwR (plg E) a (plUp st 2 (plIx x) v)) X rfl rfl h d kk
set_option maxRecDepth 20000 in
theorem ald_RMgoing {E : plE} {cc : ByteArray} {own : String} {nL : Nat} {ret : Option FieldType} {fr lo : Nat} {k n : Nat} {lv : List (Nat × Value)} {pc index : Nat} {stk : List Value} {a : Nat → Nat} {st : plS} {x : Int32} (X : plX E cc own nL ret fr lo) (h : vp_in x 9) (d : decode cc pc = .ok (.iaload, 1)) (kk : plJ E nL (plwR (plg E) a st) k n lv (pc + 1) (.int (st 3 (plIx x)) :: stk)) : plJ E nL (plwR (plg E) a st) k n lv pc (.int x :: .ref (a 3) :: stk) := j_ald (q0 := 3) (f := st 3) X rfl h d kk
set_option maxRecDepth 20000 in
theorem ast_RMgoing {E : plE} {cc : ByteArray} {own : String} {nL : Nat} {ret : Option FieldType} {fr lo : Nat} {k n : Nat} {lv : List (Nat × Value)} {pc index : Nat} {stk : List Value} {a : Nat → Nat} {st : plS} {x v : Int32} (X : plX E cc own nL ret fr lo) (h : vp_in x 9) (d : decode cc pc = .ok (.iastore, 1)) (kk : plJ E nL (plwR (plg E) a (plUp st 3 (plIx x) v)) k n lv (pc + 1) stk) : plJ E nL (plwR (plg E) a st) k n lv pc (.int v :: .int x :: .ref (a 3) :: stk) := j_ast (q0 := 3) (f := st 3) (w' := plwR (plg E) a (plUp st 3 (plIx x) v)) X rfl rfl h d kk
set_option maxRecDepth 20000 in
theorem ald_RMsent {E : plE} {cc : ByteArray} {own : String} {nL : Nat} {ret : Option FieldType} {fr lo : Nat} {k n : Nat} {lv : List (Nat × Value)} {pc index : Nat} {stk : List Value} {a : Nat → Nat} {st : plS} {x : Int32} (X : plX E cc own nL ret fr lo) (h : vp_in x 192) (d : decode cc pc = .ok (.iaload, 1)) (kk : plJ E nL (plwR (plg E) a st) k n lv (pc + 1) (.int (st 4 (plIx x)) :: stk)) : plJ E nL (plwR (plg E) a st) k n lv pc (.int x :: .ref (a 4) :: stk) := j_ald (q0 := 4) (f := st 4) X rfl h d kk
set_option maxRecDepth 20000 in
theorem ast_RMsent {E : plE} {cc : ByteArray} {own : String} {nL : Nat} {ret : Option FieldType} {fr lo : Nat} {k n : Nat} {lv : List (Nat × Value)} {pc index : Nat} {stk : List Value} {a : Nat → Nat} {st : plS} {x v : Int32} (X : plX E cc own nL ret fr lo) (h : vp_in x 192) (d : decode cc pc = .ok (.iastore, 1)) (kk : plJ E nL (plwR (plg E) a (plUp st 4 (plIx x) v)) k n lv (pc + 1) stk) : plJ E nL (plwR (plg E) a st) k n lv pc (.int v :: .int x :: .ref (a 4) :: stk) := j_ast (q0 := 4) (f := st 4) (w' := plwR (plg E) a (plUp st 4 (plIx x) v)) X rfl rfl h d kk
set_option maxRecDepth 20000 in
theorem ald_RMback {E : plE} {cc : ByteArray} {own : String} {nL : Nat} {ret : Option FieldType} {fr lo : Nat} {k n : Nat} {lv : List (Nat × Value)} {pc index : Nat} {stk : List Value} {a : Nat → Nat} {st : plS} {x : Int32} (X : plX E cc own nL ret fr lo) (h : vp_in x 8) (d : decode cc pc = .ok (.iaload, 1)) (kk : plJ E nL (plwR (plg E) a st) k n lv (pc + 1) (.int (st 5 (plIx x)) :: stk)) : plJ E nL (plwR (plg E) a st) k n lv pc (.int x :: .ref (a 5) :: stk) := j_ald (q0 := 5) (f := st 5) X rfl h d kk
set_option maxRecDepth 20000 in
theorem ast_RMback {E : plE} {cc : ByteArray} {own : String} {nL : Nat} {ret : Option FieldType} {fr lo : Nat} {k n : Nat} {lv : List (Nat × Value)} {pc index : Nat} {stk : List Value} {a : Nat → Nat} {st : plS} {x v : Int32} (X : plX E cc own nL ret fr lo) (h : vp_in x 8) (d : decode cc pc = .ok (.iastore, 1)) (kk : plJ E nL (plwR (plg E) a (plUp st 5 (plIx x) v)) k n lv (pc + 1) stk) : plJ E nL (plwR (plg E) a st) k n lv pc (.int v :: .int x :: .ref (a 5) :: stk) := j_ast (q0 := 5) (f := st 5) (w' := plwR (plg E) a (plUp st 5 (plIx x) v)) X rfl rfl h d kk
set_option maxRecDepth 20000 in
theorem ald_RMrow {E : plE} {cc : ByteArray} {own : String} {nL : Nat} {ret : Option FieldType} {fr lo : Nat} {k n : Nat} {lv : List (Nat × Value)} {pc index : Nat} {stk : List Value} {a : Nat → Nat} {st : plS} {x : Int32} (X : plX E cc own nL ret fr lo) (h : vp_in x 12) (d : decode cc pc = .ok (.iaload, 1)) (kk : plJ E nL (plwR (plg E) a st) k n lv (pc + 1) (.int (st 6 (plIx x)) :: stk)) : plJ E nL (plwR (plg E) a st) k n lv pc (.int x :: .ref (a 6) :: stk) := j_ald (q0 := 6) (f := st 6) X rfl h d kk
set_option maxRecDepth 20000 in
theorem ast_RMrow {E : plE} {cc : ByteArray} {own : String} {nL : Nat} {ret : Option FieldType} {fr lo : Nat} {k n : Nat} {lv : List (Nat × Value)} {pc index : Nat} {stk : List Value} {a : Nat → Nat} {st : plS} {x v : Int32} (X : plX E cc own nL ret fr lo) (h : vp_in x 12) (d : decode cc pc = .ok (.iastore, 1)) (kk : plJ E nL (plwR (plg E) a (plUp st 6 (plIx x) v)) k n lv (pc + 1) stk) : plJ E nL (plwR (plg E) a st) k n lv pc (.int v :: .int x :: .ref (a 6) :: stk) := j_ast (q0 := 6) (f := st 6) (w' := plwR (plg E) a (plUp st 6 (plIx x) v)) X rfl rfl h d kk
set_option maxRecDepth 20000 in
theorem ald_RMframe {E : plE} {cc : ByteArray} {own : String} {nL : Nat} {ret : Option FieldType} {fr lo : Nat} {k n : Nat} {lv : List (Nat × Value)} {pc index : Nat} {stk : List Value} {a : Nat → Nat} {st : plS} {x : Int32} (X : plX E cc own nL ret fr lo) (h : vp_in x 12) (d : decode cc pc = .ok (.iaload, 1)) (kk : plJ E nL (plwR (plg E) a st) k n lv (pc + 1) (.int (st 7 (plIx x)) :: stk)) : plJ E nL (plwR (plg E) a st) k n lv pc (.int x :: .ref (a 7) :: stk) := j_ald (q0 := 7) (f := st 7) X rfl h d kk
set_option maxRecDepth 20000 in
theorem ast_RMframe {E : plE} {cc : ByteArray} {own : String} {nL : Nat} {ret : Option FieldType} {fr lo : Nat} {k n : Nat} {lv : List (Nat × Value)} {pc index : Nat} {stk : List Value} {a : Nat → Nat} {st : plS} {x v : Int32} (X : plX E cc own nL ret fr lo) (h : vp_in x 12) (d : decode cc pc = .ok (.iastore, 1)) (kk : plJ E nL (plwR (plg E) a (plUp st 7 (plIx x) v)) k n lv (pc + 1) stk) : plJ E nL (plwR (plg E) a st) k n lv pc (.int v :: .int x :: .ref (a 7) :: stk) := j_ast (q0 := 7) (f := st 7) (w' := plwR (plg E) a (plUp st 7 (plIx x) v)) X rfl rfl h d kk
set_option maxRecDepth 20000 in
theorem ald_RMcut {E : plE} {cc : ByteArray} {own : String} {nL : Nat} {ret : Option FieldType} {fr lo : Nat} {k n : Nat} {lv : List (Nat × Value)} {pc index : Nat} {stk : List Value} {a : Nat → Nat} {st : plS} {x : Int32} (X : plX E cc own nL ret fr lo) (h : vp_in x 2) (d : decode cc pc = .ok (.baload, 1)) (kk : plJ E nL (plwR (plg E) a st) k n lv (pc + 1) (.int (st 8 (plIx x)) :: stk)) : plJ E nL (plwR (plg E) a st) k n lv pc (.int x :: .ref (a 8) :: stk) := j_zald (q0 := 8) (f := st 8) X rfl h d kk
set_option maxRecDepth 20000 in
theorem ast_RMcut {E : plE} {cc : ByteArray} {own : String} {nL : Nat} {ret : Option FieldType} {fr lo : Nat} {k n : Nat} {lv : List (Nat × Value)} {pc index : Nat} {stk : List Value} {a : Nat → Nat} {st : plS} {x v : Int32} (X : plX E cc own nL ret fr lo) (h : (plB v ∧ vp_in x 2)) (d : decode cc pc = .ok (.bastore, 1)) (kk : plJ E nL (plwR (plg E) a (plUp st 8 (plIx x) v)) k n lv (pc + 1) stk) : plJ E nL (plwR (plg E) a st) k n lv pc (.int v :: .int x :: .ref (a 8) :: stk) := j_zast (q0 := 8) (f := st 8) (w' := plwR (plg E) a (plUp st 8 (plIx x) v)) X rfl rfl h d kk
set_option maxRecDepth 20000 in
theorem ald_RMspoil {E : plE} {cc : ByteArray} {own : String} {nL : Nat} {ret : Option FieldType} {fr lo : Nat} {k n : Nat} {lv : List (Nat × Value)} {pc index : Nat} {stk : List Value} {a : Nat → Nat} {st : plS} {x : Int32} (X : plX E cc own nL ret fr lo) (h : vp_in x 24) (d : decode cc pc = .ok (.iaload, 1)) (kk : plJ E nL (plwR (plg E) a st) k n lv (pc + 1) (.int (st 9 (plIx x)) :: stk)) : plJ E nL (plwR (plg E) a st) k n lv pc (.int x :: .ref (a 9) :: stk) := j_ald (q0 := 9) (f := st 9) X rfl h d kk
set_option maxRecDepth 20000 in
theorem ast_RMspoil {E : plE} {cc : ByteArray} {own : String} {nL : Nat} {ret : Option FieldType} {fr lo : Nat} {k n : Nat} {lv : List (Nat × Value)} {pc index : Nat} {stk : List Value} {a : Nat → Nat} {st : plS} {x v : Int32} (X : plX E cc own nL ret fr lo) (h : vp_in x 24) (d : decode cc pc = .ok (.iastore, 1)) (kk : plJ E nL (plwR (plg E) a (plUp st 9 (plIx x) v)) k n lv (pc + 1) stk) : plJ E nL (plwR (plg E) a st) k n lv pc (.int v :: .int x :: .ref (a 9) :: stk) := j_ast (q0 := 9) (f := st 9) (w' := plwR (plg E) a (plUp st 9 (plIx x) v)) X rfl rfl h d kk
set_option maxRecDepth 20000 in
theorem ald_RMnow {E : plE} {cc : ByteArray} {own : String} {nL : Nat} {ret : Option FieldType} {fr lo : Nat} {k n : Nat} {lv : List (Nat × Value)} {pc index : Nat} {stk : List Value} {a : Nat → Nat} {st : plS} {x : Int32} (X : plX E cc own nL ret fr lo) (h : vp_in x 24) (d : decode cc pc = .ok (.iaload, 1)) (kk : plJ E nL (plwR (plg E) a st) k n lv (pc + 1) (.int (st 10 (plIx x)) :: stk)) : plJ E nL (plwR (plg E) a st) k n lv pc (.int x :: .ref (a 10) :: stk) := j_ald (q0 := 10) (f := st 10) X rfl h d kk
set_option maxRecDepth 20000 in
theorem ast_RMnow {E : plE} {cc : ByteArray} {own : String} {nL : Nat} {ret : Option FieldType} {fr lo : Nat} {k n : Nat} {lv : List (Nat × Value)} {pc index : Nat} {stk : List Value} {a : Nat → Nat} {st : plS} {x v : Int32} (X : plX E cc own nL ret fr lo) (h : vp_in x 24) (d : decode cc pc = .ok (.iastore, 1)) (kk : plJ E nL (plwR (plg E) a (plUp st 10 (plIx x) v)) k n lv (pc + 1) stk) : plJ E nL (plwR (plg E) a st) k n lv pc (.int v :: .int x :: .ref (a 10) :: stk) := j_ast (q0 := 10) (f := st 10) (w' := plwR (plg E) a (plUp st 10 (plIx x) v)) X rfl rfl h d kk
set_option maxRecDepth 20000 in
theorem ald_RMcame {E : plE} {cc : ByteArray} {own : String} {nL : Nat} {ret : Option FieldType} {fr lo : Nat} {k n : Nat} {lv : List (Nat × Value)} {pc index : Nat} {stk : List Value} {a : Nat → Nat} {st : plS} {x : Int32} (X : plX E cc own nL ret fr lo) (h : vp_in x 2) (d : decode cc pc = .ok (.baload, 1)) (kk : plJ E nL (plwR (plg E) a st) k n lv (pc + 1) (.int (st 11 (plIx x)) :: stk)) : plJ E nL (plwR (plg E) a st) k n lv pc (.int x :: .ref (a 11) :: stk) := j_zald (q0 := 11) (f := st 11) X rfl h d kk
set_option maxRecDepth 20000 in
theorem ast_RMcame {E : plE} {cc : ByteArray} {own : String} {nL : Nat} {ret : Option FieldType} {fr lo : Nat} {k n : Nat} {lv : List (Nat × Value)} {pc index : Nat} {stk : List Value} {a : Nat → Nat} {st : plS} {x v : Int32} (X : plX E cc own nL ret fr lo) (h : (plB v ∧ vp_in x 2)) (d : decode cc pc = .ok (.bastore, 1)) (kk : plJ E nL (plwR (plg E) a (plUp st 11 (plIx x) v)) k n lv (pc + 1) stk) : plJ E nL (plwR (plg E) a st) k n lv pc (.int v :: .int x :: .ref (a 11) :: stk) := j_zast (q0 := 11) (f := st 11) (w' := plwR (plg E) a (plUp st 11 (plIx x) v)) X rfl rfl h d kk
set_option maxRecDepth 20000 in
theorem ald_RMbefore {E : plE} {cc : ByteArray} {own : String} {nL : Nat} {ret : Option FieldType} {fr lo : Nat} {k n : Nat} {lv : List (Nat × Value)} {pc index : Nat} {stk : List Value} {a : Nat → Nat} {st : plS} {x : Int32} (X : plX E cc own nL ret fr lo) (h : vp_in x 2) (d : decode cc pc = .ok (.baload, 1)) (kk : plJ E nL (plwR (plg E) a st) k n lv (pc + 1) (.int (st 12 (plIx x)) :: stk)) : plJ E nL (plwR (plg E) a st) k n lv pc (.int x :: .ref (a 12) :: stk) := j_zald (q0 := 12) (f := st 12) X rfl h d kk
set_option maxRecDepth 20000 in
theorem ast_RMbefore {E : plE} {cc : ByteArray} {own : String} {nL : Nat} {ret : Option FieldType} {fr lo : Nat} {k n : Nat} {lv : List (Nat × Value)} {pc index : Nat} {stk : List Value} {a : Nat → Nat} {st : plS} {x v : Int32} (X : plX E cc own nL ret fr lo) (h : (plB v ∧ vp_in x 2)) (d : decode cc pc = .ok (.bastore, 1)) (kk : plJ E nL (plwR (plg E) a (plUp st 12 (plIx x) v)) k n lv (pc + 1) stk) : plJ E nL (plwR (plg E) a st) k n lv pc (.int v :: .int x :: .ref (a 12) :: stk) := j_zast (q0 := 12) (f := st 12) (w' := plwR (plg E) a (plUp st 12 (plIx x) v)) X rfl rfl h d kk
set_option maxRecDepth 20000 in
theorem ald_RMwas {E : plE} {cc : ByteArray} {own : String} {nL : Nat} {ret : Option FieldType} {fr lo : Nat} {k n : Nat} {lv : List (Nat × Value)} {pc index : Nat} {stk : List Value} {a : Nat → Nat} {st : plS} {x : Int32} (X : plX E cc own nL ret fr lo) (h : vp_in x 2) (d : decode cc pc = .ok (.iaload, 1)) (kk : plJ E nL (plwR (plg E) a st) k n lv (pc + 1) (.int (st 13 (plIx x)) :: stk)) : plJ E nL (plwR (plg E) a st) k n lv pc (.int x :: .ref (a 13) :: stk) := j_ald (q0 := 13) (f := st 13) X rfl h d kk
set_option maxRecDepth 20000 in
theorem ast_RMwas {E : plE} {cc : ByteArray} {own : String} {nL : Nat} {ret : Option FieldType} {fr lo : Nat} {k n : Nat} {lv : List (Nat × Value)} {pc index : Nat} {stk : List Value} {a : Nat → Nat} {st : plS} {x v : Int32} (X : plX E cc own nL ret fr lo) (h : vp_in x 2) (d : decode cc pc = .ok (.iastore, 1)) (kk : plJ E nL (plwR (plg E) a (plUp st 13 (plIx x) v)) k n lv (pc + 1) stk) : plJ E nL (plwR (plg E) a st) k n lv pc (.int v :: .int x :: .ref (a 13) :: stk) := j_ast (q0 := 13) (f := st 13) (w' := plwR (plg E) a (plUp st 13 (plIx x) v)) X rfl rfl h d kk
set_option maxRecDepth 20000 in
theorem ald_RMstate {E : plE} {cc : ByteArray} {own : String} {nL : Nat} {ret : Option FieldType} {fr lo : Nat} {k n : Nat} {lv : List (Nat × Value)} {pc index : Nat} {stk : List Value} {a : Nat → Nat} {st : plS} {x : Int32} (X : plX E cc own nL ret fr lo) (h : vp_in x 2) (d : decode cc pc = .ok (.iaload, 1)) (kk : plJ E nL (plwR (plg E) a st) k n lv (pc + 1) (.int (st 14 (plIx x)) :: stk)) : plJ E nL (plwR (plg E) a st) k n lv pc (.int x :: .ref (a 14) :: stk) := j_ald (q0 := 14) (f := st 14) X rfl h d kk
set_option maxRecDepth 20000 in
theorem ast_RMstate {E : plE} {cc : ByteArray} {own : String} {nL : Nat} {ret : Option FieldType} {fr lo : Nat} {k n : Nat} {lv : List (Nat × Value)} {pc index : Nat} {stk : List Value} {a : Nat → Nat} {st : plS} {x v : Int32} (X : plX E cc own nL ret fr lo) (h : vp_in x 2) (d : decode cc pc = .ok (.iastore, 1)) (kk : plJ E nL (plwR (plg E) a (plUp st 14 (plIx x) v)) k n lv (pc + 1) stk) : plJ E nL (plwR (plg E) a st) k n lv pc (.int v :: .int x :: .ref (a 14) :: stk) := j_ast (q0 := 14) (f := st 14) (w' := plwR (plg E) a (plUp st 14 (plIx x) v)) X rfl rfl h d kk
set_option maxRecDepth 20000 in
theorem ald_RMbad {E : plE} {cc : ByteArray} {own : String} {nL : Nat} {ret : Option FieldType} {fr lo : Nat} {k n : Nat} {lv : List (Nat × Value)} {pc index : Nat} {stk : List Value} {a : Nat → Nat} {st : plS} {x : Int32} (X : plX E cc own nL ret fr lo) (h : vp_in x 2) (d : decode cc pc = .ok (.iaload, 1)) (kk : plJ E nL (plwR (plg E) a st) k n lv (pc + 1) (.int (st 15 (plIx x)) :: stk)) : plJ E nL (plwR (plg E) a st) k n lv pc (.int x :: .ref (a 15) :: stk) := j_ald (q0 := 15) (f := st 15) X rfl h d kk
set_option maxRecDepth 20000 in
theorem ast_RMbad {E : plE} {cc : ByteArray} {own : String} {nL : Nat} {ret : Option FieldType} {fr lo : Nat} {k n : Nat} {lv : List (Nat × Value)} {pc index : Nat} {stk : List Value} {a : Nat → Nat} {st : plS} {x v : Int32} (X : plX E cc own nL ret fr lo) (h : vp_in x 2) (d : decode cc pc = .ok (.iastore, 1)) (kk : plJ E nL (plwR (plg E) a (plUp st 15 (plIx x) v)) k n lv (pc + 1) stk) : plJ E nL (plwR (plg E) a st) k n lv pc (.int v :: .int x :: .ref (a 15) :: stk) := j_ast (q0 := 15) (f := st 15) (w' := plwR (plg E) a (plUp st 15 (plIx x) v)) X rfl rfl h d kk
set_option maxRecDepth 20000 in
theorem ald_RMerrors {E : plE} {cc : ByteArray} {own : String} {nL : Nat} {ret : Option FieldType} {fr lo : Nat} {k n : Nat} {lv : List (Nat × Value)} {pc index : Nat} {stk : List Value} {a : Nat → Nat} {st : plS} {x : Int32} (X : plX E cc own nL ret fr lo) (h : vp_in x 2) (d : decode cc pc = .ok (.iaload, 1)) (kk : plJ E nL (plwR (plg E) a st) k n lv (pc + 1) (.int (st 16 (plIx x)) :: stk)) : plJ E nL (plwR (plg E) a st) k n lv pc (.int x :: .ref (a 16) :: stk) := j_ald (q0 := 16) (f := st 16) X rfl h d kk
set_option maxRecDepth 20000 in
theorem ast_RMerrors {E : plE} {cc : ByteArray} {own : String} {nL : Nat} {ret : Option FieldType} {fr lo : Nat} {k n : Nat} {lv : List (Nat × Value)} {pc index : Nat} {stk : List Value} {a : Nat → Nat} {st : plS} {x v : Int32} (X : plX E cc own nL ret fr lo) (h : vp_in x 2) (d : decode cc pc = .ok (.iastore, 1)) (kk : plJ E nL (plwR (plg E) a (plUp st 16 (plIx x) v)) k n lv (pc + 1) stk) : plJ E nL (plwR (plg E) a st) k n lv pc (.int v :: .int x :: .ref (a 16) :: stk) := j_ast (q0 := 16) (f := st 16) (w' := plwR (plg E) a (plUp st 16 (plIx x) v)) X rfl rfl h d kk
set_option maxRecDepth 20000 in
theorem ald_RMbody {E : plE} {cc : ByteArray} {own : String} {nL : Nat} {ret : Option FieldType} {fr lo : Nat} {k n : Nat} {lv : List (Nat × Value)} {pc index : Nat} {stk : List Value} {a : Nat → Nat} {st : plS} {x : Int32} (X : plX E cc own nL ret fr lo) (h : vp_in x 7) (d : decode cc pc = .ok (.iaload, 1)) (kk : plJ E nL (plwR (plg E) a st) k n lv (pc + 1) (.int (st 17 (plIx x)) :: stk)) : plJ E nL (plwR (plg E) a st) k n lv pc (.int x :: .ref (a 17) :: stk) := j_ald (q0 := 17) (f := st 17) X rfl h d kk
set_option maxRecDepth 20000 in
theorem ast_RMbody {E : plE} {cc : ByteArray} {own : String} {nL : Nat} {ret : Option FieldType} {fr lo : Nat} {k n : Nat} {lv : List (Nat × Value)} {pc index : Nat} {stk : List Value} {a : Nat → Nat} {st : plS} {x v : Int32} (X : plX E cc own nL ret fr lo) (h : vp_in x 7) (d : decode cc pc = .ok (.iastore, 1)) (kk : plJ E nL (plwR (plg E) a (plUp st 17 (plIx x) v)) k n lv (pc + 1) stk) : plJ E nL (plwR (plg E) a st) k n lv pc (.int v :: .int x :: .ref (a 17) :: stk) := j_ast (q0 := 17) (f := st 17) (w' := plwR (plg E) a (plUp st 17 (plIx x) v)) X rfl rfl h d kk
set_option maxRecDepth 20000 in
theorem ald_RMkept {E : plE} {cc : ByteArray} {own : String} {nL : Nat} {ret : Option FieldType} {fr lo : Nat} {k n : Nat} {lv : List (Nat × Value)} {pc index : Nat} {stk : List Value} {a : Nat → Nat} {st : plS} {x : Int32} (X : plX E cc own nL ret fr lo) (h : vp_in x 56) (d : decode cc pc = .ok (.iaload, 1)) (kk : plJ E nL (plwR (plg E) a st) k n lv (pc + 1) (.int (st 18 (plIx x)) :: stk)) : plJ E nL (plwR (plg E) a st) k n lv pc (.int x :: .ref (a 18) :: stk) := j_ald (q0 := 18) (f := st 18) X rfl h d kk
set_option maxRecDepth 20000 in
theorem ast_RMkept {E : plE} {cc : ByteArray} {own : String} {nL : Nat} {ret : Option FieldType} {fr lo : Nat} {k n : Nat} {lv : List (Nat × Value)} {pc index : Nat} {stk : List Value} {a : Nat → Nat} {st : plS} {x v : Int32} (X : plX E cc own nL ret fr lo) (h : vp_in x 56) (d : decode cc pc = .ok (.iastore, 1)) (kk : plJ E nL (plwR (plg E) a (plUp st 18 (plIx x) v)) k n lv (pc + 1) stk) : plJ E nL (plwR (plg E) a st) k n lv pc (.int v :: .int x :: .ref (a 18) :: stk) := j_ast (q0 := 18) (f := st 18) (w' := plwR (plg E) a (plUp st 18 (plIx x) v)) X rfl rfl h d kk
set_option maxRecDepth 20000 in
theorem copy_SRf_SRc {E : plE} {cc : ByteArray} {own : String} {nL : Nat} {ret : Option FieldType} {fr lo : Nat} {k n : Nat} {lv : List (Nat × Value)} {pc index : Nat} {stk : List Value} {a : Nat → Nat} {st : plS} {sp dp m : Int32} (X : plX E cc own nL ret fr lo) (hl : Cond.methodLink own index arraycopyName ∈ plWG ∧ Cond.native arraycopyName ∈ plWG ∧ Cond.static arraycopyName ∈ plWG ∧ Cond.initialized "java/lang/System" ∈ plWG) (h : plCpOK 6 48 sp dp m) (d : decode cc pc = .ok (.invokestatic index, 3)) (hfr : 1 ≤ fr) (hlo : (stk.map fun v => v.category).sum + (nativeFrameWords "java/lang/System" "arraycopy" 5 + 11) ≤ lo) (kk : plJ E nL (plwC (plg E) a (plCp st 22 24 (plIx sp) (plIx dp) (plIx m))) k n lv (pc + 3) stk) : plJ E nL (plwC (plg E) a st) k n lv pc (.int m :: .int dp :: .ref (a 24) :: .int sp :: .ref (a 22) :: stk) := j_copy (q0 := 22) (q1 := 24) (f := st 22) (g := st 24) (w' := plwC (plg E) a (plCp st 22 24 (plIx sp) (plIx dp) (plIx m))) X rfl rfl rfl hl h hfr hlo d kk
set_option maxRecDepth 20000 in
theorem copy_SSr_SSc {E : plE} {cc : ByteArray} {own : String} {nL : Nat} {ret : Option FieldType} {fr lo : Nat} {k n : Nat} {lv : List (Nat × Value)} {pc index : Nat} {stk : List Value} {a : Nat → Nat} {st : plS} {sp dp m : Int32} (X : plX E cc own nL ret fr lo) (hl : Cond.methodLink own index arraycopyName ∈ plWG ∧ Cond.native arraycopyName ∈ plWG ∧ Cond.static arraycopyName ∈ plWG ∧ Cond.initialized "java/lang/System" ∈ plWG) (h : plCpOK 72 9 sp dp m) (d : decode cc pc = .ok (.invokestatic index, 3)) (hfr : 1 ≤ fr) (hlo : (stk.map fun v => v.category).sum + (nativeFrameWords "java/lang/System" "arraycopy" 5 + 11) ≤ lo) (kk : plJ E nL (plwC (plg E) a (plCp st 2 4 (plIx sp) (plIx dp) (plIx m))) k n lv (pc + 3) stk) : plJ E nL (plwC (plg E) a st) k n lv pc (.int m :: .int dp :: .ref (a 4) :: .int sp :: .ref (a 2) :: stk) := j_copy (q0 := 2) (q1 := 4) (f := st 2) (g := st 4) (w' := plwC (plg E) a (plCp st 2 4 (plIx sp) (plIx dp) (plIx m))) X rfl rfl rfl hl h hfr hlo d kk
end
section
theorem d_CO_hash_0 : decode b_CO_hash 0 = .ok (.iload_n 0, 1) := by decide +kernel
theorem d_CO_hash_1 : decode b_CO_hash 1 = .ok (.istore_n 1, 1) := by decide +kernel
theorem d_CO_hash_2 : decode b_CO_hash 2 = .ok (.iconst 0, 1) := by decide +kernel
theorem d_CO_hash_3 : decode b_CO_hash 3 = .ok (.istore_n 2, 1) := by decide +kernel
theorem d_CO_hash_4 : decode b_CO_hash 4 = .ok (.iload_n 2, 1) := by decide +kernel
theorem d_CO_hash_5 : decode b_CO_hash 5 = .ok (.bipush (8), 2) := by decide +kernel
theorem d_CO_hash_7 : decode b_CO_hash 7 = .ok (.if_icmp .ge (33), 3) := by decide +kernel
theorem d_CO_hash_10 : decode b_CO_hash 10 = .ok (.iload_n 1, 1) := by decide +kernel
theorem d_CO_hash_11 : decode b_CO_hash 11 = .ok (.sipush (128), 3) := by decide +kernel
theorem d_CO_hash_14 : decode b_CO_hash 14 = .ok (.if_icmp .lt (16), 3) := by decide +kernel
theorem d_CO_hash_17 : decode b_CO_hash 17 = .ok (.iconst 2, 1) := by decide +kernel
theorem d_CO_hash_18 : decode b_CO_hash 18 = .ok (.iload_n 1, 1) := by decide +kernel
theorem d_CO_hash_19 : decode b_CO_hash 19 = .ok (.imul, 1) := by decide +kernel
theorem d_CO_hash_20 : decode b_CO_hash 20 = .ok (.bipush (7), 2) := by decide +kernel
theorem d_CO_hash_22 : decode b_CO_hash 22 = .ok (.ixor, 1) := by decide +kernel
theorem d_CO_hash_23 : decode b_CO_hash 23 = .ok (.sipush (255), 3) := by decide +kernel
theorem d_CO_hash_26 : decode b_CO_hash 26 = .ok (.iand, 1) := by decide +kernel
theorem d_CO_hash_27 : decode b_CO_hash 27 = .ok (.goto (6), 3) := by decide +kernel
theorem d_CO_hash_30 : decode b_CO_hash 30 = .ok (.iconst 2, 1) := by decide +kernel
theorem d_CO_hash_31 : decode b_CO_hash 31 = .ok (.iload_n 1, 1) := by decide +kernel
theorem d_CO_hash_32 : decode b_CO_hash 32 = .ok (.imul, 1) := by decide +kernel
theorem d_CO_hash_33 : decode b_CO_hash 33 = .ok (.istore_n 1, 1) := by decide +kernel
theorem d_CO_hash_34 : decode b_CO_hash 34 = .ok (.iinc 2 (1), 3) := by decide +kernel
theorem d_CO_hash_37 : decode b_CO_hash 37 = .ok (.goto (-33), 3) := by decide +kernel
theorem d_CO_hash_40 : decode b_CO_hash 40 = .ok (.iload_n 1, 1) := by decide +kernel
theorem d_CO_hash_41 : decode b_CO_hash 41 = .ok (.ireturn, 1) := by decide +kernel
def K_CO_hash_4L33 (v2 : Int32) (k0 : Int32) : Bool × (Int32 × Int32) := (true, (k0, v2 + 1))
set_option maxRecDepth 20000 in
theorem j_CO_hash_4L33 {E : plE} (X : plX E b_CO_hash "ProtectedLine$Code" 3 (some .int) 0 0) (a : Nat → Nat) (T : Bool × (Int32 × Int32)) (st : plS)  (hb : ∀ c : Int32 × Int32, T = (true, c) → plJ E 3 (plwC (plg E) a st) 0 0 [(1, .int c.1), (2, .int c.2)] 4 []) (hx : ∀ c : Int32 × Int32, T = (false, c) → plJ E 3 (plwC (plg E) a st) 0 0 [(1, .int c.1), (2, .int c.2)] 40 []) (v2 : Int32) (k0 : Int32) (hk : T = K_CO_hash_4L33 v2 k0) : plJ E 3 (plwC (plg E) a st) 0 0 [(2, .int v2)] 33 [.int k0] := by
  unfold K_CO_hash_4L33 at hk
  refine j_istore_n (pc := 33) X d_CO_hash_33 rfl (lv' := [(1, .int k0), (2, .int v2)]) (Nat.le_of_ble_eq_true rfl) rfl ?_
  refine j_iinc (pc := 34) X d_CO_hash_34 1 rfl ic_1 (lv' := [(2, .int (v2 + 1)), (1, .int k0)]) (Nat.le_of_ble_eq_true rfl) rfl ?_
  refine j_goto (pc := 37) (tgt := 4) X d_CO_hash_37 rfl ?_
  refine j_sub [1, 0] (lv' := [(1, .int k0), (2, .int (v2 + 1))]) rfl ?_
  exact hb (k0, v2 + 1) hk
def K_CO_hash_4L (v1 : Int32) (v2 : Int32) : Bool × (Int32 × Int32) := (if 8 ≤ v2 then (false, (v1, v2)) else (if v1 < 128 then K_CO_hash_4L33 v2 (2 * v1) else K_CO_hash_4L33 v2 (((2 * v1) ^^^ 7) &&& 255)))
set_option maxRecDepth 20000 in
theorem j_CO_hash_4L {E : plE} (X : plX E b_CO_hash "ProtectedLine$Code" 3 (some .int) 0 0) (a : Nat → Nat) (T : Bool × (Int32 × Int32)) (st : plS)  (hb : ∀ c : Int32 × Int32, T = (true, c) → plJ E 3 (plwC (plg E) a st) 0 0 [(1, .int c.1), (2, .int c.2)] 4 []) (hx : ∀ c : Int32 × Int32, T = (false, c) → plJ E 3 (plwC (plg E) a st) 0 0 [(1, .int c.1), (2, .int c.2)] 40 []) (v1 : Int32) (v2 : Int32) (hk : T = K_CO_hash_4L v1 v2) : plJ E 3 (plwC (plg E) a st) 0 0 [(1, .int v1), (2, .int v2)] 4 [] := by
  unfold K_CO_hash_4L at hk
  refine j_iload_n (pc := 4) X d_CO_hash_4 rfl 1 rfl ?_
  refine j_bipush (pc := 5) X d_CO_hash_5 bp_8 ?_
  refine j_icmp_ge (pc := 7) (tgt := 40) X d_CO_hash_7 rfl (fun hc => ?_) (fun hc => ?_)
  · have hk := hk.trans (if_pos hc)
    exact hx (v1, v2) hk
  · have hk := hk.trans (if_neg hc)
    refine j_iload_n (pc := 10) X d_CO_hash_10 rfl 0 rfl ?_
    refine j_sipush (pc := 11) X d_CO_hash_11 sp_128 ?_
    refine j_icmp_lt (pc := 14) (tgt := 30) X d_CO_hash_14 rfl (fun hc => ?_) (fun hc => ?_)
    · have hk := hk.trans (if_pos hc)
      refine j_iconst (pc := 30) X d_CO_hash_30 ic_2 ?_
      refine j_iload_n (pc := 31) X d_CO_hash_31 rfl 0 rfl ?_
      refine j_imul (pc := 32) X d_CO_hash_32 ?_
      refine j_sub [1] (lv' := [(2, .int v2)]) rfl ?_
      exact j_CO_hash_4L33 X a T st  hb hx v2 (2 * v1) hk
    · have hk := hk.trans (if_neg hc)
      refine j_iconst (pc := 17) X d_CO_hash_17 ic_2 ?_
      refine j_iload_n (pc := 18) X d_CO_hash_18 rfl 0 rfl ?_
      refine j_imul (pc := 19) X d_CO_hash_19 ?_
      refine j_bipush (pc := 20) X d_CO_hash_20 bp_7 ?_
      refine j_ixor (pc := 22) X d_CO_hash_22 ?_
      refine j_sipush (pc := 23) X d_CO_hash_23 sp_255 ?_
      refine j_iand (pc := 26) X d_CO_hash_26 ?_
      refine j_goto (pc := 27) (tgt := 33) X d_CO_hash_27 rfl ?_
      refine j_sub [1] (lv' := [(2, .int v2)]) rfl ?_
      exact j_CO_hash_4L33 X a T st  hb hx v2 (((2 * v1) ^^^ 7) &&& 255) hk
def F_CO_hash_4 (c : Int32 × Int32) : Bool × (Int32 × Int32) := K_CO_hash_4L c.1 c.2
def K_CO_hash_4X  (c : Int32 × Int32) : Int32 := c.1
set_option maxRecDepth 20000 in
theorem j_CO_hash_4X {E : plE} (X : plX E b_CO_hash "ProtectedLine$Code" 3 (some .int) 0 0) (a : Nat → Nat) (T : Int32) (st : plS) (hQ : plRp E (plwC (plg E) a) st T)  (c : Int32 × Int32) (hk : T = K_CO_hash_4X c) : plJ E 3 (plwC (plg E) a st) 0 0 [(1, .int c.1), (2, .int c.2)] 40 [] := by
  unfold K_CO_hash_4X at hk
  refine j_iload_n (pc := 40) X d_CO_hash_40 rfl 0 rfl ?_
  exact j_retip (pc := 41) X hQ d_CO_hash_41 hk
def K_CO_hash (v0 : Int32) : Int32 := K_CO_hash_4X (lpR (F_CO_hash_4) 64 (v0, 0))
def P_CO_hash (v0 : Int32) : Prop := lpP (fun _ => True) (F_CO_hash_4) 64 (v0, 0)
set_option maxRecDepth 20000 in
theorem j_CO_hash {E : plE} (X : plX E b_CO_hash "ProtectedLine$Code" 3 (some .int) 0 0) (a : Nat → Nat) (T : Int32) (st : plS) (hQ : plRp E (plwC (plg E) a) st T) (v0 : Int32) (hs : P_CO_hash v0) (hk : T = K_CO_hash v0) : plJ E 3 (plwC (plg E) a st) 0 0 [(0, .int v0)] 0 [] := by
  unfold P_CO_hash at hs
  unfold K_CO_hash at hk
  refine j_iload_n (pc := 0) X d_CO_hash_0 rfl 0 rfl ?_
  refine j_istore_n (pc := 1) X d_CO_hash_1 rfl (lv' := [(1, .int v0), (0, .int v0)]) (Nat.le_of_ble_eq_true rfl) rfl ?_
  refine j_iconst (pc := 2) X d_CO_hash_2 ic_0 ?_
  refine j_istore_n (pc := 3) X d_CO_hash_3 rfl (lv' := [(2, .int 0), (1, .int v0), (0, .int v0)]) (Nat.le_of_ble_eq_true rfl) rfl ?_
  refine j_sub [1, 0] (lv' := [(1, .int v0), (2, .int 0)]) rfl ?_
  exact lpJ (fun _ => True) (F_CO_hash_4) (fun c => plJ E 3 (plwC (plg E) a st) 0 0 [(1, .int c.1), (2, .int c.2)] 4 []) (fun c => plJ E 3 (plwC (plg E) a st) 0 0 [(1, .int c.1), (2, .int c.2)] 40 []) (fun c hp h1 h2 => j_CO_hash_4L X a (F_CO_hash_4 c) st h1 h2 c.1 c.2 rfl) 64 (v0, 0) hs (j_CO_hash_4X X a T st hQ (lpR (F_CO_hash_4) 64 (v0, 0)) hk)
set_option maxRecDepth 20000 in
theorem c_CO_hash (g : plG) (a : Nat → Nat) (st : plS) (v0 : Int32) (hs : P_CO_hash v0) : plMp g y_CO_hash b_CO_hash 3 (some .int) 0 0 [.int v0] (plwC g a) st (K_CO_hash v0) := by
  refine plMp.of (own := "ProtectedLine$Code") (lv := [(0, .int v0)]) rfl rfl (Nat.le_of_ble_eq_true rfl) rfl (fun E hE X hQ => ?_)
  subst hE
  exact j_CO_hash X a _ st hQ v0 hs rfl
theorem d_SS_makeReady_0 : decode b_SS_makeReady 0 = .ok (.aload_n 0, 1) := by decide +kernel
theorem d_SS_makeReady_1 : decode b_SS_makeReady 1 = .ok (.getfield 11, 3) := by decide +kernel
theorem d_SS_makeReady_4 : decode b_SS_makeReady 4 = .ok (.iload_n 1, 1) := by decide +kernel
theorem d_SS_makeReady_5 : decode b_SS_makeReady 5 = .ok (.iload_n 2, 1) := by decide +kernel
theorem d_SS_makeReady_6 : decode b_SS_makeReady 6 = .ok (.iconst 1, 1) := by decide +kernel
theorem d_SS_makeReady_7 : decode b_SS_makeReady 7 = .ok (.iadd, 1) := by decide +kernel
theorem d_SS_makeReady_8 : decode b_SS_makeReady 8 = .ok (.sipush (182), 3) := by decide +kernel
theorem d_SS_makeReady_11 : decode b_SS_makeReady 11 = .ok (.ixor, 1) := by decide +kernel
theorem d_SS_makeReady_12 : decode b_SS_makeReady 12 = .ok (.iastore, 1) := by decide +kernel
theorem d_SS_makeReady_13 : decode b_SS_makeReady 13 = .ok (.aload_n 0, 1) := by decide +kernel
theorem d_SS_makeReady_14 : decode b_SS_makeReady 14 = .ok (.getfield 11, 3) := by decide +kernel
theorem d_SS_makeReady_17 : decode b_SS_makeReady 17 = .ok (.iload_n 1, 1) := by decide +kernel
theorem d_SS_makeReady_18 : decode b_SS_makeReady 18 = .ok (.iconst 1, 1) := by decide +kernel
theorem d_SS_makeReady_19 : decode b_SS_makeReady 19 = .ok (.iadd, 1) := by decide +kernel
theorem d_SS_makeReady_20 : decode b_SS_makeReady 20 = .ok (.iload_n 2, 1) := by decide +kernel
theorem d_SS_makeReady_21 : decode b_SS_makeReady 21 = .ok (.iconst 1, 1) := by decide +kernel
theorem d_SS_makeReady_22 : decode b_SS_makeReady 22 = .ok (.iadd, 1) := by decide +kernel
theorem d_SS_makeReady_23 : decode b_SS_makeReady 23 = .ok (.invokestatic 32, 3) := by decide +kernel
theorem d_SS_makeReady_26 : decode b_SS_makeReady 26 = .ok (.sipush (171), 3) := by decide +kernel
theorem d_SS_makeReady_29 : decode b_SS_makeReady 29 = .ok (.ixor, 1) := by decide +kernel
theorem d_SS_makeReady_30 : decode b_SS_makeReady 30 = .ok (.iastore, 1) := by decide +kernel
theorem d_SS_makeReady_31 : decode b_SS_makeReady 31 = .ok (.sipush (255), 3) := by decide +kernel
theorem d_SS_makeReady_34 : decode b_SS_makeReady 34 = .ok (.istore 5, 2) := by decide +kernel
theorem d_SS_makeReady_36 : decode b_SS_makeReady 36 = .ok (.iconst 0, 1) := by decide +kernel
theorem d_SS_makeReady_37 : decode b_SS_makeReady 37 = .ok (.istore 6, 2) := by decide +kernel
theorem d_SS_makeReady_39 : decode b_SS_makeReady 39 = .ok (.iload 6, 2) := by decide +kernel
theorem d_SS_makeReady_41 : decode b_SS_makeReady 41 = .ok (.iload_n 2, 1) := by decide +kernel
theorem d_SS_makeReady_42 : decode b_SS_makeReady 42 = .ok (.if_icmp .ge (59), 3) := by decide +kernel
theorem d_SS_makeReady_45 : decode b_SS_makeReady 45 = .ok (.lload_n 3, 1) := by decide +kernel
theorem d_SS_makeReady_46 : decode b_SS_makeReady 46 = .ok (.bipush (8), 2) := by decide +kernel
theorem d_SS_makeReady_48 : decode b_SS_makeReady 48 = .ok (.iload 6, 2) := by decide +kernel
theorem d_SS_makeReady_50 : decode b_SS_makeReady 50 = .ok (.imul, 1) := by decide +kernel
theorem d_SS_makeReady_51 : decode b_SS_makeReady 51 = .ok (.lshr, 1) := by decide +kernel
theorem d_SS_makeReady_52 : decode b_SS_makeReady 52 = .ok (.l2i, 1) := by decide +kernel
theorem d_SS_makeReady_53 : decode b_SS_makeReady 53 = .ok (.sipush (255), 3) := by decide +kernel
theorem d_SS_makeReady_56 : decode b_SS_makeReady 56 = .ok (.iand, 1) := by decide +kernel
theorem d_SS_makeReady_57 : decode b_SS_makeReady 57 = .ok (.istore 7, 2) := by decide +kernel
theorem d_SS_makeReady_59 : decode b_SS_makeReady 59 = .ok (.iload 5, 2) := by decide +kernel
theorem d_SS_makeReady_61 : decode b_SS_makeReady 61 = .ok (.iload 7, 2) := by decide +kernel
theorem d_SS_makeReady_63 : decode b_SS_makeReady 63 = .ok (.ixor, 1) := by decide +kernel
theorem d_SS_makeReady_64 : decode b_SS_makeReady 64 = .ok (.invokestatic 32, 3) := by decide +kernel
theorem d_SS_makeReady_67 : decode b_SS_makeReady 67 = .ok (.istore 5, 2) := by decide +kernel
theorem d_SS_makeReady_69 : decode b_SS_makeReady 69 = .ok (.aload_n 0, 1) := by decide +kernel
theorem d_SS_makeReady_70 : decode b_SS_makeReady 70 = .ok (.dup, 1) := by decide +kernel
theorem d_SS_makeReady_71 : decode b_SS_makeReady 71 = .ok (.getfield 36, 3) := by decide +kernel
theorem d_SS_makeReady_74 : decode b_SS_makeReady 74 = .ok (.iload 7, 2) := by decide +kernel
theorem d_SS_makeReady_76 : decode b_SS_makeReady 76 = .ok (.ixor, 1) := by decide +kernel
theorem d_SS_makeReady_77 : decode b_SS_makeReady 77 = .ok (.putfield 36, 3) := by decide +kernel
theorem d_SS_makeReady_80 : decode b_SS_makeReady 80 = .ok (.aload_n 0, 1) := by decide +kernel
theorem d_SS_makeReady_81 : decode b_SS_makeReady 81 = .ok (.getfield 11, 3) := by decide +kernel
theorem d_SS_makeReady_84 : decode b_SS_makeReady 84 = .ok (.iload_n 1, 1) := by decide +kernel
theorem d_SS_makeReady_85 : decode b_SS_makeReady 85 = .ok (.iconst 2, 1) := by decide +kernel
theorem d_SS_makeReady_86 : decode b_SS_makeReady 86 = .ok (.iadd, 1) := by decide +kernel
theorem d_SS_makeReady_87 : decode b_SS_makeReady 87 = .ok (.iload 6, 2) := by decide +kernel
theorem d_SS_makeReady_89 : decode b_SS_makeReady 89 = .ok (.iadd, 1) := by decide +kernel
theorem d_SS_makeReady_90 : decode b_SS_makeReady 90 = .ok (.aload_n 0, 1) := by decide +kernel
theorem d_SS_makeReady_91 : decode b_SS_makeReady 91 = .ok (.getfield 36, 3) := by decide +kernel
theorem d_SS_makeReady_94 : decode b_SS_makeReady 94 = .ok (.iastore, 1) := by decide +kernel
theorem d_SS_makeReady_95 : decode b_SS_makeReady 95 = .ok (.iinc 6 (1), 3) := by decide +kernel
theorem d_SS_makeReady_98 : decode b_SS_makeReady 98 = .ok (.goto (-59), 3) := by decide +kernel
theorem d_SS_makeReady_101 : decode b_SS_makeReady 101 = .ok (.aload_n 0, 1) := by decide +kernel
theorem d_SS_makeReady_102 : decode b_SS_makeReady 102 = .ok (.dup, 1) := by decide +kernel
theorem d_SS_makeReady_103 : decode b_SS_makeReady 103 = .ok (.getfield 36, 3) := by decide +kernel
theorem d_SS_makeReady_106 : decode b_SS_makeReady 106 = .ok (.iload 5, 2) := by decide +kernel
theorem d_SS_makeReady_108 : decode b_SS_makeReady 108 = .ok (.ixor, 1) := by decide +kernel
theorem d_SS_makeReady_109 : decode b_SS_makeReady 109 = .ok (.putfield 36, 3) := by decide +kernel
theorem d_SS_makeReady_112 : decode b_SS_makeReady 112 = .ok (.aload_n 0, 1) := by decide +kernel
theorem d_SS_makeReady_113 : decode b_SS_makeReady 113 = .ok (.getfield 11, 3) := by decide +kernel
theorem d_SS_makeReady_116 : decode b_SS_makeReady 116 = .ok (.iload_n 1, 1) := by decide +kernel
theorem d_SS_makeReady_117 : decode b_SS_makeReady 117 = .ok (.iconst 2, 1) := by decide +kernel
theorem d_SS_makeReady_118 : decode b_SS_makeReady 118 = .ok (.iadd, 1) := by decide +kernel
theorem d_SS_makeReady_119 : decode b_SS_makeReady 119 = .ok (.iload_n 2, 1) := by decide +kernel
theorem d_SS_makeReady_120 : decode b_SS_makeReady 120 = .ok (.iadd, 1) := by decide +kernel
theorem d_SS_makeReady_121 : decode b_SS_makeReady 121 = .ok (.aload_n 0, 1) := by decide +kernel
theorem d_SS_makeReady_122 : decode b_SS_makeReady 122 = .ok (.getfield 36, 3) := by decide +kernel
theorem d_SS_makeReady_125 : decode b_SS_makeReady 125 = .ok (.iastore, 1) := by decide +kernel
theorem d_SS_makeReady_126 : decode b_SS_makeReady 126 = .ok (.return_, 1) := by decide +kernel
def K_SS_makeReady_39L80 (st : plS) (v1 : Int32) (v2 : Int32) (v3 : Int64) (v5 : Int32) (v6 : Int32) : Bool × (plS × Int32 × Int32) := (true, (plUp st 2 (plIx ((v1 + 2) + v6)) (st 1 4), v5, v6 + 1))
def P_SS_makeReady_39L80 (st : plS) (v1 : Int32) (v2 : Int32) (v3 : Int64) (v5 : Int32) (v6 : Int32) : Prop := vp_in ((v1 + 2) + v6) 72
set_option maxRecDepth 20000 in
theorem j_SS_makeReady_39L80 {E : plE} (X : plX E b_SS_makeReady "ProtectedLine$StreamSource" 8 none 1 22) (a : Nat → Nat) (T : Bool × (plS × Int32 × Int32)) (v1 : Int32) (v2 : Int32) (v3 : Int64) (hb : ∀ c : plS × Int32 × Int32, T = (true, c) → plJ E 8 (plwC (plg E) a c.1) 0 0 [(0, .ref (a 1)), (1, .int v1), (2, .int v2), (3, .long v3), (5, .int c.2.1), (6, .int c.2.2)] 39 []) (hx : ∀ c : plS × Int32 × Int32, T = (false, c) → plJ E 8 (plwC (plg E) a c.1) 0 0 [(0, .ref (a 1)), (1, .int v1), (2, .int v2), (3, .long v3), (5, .int c.2.1), (6, .int c.2.2)] 101 []) (st : plS) (v5 : Int32) (v6 : Int32) (hs : P_SS_makeReady_39L80 st v1 v2 v3 v5 v6) (hk : T = K_SS_makeReady_39L80 st v1 v2 v3 v5 v6) : plJ E 8 (plwC (plg E) a st) 0 0 [(0, .ref (a 1)), (1, .int v1), (2, .int v2), (3, .long v3), (5, .int v5), (6, .int v6)] 80 [] := by
  unfold P_SS_makeReady_39L80 at hs
  unfold K_SS_makeReady_39L80 at hk
  refine j_aload_n (pc := 80) X d_SS_makeReady_80 rfl 0 rfl ?_
  refine get_SS_ready (pc := 81) X fl_SS_11 d_SS_makeReady_81 ?_
  refine j_iload_n (pc := 84) X d_SS_makeReady_84 rfl 1 rfl ?_
  refine j_iconst (pc := 85) X d_SS_makeReady_85 ic_2 ?_
  refine j_iadd (pc := 86) X d_SS_makeReady_86 ?_
  refine j_iload (pc := 87) X d_SS_makeReady_87 5 rfl ?_
  refine j_iadd (pc := 89) X d_SS_makeReady_89 ?_
  refine j_aload_n (pc := 90) X d_SS_makeReady_90 rfl 0 rfl ?_
  refine get_SS_before (pc := 91) X fl_SS_36 d_SS_makeReady_91 ?_
  refine ast_SSr (pc := 94) X hs d_SS_makeReady_94 ?_
  refine j_iinc (pc := 95) X d_SS_makeReady_95 5 rfl ic_1 (lv' := [(6, .int (v6 + 1)), (0, .ref (a 1)), (1, .int v1), (2, .int v2), (3, .long v3), (5, .int v5)]) (Nat.le_of_ble_eq_true rfl) rfl ?_
  refine j_goto (pc := 98) (tgt := 39) X d_SS_makeReady_98 rfl ?_
  refine j_sub [1, 2, 3, 4, 5, 0] (lv' := [(0, .ref (a 1)), (1, .int v1), (2, .int v2), (3, .long v3), (5, .int v5), (6, .int (v6 + 1))]) rfl ?_
  exact hb (plUp st 2 (plIx ((v1 + 2) + v6)) (st 1 4), v5, v6 + 1) hk
def K_SS_makeReady_39L (st : plS) (v1 : Int32) (v2 : Int32) (v3 : Int64) (v5 : Int32) (v6 : Int32) : Bool × (plS × Int32 × Int32) := (if v2 ≤ v6 then (false, (st, v5, v6)) else K_SS_makeReady_39L80 (plUp st 1 4 ((st 1 4) ^^^ ((Int64.toInt32 (v3 >>> (Int32.toInt64 (8 * v6) &&& 63))) &&& 255))) v1 v2 v3 (K_CO_hash (v5 ^^^ ((Int64.toInt32 (v3 >>> (Int32.toInt64 (8 * v6) &&& 63))) &&& 255))) v6)
def P_SS_makeReady_39L (st : plS) (v1 : Int32) (v2 : Int32) (v3 : Int64) (v5 : Int32) (v6 : Int32) : Prop := (¬ v2 ≤ v6 → (P_CO_hash (v5 ^^^ ((Int64.toInt32 (v3 >>> (Int32.toInt64 (8 * v6) &&& 63))) &&& 255)) ∧ P_SS_makeReady_39L80 (plUp st 1 4 ((st 1 4) ^^^ ((Int64.toInt32 (v3 >>> (Int32.toInt64 (8 * v6) &&& 63))) &&& 255))) v1 v2 v3 (K_CO_hash (v5 ^^^ ((Int64.toInt32 (v3 >>> (Int32.toInt64 (8 * v6) &&& 63))) &&& 255))) v6))
set_option maxRecDepth 20000 in
theorem j_SS_makeReady_39L {E : plE} (X : plX E b_SS_makeReady "ProtectedLine$StreamSource" 8 none 1 22) (a : Nat → Nat) (T : Bool × (plS × Int32 × Int32)) (v1 : Int32) (v2 : Int32) (v3 : Int64) (hb : ∀ c : plS × Int32 × Int32, T = (true, c) → plJ E 8 (plwC (plg E) a c.1) 0 0 [(0, .ref (a 1)), (1, .int v1), (2, .int v2), (3, .long v3), (5, .int c.2.1), (6, .int c.2.2)] 39 []) (hx : ∀ c : plS × Int32 × Int32, T = (false, c) → plJ E 8 (plwC (plg E) a c.1) 0 0 [(0, .ref (a 1)), (1, .int v1), (2, .int v2), (3, .long v3), (5, .int c.2.1), (6, .int c.2.2)] 101 []) (st : plS) (v5 : Int32) (v6 : Int32) (hs : P_SS_makeReady_39L st v1 v2 v3 v5 v6) (hk : T = K_SS_makeReady_39L st v1 v2 v3 v5 v6) : plJ E 8 (plwC (plg E) a st) 0 0 [(0, .ref (a 1)), (1, .int v1), (2, .int v2), (3, .long v3), (5, .int v5), (6, .int v6)] 39 [] := by
  unfold P_SS_makeReady_39L at hs
  unfold K_SS_makeReady_39L at hk
  refine j_iload (pc := 39) X d_SS_makeReady_39 5 rfl ?_
  refine j_iload_n (pc := 41) X d_SS_makeReady_41 rfl 2 rfl ?_
  refine j_icmp_ge (pc := 42) (tgt := 101) X d_SS_makeReady_42 rfl (fun hc => ?_) (fun hc => ?_)
  · have hk := hk.trans (if_pos hc)
    exact hx (st, v5, v6) hk
  · have hk := hk.trans (if_neg hc)
    have hs := hs hc
    refine j_lload_n (pc := 45) X d_SS_makeReady_45 rfl 3 rfl ?_
    refine j_bipush (pc := 46) X d_SS_makeReady_46 bp_8 ?_
    refine j_iload (pc := 48) X d_SS_makeReady_48 5 rfl ?_
    refine j_imul (pc := 50) X d_SS_makeReady_50 ?_
    refine j_lshr (pc := 51) X d_SS_makeReady_51 ?_
    refine j_l2i (pc := 52) X d_SS_makeReady_52 ?_
    refine j_sipush (pc := 53) X d_SS_makeReady_53 sp_255 ?_
    refine j_iand (pc := 56) X d_SS_makeReady_56 ?_
    refine j_istore (pc := 57) X d_SS_makeReady_57 (lv' := [(7, .int ((Int64.toInt32 (v3 >>> (Int32.toInt64 (8 * v6) &&& 63))) &&& 255)), (0, .ref (a 1)), (1, .int v1), (2, .int v2), (3, .long v3), (5, .int v5), (6, .int v6)]) (Nat.le_of_ble_eq_true rfl) rfl ?_
    refine j_iload (pc := 59) X d_SS_makeReady_59 5 rfl ?_
    refine j_iload (pc := 61) X d_SS_makeReady_61 0 rfl ?_
    refine j_ixor (pc := 63) X d_SS_makeReady_63 ?_
    refine j_callSp (pc := 64) (As := [.int (v5 ^^^ ((Int64.toInt32 (v3 >>> (Int32.toInt64 (8 * v6) &&& 63))) &&& 255))]) (rest := []) X (c_CO_hash (plg E) a st (v5 ^^^ ((Int64.toInt32 (v3 >>> (Int32.toInt64 (8 * v6) &&& 63))) &&& 255)) hs.1) ml_SS_32 ⟨Nat.le_of_ble_eq_true rfl, Nat.le_of_ble_eq_true rfl⟩ rfl rfl (Nat.le_of_ble_eq_true rfl) d_SS_makeReady_64 ?_
    have hs := hs.2
    refine j_istore (pc := 67) X d_SS_makeReady_67 (lv' := [(5, .int (K_CO_hash (v5 ^^^ ((Int64.toInt32 (v3 >>> (Int32.toInt64 (8 * v6) &&& 63))) &&& 255)))), (7, .int ((Int64.toInt32 (v3 >>> (Int32.toInt64 (8 * v6) &&& 63))) &&& 255)), (0, .ref (a 1)), (1, .int v1), (2, .int v2), (3, .long v3), (6, .int v6)]) (Nat.le_of_ble_eq_true rfl) rfl ?_
    refine j_aload_n (pc := 69) X d_SS_makeReady_69 rfl 2 rfl ?_
    refine j_dup (pc := 70) X d_SS_makeReady_70 rfl ?_
    refine get_SS_before (pc := 71) X fl_SS_36 d_SS_makeReady_71 ?_
    refine j_iload (pc := 74) X d_SS_makeReady_74 1 rfl ?_
    refine j_ixor (pc := 76) X d_SS_makeReady_76 ?_
    refine put_SS_before (pc := 77) X fl_SS_36 d_SS_makeReady_77 ?_
    refine j_sub [2, 3, 4, 5, 0, 6] (lv' := [(0, .ref (a 1)), (1, .int v1), (2, .int v2), (3, .long v3), (5, .int (K_CO_hash (v5 ^^^ ((Int64.toInt32 (v3 >>> (Int32.toInt64 (8 * v6) &&& 63))) &&& 255)))), (6, .int v6)]) rfl ?_
    exact j_SS_makeReady_39L80 X a T v1 v2 v3 hb hx (plUp st 1 4 ((st 1 4) ^^^ ((Int64.toInt32 (v3 >>> (Int32.toInt64 (8 * v6) &&& 63))) &&& 255))) (K_CO_hash (v5 ^^^ ((Int64.toInt32 (v3 >>> (Int32.toInt64 (8 * v6) &&& 63))) &&& 255))) v6 hs hk
def F_SS_makeReady_39 (v1 : Int32) (v2 : Int32) (v3 : Int64) (c : plS × Int32 × Int32) : Bool × (plS × Int32 × Int32) := K_SS_makeReady_39L c.1 v1 v2 v3 c.2.1 c.2.2
def G_SS_makeReady_39 (v1 : Int32) (v2 : Int32) (v3 : Int64) (c : plS × Int32 × Int32) : Prop := P_SS_makeReady_39L c.1 v1 v2 v3 c.2.1 c.2.2
def K_SS_makeReady_112 (st : plS) (v1 : Int32) (v2 : Int32) : plS := plUp st 2 (plIx ((v1 + 2) + v2)) (st 1 4)
def P_SS_makeReady_112 (st : plS) (v1 : Int32) (v2 : Int32) : Prop := vp_in ((v1 + 2) + v2) 72
set_option maxRecDepth 20000 in
theorem j_SS_makeReady_112 {E : plE} (X : plX E b_SS_makeReady "ProtectedLine$StreamSource" 8 none 1 22) (a : Nat → Nat) (T : plS) (hQ : plRv E (plwC (plg E) a) T) (st : plS) (v1 : Int32) (v2 : Int32) (hs : P_SS_makeReady_112 st v1 v2) (hk : T = K_SS_makeReady_112 st v1 v2) : plJ E 8 (plwC (plg E) a st) 0 0 [(0, .ref (a 1)), (1, .int v1), (2, .int v2)] 112 [] := by
  unfold P_SS_makeReady_112 at hs
  unfold K_SS_makeReady_112 at hk
  refine j_aload_n (pc := 112) X d_SS_makeReady_112 rfl 0 rfl ?_
  refine get_SS_ready (pc := 113) X fl_SS_11 d_SS_makeReady_113 ?_
  refine j_iload_n (pc := 116) X d_SS_makeReady_116 rfl 1 rfl ?_
  refine j_iconst (pc := 117) X d_SS_makeReady_117 ic_2 ?_
  refine j_iadd (pc := 118) X d_SS_makeReady_118 ?_
  refine j_iload_n (pc := 119) X d_SS_makeReady_119 rfl 2 rfl ?_
  refine j_iadd (pc := 120) X d_SS_makeReady_120 ?_
  refine j_aload_n (pc := 121) X d_SS_makeReady_121 rfl 0 rfl ?_
  refine get_SS_before (pc := 122) X fl_SS_36 d_SS_makeReady_122 ?_
  refine ast_SSr (pc := 125) X hs d_SS_makeReady_125 ?_
  exact j_retv (pc := 126) X hQ d_SS_makeReady_126 hk
def K_SS_makeReady_39X (v1 : Int32) (v2 : Int32) (v3 : Int64) (c : plS × Int32 × Int32) : plS := K_SS_makeReady_112 (plUp c.1 1 4 ((c.1 1 4) ^^^ c.2.1)) v1 v2
def P_SS_makeReady_39X (v1 : Int32) (v2 : Int32) (v3 : Int64) (c : plS × Int32 × Int32) : Prop := P_SS_makeReady_112 (plUp c.1 1 4 ((c.1 1 4) ^^^ c.2.1)) v1 v2
set_option maxRecDepth 20000 in
theorem j_SS_makeReady_39X {E : plE} (X : plX E b_SS_makeReady "ProtectedLine$StreamSource" 8 none 1 22) (a : Nat → Nat) (T : plS) (hQ : plRv E (plwC (plg E) a) T) (v1 : Int32) (v2 : Int32) (v3 : Int64) (c : plS × Int32 × Int32) (hs : P_SS_makeReady_39X v1 v2 v3 c) (hk : T = K_SS_makeReady_39X v1 v2 v3 c) : plJ E 8 (plwC (plg E) a c.1) 0 0 [(0, .ref (a 1)), (1, .int v1), (2, .int v2), (3, .long v3), (5, .int c.2.1), (6, .int c.2.2)] 101 [] := by
  unfold P_SS_makeReady_39X at hs
  unfold K_SS_makeReady_39X at hk
  refine j_aload_n (pc := 101) X d_SS_makeReady_101 rfl 0 rfl ?_
  refine j_dup (pc := 102) X d_SS_makeReady_102 rfl ?_
  refine get_SS_before (pc := 103) X fl_SS_36 d_SS_makeReady_103 ?_
  refine j_iload (pc := 106) X d_SS_makeReady_106 4 rfl ?_
  refine j_ixor (pc := 108) X d_SS_makeReady_108 ?_
  refine put_SS_before (pc := 109) X fl_SS_36 d_SS_makeReady_109 ?_
  refine j_sub [0, 1, 2] (lv' := [(0, .ref (a 1)), (1, .int v1), (2, .int v2)]) rfl ?_
  exact j_SS_makeReady_112 X a T hQ (plUp c.1 1 4 ((c.1 1 4) ^^^ c.2.1)) v1 v2 hs hk
def K_SS_makeReady_13 (st : plS) (v1 : Int32) (v2 : Int32) (v3 : Int64) : plS := K_SS_makeReady_39X v1 v2 v3 (lpR (F_SS_makeReady_39 v1 v2 v3) 64 (plUp st 2 (plIx (v1 + 1)) ((K_CO_hash (v2 + 1)) ^^^ 171), 255, 0))
def P_SS_makeReady_13 (st : plS) (v1 : Int32) (v2 : Int32) (v3 : Int64) : Prop := (P_CO_hash (v2 + 1) ∧ (vp_in (v1 + 1) 72 ∧ (lpP (G_SS_makeReady_39 v1 v2 v3) (F_SS_makeReady_39 v1 v2 v3) 64 (plUp st 2 (plIx (v1 + 1)) ((K_CO_hash (v2 + 1)) ^^^ 171), 255, 0) ∧ P_SS_makeReady_39X v1 v2 v3 (lpR (F_SS_makeReady_39 v1 v2 v3) 64 (plUp st 2 (plIx (v1 + 1)) ((K_CO_hash (v2 + 1)) ^^^ 171), 255, 0)))))
set_option maxRecDepth 20000 in
theorem j_SS_makeReady_13 {E : plE} (X : plX E b_SS_makeReady "ProtectedLine$StreamSource" 8 none 1 22) (a : Nat → Nat) (T : plS) (hQ : plRv E (plwC (plg E) a) T) (st : plS) (v1 : Int32) (v2 : Int32) (v3 : Int64) (hs : P_SS_makeReady_13 st v1 v2 v3) (hk : T = K_SS_makeReady_13 st v1 v2 v3) : plJ E 8 (plwC (plg E) a st) 0 0 [(0, .ref (a 1)), (1, .int v1), (2, .int v2), (3, .long v3)] 13 [] := by
  unfold P_SS_makeReady_13 at hs
  unfold K_SS_makeReady_13 at hk
  refine j_aload_n (pc := 13) X d_SS_makeReady_13 rfl 0 rfl ?_
  refine get_SS_ready (pc := 14) X fl_SS_11 d_SS_makeReady_14 ?_
  refine j_iload_n (pc := 17) X d_SS_makeReady_17 rfl 1 rfl ?_
  refine j_iconst (pc := 18) X d_SS_makeReady_18 ic_1 ?_
  refine j_iadd (pc := 19) X d_SS_makeReady_19 ?_
  refine j_iload_n (pc := 20) X d_SS_makeReady_20 rfl 2 rfl ?_
  refine j_iconst (pc := 21) X d_SS_makeReady_21 ic_1 ?_
  refine j_iadd (pc := 22) X d_SS_makeReady_22 ?_
  refine j_callSp (pc := 23) (As := [.int (v2 + 1)]) (rest := [.int (v1 + 1), .ref (a 2)]) X (c_CO_hash (plg E) a st (v2 + 1) hs.1) ml_SS_32 ⟨Nat.le_of_ble_eq_true rfl, Nat.le_of_ble_eq_true rfl⟩ rfl rfl (Nat.le_of_ble_eq_true rfl) d_SS_makeReady_23 ?_
  have hs := hs.2
  refine j_sipush (pc := 26) X d_SS_makeReady_26 sp_171 ?_
  refine j_ixor (pc := 29) X d_SS_makeReady_29 ?_
  refine ast_SSr (pc := 30) X hs.1 d_SS_makeReady_30 ?_
  have hs := hs.2
  refine j_sipush (pc := 31) X d_SS_makeReady_31 sp_255 ?_
  refine j_istore (pc := 34) X d_SS_makeReady_34 (lv' := [(5, .int 255), (0, .ref (a 1)), (1, .int v1), (2, .int v2), (3, .long v3)]) (Nat.le_of_ble_eq_true rfl) rfl ?_
  refine j_iconst (pc := 36) X d_SS_makeReady_36 ic_0 ?_
  refine j_istore (pc := 37) X d_SS_makeReady_37 (lv' := [(6, .int 0), (5, .int 255), (0, .ref (a 1)), (1, .int v1), (2, .int v2), (3, .long v3)]) (Nat.le_of_ble_eq_true rfl) rfl ?_
  refine j_sub [2, 3, 4, 5, 1, 0] (lv' := [(0, .ref (a 1)), (1, .int v1), (2, .int v2), (3, .long v3), (5, .int 255), (6, .int 0)]) rfl ?_
  exact lpJ (G_SS_makeReady_39 v1 v2 v3) (F_SS_makeReady_39 v1 v2 v3) (fun c => plJ E 8 (plwC (plg E) a c.1) 0 0 [(0, .ref (a 1)), (1, .int v1), (2, .int v2), (3, .long v3), (5, .int c.2.1), (6, .int c.2.2)] 39 []) (fun c => plJ E 8 (plwC (plg E) a c.1) 0 0 [(0, .ref (a 1)), (1, .int v1), (2, .int v2), (3, .long v3), (5, .int c.2.1), (6, .int c.2.2)] 101 []) (fun c hp h1 h2 => j_SS_makeReady_39L X a (F_SS_makeReady_39 v1 v2 v3 c) v1 v2 v3 h1 h2 c.1 c.2.1 c.2.2 hp rfl) 64 (plUp st 2 (plIx (v1 + 1)) ((K_CO_hash (v2 + 1)) ^^^ 171), 255, 0) hs.1 (j_SS_makeReady_39X X a T hQ v1 v2 v3 (lpR (F_SS_makeReady_39 v1 v2 v3) 64 (plUp st 2 (plIx (v1 + 1)) ((K_CO_hash (v2 + 1)) ^^^ 171), 255, 0)) hs.2 hk)
def K_SS_makeReady (st : plS) (v1 : Int32) (v2 : Int32) (v3 : Int64) : plS := K_SS_makeReady_13 (plUp st 2 (plIx v1) ((v2 + 1) ^^^ 182)) v1 v2 v3
def P_SS_makeReady (st : plS) (v1 : Int32) (v2 : Int32) (v3 : Int64) : Prop := (vp_in v1 72 ∧ P_SS_makeReady_13 (plUp st 2 (plIx v1) ((v2 + 1) ^^^ 182)) v1 v2 v3)
set_option maxRecDepth 20000 in
theorem j_SS_makeReady {E : plE} (X : plX E b_SS_makeReady "ProtectedLine$StreamSource" 8 none 1 22) (a : Nat → Nat) (T : plS) (hQ : plRv E (plwC (plg E) a) T) (st : plS) (v1 : Int32) (v2 : Int32) (v3 : Int64) (hs : P_SS_makeReady st v1 v2 v3) (hk : T = K_SS_makeReady st v1 v2 v3) : plJ E 8 (plwC (plg E) a st) 0 0 [(0, .ref (a 1)), (1, .int v1), (2, .int v2), (3, .long v3)] 0 [] := by
  unfold P_SS_makeReady at hs
  unfold K_SS_makeReady at hk
  refine j_aload_n (pc := 0) X d_SS_makeReady_0 rfl 0 rfl ?_
  refine get_SS_ready (pc := 1) X fl_SS_11 d_SS_makeReady_1 ?_
  refine j_iload_n (pc := 4) X d_SS_makeReady_4 rfl 1 rfl ?_
  refine j_iload_n (pc := 5) X d_SS_makeReady_5 rfl 2 rfl ?_
  refine j_iconst (pc := 6) X d_SS_makeReady_6 ic_1 ?_
  refine j_iadd (pc := 7) X d_SS_makeReady_7 ?_
  refine j_sipush (pc := 8) X d_SS_makeReady_8 sp_182 ?_
  refine j_ixor (pc := 11) X d_SS_makeReady_11 ?_
  refine ast_SSr (pc := 12) X hs.1 d_SS_makeReady_12 ?_
  have hs := hs.2
  exact j_SS_makeReady_13 X a T hQ (plUp st 2 (plIx v1) ((v2 + 1) ^^^ 182)) v1 v2 v3 hs hk
set_option maxRecDepth 20000 in
theorem c_SS_makeReady (g : plG) (a : Nat → Nat) (st : plS) (v1 : Int32) (v2 : Int32) (v3 : Int64) (hs : P_SS_makeReady st v1 v2 v3) : plMv g y_SS_makeReady b_SS_makeReady 8 none 1 22 [.ref (a 1), .int v1, .int v2, .long v3] (plwC g a) st (K_SS_makeReady st v1 v2 v3) := by
  refine plMv.of (own := "ProtectedLine$StreamSource") (lv := [(0, .ref (a 1)), (1, .int v1), (2, .int v2), (3, .long v3)]) rfl rfl (Nat.le_of_ble_eq_true rfl) rfl (fun E hE X hQ => ?_)
  subst hE
  exact j_SS_makeReady X a _ hQ st v1 v2 v3 hs rfl
theorem d_SS_enqueue_0 : decode b_SS_enqueue 0 = .ok (.iload_n 1, 1) := by decide +kernel
theorem d_SS_enqueue_1 : decode b_SS_enqueue 1 = .ok (.iconst 1, 1) := by decide +kernel
theorem d_SS_enqueue_2 : decode b_SS_enqueue 2 = .ok (.if_icmp .lt (18), 3) := by decide +kernel
theorem d_SS_enqueue_5 : decode b_SS_enqueue 5 = .ok (.iload_n 1, 1) := by decide +kernel
theorem d_SS_enqueue_6 : decode b_SS_enqueue 6 = .ok (.bipush (6), 2) := by decide +kernel
theorem d_SS_enqueue_8 : decode b_SS_enqueue 8 = .ok (.if_icmp .gt (12), 3) := by decide +kernel
theorem d_SS_enqueue_11 : decode b_SS_enqueue 11 = .ok (.aload_n 0, 1) := by decide +kernel
theorem d_SS_enqueue_12 : decode b_SS_enqueue 12 = .ok (.getfield 21, 3) := by decide +kernel
theorem d_SS_enqueue_15 : decode b_SS_enqueue 15 = .ok (.bipush (8), 2) := by decide +kernel
theorem d_SS_enqueue_17 : decode b_SS_enqueue 17 = .ok (.if_icmp .lt (5), 3) := by decide +kernel
theorem d_SS_enqueue_20 : decode b_SS_enqueue 20 = .ok (.iconst 0, 1) := by decide +kernel
theorem d_SS_enqueue_21 : decode b_SS_enqueue 21 = .ok (.ireturn, 1) := by decide +kernel
theorem d_SS_enqueue_22 : decode b_SS_enqueue 22 = .ok (.aload_n 0, 1) := by decide +kernel
theorem d_SS_enqueue_23 : decode b_SS_enqueue 23 = .ok (.getfield 25, 3) := by decide +kernel
theorem d_SS_enqueue_26 : decode b_SS_enqueue 26 = .ok (.aload_n 0, 1) := by decide +kernel
theorem d_SS_enqueue_27 : decode b_SS_enqueue 27 = .ok (.getfield 21, 3) := by decide +kernel
theorem d_SS_enqueue_30 : decode b_SS_enqueue 30 = .ok (.iadd, 1) := by decide +kernel
theorem d_SS_enqueue_31 : decode b_SS_enqueue 31 = .ok (.bipush (8), 2) := by decide +kernel
theorem d_SS_enqueue_33 : decode b_SS_enqueue 33 = .ok (.irem, 1) := by decide +kernel
theorem d_SS_enqueue_34 : decode b_SS_enqueue 34 = .ok (.istore 4, 2) := by decide +kernel
theorem d_SS_enqueue_36 : decode b_SS_enqueue 36 = .ok (.aload_n 0, 1) := by decide +kernel
theorem d_SS_enqueue_37 : decode b_SS_enqueue 37 = .ok (.iload 4, 2) := by decide +kernel
theorem d_SS_enqueue_39 : decode b_SS_enqueue 39 = .ok (.bipush (9), 2) := by decide +kernel
theorem d_SS_enqueue_41 : decode b_SS_enqueue 41 = .ok (.imul, 1) := by decide +kernel
theorem d_SS_enqueue_42 : decode b_SS_enqueue 42 = .ok (.iload_n 1, 1) := by decide +kernel
theorem d_SS_enqueue_43 : decode b_SS_enqueue 43 = .ok (.lload_n 2, 1) := by decide +kernel
theorem d_SS_enqueue_44 : decode b_SS_enqueue 44 = .ok (.invokevirtual 28, 3) := by decide +kernel
theorem d_SS_enqueue_47 : decode b_SS_enqueue 47 = .ok (.aload_n 0, 1) := by decide +kernel
theorem d_SS_enqueue_48 : decode b_SS_enqueue 48 = .ok (.getfield 15, 3) := by decide +kernel
theorem d_SS_enqueue_51 : decode b_SS_enqueue 51 = .ok (.iload 4, 2) := by decide +kernel
theorem d_SS_enqueue_53 : decode b_SS_enqueue 53 = .ok (.iload_n 1, 1) := by decide +kernel
theorem d_SS_enqueue_54 : decode b_SS_enqueue 54 = .ok (.iconst 3, 1) := by decide +kernel
theorem d_SS_enqueue_55 : decode b_SS_enqueue 55 = .ok (.iadd, 1) := by decide +kernel
theorem d_SS_enqueue_56 : decode b_SS_enqueue 56 = .ok (.iastore, 1) := by decide +kernel
theorem d_SS_enqueue_57 : decode b_SS_enqueue 57 = .ok (.aload_n 0, 1) := by decide +kernel
theorem d_SS_enqueue_58 : decode b_SS_enqueue 58 = .ok (.dup, 1) := by decide +kernel
theorem d_SS_enqueue_59 : decode b_SS_enqueue 59 = .ok (.getfield 21, 3) := by decide +kernel
theorem d_SS_enqueue_62 : decode b_SS_enqueue 62 = .ok (.iconst 1, 1) := by decide +kernel
theorem d_SS_enqueue_63 : decode b_SS_enqueue 63 = .ok (.iadd, 1) := by decide +kernel
theorem d_SS_enqueue_64 : decode b_SS_enqueue 64 = .ok (.putfield 21, 3) := by decide +kernel
theorem d_SS_enqueue_67 : decode b_SS_enqueue 67 = .ok (.iconst 1, 1) := by decide +kernel
theorem d_SS_enqueue_68 : decode b_SS_enqueue 68 = .ok (.ireturn, 1) := by decide +kernel
def K_SS_enqueue_20 (st : plS) : Int32 × plS := (0, st)
set_option maxRecDepth 20000 in
theorem j_SS_enqueue_20 {E : plE} (X : plX E b_SS_enqueue "ProtectedLine$StreamSource" 5 (some .boolean) 2 49) (a : Nat → Nat) (T : Int32 × plS) (hQ : plRi E (plwC (plg E) a) T) (st : plS)  (hk : T = K_SS_enqueue_20 st) : plJ E 5 (plwC (plg E) a st) 0 0 [] 20 [] := by
  unfold K_SS_enqueue_20 at hk
  refine j_iconst (pc := 20) X d_SS_enqueue_20 ic_0 ?_
  exact j_retz (pc := 21) X hQ d_SS_enqueue_21 (Or.inl rfl) hk
def K_SS_enqueue_57 (st : plS) : Int32 × plS := (1, plUp st 1 3 ((st 1 3) + 1))
set_option maxRecDepth 20000 in
theorem j_SS_enqueue_57 {E : plE} (X : plX E b_SS_enqueue "ProtectedLine$StreamSource" 5 (some .boolean) 2 49) (a : Nat → Nat) (T : Int32 × plS) (hQ : plRi E (plwC (plg E) a) T) (st : plS)  (hk : T = K_SS_enqueue_57 st) : plJ E 5 (plwC (plg E) a st) 0 0 [(0, .ref (a 1))] 57 [] := by
  unfold K_SS_enqueue_57 at hk
  refine j_aload_n (pc := 57) X d_SS_enqueue_57 rfl 0 rfl ?_
  refine j_dup (pc := 58) X d_SS_enqueue_58 rfl ?_
  refine get_SS_queued (pc := 59) X fl_SS_21 d_SS_enqueue_59 ?_
  refine j_iconst (pc := 62) X d_SS_enqueue_62 ic_1 ?_
  refine j_iadd (pc := 63) X d_SS_enqueue_63 ?_
  refine put_SS_queued (pc := 64) X fl_SS_21 d_SS_enqueue_64 ?_
  refine j_iconst (pc := 67) X d_SS_enqueue_67 ic_1 ?_
  exact j_retz (pc := 68) X hQ d_SS_enqueue_68 (Or.inr rfl) hk
def K_SS_enqueue_47 (st : plS) (v1 : Int32) (v4 : Int32) : Int32 × plS := K_SS_enqueue_57 (plUp st 3 (plIx v4) (v1 + 3))
def P_SS_enqueue_47 (st : plS) (v1 : Int32) (v4 : Int32) : Prop := vp_in v4 8
set_option maxRecDepth 20000 in
theorem j_SS_enqueue_47 {E : plE} (X : plX E b_SS_enqueue "ProtectedLine$StreamSource" 5 (some .boolean) 2 49) (a : Nat → Nat) (T : Int32 × plS) (hQ : plRi E (plwC (plg E) a) T) (st : plS) (v1 : Int32) (v4 : Int32) (hs : P_SS_enqueue_47 st v1 v4) (hk : T = K_SS_enqueue_47 st v1 v4) : plJ E 5 (plwC (plg E) a st) 0 0 [(0, .ref (a 1)), (1, .int v1), (4, .int v4)] 47 [] := by
  unfold P_SS_enqueue_47 at hs
  unfold K_SS_enqueue_47 at hk
  refine j_aload_n (pc := 47) X d_SS_enqueue_47 rfl 0 rfl ?_
  refine get_SS_lengths (pc := 48) X fl_SS_15 d_SS_enqueue_48 ?_
  refine j_iload (pc := 51) X d_SS_enqueue_51 2 rfl ?_
  refine j_iload_n (pc := 53) X d_SS_enqueue_53 rfl 1 rfl ?_
  refine j_iconst (pc := 54) X d_SS_enqueue_54 ic_3 ?_
  refine j_iadd (pc := 55) X d_SS_enqueue_55 ?_
  refine ast_SSl (pc := 56) X hs d_SS_enqueue_56 ?_
  refine j_sub [0] (lv' := [(0, .ref (a 1))]) rfl ?_
  exact j_SS_enqueue_57 X a T hQ (plUp st 3 (plIx v4) (v1 + 3)) hk
def K_SS_enqueue (st : plS) (v1 : Int32) (v2 : Int64) : Int32 × plS := (if v1 < 1 then K_SS_enqueue_20 st else (if 6 < v1 then K_SS_enqueue_20 st else (if (st 1 3) < 8 then K_SS_enqueue_47 (K_SS_makeReady st ((((st 1 2) + (st 1 3)) - ((st 1 2) + (st 1 3)) / 8 * 8) * 9) v1 v2) v1 (((st 1 2) + (st 1 3)) - ((st 1 2) + (st 1 3)) / 8 * 8) else K_SS_enqueue_20 st)))
def P_SS_enqueue (st : plS) (v1 : Int32) (v2 : Int64) : Prop := (¬ v1 < 1 → (¬ 6 < v1 → ((st 1 3) < 8 → (P_SS_makeReady st ((((st 1 2) + (st 1 3)) - ((st 1 2) + (st 1 3)) / 8 * 8) * 9) v1 v2 ∧ P_SS_enqueue_47 (K_SS_makeReady st ((((st 1 2) + (st 1 3)) - ((st 1 2) + (st 1 3)) / 8 * 8) * 9) v1 v2) v1 (((st 1 2) + (st 1 3)) - ((st 1 2) + (st 1 3)) / 8 * 8)))))
set_option maxRecDepth 20000 in
theorem j_SS_enqueue {E : plE} (X : plX E b_SS_enqueue "ProtectedLine$StreamSource" 5 (some .boolean) 2 49) (a : Nat → Nat) (T : Int32 × plS) (hQ : plRi E (plwC (plg E) a) T) (st : plS) (v1 : Int32) (v2 : Int64) (hs : P_SS_enqueue st v1 v2) (hk : T = K_SS_enqueue st v1 v2) : plJ E 5 (plwC (plg E) a st) 0 0 [(0, .ref (a 1)), (1, .int v1), (2, .long v2)] 0 [] := by
  unfold P_SS_enqueue at hs
  unfold K_SS_enqueue at hk
  refine j_iload_n (pc := 0) X d_SS_enqueue_0 rfl 1 rfl ?_
  refine j_iconst (pc := 1) X d_SS_enqueue_1 ic_1 ?_
  refine j_icmp_lt (pc := 2) (tgt := 20) X d_SS_enqueue_2 rfl (fun hc => ?_) (fun hc => ?_)
  · have hk := hk.trans (if_pos hc)
    refine j_sub [] (lv' := []) rfl ?_
    exact j_SS_enqueue_20 X a T hQ st hk
  · have hk := hk.trans (if_neg hc)
    have hs := hs hc
    refine j_iload_n (pc := 5) X d_SS_enqueue_5 rfl 1 rfl ?_
    refine j_bipush (pc := 6) X d_SS_enqueue_6 bp_6 ?_
    refine j_icmp_gt (pc := 8) (tgt := 20) X d_SS_enqueue_8 rfl (fun hc => ?_) (fun hc => ?_)
    · have hk := hk.trans (if_pos hc)
      refine j_sub [] (lv' := []) rfl ?_
      exact j_SS_enqueue_20 X a T hQ st hk
    · have hk := hk.trans (if_neg hc)
      have hs := hs hc
      refine j_aload_n (pc := 11) X d_SS_enqueue_11 rfl 0 rfl ?_
      refine get_SS_queued (pc := 12) X fl_SS_21 d_SS_enqueue_12 ?_
      refine j_bipush (pc := 15) X d_SS_enqueue_15 bp_8 ?_
      refine j_icmp_lt (pc := 17) (tgt := 22) X d_SS_enqueue_17 rfl (fun hc => ?_) (fun hc => ?_)
      · have hk := hk.trans (if_pos hc)
        have hs := hs hc
        refine j_aload_n (pc := 22) X d_SS_enqueue_22 rfl 0 rfl ?_
        refine get_SS_oldest (pc := 23) X fl_SS_25 d_SS_enqueue_23 ?_
        refine j_aload_n (pc := 26) X d_SS_enqueue_26 rfl 0 rfl ?_
        refine get_SS_queued (pc := 27) X fl_SS_21 d_SS_enqueue_27 ?_
        refine j_iadd (pc := 30) X d_SS_enqueue_30 ?_
        refine j_bipush (pc := 31) X d_SS_enqueue_31 bp_8 ?_
        refine j_irem (pc := 33) X d_SS_enqueue_33 nz_8 ?_
        refine j_istore (pc := 34) X d_SS_enqueue_34 (lv' := [(4, .int (((st 1 2) + (st 1 3)) - ((st 1 2) + (st 1 3)) / 8 * 8)), (0, .ref (a 1)), (1, .int v1), (2, .long v2)]) (Nat.le_of_ble_eq_true rfl) rfl ?_
        refine j_aload_n (pc := 36) X d_SS_enqueue_36 rfl 1 rfl ?_
        refine j_iload (pc := 37) X d_SS_enqueue_37 0 rfl ?_
        refine j_bipush (pc := 39) X d_SS_enqueue_39 bp_9 ?_
        refine j_imul (pc := 41) X d_SS_enqueue_41 ?_
        refine j_iload_n (pc := 42) X d_SS_enqueue_42 rfl 2 rfl ?_
        refine j_lload_n (pc := 43) X d_SS_enqueue_43 rfl 3 rfl ?_
        refine j_callVv (pc := 44) (As := [.int ((((st 1 2) + (st 1 3)) - ((st 1 2) + (st 1 3)) / 8 * 8) * 9), .int v1, .long v2]) (rest := []) X (c_SS_makeReady (plg E) a st ((((st 1 2) + (st 1 3)) - ((st 1 2) + (st 1 3)) / 8 * 8) * 9) v1 v2 hs.1) ml_SS_28 1 rfl rfl ⟨Nat.le_of_ble_eq_true rfl, Nat.le_of_ble_eq_true rfl⟩ rfl rfl (Nat.le_of_ble_eq_true rfl) d_SS_enqueue_44 ?_
        have hs := hs.2
        refine j_sub [1, 2, 0] (lv' := [(0, .ref (a 1)), (1, .int v1), (4, .int (((st 1 2) + (st 1 3)) - ((st 1 2) + (st 1 3)) / 8 * 8))]) rfl ?_
        exact j_SS_enqueue_47 X a T hQ (K_SS_makeReady st ((((st 1 2) + (st 1 3)) - ((st 1 2) + (st 1 3)) / 8 * 8) * 9) v1 v2) v1 (((st 1 2) + (st 1 3)) - ((st 1 2) + (st 1 3)) / 8 * 8) hs hk
      · have hk := hk.trans (if_neg hc)
        refine j_sub [] (lv' := []) rfl ?_
        exact j_SS_enqueue_20 X a T hQ st hk
set_option maxRecDepth 20000 in
theorem c_SS_enqueue (g : plG) (a : Nat → Nat) (st : plS) (v1 : Int32) (v2 : Int64) (hs : P_SS_enqueue st v1 v2) : plMi g y_SS_enqueue b_SS_enqueue 5 (some .boolean) 2 49 [.ref (a 1), .int v1, .long v2] (plwC g a) st (K_SS_enqueue st v1 v2) := by
  refine plMi.of (own := "ProtectedLine$StreamSource") (lv := [(0, .ref (a 1)), (1, .int v1), (2, .long v2)]) rfl rfl (Nat.le_of_ble_eq_true rfl) rfl (fun E hE X hQ => ?_)
  subst hE
  exact j_SS_enqueue X a _ hQ st v1 v2 hs rfl
theorem d_PL_send_0 : decode b_PL_send 0 = .ok (.aload_n 0, 1) := by decide +kernel
theorem d_PL_send_1 : decode b_PL_send 1 = .ok (.getfield 10, 3) := by decide +kernel
theorem d_PL_send_4 : decode b_PL_send 4 = .ok (.iload_n 1, 1) := by decide +kernel
theorem d_PL_send_5 : decode b_PL_send 5 = .ok (.lload_n 2, 1) := by decide +kernel
theorem d_PL_send_6 : decode b_PL_send 6 = .ok (.invokevirtual 78, 3) := by decide +kernel
theorem d_PL_send_9 : decode b_PL_send 9 = .ok (.ireturn, 1) := by decide +kernel
def K_PL_send_9q  (q : Int32 × plS) : Int32 × plS := (q.1, q.2)
def P_PL_send_9q  (q : Int32 × plS) : Prop := plB q.1
set_option maxRecDepth 20000 in
theorem j_PL_send_9q {E : plE} (X : plX E b_PL_send "ProtectedLine" 4 (some .boolean) 3 73) (a : Nat → Nat) (T : Int32 × plS) (hQ : plRi E (plwC (plg E) a) T)  (q : Int32 × plS) (hs : P_PL_send_9q  q) (hk : T = K_PL_send_9q  q) : plJ E 4 (plwC (plg E) a q.2) 0 0 [] 9 [.int q.1] := by
  unfold P_PL_send_9q at hs
  unfold K_PL_send_9q at hk
  exact j_retz (pc := 9) X hQ d_PL_send_9 hs hk
def K_PL_send (st : plS) (v1 : Int32) (v2 : Int64) : Int32 × plS := K_PL_send_9q (K_SS_enqueue st v1 v2)
def P_PL_send (st : plS) (v1 : Int32) (v2 : Int64) : Prop := (P_SS_enqueue st v1 v2 ∧ P_PL_send_9q (K_SS_enqueue st v1 v2))
set_option maxRecDepth 20000 in
theorem j_PL_send {E : plE} (X : plX E b_PL_send "ProtectedLine" 4 (some .boolean) 3 73) (a : Nat → Nat) (T : Int32 × plS) (hQ : plRi E (plwC (plg E) a) T) (st : plS) (v1 : Int32) (v2 : Int64) (hs : P_PL_send st v1 v2) (hk : T = K_PL_send st v1 v2) : plJ E 4 (plwC (plg E) a st) 0 0 [(0, .ref (a 0)), (1, .int v1), (2, .long v2)] 0 [] := by
  unfold P_PL_send at hs
  unfold K_PL_send at hk
  refine j_aload_n (pc := 0) X d_PL_send_0 rfl 0 rfl ?_
  refine get_PL_source (pc := 1) X fl_PL_10 d_PL_send_1 ?_
  refine j_iload_n (pc := 4) X d_PL_send_4 rfl 1 rfl ?_
  refine j_lload_n (pc := 5) X d_PL_send_5 rfl 2 rfl ?_
  refine j_callVi (pc := 6) (As := [.int v1, .long v2]) (rest := []) X (c_SS_enqueue (plg E) a st v1 v2 hs.1) ml_PL_78 1 rfl rfl ⟨Nat.le_of_ble_eq_true rfl, Nat.le_of_ble_eq_true rfl⟩ rfl rfl (Nat.le_of_ble_eq_true rfl) d_PL_send_6 ?_
  refine j_sub [] (lv' := []) rfl ?_
  exact j_PL_send_9q X a T hQ (K_SS_enqueue st v1 v2) hs.2 hk
set_option maxRecDepth 20000 in
theorem c_PL_send (g : plG) (a : Nat → Nat) (st : plS) (v1 : Int32) (v2 : Int64) (hs : P_PL_send st v1 v2) : plMi g y_PL_send b_PL_send 4 (some .boolean) 3 73 [.ref (a 0), .int v1, .long v2] (plwC g a) st (K_PL_send st v1 v2) := by
  refine plMi.of (own := "ProtectedLine") (lv := [(0, .ref (a 0)), (1, .int v1), (2, .long v2)]) rfl rfl (Nat.le_of_ble_eq_true rfl) rfl (fun E hE X hQ => ?_)
  subst hE
  exact j_PL_send X a _ hQ st v1 v2 hs rfl
theorem d_BL_arriving_0 : decode b_BL_arriving 0 = .ok (.iload_n 1, 1) := by decide +kernel
theorem d_BL_arriving_1 : decode b_BL_arriving 1 = .ok (.ifCond .ne (14), 3) := by decide +kernel
theorem d_BL_arriving_4 : decode b_BL_arriving 4 = .ok (.aload_n 0, 1) := by decide +kernel
theorem d_BL_arriving_5 : decode b_BL_arriving 5 = .ok (.getfield 19, 3) := by decide +kernel
theorem d_BL_arriving_8 : decode b_BL_arriving 8 = .ok (.aload_n 0, 1) := by decide +kernel
theorem d_BL_arriving_9 : decode b_BL_arriving 9 = .ok (.getfield 15, 3) := by decide +kernel
theorem d_BL_arriving_12 : decode b_BL_arriving 12 = .ok (.if_icmp .ge (7), 3) := by decide +kernel
theorem d_BL_arriving_15 : decode b_BL_arriving 15 = .ok (.iconst (-1), 1) := by decide +kernel
theorem d_BL_arriving_16 : decode b_BL_arriving 16 = .ok (.goto (20), 3) := by decide +kernel
theorem d_BL_arriving_19 : decode b_BL_arriving 19 = .ok (.aload_n 0, 1) := by decide +kernel
theorem d_BL_arriving_20 : decode b_BL_arriving 20 = .ok (.getfield 11, 3) := by decide +kernel
theorem d_BL_arriving_23 : decode b_BL_arriving 23 = .ok (.aload_n 0, 1) := by decide +kernel
theorem d_BL_arriving_24 : decode b_BL_arriving 24 = .ok (.getfield 19, 3) := by decide +kernel
theorem d_BL_arriving_27 : decode b_BL_arriving 27 = .ok (.aload_n 0, 1) := by decide +kernel
theorem d_BL_arriving_28 : decode b_BL_arriving 28 = .ok (.getfield 15, 3) := by decide +kernel
theorem d_BL_arriving_31 : decode b_BL_arriving 31 = .ok (.isub, 1) := by decide +kernel
theorem d_BL_arriving_32 : decode b_BL_arriving 32 = .ok (.bipush (7), 2) := by decide +kernel
theorem d_BL_arriving_34 : decode b_BL_arriving 34 = .ok (.iand, 1) := by decide +kernel
theorem d_BL_arriving_35 : decode b_BL_arriving 35 = .ok (.iaload, 1) := by decide +kernel
theorem d_BL_arriving_36 : decode b_BL_arriving 36 = .ok (.ireturn, 1) := by decide +kernel
def K_BL_arriving_36 (st : plS) (k0 : Int32) : Int32 := k0
set_option maxRecDepth 20000 in
theorem j_BL_arriving_36 {E : plE} (X : plX E b_BL_arriving "ProtectedLine$BackLine" 2 (some .int) 0 0) (a : Nat → Nat) (T : Int32) (st : plS) (hQ : plRp E (plwC (plg E) a) st T) (k0 : Int32) (hk : T = K_BL_arriving_36 st k0) : plJ E 2 (plwC (plg E) a st) 0 0 [] 36 [.int k0] := by
  unfold K_BL_arriving_36 at hk
  exact j_retip (pc := 36) X hQ d_BL_arriving_36 hk
def K_BL_arriving_15 (st : plS) : Int32 := K_BL_arriving_36 st ((-1))
set_option maxRecDepth 20000 in
theorem j_BL_arriving_15 {E : plE} (X : plX E b_BL_arriving "ProtectedLine$BackLine" 2 (some .int) 0 0) (a : Nat → Nat) (T : Int32) (st : plS) (hQ : plRp E (plwC (plg E) a) st T)  (hk : T = K_BL_arriving_15 st) : plJ E 2 (plwC (plg E) a st) 0 0 [] 15 [] := by
  unfold K_BL_arriving_15 at hk
  refine j_iconst (pc := 15) X d_BL_arriving_15 ic_m1 ?_
  refine j_goto (pc := 16) (tgt := 36) X d_BL_arriving_16 rfl ?_
  exact j_BL_arriving_36 X a T st hQ ((-1)) hk
def K_BL_arriving (st : plS) (v1 : Int32) : Int32 := (if v1 = 0 then (if (st 17 0) ≤ (st 17 2) then K_BL_arriving_36 st (st 18 (plIx (((st 17 2) - (st 17 0)) &&& 7))) else K_BL_arriving_15 st) else K_BL_arriving_15 st)
def P_BL_arriving (st : plS) (v1 : Int32) : Prop := (v1 = 0 → ((st 17 0) ≤ (st 17 2) → vp_in (((st 17 2) - (st 17 0)) &&& 7) 8))
set_option maxRecDepth 20000 in
theorem j_BL_arriving {E : plE} (X : plX E b_BL_arriving "ProtectedLine$BackLine" 2 (some .int) 0 0) (a : Nat → Nat) (T : Int32) (st : plS) (hQ : plRp E (plwC (plg E) a) st T) (v1 : Int32) (hs : P_BL_arriving st v1) (hk : T = K_BL_arriving st v1) : plJ E 2 (plwC (plg E) a st) 0 0 [(0, .ref (a 17)), (1, .int v1)] 0 [] := by
  unfold P_BL_arriving at hs
  unfold K_BL_arriving at hk
  refine j_iload_n (pc := 0) X d_BL_arriving_0 rfl 1 rfl ?_
  refine j_if_ne (pc := 1) (tgt := 15) X d_BL_arriving_1 rfl (fun hc => ?_) (fun hc => ?_)
  · have hk := hk.trans (if_neg hc)
    refine j_sub [] (lv' := []) rfl ?_
    exact j_BL_arriving_15 X a T st hQ hk
  · have hk := hk.trans (if_pos hc)
    have hs := hs hc
    refine j_aload_n (pc := 4) X d_BL_arriving_4 rfl 0 rfl ?_
    refine get_BL_launched (pc := 5) X fl_BL_19 d_BL_arriving_5 ?_
    refine j_aload_n (pc := 8) X d_BL_arriving_8 rfl 0 rfl ?_
    refine get_BL_delay (pc := 9) X fl_BL_15 d_BL_arriving_9 ?_
    refine j_icmp_ge (pc := 12) (tgt := 19) X d_BL_arriving_12 rfl (fun hc => ?_) (fun hc => ?_)
    · have hk := hk.trans (if_pos hc)
      have hs := hs hc
      refine j_aload_n (pc := 19) X d_BL_arriving_19 rfl 0 rfl ?_
      refine get_BL_underWay (pc := 20) X fl_BL_11 d_BL_arriving_20 ?_
      refine j_aload_n (pc := 23) X d_BL_arriving_23 rfl 0 rfl ?_
      refine get_BL_launched (pc := 24) X fl_BL_19 d_BL_arriving_24 ?_
      refine j_aload_n (pc := 27) X d_BL_arriving_27 rfl 0 rfl ?_
      refine get_BL_delay (pc := 28) X fl_BL_15 d_BL_arriving_28 ?_
      refine j_isub (pc := 31) X d_BL_arriving_31 ?_
      refine j_bipush (pc := 32) X d_BL_arriving_32 bp_7 ?_
      refine j_iand (pc := 34) X d_BL_arriving_34 ?_
      refine ald_BLu (pc := 35) X hs d_BL_arriving_35 ?_
      refine j_sub [] (lv' := []) rfl ?_
      exact j_BL_arriving_36 X a T st hQ (st 18 (plIx (((st 17 2) - (st 17 0)) &&& 7))) hk
    · have hk := hk.trans (if_neg hc)
      refine j_sub [] (lv' := []) rfl ?_
      exact j_BL_arriving_15 X a T st hQ hk
set_option maxRecDepth 20000 in
theorem c_BL_arriving (g : plG) (a : Nat → Nat) (st : plS) (v1 : Int32) (hs : P_BL_arriving st v1) : plMp g y_BL_arriving b_BL_arriving 2 (some .int) 0 0 [.ref (a 17), .int v1] (plwC g a) st (K_BL_arriving st v1) := by
  refine plMp.of (own := "ProtectedLine$BackLine") (lv := [(0, .ref (a 17)), (1, .int v1)]) rfl rfl (Nat.le_of_ble_eq_true rfl) rfl (fun E hE X hQ => ?_)
  subst hE
  exact j_BL_arriving X a _ st hQ v1 hs rfl
theorem d_LI_hear_0 : decode b_LI_hear 0 = .ok (.aload_n 0, 1) := by decide +kernel
theorem d_LI_hear_1 : decode b_LI_hear 1 = .ok (.iload_n 1, 1) := by decide +kernel
theorem d_LI_hear_2 : decode b_LI_hear 2 = .ok (.aload_n 0, 1) := by decide +kernel
theorem d_LI_hear_3 : decode b_LI_hear 3 = .ok (.getfield 9, 3) := by decide +kernel
theorem d_LI_hear_6 : decode b_LI_hear 6 = .ok (.if_icmp .ne (12), 3) := by decide +kernel
theorem d_LI_hear_9 : decode b_LI_hear 9 = .ok (.aload_n 0, 1) := by decide +kernel
theorem d_LI_hear_10 : decode b_LI_hear 10 = .ok (.getfield 15, 3) := by decide +kernel
theorem d_LI_hear_13 : decode b_LI_hear 13 = .ok (.iconst 1, 1) := by decide +kernel
theorem d_LI_hear_14 : decode b_LI_hear 14 = .ok (.iadd, 1) := by decide +kernel
theorem d_LI_hear_15 : decode b_LI_hear 15 = .ok (.goto (4), 3) := by decide +kernel
theorem d_LI_hear_18 : decode b_LI_hear 18 = .ok (.iconst 1, 1) := by decide +kernel
theorem d_LI_hear_19 : decode b_LI_hear 19 = .ok (.putfield 15, 3) := by decide +kernel
theorem d_LI_hear_22 : decode b_LI_hear 22 = .ok (.aload_n 0, 1) := by decide +kernel
theorem d_LI_hear_23 : decode b_LI_hear 23 = .ok (.iload_n 1, 1) := by decide +kernel
theorem d_LI_hear_24 : decode b_LI_hear 24 = .ok (.putfield 9, 3) := by decide +kernel
theorem d_LI_hear_27 : decode b_LI_hear 27 = .ok (.aload_n 0, 1) := by decide +kernel
theorem d_LI_hear_28 : decode b_LI_hear 28 = .ok (.getfield 15, 3) := by decide +kernel
theorem d_LI_hear_31 : decode b_LI_hear 31 = .ok (.iconst 3, 1) := by decide +kernel
theorem d_LI_hear_32 : decode b_LI_hear 32 = .ok (.if_icmp .lt (13), 3) := by decide +kernel
theorem d_LI_hear_35 : decode b_LI_hear 35 = .ok (.iload_n 1, 1) := by decide +kernel
theorem d_LI_hear_36 : decode b_LI_hear 36 = .ok (.iconst (-1), 1) := by decide +kernel
theorem d_LI_hear_37 : decode b_LI_hear 37 = .ok (.if_icmp .eq (8), 3) := by decide +kernel
theorem d_LI_hear_40 : decode b_LI_hear 40 = .ok (.aload_n 0, 1) := by decide +kernel
theorem d_LI_hear_41 : decode b_LI_hear 41 = .ok (.iload_n 1, 1) := by decide +kernel
theorem d_LI_hear_42 : decode b_LI_hear 42 = .ok (.putfield 18, 3) := by decide +kernel
theorem d_LI_hear_45 : decode b_LI_hear 45 = .ok (.return_, 1) := by decide +kernel
def K_LA_hear_45 (st : plS) : plS := st
set_option maxRecDepth 20000 in
theorem j_LA_hear_45 {E : plE} (X : plX E b_LI_hear "ProtectedLine$Listener" 2 none 0 0) (a : Nat → Nat) (T : plS) (hQ : plRv E (plwC (plg E) a) T) (st : plS)  (hk : T = K_LA_hear_45 st) : plJ E 2 (plwC (plg E) a st) 0 0 [] 45 [] := by
  unfold K_LA_hear_45 at hk
  exact j_retv (pc := 45) X hQ d_LI_hear_45 hk
def K_LA_hear_27 (st : plS) (v1 : Int32) : plS := (if (st 7 2) < 3 then K_LA_hear_45 st else (if v1 = ((-1)) then K_LA_hear_45 st else K_LA_hear_45 (plUp st 7 0 v1)))
set_option maxRecDepth 20000 in
theorem j_LA_hear_27 {E : plE} (X : plX E b_LI_hear "ProtectedLine$Listener" 2 none 0 0) (a : Nat → Nat) (T : plS) (hQ : plRv E (plwC (plg E) a) T) (st : plS) (v1 : Int32) (hk : T = K_LA_hear_27 st v1) : plJ E 2 (plwC (plg E) a st) 0 0 [(0, .ref (a 7)), (1, .int v1)] 27 [] := by
  unfold K_LA_hear_27 at hk
  refine j_aload_n (pc := 27) X d_LI_hear_27 rfl 0 rfl ?_
  refine get_LA_row (pc := 28) X fl_LI_15 d_LI_hear_28 ?_
  refine j_iconst (pc := 31) X d_LI_hear_31 ic_3 ?_
  refine j_icmp_lt (pc := 32) (tgt := 45) X d_LI_hear_32 rfl (fun hc => ?_) (fun hc => ?_)
  · have hk := hk.trans (if_pos hc)
    refine j_sub [] (lv' := []) rfl ?_
    exact j_LA_hear_45 X a T hQ st hk
  · have hk := hk.trans (if_neg hc)
    refine j_iload_n (pc := 35) X d_LI_hear_35 rfl 1 rfl ?_
    refine j_iconst (pc := 36) X d_LI_hear_36 ic_m1 ?_
    refine j_icmp_eq (pc := 37) (tgt := 45) X d_LI_hear_37 rfl (fun hc => ?_) (fun hc => ?_)
    · have hk := hk.trans (if_pos hc)
      refine j_sub [] (lv' := []) rfl ?_
      exact j_LA_hear_45 X a T hQ st hk
    · have hk := hk.trans (if_neg hc)
      refine j_aload_n (pc := 40) X d_LI_hear_40 rfl 0 rfl ?_
      refine j_iload_n (pc := 41) X d_LI_hear_41 rfl 1 rfl ?_
      refine put_LA_accepted (pc := 42) X fl_LI_18 d_LI_hear_42 ?_
      refine j_sub [] (lv' := []) rfl ?_
      exact j_LA_hear_45 X a T hQ (plUp st 7 0 v1) hk
def K_LA_hear_22 (st : plS) (v1 : Int32) : plS := K_LA_hear_27 (plUp st 7 1 v1) v1
set_option maxRecDepth 20000 in
theorem j_LA_hear_22 {E : plE} (X : plX E b_LI_hear "ProtectedLine$Listener" 2 none 0 0) (a : Nat → Nat) (T : plS) (hQ : plRv E (plwC (plg E) a) T) (st : plS) (v1 : Int32) (hk : T = K_LA_hear_22 st v1) : plJ E 2 (plwC (plg E) a st) 0 0 [(0, .ref (a 7)), (1, .int v1)] 22 [] := by
  unfold K_LA_hear_22 at hk
  refine j_aload_n (pc := 22) X d_LI_hear_22 rfl 0 rfl ?_
  refine j_iload_n (pc := 23) X d_LI_hear_23 rfl 1 rfl ?_
  refine put_LA_latest (pc := 24) X fl_LI_9 d_LI_hear_24 ?_
  exact j_LA_hear_27 X a T hQ (plUp st 7 1 v1) v1 hk
def K_LA_hear_19 (st : plS) (v1 : Int32) (k0 : Int32) : plS := K_LA_hear_22 (plUp st 7 2 k0) v1
set_option maxRecDepth 20000 in
theorem j_LA_hear_19 {E : plE} (X : plX E b_LI_hear "ProtectedLine$Listener" 2 none 0 0) (a : Nat → Nat) (T : plS) (hQ : plRv E (plwC (plg E) a) T) (st : plS) (v1 : Int32) (k0 : Int32) (hk : T = K_LA_hear_19 st v1 k0) : plJ E 2 (plwC (plg E) a st) 0 0 [(0, .ref (a 7)), (1, .int v1)] 19 [.int k0, .ref (a 7)] := by
  unfold K_LA_hear_19 at hk
  refine put_LA_row (pc := 19) X fl_LI_15 d_LI_hear_19 ?_
  exact j_LA_hear_22 X a T hQ (plUp st 7 2 k0) v1 hk
def K_LA_hear (st : plS) (v1 : Int32) : plS := (if v1 = (st 7 1) then K_LA_hear_19 st v1 ((st 7 2) + 1) else K_LA_hear_19 st v1 1)
set_option maxRecDepth 20000 in
theorem j_LA_hear {E : plE} (X : plX E b_LI_hear "ProtectedLine$Listener" 2 none 0 0) (a : Nat → Nat) (T : plS) (hQ : plRv E (plwC (plg E) a) T) (st : plS) (v1 : Int32) (hk : T = K_LA_hear st v1) : plJ E 2 (plwC (plg E) a st) 0 0 [(0, .ref (a 7)), (1, .int v1)] 0 [] := by
  unfold K_LA_hear at hk
  refine j_aload_n (pc := 0) X d_LI_hear_0 rfl 0 rfl ?_
  refine j_iload_n (pc := 1) X d_LI_hear_1 rfl 1 rfl ?_
  refine j_aload_n (pc := 2) X d_LI_hear_2 rfl 0 rfl ?_
  refine get_LA_latest (pc := 3) X fl_LI_9 d_LI_hear_3 ?_
  refine j_icmp_ne (pc := 6) (tgt := 18) X d_LI_hear_6 rfl (fun hc => ?_) (fun hc => ?_)
  · have hk := hk.trans (if_neg hc)
    refine j_iconst (pc := 18) X d_LI_hear_18 ic_1 ?_
    exact j_LA_hear_19 X a T hQ st v1 1 hk
  · have hk := hk.trans (if_pos hc)
    refine j_aload_n (pc := 9) X d_LI_hear_9 rfl 0 rfl ?_
    refine get_LA_row (pc := 10) X fl_LI_15 d_LI_hear_10 ?_
    refine j_iconst (pc := 13) X d_LI_hear_13 ic_1 ?_
    refine j_iadd (pc := 14) X d_LI_hear_14 ?_
    refine j_goto (pc := 15) (tgt := 19) X d_LI_hear_15 rfl ?_
    exact j_LA_hear_19 X a T hQ st v1 ((st 7 2) + 1) hk
set_option maxRecDepth 20000 in
theorem c_LA_hear (g : plG) (a : Nat → Nat) (st : plS) (v1 : Int32) : plMv g y_LI_hear b_LI_hear 2 none 0 0 [.ref (a 7), .int v1] (plwC g a) st (K_LA_hear st v1) := by
  refine plMv.of (own := "ProtectedLine$Listener") (lv := [(0, .ref (a 7)), (1, .int v1)]) rfl rfl (Nat.le_of_ble_eq_true rfl) rfl (fun E hE X hQ => ?_)
  subst hE
  exact j_LA_hear X a _ hQ st v1 rfl
end
