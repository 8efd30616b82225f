section
-- ===== PART A: goes FIRST, ahead of the names: the tables' words, and 'selects' of the private methods out of them =====
/-- a private method of a class that the tables say can be made, by its rows of tables_1 -/
def lw_okq (q : MethodName × Nat) : Prop := (q.1.cls ≠ "java/lang/invoke/MethodHandle" ∧ q.1.cls ≠ "java/lang/invoke/VarHandle") ∧ Cond.instantiable q.1.cls q.2 ∈ tables_1 ∧ Cond.privateMethod q.1 ∈ tables_1 ∧ Cond.instanceMethod q.1 ∈ tables_1
theorem lw_p0 : lw_okq (⟨"QueryText$Schema", "isName", "()Z"⟩, 7) := ⟨⟨by decide +kernel, by decide +kernel⟩, List.mem_of_getElem? (i := 38) (by decide +kernel), List.mem_of_getElem? (i := 241) (by decide +kernel), List.mem_of_getElem? (i := 242) (by decide +kernel)⟩
theorem lw_p1 : lw_okq (⟨"QueryText$Schema", "bearsName", "(II)Z"⟩, 7) := ⟨⟨by decide +kernel, by decide +kernel⟩, List.mem_of_getElem? (i := 38) (by decide +kernel), List.mem_of_getElem? (i := 259) (by decide +kernel), List.mem_of_getElem? (i := 260) (by decide +kernel)⟩
theorem lw_p2 : lw_okq (⟨"QueryText$Scanner", "signToken", "(I)I"⟩, 7) := ⟨⟨by decide +kernel, by decide +kernel⟩, List.mem_of_getElem? (i := 136) (by decide +kernel), List.mem_of_getElem? (i := 293) (by decide +kernel), List.mem_of_getElem? (i := 294) (by decide +kernel)⟩
theorem lw_p3 : lw_okq (⟨"QueryText$Scanner", "orderToken", "(ZI)I"⟩, 7) := ⟨⟨by decide +kernel, by decide +kernel⟩, List.mem_of_getElem? (i := 136) (by decide +kernel), List.mem_of_getElem? (i := 297) (by decide +kernel), List.mem_of_getElem? (i := 298) (by decide +kernel)⟩
theorem lw_p4 : lw_okq (⟨"QueryText$Scanner", "wordToken", "()I"⟩, 7) := ⟨⟨by decide +kernel, by decide +kernel⟩, List.mem_of_getElem? (i := 136) (by decide +kernel), List.mem_of_getElem? (i := 302) (by decide +kernel), List.mem_of_getElem? (i := 303) (by decide +kernel)⟩
theorem lw_p5 : lw_okq (⟨"QueryText$Parser", "take", "(I)Z"⟩, 9) := ⟨⟨by decide +kernel, by decide +kernel⟩, List.mem_of_getElem? (i := 67) (by decide +kernel), List.mem_of_getElem? (i := 359) (by decide +kernel), List.mem_of_getElem? (i := 360) (by decide +kernel)⟩
theorem lw_p6 : lw_okq (⟨"QueryText$Parser", "refuse", "(I)Z"⟩, 9) := ⟨⟨by decide +kernel, by decide +kernel⟩, List.mem_of_getElem? (i := 67) (by decide +kernel), List.mem_of_getElem? (i := 363) (by decide +kernel), List.mem_of_getElem? (i := 364) (by decide +kernel)⟩
theorem lw_p7 : lw_okq (⟨"QueryText$Parser", "readItem", "()Z"⟩, 9) := ⟨⟨by decide +kernel, by decide +kernel⟩, List.mem_of_getElem? (i := 67) (by decide +kernel), List.mem_of_getElem? (i := 368) (by decide +kernel), List.mem_of_getElem? (i := 369) (by decide +kernel)⟩
theorem lw_p8 : lw_okq (⟨"QueryText$Parser", "readPath", "()I"⟩, 9) := ⟨⟨by decide +kernel, by decide +kernel⟩, List.mem_of_getElem? (i := 67) (by decide +kernel), List.mem_of_getElem? (i := 372) (by decide +kernel), List.mem_of_getElem? (i := 373) (by decide +kernel)⟩
theorem lw_p9 : lw_okq (⟨"QueryText$Parser", "isOfNumbers", "(I)Z"⟩, 9) := ⟨⟨by decide +kernel, by decide +kernel⟩, List.mem_of_getElem? (i := 67) (by decide +kernel), List.mem_of_getElem? (i := 394) (by decide +kernel), List.mem_of_getElem? (i := 395) (by decide +kernel)⟩
theorem lw_p10 : lw_okq (⟨"QueryText$Parser", "openTests", "()Z"⟩, 9) := ⟨⟨by decide +kernel, by decide +kernel⟩, List.mem_of_getElem? (i := 67) (by decide +kernel), List.mem_of_getElem? (i := 402) (by decide +kernel), List.mem_of_getElem? (i := 403) (by decide +kernel)⟩
theorem lw_p11 : lw_okq (⟨"QueryText$Parser", "await", "()Z"⟩, 9) := ⟨⟨by decide +kernel, by decide +kernel⟩, List.mem_of_getElem? (i := 67) (by decide +kernel), List.mem_of_getElem? (i := 406) (by decide +kernel), List.mem_of_getElem? (i := 407) (by decide +kernel)⟩
theorem lw_p12 : lw_okq (⟨"QueryText$Parser", "readTest", "()Z"⟩, 9) := ⟨⟨by decide +kernel, by decide +kernel⟩, List.mem_of_getElem? (i := 67) (by decide +kernel), List.mem_of_getElem? (i := 410) (by decide +kernel), List.mem_of_getElem? (i := 411) (by decide +kernel)⟩
theorem lw_p13 : lw_okq (⟨"QueryText$Parser", "readIsNull", "(II)Z"⟩, 9) := ⟨⟨by decide +kernel, by decide +kernel⟩, List.mem_of_getElem? (i := 67) (by decide +kernel), List.mem_of_getElem? (i := 414) (by decide +kernel), List.mem_of_getElem? (i := 415) (by decide +kernel)⟩
theorem lw_p14 : lw_okq (⟨"QueryText$Parser", "readIn", "(II)Z"⟩, 9) := ⟨⟨by decide +kernel, by decide +kernel⟩, List.mem_of_getElem? (i := 67) (by decide +kernel), List.mem_of_getElem? (i := 422) (by decide +kernel), List.mem_of_getElem? (i := 423) (by decide +kernel)⟩
theorem lw_p15 : lw_okq (⟨"QueryText$Parser", "readLiteral", "(I)Z"⟩, 9) := ⟨⟨by decide +kernel, by decide +kernel⟩, List.mem_of_getElem? (i := 67) (by decide +kernel), List.mem_of_getElem? (i := 426) (by decide +kernel), List.mem_of_getElem? (i := 427) (by decide +kernel)⟩
def lw_privs_1 : List (MethodName × Nat) := [(⟨"QueryText$Schema", "isName", "()Z"⟩, 7), (⟨"QueryText$Schema", "bearsName", "(II)Z"⟩, 7), (⟨"QueryText$Scanner", "signToken", "(I)I"⟩, 7), (⟨"QueryText$Scanner", "orderToken", "(ZI)I"⟩, 7), (⟨"QueryText$Scanner", "wordToken", "()I"⟩, 7), (⟨"QueryText$Parser", "take", "(I)Z"⟩, 9), (⟨"QueryText$Parser", "refuse", "(I)Z"⟩, 9), (⟨"QueryText$Parser", "readItem", "()Z"⟩, 9), (⟨"QueryText$Parser", "readPath", "()I"⟩, 9), (⟨"QueryText$Parser", "isOfNumbers", "(I)Z"⟩, 9), (⟨"QueryText$Parser", "openTests", "()Z"⟩, 9), (⟨"QueryText$Parser", "await", "()Z"⟩, 9), (⟨"QueryText$Parser", "readTest", "()Z"⟩, 9), (⟨"QueryText$Parser", "readIsNull", "(II)Z"⟩, 9), (⟨"QueryText$Parser", "readIn", "(II)Z"⟩, 9), (⟨"QueryText$Parser", "readLiteral", "(I)Z"⟩, 9)]
theorem lw_r1 : ∀ q ∈ lw_privs_1, lw_okq q := List.forall_mem_cons.mpr ⟨lw_p0, List.forall_mem_cons.mpr ⟨lw_p1, List.forall_mem_cons.mpr ⟨lw_p2, List.forall_mem_cons.mpr ⟨lw_p3, List.forall_mem_cons.mpr ⟨lw_p4, List.forall_mem_cons.mpr ⟨lw_p5, List.forall_mem_cons.mpr ⟨lw_p6, List.forall_mem_cons.mpr ⟨lw_p7, List.forall_mem_cons.mpr ⟨lw_p8, List.forall_mem_cons.mpr ⟨lw_p9, List.forall_mem_cons.mpr ⟨lw_p10, List.forall_mem_cons.mpr ⟨lw_p11, List.forall_mem_cons.mpr ⟨lw_p12, List.forall_mem_cons.mpr ⟨lw_p13, List.forall_mem_cons.mpr ⟨lw_p14, List.forall_mem_cons.mpr ⟨lw_p15, fun _ h => absurd h List.not_mem_nil⟩⟩⟩⟩⟩⟩⟩⟩⟩⟩⟩⟩⟩⟩⟩⟩
theorem lw_p16 : lw_okq (⟨"QueryText$Scanner", "readEscape", "(I)I"⟩, 7) := ⟨⟨by decide +kernel, by decide +kernel⟩, List.mem_of_getElem? (i := 136) (by decide +kernel), List.mem_of_getElem? (i := 444) (by decide +kernel), List.mem_of_getElem? (i := 445) (by decide +kernel)⟩
theorem lw_p17 : lw_okq (⟨"QueryText$Parser", "canCompare", "(II)Z"⟩, 9) := ⟨⟨by decide +kernel, by decide +kernel⟩, List.mem_of_getElem? (i := 67) (by decide +kernel), List.mem_of_getElem? (i := 455) (by decide +kernel), List.mem_of_getElem? (i := 456) (by decide +kernel)⟩
theorem lw_p18 : lw_okq (⟨"QueryText$Parser", "readCompared", "(II)Z"⟩, 9) := ⟨⟨by decide +kernel, by decide +kernel⟩, List.mem_of_getElem? (i := 67) (by decide +kernel), List.mem_of_getElem? (i := 463) (by decide +kernel), List.mem_of_getElem? (i := 464) (by decide +kernel)⟩
theorem lw_p19 : lw_okq (⟨"QueryText$Parser", "closeTests", "()Z"⟩, 9) := ⟨⟨by decide +kernel, by decide +kernel⟩, List.mem_of_getElem? (i := 67) (by decide +kernel), List.mem_of_getElem? (i := 467) (by decide +kernel), List.mem_of_getElem? (i := 468) (by decide +kernel)⟩
theorem lw_p20 : lw_okq (⟨"QueryText$Parser", "join", "(II)Z"⟩, 9) := ⟨⟨by decide +kernel, by decide +kernel⟩, List.mem_of_getElem? (i := 67) (by decide +kernel), List.mem_of_getElem? (i := 471) (by decide +kernel), List.mem_of_getElem? (i := 472) (by decide +kernel)⟩
theorem lw_p21 : lw_okq (⟨"QueryText$Parser", "readBehindBy", "()Z"⟩, 9) := ⟨⟨by decide +kernel, by decide +kernel⟩, List.mem_of_getElem? (i := 67) (by decide +kernel), List.mem_of_getElem? (i := 479) (by decide +kernel), List.mem_of_getElem? (i := 480) (by decide +kernel)⟩
theorem lw_p22 : lw_okq (⟨"QueryTextModel", "takes", "(I)Z"⟩, 35) := ⟨⟨by decide +kernel, by decide +kernel⟩, List.mem_of_getElem? (i := 549) (by decide +kernel), List.mem_of_getElem? (i := 669) (by decide +kernel), List.mem_of_getElem? (i := 670) (by decide +kernel)⟩
theorem lw_p23 : lw_okq (⟨"QueryTextModel", "wordAt", "(I)I"⟩, 35) := ⟨⟨by decide +kernel, by decide +kernel⟩, List.mem_of_getElem? (i := 549) (by decide +kernel), List.mem_of_getElem? (i := 673) (by decide +kernel), List.mem_of_getElem? (i := 674) (by decide +kernel)⟩
theorem lw_p24 : lw_okq (⟨"QueryTextModel", "find", "(III)I"⟩, 35) := ⟨⟨by decide +kernel, by decide +kernel⟩, List.mem_of_getElem? (i := 549) (by decide +kernel), List.mem_of_getElem? (i := 683) (by decide +kernel), List.mem_of_getElem? (i := 684) (by decide +kernel)⟩
theorem lw_p25 : lw_okq (⟨"QueryTextModel", "takesWord", "(J)Z"⟩, 35) := ⟨⟨by decide +kernel, by decide +kernel⟩, List.mem_of_getElem? (i := 549) (by decide +kernel), List.mem_of_getElem? (i := 692) (by decide +kernel), List.mem_of_getElem? (i := 693) (by decide +kernel)⟩
theorem lw_p26 : lw_okq (⟨"QueryTextModel", "sees", "(J)Z"⟩, 35) := ⟨⟨by decide +kernel, by decide +kernel⟩, List.mem_of_getElem? (i := 549) (by decide +kernel), List.mem_of_getElem? (i := 696) (by decide +kernel), List.mem_of_getElem? (i := 697) (by decide +kernel)⟩
theorem lw_p27 : lw_okq (⟨"QueryTextModel", "blanks", "()V"⟩, 35) := ⟨⟨by decide +kernel, by decide +kernel⟩, List.mem_of_getElem? (i := 549) (by decide +kernel), List.mem_of_getElem? (i := 700) (by decide +kernel), List.mem_of_getElem? (i := 701) (by decide +kernel)⟩
theorem lw_p28 : lw_okq (⟨"QueryTextModel", "look", "()I"⟩, 35) := ⟨⟨by decide +kernel, by decide +kernel⟩, List.mem_of_getElem? (i := 549) (by decide +kernel), List.mem_of_getElem? (i := 704) (by decide +kernel), List.mem_of_getElem? (i := 705) (by decide +kernel)⟩
theorem lw_p29 : lw_okq (⟨"QueryTextModel", "wordOf", "(I)J"⟩, 35) := ⟨⟨by decide +kernel, by decide +kernel⟩, List.mem_of_getElem? (i := 549) (by decide +kernel), List.mem_of_getElem? (i := 708) (by decide +kernel), List.mem_of_getElem? (i := 709) (by decide +kernel)⟩
theorem lw_p30 : lw_okq (⟨"QueryTextModel", "fail", "(I)V"⟩, 35) := ⟨⟨by decide +kernel, by decide +kernel⟩, List.mem_of_getElem? (i := 549) (by decide +kernel), List.mem_of_getElem? (i := 712) (by decide +kernel), List.mem_of_getElem? (i := 713) (by decide +kernel)⟩
theorem lw_p31 : lw_okq (⟨"QueryTextModel", "readItem", "()V"⟩, 35) := ⟨⟨by decide +kernel, by decide +kernel⟩, List.mem_of_getElem? (i := 549) (by decide +kernel), List.mem_of_getElem? (i := 716) (by decide +kernel), List.mem_of_getElem? (i := 717) (by decide +kernel)⟩
def lw_privs_2 : List (MethodName × Nat) := [(⟨"QueryText$Scanner", "readEscape", "(I)I"⟩, 7), (⟨"QueryText$Parser", "canCompare", "(II)Z"⟩, 9), (⟨"QueryText$Parser", "readCompared", "(II)Z"⟩, 9), (⟨"QueryText$Parser", "closeTests", "()Z"⟩, 9), (⟨"QueryText$Parser", "join", "(II)Z"⟩, 9), (⟨"QueryText$Parser", "readBehindBy", "()Z"⟩, 9), (⟨"QueryTextModel", "takes", "(I)Z"⟩, 35), (⟨"QueryTextModel", "wordAt", "(I)I"⟩, 35), (⟨"QueryTextModel", "find", "(III)I"⟩, 35), (⟨"QueryTextModel", "takesWord", "(J)Z"⟩, 35), (⟨"QueryTextModel", "sees", "(J)Z"⟩, 35), (⟨"QueryTextModel", "blanks", "()V"⟩, 35), (⟨"QueryTextModel", "look", "()I"⟩, 35), (⟨"QueryTextModel", "wordOf", "(I)J"⟩, 35), (⟨"QueryTextModel", "fail", "(I)V"⟩, 35), (⟨"QueryTextModel", "readItem", "()V"⟩, 35)]
theorem lw_r2 : ∀ q ∈ lw_privs_2, lw_okq q := List.forall_mem_cons.mpr ⟨lw_p16, List.forall_mem_cons.mpr ⟨lw_p17, List.forall_mem_cons.mpr ⟨lw_p18, List.forall_mem_cons.mpr ⟨lw_p19, List.forall_mem_cons.mpr ⟨lw_p20, List.forall_mem_cons.mpr ⟨lw_p21, List.forall_mem_cons.mpr ⟨lw_p22, List.forall_mem_cons.mpr ⟨lw_p23, List.forall_mem_cons.mpr ⟨lw_p24, List.forall_mem_cons.mpr ⟨lw_p25, List.forall_mem_cons.mpr ⟨lw_p26, List.forall_mem_cons.mpr ⟨lw_p27, List.forall_mem_cons.mpr ⟨lw_p28, List.forall_mem_cons.mpr ⟨lw_p29, List.forall_mem_cons.mpr ⟨lw_p30, List.forall_mem_cons.mpr ⟨lw_p31, fun _ h => absurd h List.not_mem_nil⟩⟩⟩⟩⟩⟩⟩⟩⟩⟩⟩⟩⟩⟩⟩⟩
theorem lw_p32 : lw_okq (⟨"QueryTextModel", "path", "()I"⟩, 35) := ⟨⟨by decide +kernel, by decide +kernel⟩, List.mem_of_getElem? (i := 549) (by decide +kernel), List.mem_of_getElem? (i := 724) (by decide +kernel), List.mem_of_getElem? (i := 725) (by decide +kernel)⟩
theorem lw_p33 : lw_okq (⟨"QueryTextModel", "wantSign", "(I)V"⟩, 35) := ⟨⟨by decide +kernel, by decide +kernel⟩, List.mem_of_getElem? (i := 549) (by decide +kernel), List.mem_of_getElem? (i := 742) (by decide +kernel), List.mem_of_getElem? (i := 743) (by decide +kernel)⟩
theorem lw_p34 : lw_okq (⟨"QueryTextModel", "takesSign", "(I)Z"⟩, 35) := ⟨⟨by decide +kernel, by decide +kernel⟩, List.mem_of_getElem? (i := 549) (by decide +kernel), List.mem_of_getElem? (i := 746) (by decide +kernel), List.mem_of_getElem? (i := 747) (by decide +kernel)⟩
theorem lw_p35 : lw_okq (⟨"QueryTextModel", "column", "()I"⟩, 35) := ⟨⟨by decide +kernel, by decide +kernel⟩, List.mem_of_getElem? (i := 549) (by decide +kernel), List.mem_of_getElem? (i := 750) (by decide +kernel), List.mem_of_getElem? (i := 751) (by decide +kernel)⟩
theorem lw_p36 : lw_okq (⟨"QueryTextModel", "isFlat", "(I)Z"⟩, 35) := ⟨⟨by decide +kernel, by decide +kernel⟩, List.mem_of_getElem? (i := 549) (by decide +kernel), List.mem_of_getElem? (i := 754) (by decide +kernel), List.mem_of_getElem? (i := 755) (by decide +kernel)⟩
theorem lw_p37 : lw_okq (⟨"QueryTextModel", "readCondition", "()V"⟩, 35) := ⟨⟨by decide +kernel, by decide +kernel⟩, List.mem_of_getElem? (i := 549) (by decide +kernel), List.mem_of_getElem? (i := 761) (by decide +kernel), List.mem_of_getElem? (i := 762) (by decide +kernel)⟩
theorem lw_p38 : lw_okq (⟨"QueryTextModel", "readTest", "()V"⟩, 35) := ⟨⟨by decide +kernel, by decide +kernel⟩, List.mem_of_getElem? (i := 549) (by decide +kernel), List.mem_of_getElem? (i := 765) (by decide +kernel), List.mem_of_getElem? (i := 766) (by decide +kernel)⟩
theorem lw_p39 : lw_okq (⟨"QueryTextModel", "readAsked", "(I)V"⟩, 35) := ⟨⟨by decide +kernel, by decide +kernel⟩, List.mem_of_getElem? (i := 549) (by decide +kernel), List.mem_of_getElem? (i := 769) (by decide +kernel), List.mem_of_getElem? (i := 770) (by decide +kernel)⟩
theorem lw_p40 : lw_okq (⟨"QueryTextModel", "addStep", "(IIIIII)V"⟩, 35) := ⟨⟨by decide +kernel, by decide +kernel⟩, List.mem_of_getElem? (i := 549) (by decide +kernel), List.mem_of_getElem? (i := 773) (by decide +kernel), List.mem_of_getElem? (i := 774) (by decide +kernel)⟩
theorem lw_p41 : lw_okq (⟨"QueryTextModel", "readLiteral", "(I)V"⟩, 35) := ⟨⟨by decide +kernel, by decide +kernel⟩, List.mem_of_getElem? (i := 549) (by decide +kernel), List.mem_of_getElem? (i := 777) (by decide +kernel), List.mem_of_getElem? (i := 778) (by decide +kernel)⟩
theorem lw_p42 : lw_okq (⟨"QueryTextModel", "readText", "()V"⟩, 35) := ⟨⟨by decide +kernel, by decide +kernel⟩, List.mem_of_getElem? (i := 549) (by decide +kernel), List.mem_of_getElem? (i := 781) (by decide +kernel), List.mem_of_getElem? (i := 782) (by decide +kernel)⟩
theorem lw_p43 : lw_okq (⟨"QueryTextModel", "behind", "(I)I"⟩, 35) := ⟨⟨by decide +kernel, by decide +kernel⟩, List.mem_of_getElem? (i := 549) (by decide +kernel), List.mem_of_getElem? (i := 785) (by decide +kernel), List.mem_of_getElem? (i := 786) (by decide +kernel)⟩
theorem lw_p44 : lw_okq (⟨"QueryTextModel", "say", "(I)V"⟩, 35) := ⟨⟨by decide +kernel, by decide +kernel⟩, List.mem_of_getElem? (i := 549) (by decide +kernel), List.mem_of_getElem? (i := 789) (by decide +kernel), List.mem_of_getElem? (i := 790) (by decide +kernel)⟩
theorem lw_p45 : lw_okq (⟨"QueryTextModel", "readNumber", "()J"⟩, 35) := ⟨⟨by decide +kernel, by decide +kernel⟩, List.mem_of_getElem? (i := 549) (by decide +kernel), List.mem_of_getElem? (i := 793) (by decide +kernel), List.mem_of_getElem? (i := 794) (by decide +kernel)⟩
theorem lw_p46 : lw_okq (⟨"QueryTextModel", "operator", "()I"⟩, 35) := ⟨⟨by decide +kernel, by decide +kernel⟩, List.mem_of_getElem? (i := 549) (by decide +kernel), List.mem_of_getElem? (i := 799) (by decide +kernel), List.mem_of_getElem? (i := 800) (by decide +kernel)⟩
theorem lw_p47 : lw_okq (⟨"QueryTextModel", "push", "(II)V"⟩, 35) := ⟨⟨by decide +kernel, by decide +kernel⟩, List.mem_of_getElem? (i := 549) (by decide +kernel), List.mem_of_getElem? (i := 803) (by decide +kernel), List.mem_of_getElem? (i := 804) (by decide +kernel)⟩
def lw_privs_3 : List (MethodName × Nat) := [(⟨"QueryTextModel", "path", "()I"⟩, 35), (⟨"QueryTextModel", "wantSign", "(I)V"⟩, 35), (⟨"QueryTextModel", "takesSign", "(I)Z"⟩, 35), (⟨"QueryTextModel", "column", "()I"⟩, 35), (⟨"QueryTextModel", "isFlat", "(I)Z"⟩, 35), (⟨"QueryTextModel", "readCondition", "()V"⟩, 35), (⟨"QueryTextModel", "readTest", "()V"⟩, 35), (⟨"QueryTextModel", "readAsked", "(I)V"⟩, 35), (⟨"QueryTextModel", "addStep", "(IIIIII)V"⟩, 35), (⟨"QueryTextModel", "readLiteral", "(I)V"⟩, 35), (⟨"QueryTextModel", "readText", "()V"⟩, 35), (⟨"QueryTextModel", "behind", "(I)I"⟩, 35), (⟨"QueryTextModel", "say", "(I)V"⟩, 35), (⟨"QueryTextModel", "readNumber", "()J"⟩, 35), (⟨"QueryTextModel", "operator", "()I"⟩, 35), (⟨"QueryTextModel", "push", "(II)V"⟩, 35)]
theorem lw_r3 : ∀ q ∈ lw_privs_3, lw_okq q := List.forall_mem_cons.mpr ⟨lw_p32, List.forall_mem_cons.mpr ⟨lw_p33, List.forall_mem_cons.mpr ⟨lw_p34, List.forall_mem_cons.mpr ⟨lw_p35, List.forall_mem_cons.mpr ⟨lw_p36, List.forall_mem_cons.mpr ⟨lw_p37, List.forall_mem_cons.mpr ⟨lw_p38, List.forall_mem_cons.mpr ⟨lw_p39, List.forall_mem_cons.mpr ⟨lw_p40, List.forall_mem_cons.mpr ⟨lw_p41, List.forall_mem_cons.mpr ⟨lw_p42, List.forall_mem_cons.mpr ⟨lw_p43, List.forall_mem_cons.mpr ⟨lw_p44, List.forall_mem_cons.mpr ⟨lw_p45, List.forall_mem_cons.mpr ⟨lw_p46, List.forall_mem_cons.mpr ⟨lw_p47, fun _ h => absurd h List.not_mem_nil⟩⟩⟩⟩⟩⟩⟩⟩⟩⟩⟩⟩⟩⟩⟩⟩
theorem lw_p48 : lw_okq (⟨"QueryTextModel", "joins", "(I)V"⟩, 35) := ⟨⟨by decide +kernel, by decide +kernel⟩, List.mem_of_getElem? (i := 549) (by decide +kernel), List.mem_of_getElem? (i := 807) (by decide +kernel), List.mem_of_getElem? (i := 808) (by decide +kernel)⟩
theorem lw_p49 : lw_okq (⟨"QueryTextModel", "readBy", "()V"⟩, 35) := ⟨⟨by decide +kernel, by decide +kernel⟩, List.mem_of_getElem? (i := 549) (by decide +kernel), List.mem_of_getElem? (i := 811) (by decide +kernel), List.mem_of_getElem? (i := 812) (by decide +kernel)⟩
theorem lw_p50 : lw_okq (⟨"QueryTextModel", "isBy", "(I)Z"⟩, 35) := ⟨⟨by decide +kernel, by decide +kernel⟩, List.mem_of_getElem? (i := 549) (by decide +kernel), List.mem_of_getElem? (i := 815) (by decide +kernel), List.mem_of_getElem? (i := 816) (by decide +kernel)⟩
theorem lw_p51 : lw_okq (⟨"QueryTextModel", "collects", "(I)Z"⟩, 35) := ⟨⟨by decide +kernel, by decide +kernel⟩, List.mem_of_getElem? (i := 549) (by decide +kernel), List.mem_of_getElem? (i := 819) (by decide +kernel), List.mem_of_getElem? (i := 820) (by decide +kernel)⟩
theorem lw_p52 : lw_okq (⟨"QueryTextModel", "has", "(II)Z"⟩, 35) := ⟨⟨by decide +kernel, by decide +kernel⟩, List.mem_of_getElem? (i := 549) (by decide +kernel), List.mem_of_getElem? (i := 831) (by decide +kernel), List.mem_of_getElem? (i := 832) (by decide +kernel)⟩
theorem lw_p53 : lw_okq (⟨"QueryTextModel", "sizeOf", "(I)I"⟩, 35) := ⟨⟨by decide +kernel, by decide +kernel⟩, List.mem_of_getElem? (i := 549) (by decide +kernel), List.mem_of_getElem? (i := 855) (by decide +kernel), List.mem_of_getElem? (i := 856) (by decide +kernel)⟩
def lw_privs_4 : List (MethodName × Nat) := [(⟨"QueryTextModel", "joins", "(I)V"⟩, 35), (⟨"QueryTextModel", "readBy", "()V"⟩, 35), (⟨"QueryTextModel", "isBy", "(I)Z"⟩, 35), (⟨"QueryTextModel", "collects", "(I)Z"⟩, 35), (⟨"QueryTextModel", "has", "(II)Z"⟩, 35), (⟨"QueryTextModel", "sizeOf", "(I)I"⟩, 35)]
theorem lw_r4 : ∀ q ∈ lw_privs_4, lw_okq q := List.forall_mem_cons.mpr ⟨lw_p48, List.forall_mem_cons.mpr ⟨lw_p49, List.forall_mem_cons.mpr ⟨lw_p50, List.forall_mem_cons.mpr ⟨lw_p51, List.forall_mem_cons.mpr ⟨lw_p52, List.forall_mem_cons.mpr ⟨lw_p53, fun _ h => absurd h List.not_mem_nil⟩⟩⟩⟩⟩⟩
def lw_privs : List (MethodName × Nat) := lw_privs_1 ++ (lw_privs_2 ++ (lw_privs_3 ++ (lw_privs_4)))
def lw_tbl : List Cond := k2_sels lw_privs ++ tables_1
theorem lw_privs_ok : ∀ q ∈ lw_privs, lw_okq q := by
  show ∀ q ∈ lw_privs_1 ++ (lw_privs_2 ++ (lw_privs_3 ++ (lw_privs_4))), lw_okq q
  exact List.forall_mem_append.mpr ⟨lw_r1, List.forall_mem_append.mpr ⟨lw_r2, List.forall_mem_append.mpr ⟨lw_r3, lw_r4⟩⟩⟩
end
section
/-! ===== BEGIN words of one list among another's, by their places ===== -/
/-! ===== END ===== -/

/-! ===== BEGIN printed: names, fields, word lists, decode rows ===== -/
def RX0 : String := "QueryText$Parser"
def TX0 : u_T := fun k => match k with
  | 0 => ("QueryText$Parser", "schema", "LQueryText$Schema;", true)
  | 1 => ("QueryText$Parser", "scanner", "LQueryText$Scanner;", true)
  | 2 => ("QueryText$Parser", "draft", "LQueryText$Plan;", true)
  | 3 => ("QueryText$Parser", "itemPlaces", "[I", true)
  | 4 => ("QueryText$Parser", "waitingSigns", "[I", true)
  | 5 => ("QueryText$Parser", "waitingPlaces", "[I", true)
  | 6 => ("QueryText$Parser", "waiting", "I", false)
  | 7 => ("QueryText$Parser", "nested", "I", false)
  | _ => ("QueryText$Parser", "fault", "I", false)
def tyX0 : Nat → FieldType := fun k => match k with
  | 0 => .object "QueryText$Schema"
  | 1 => .object "QueryText$Scanner"
  | 2 => .object "QueryText$Plan"
  | 3 => .array .int
  | 4 => .array .int
  | 5 => .array .int
  | 6 => .int
  | 7 => .int
  | _ => .int
abbrev wsX00 : List Cond := u_ws RX0 TX0 9
theorem nmX0 : ∀ a, a < 9 → ∀ b, b < 9 → a ≠ b → (TX0 a).2.1 ≠ (TX0 b).2.1 := by decide +kernel
theorem tyX0_ok : ∀ k, k < 9 → parseFieldDescriptor (TX0 k).2.2.1 = some (tyX0 k) := by decide +kernel
abbrev cX0_init : ByteArray := prog_2_method_1_code
def yX0_init : MethodName := ⟨RX0, "<init>", "(LQueryText$Tape;LQueryText$Schema;)V"⟩
abbrev cX0_begin : ByteArray := prog_2_method_2_code
def yX0_begin : MethodName := ⟨RX0, "begin", "()V"⟩
abbrev cX0_refuse : ByteArray := prog_2_method_3_code
def yX0_refuse : MethodName := ⟨RX0, "refuse", "(I)Z"⟩
abbrev cX0_take : ByteArray := prog_2_method_4_code
def yX0_take : MethodName := ⟨RX0, "take", "(I)Z"⟩
abbrev cX0_readItems : ByteArray := prog_2_method_5_code
def yX0_readItems : MethodName := ⟨RX0, "readItems", "()Z"⟩
abbrev cX0_readItem : ByteArray := prog_2_method_6_code
def yX0_readItem : MethodName := ⟨RX0, "readItem", "()Z"⟩
abbrev cX0_isOfNumbers : ByteArray := prog_2_method_7_code
def yX0_isOfNumbers : MethodName := ⟨RX0, "isOfNumbers", "(I)Z"⟩
abbrev cX0_readPath : ByteArray := prog_2_method_8_code
def yX0_readPath : MethodName := ⟨RX0, "readPath", "()I"⟩
abbrev cX0_readWhere : ByteArray := prog_2_method_9_code
def yX0_readWhere : MethodName := ⟨RX0, "readWhere", "()Z"⟩
abbrev cX0_await : ByteArray := prog_2_method_10_code
def yX0_await : MethodName := ⟨RX0, "await", "()Z"⟩
abbrev cX0_openTests : ByteArray := prog_2_method_11_code
def yX0_openTests : MethodName := ⟨RX0, "openTests", "()Z"⟩
abbrev cX0_closeTests : ByteArray := prog_2_method_12_code
def yX0_closeTests : MethodName := ⟨RX0, "closeTests", "()Z"⟩
abbrev cX0_join : ByteArray := prog_2_method_13_code
def yX0_join : MethodName := ⟨RX0, "join", "(II)Z"⟩
abbrev cX0_readTest : ByteArray := prog_2_method_14_code
def yX0_readTest : MethodName := ⟨RX0, "readTest", "()Z"⟩
abbrev cX0_readIsNull : ByteArray := prog_2_method_15_code
def yX0_readIsNull : MethodName := ⟨RX0, "readIsNull", "(II)Z"⟩
abbrev cX0_readIn : ByteArray := prog_2_method_16_code
def yX0_readIn : MethodName := ⟨RX0, "readIn", "(II)Z"⟩
abbrev cX0_readCompared : ByteArray := prog_2_method_17_code
def yX0_readCompared : MethodName := ⟨RX0, "readCompared", "(II)Z"⟩
abbrev cX0_canCompare : ByteArray := prog_2_method_18_code
def yX0_canCompare : MethodName := ⟨RX0, "canCompare", "(II)Z"⟩
abbrev cX0_readLiteral : ByteArray := prog_2_method_19_code
def yX0_readLiteral : MethodName := ⟨RX0, "readLiteral", "(I)Z"⟩
abbrev cX0_readGroup : ByteArray := prog_2_method_20_code
def yX0_readGroup : MethodName := ⟨RX0, "readGroup", "()Z"⟩
abbrev cX0_readBehindBy : ByteArray := prog_2_method_21_code
def yX0_readBehindBy : MethodName := ⟨RX0, "readBehindBy", "()Z"⟩
abbrev cX0_checkItems : ByteArray := prog_2_method_22_code
def yX0_checkItems : MethodName := ⟨RX0, "checkItems", "()V"⟩
def RX1 : String := "QueryText$Plan"
def TX1 : u_T := fun k => match k with
  | 0 => ("QueryText$Plan", "items", "[I", true)
  | 1 => ("QueryText$Plan", "behindBy", "[I", true)
  | 2 => ("QueryText$Plan", "steps", "[I", true)
  | 3 => ("QueryText$Plan", "literalTypes", "[I", true)
  | 4 => ("QueryText$Plan", "numbers", "[J", true)
  | 5 => ("QueryText$Plan", "textStarts", "[I", true)
  | 6 => ("QueryText$Plan", "textLengths", "[I", true)
  | 7 => ("QueryText$Plan", "textBytes", "[I", true)
  | 8 => ("QueryText$Plan", "itemCount", "I", false)
  | 9 => ("QueryText$Plan", "byCount", "I", false)
  | 10 => ("QueryText$Plan", "stepCount", "I", false)
  | 11 => ("QueryText$Plan", "literalCount", "I", false)
  | _ => ("QueryText$Plan", "textEnd", "I", false)
def tyX1 : Nat → FieldType := fun k => match k with
  | 0 => .array .int
  | 1 => .array .int
  | 2 => .array .int
  | 3 => .array .int
  | 4 => .array .long
  | 5 => .array .int
  | 6 => .array .int
  | 7 => .array .int
  | 8 => .int
  | 9 => .int
  | 10 => .int
  | 11 => .int
  | _ => .int
abbrev wsX10 : List Cond := u_ws RX1 TX1 13
theorem nmX1 : ∀ a, a < 13 → ∀ b, b < 13 → a ≠ b → (TX1 a).2.1 ≠ (TX1 b).2.1 := by decide +kernel
theorem tyX1_ok : ∀ k, k < 13 → parseFieldDescriptor (TX1 k).2.2.1 = some (tyX1 k) := by decide +kernel
abbrev cX1_init : ByteArray := prog_3_method_1_code
def yX1_init : MethodName := ⟨RX1, "<init>", "()V"⟩
abbrev cX1_clear : ByteArray := prog_3_method_2_code
def yX1_clear : MethodName := ⟨RX1, "clear", "()V"⟩
abbrev cX1_copy : ByteArray := prog_3_method_3_code
def yX1_copy : MethodName := ⟨RX1, "copy", "(LQueryText$Plan;)V"⟩
abbrev cX1_addItem : ByteArray := prog_3_method_4_code
def yX1_addItem : MethodName := ⟨RX1, "addItem", "(II)Z"⟩
abbrev cX1_addBehindBy : ByteArray := prog_3_method_5_code
def yX1_addBehindBy : MethodName := ⟨RX1, "addBehindBy", "(I)Z"⟩
abbrev cX1_addStep : ByteArray := prog_3_method_6_code
def yX1_addStep : MethodName := ⟨RX1, "addStep", "(IIIII)Z"⟩
abbrev cX1_addTextByte : ByteArray := prog_3_method_7_code
def yX1_addTextByte : MethodName := ⟨RX1, "addTextByte", "(I)V"⟩
abbrev cX1_addLiteral : ByteArray := prog_3_method_8_code
def yX1_addLiteral : MethodName := ⟨RX1, "addLiteral", "(IJI)Z"⟩
abbrev cX1_isBehindBy : ByteArray := prog_3_method_9_code
def yX1_isBehindBy : MethodName := ⟨RX1, "isBehindBy", "(I)Z"⟩
abbrev cX1_collects : ByteArray := prog_3_method_10_code
def yX1_collects : MethodName := ⟨RX1, "collects", "()Z"⟩
abbrev cX1_hasLiteral : ByteArray := prog_3_method_11_code
def yX1_hasLiteral : MethodName := ⟨RX1, "hasLiteral", "(I)Z"⟩
abbrev cX1_hasText : ByteArray := prog_3_method_12_code
def yX1_hasText : MethodName := ⟨RX1, "hasText", "(I)Z"⟩
def RX2 : String := "QueryText$Scanner"
def TX2 : u_T := fun k => match k with
  | 0 => ("QueryText$Scanner", "tape", "LQueryText$Tape;", true)
  | 1 => ("QueryText$Scanner", "token", "I", false)
  | 2 => ("QueryText$Scanner", "start", "I", false)
  | 3 => ("QueryText$Scanner", "end", "I", false)
  | 4 => ("QueryText$Scanner", "numberRead", "J", false)
  | 5 => ("QueryText$Scanner", "escaped", "I", false)
  | _ => ("QueryText$Scanner", "bytesBehind", "I", false)
def tyX2 : Nat → FieldType := fun k => match k with
  | 0 => .object "QueryText$Tape"
  | 1 => .int
  | 2 => .int
  | 3 => .int
  | 4 => .long
  | 5 => .int
  | _ => .int
abbrev wsX20 : List Cond := u_ws RX2 TX2 7
theorem nmX2 : ∀ a, a < 7 → ∀ b, b < 7 → a ≠ b → (TX2 a).2.1 ≠ (TX2 b).2.1 := by decide +kernel
theorem tyX2_ok : ∀ k, k < 7 → parseFieldDescriptor (TX2 k).2.2.1 = some (tyX2 k) := by decide +kernel
abbrev cX2_init : ByteArray := prog_4_method_1_code
def yX2_init : MethodName := ⟨RX2, "<init>", "(LQueryText$Tape;)V"⟩
abbrev cX2_begin : ByteArray := prog_4_method_2_code
def yX2_begin : MethodName := ⟨RX2, "begin", "()V"⟩
abbrev cX2_advance : ByteArray := prog_4_method_3_code
def yX2_advance : MethodName := ⟨RX2, "advance", "()V"⟩
abbrev cX2_passDot : ByteArray := prog_4_method_4_code
def yX2_passDot : MethodName := ⟨RX2, "passDot", "()Z"⟩
abbrev cX2_isLetterBehind : ByteArray := prog_4_method_5_code
def yX2_isLetterBehind : MethodName := ⟨RX2, "isLetterBehind", "()Z"⟩
abbrev cX2_wordToken : ByteArray := prog_4_method_6_code
def yX2_wordToken : MethodName := ⟨RX2, "wordToken", "()I"⟩
abbrev cX2_signToken : ByteArray := prog_4_method_7_code
def yX2_signToken : MethodName := ⟨RX2, "signToken", "(I)I"⟩
abbrev cX2_orderToken : ByteArray := prog_4_method_8_code
def yX2_orderToken : MethodName := ⟨RX2, "orderToken", "(ZI)I"⟩
abbrev cX2_readNumber : ByteArray := prog_4_method_9_code
def yX2_readNumber : MethodName := ⟨RX2, "readNumber", "()I"⟩
abbrev cX2_readText : ByteArray := prog_4_method_10_code
def yX2_readText : MethodName := ⟨RX2, "readText", "(LQueryText$Plan;)I"⟩
abbrev cX2_readEscape : ByteArray := prog_4_method_11_code
def yX2_readEscape : MethodName := ⟨RX2, "readEscape", "(I)I"⟩
def RX3 : String := "QueryText$Schema"
def TX3 : u_T := fun k => match k with
  | 0 => ("QueryText$Schema", "tape", "LQueryText$Tape;", true)
  | 1 => ("QueryText$Schema", "names", "[I", true)
  | 2 => ("QueryText$Schema", "nameLengths", "[I", true)
  | 3 => ("QueryText$Schema", "groups", "[I", true)
  | 4 => ("QueryText$Schema", "types", "[I", true)
  | 5 => ("QueryText$Schema", "flat", "[Z", true)
  | _ => ("QueryText$Schema", "size", "I", false)
def tyX3 : Nat → FieldType := fun k => match k with
  | 0 => .object "QueryText$Tape"
  | 1 => .array .int
  | 2 => .array .int
  | 3 => .array .int
  | 4 => .array .int
  | 5 => .array .boolean
  | _ => .int
abbrev wsX30 : List Cond := u_ws RX3 TX3 7
theorem nmX3 : ∀ a, a < 7 → ∀ b, b < 7 → a ≠ b → (TX3 a).2.1 ≠ (TX3 b).2.1 := by decide +kernel
theorem tyX3_ok : ∀ k, k < 7 → parseFieldDescriptor (TX3 k).2.2.1 = some (tyX3 k) := by decide +kernel
abbrev cX3_init : ByteArray := prog_5_method_1_code
def yX3_init : MethodName := ⟨RX3, "<init>", "(LQueryText$Tape;)V"⟩
abbrev cX3_add : ByteArray := prog_5_method_2_code
def yX3_add : MethodName := ⟨RX3, "add", "(III)I"⟩
abbrev cX3_isName : ByteArray := prog_5_method_3_code
def yX3_isName : MethodName := ⟨RX3, "isName", "()Z"⟩
abbrev cX3_find : ByteArray := prog_5_method_4_code
def yX3_find : MethodName := ⟨RX3, "find", "(III)I"⟩
abbrev cX3_bearsName : ByteArray := prog_5_method_5_code
def yX3_bearsName : MethodName := ⟨RX3, "bearsName", "(II)Z"⟩
abbrev cX3_typeOf : ByteArray := prog_5_method_6_code
def yX3_typeOf : MethodName := ⟨RX3, "typeOf", "(I)I"⟩
abbrev cX3_isFlatValue : ByteArray := prog_5_method_7_code
def yX3_isFlatValue : MethodName := ⟨RX3, "isFlatValue", "(I)Z"⟩
def RX4 : String := "QueryText$Tape"
def TX4 : u_T := fun k => match k with
  | 0 => ("QueryText$Tape", "bytes", "[I", true)
  | _ => ("QueryText$Tape", "size", "I", false)
def tyX4 : Nat → FieldType := fun k => match k with
  | 0 => .array .int
  | _ => .int
abbrev wsX40 : List Cond := u_ws RX4 TX4 2
theorem nmX4 : ∀ a, a < 2 → ∀ b, b < 2 → a ≠ b → (TX4 a).2.1 ≠ (TX4 b).2.1 := by decide +kernel
theorem tyX4_ok : ∀ k, k < 2 → parseFieldDescriptor (TX4 k).2.2.1 = some (tyX4 k) := by decide +kernel
abbrev cX4_init : ByteArray := prog_6_method_1_code
def yX4_init : MethodName := ⟨RX4, "<init>", "()V"⟩
abbrev cX4_hasRoom : ByteArray := prog_6_method_2_code
def yX4_hasRoom : MethodName := ⟨RX4, "hasRoom", "()Z"⟩
abbrev cX4_put : ByteArray := prog_6_method_3_code
def yX4_put : MethodName := ⟨RX4, "put", "(I)V"⟩
abbrev cX4_cut : ByteArray := prog_6_method_4_code
def yX4_cut : MethodName := ⟨RX4, "cut", "(I)Z"⟩
abbrev cX4_clear : ByteArray := prog_6_method_5_code
def yX4_clear : MethodName := ⟨RX4, "clear", "()V"⟩
abbrev cX4_at : ByteArray := prog_6_method_6_code
def yX4_at : MethodName := ⟨RX4, "at", "(I)I"⟩
def RX5 : String := "QueryText"
def TX5 : u_T := fun k => match k with
  | 0 => ("QueryText", "tape", "LQueryText$Tape;", true)
  | 1 => ("QueryText", "schema", "LQueryText$Schema;", true)
  | 2 => ("QueryText", "parser", "LQueryText$Parser;", true)
  | _ => ("QueryText", "plan", "LQueryText$Plan;", true)
def tyX5 : Nat → FieldType := fun k => match k with
  | 0 => .object "QueryText$Tape"
  | 1 => .object "QueryText$Schema"
  | 2 => .object "QueryText$Parser"
  | _ => .object "QueryText$Plan"
abbrev wsX50 : List Cond := u_ws RX5 TX5 4
theorem nmX5 : ∀ a, a < 4 → ∀ b, b < 4 → a ≠ b → (TX5 a).2.1 ≠ (TX5 b).2.1 := by decide +kernel
theorem tyX5_ok : ∀ k, k < 4 → parseFieldDescriptor (TX5 k).2.2.1 = some (tyX5 k) := by decide +kernel
abbrev cX5_init : ByteArray := prog_1_method_1_code
def yX5_init : MethodName := ⟨RX5, "<init>", "()V"⟩
abbrev cX5_feed : ByteArray := prog_1_method_2_code
def yX5_feed : MethodName := ⟨RX5, "feed", "(IIIII)Z"⟩
abbrev cX5_field : ByteArray := prog_1_method_3_code
def yX5_field : MethodName := ⟨RX5, "field", "(IIII)I"⟩
abbrev cX5_query : ByteArray := prog_1_method_4_code
def yX5_query : MethodName := ⟨RX5, "query", "(I)I"⟩
abbrev cX5_count : ByteArray := prog_1_method_5_code
def yX5_count : MethodName := ⟨RX5, "count", "(I)I"⟩
abbrev cX5_item : ByteArray := prog_1_method_6_code
def yX5_item : MethodName := ⟨RX5, "item", "(II)I"⟩
abbrev cX5_by : ByteArray := prog_1_method_7_code
def yX5_by : MethodName := ⟨RX5, "by", "(I)I"⟩
abbrev cX5_step : ByteArray := prog_1_method_8_code
def yX5_step : MethodName := ⟨RX5, "step", "(II)I"⟩
abbrev cX5_literal : ByteArray := prog_1_method_9_code
def yX5_literal : MethodName := ⟨RX5, "literal", "(I)I"⟩
abbrev cX5_number : ByteArray := prog_1_method_10_code
def yX5_number : MethodName := ⟨RX5, "number", "(I)J"⟩
abbrev cX5_length : ByteArray := prog_1_method_11_code
def yX5_length : MethodName := ⟨RX5, "length", "(I)I"⟩
abbrev cX5_byteOf : ByteArray := prog_1_method_12_code
def yX5_byteOf : MethodName := ⟨RX5, "byteOf", "(II)I"⟩
abbrev cX5_isLetter : ByteArray := prog_1_method_13_code
def yX5_isLetter : MethodName := ⟨RX5, "isLetter", "(I)Z"⟩
abbrev cX5_isDigit : ByteArray := prog_1_method_14_code
def yX5_isDigit : MethodName := ⟨RX5, "isDigit", "(I)Z"⟩
abbrev cX5_isWordByte : ByteArray := prog_1_method_15_code
def yX5_isWordByte : MethodName := ⟨RX5, "isWordByte", "(I)Z"⟩
abbrev cX5_isBlank : ByteArray := prog_1_method_16_code
def yX5_isBlank : MethodName := ⟨RX5, "isBlank", "(I)Z"⟩
abbrev cX5_hexValue : ByteArray := prog_1_method_17_code
def yX5_hexValue : MethodName := ⟨RX5, "hexValue", "(I)I"⟩
def RX6 : String := "QueryTextModel"
def TX6 : u_T := fun k => match k with
  | 0 => ("QueryTextModel", "code", "I", false)
  | 1 => ("QueryTextModel", "tape", "[I", true)
  | 2 => ("QueryTextModel", "text", "[I", true)
  | 3 => ("QueryTextModel", "taped", "I", false)
  | 4 => ("QueryTextModel", "size", "I", false)
  | 5 => ("QueryTextModel", "at", "I", false)
  | 6 => ("QueryTextModel", "ill", "I", false)
  | 7 => ("QueryTextModel", "in", "[I", true)
  | 8 => ("QueryTextModel", "kind", "[I", true)
  | 9 => ("QueryTextModel", "type", "[I", true)
  | 10 => ("QueryTextModel", "long1", "[I", true)
  | 11 => ("QueryTextModel", "letters", "[I", true)
  | 12 => ("QueryTextModel", "fields", "I", false)
  | 13 => ("QueryTextModel", "kept", "I", false)
  | 14 => ("QueryTextModel", "now", "I", false)
  | 15 => ("QueryTextModel", "many", "[I", true)
  | 16 => ("QueryTextModel", "itemKind", "[I", true)
  | 17 => ("QueryTextModel", "itemField", "[I", true)
  | 18 => ("QueryTextModel", "itemPlace", "[I", true)
  | 19 => ("QueryTextModel", "by", "[I", true)
  | 20 => ("QueryTextModel", "stepKind", "[I", true)
  | 21 => ("QueryTextModel", "stepField", "[I", true)
  | 22 => ("QueryTextModel", "stepOperator", "[I", true)
  | 23 => ("QueryTextModel", "stepOther", "[I", true)
  | 24 => ("QueryTextModel", "stepMany", "[I", true)
  | 25 => ("QueryTextModel", "literalType", "[I", true)
  | 26 => ("QueryTextModel", "literalFrom", "[I", true)
  | 27 => ("QueryTextModel", "literalSize", "[I", true)
  | 28 => ("QueryTextModel", "bytes", "[I", true)
  | 29 => ("QueryTextModel", "said", "[I", true)
  | 30 => ("QueryTextModel", "number", "[J", true)
  | 31 => ("QueryTextModel", "pile", "[I", true)
  | 32 => ("QueryTextModel", "pilePlace", "[I", true)
  | 33 => ("QueryTextModel", "top", "I", false)
  | _ => ("QueryTextModel", "open", "I", false)
def tyX6 : Nat → FieldType := fun k => match k with
  | 0 => .int
  | 1 => .array .int
  | 2 => .array .int
  | 3 => .int
  | 4 => .int
  | 5 => .int
  | 6 => .int
  | 7 => .array .int
  | 8 => .array .int
  | 9 => .array .int
  | 10 => .array .int
  | 11 => .array .int
  | 12 => .int
  | 13 => .int
  | 14 => .int
  | 15 => .array .int
  | 16 => .array .int
  | 17 => .array .int
  | 18 => .array .int
  | 19 => .array .int
  | 20 => .array .int
  | 21 => .array .int
  | 22 => .array .int
  | 23 => .array .int
  | 24 => .array .int
  | 25 => .array .int
  | 26 => .array .int
  | 27 => .array .int
  | 28 => .array .int
  | 29 => .array .int
  | 30 => .array .long
  | 31 => .array .int
  | 32 => .array .int
  | 33 => .int
  | _ => .int
abbrev wsX60 : List Cond := u_ws RX6 TX6 35
theorem nmX6 : ∀ a, a < 35 → ∀ b, b < 35 → a ≠ b → (TX6 a).2.1 ≠ (TX6 b).2.1 := by decide +kernel
theorem tyX6_ok : ∀ k, k < 35 → parseFieldDescriptor (TX6 k).2.2.1 = some (tyX6 k) := by decide +kernel
abbrev cX6_init : ByteArray := prog_8_method_1_code
def yX6_init : MethodName := ⟨RX6, "<init>", "()V"⟩
abbrev cX6_feed : ByteArray := prog_8_method_3_code
def yX6_feed : MethodName := ⟨RX6, "feed", "(IIIII)Z"⟩
abbrev cX6_takes : ByteArray := prog_8_method_4_code
def yX6_takes : MethodName := ⟨RX6, "takes", "(I)Z"⟩
abbrev cX6_isLetter : ByteArray := prog_8_method_5_code
def yX6_isLetter : MethodName := ⟨RX6, "isLetter", "(I)Z"⟩
abbrev cX6_isDigit : ByteArray := prog_8_method_6_code
def yX6_isDigit : MethodName := ⟨RX6, "isDigit", "(I)Z"⟩
abbrev cX6_wordAt : ByteArray := prog_8_method_7_code
def yX6_wordAt : MethodName := ⟨RX6, "wordAt", "(I)I"⟩
abbrev cX6_find : ByteArray := prog_8_method_8_code
def yX6_find : MethodName := ⟨RX6, "find", "(III)I"⟩
abbrev cX6_field : ByteArray := prog_8_method_9_code
def yX6_field : MethodName := ⟨RX6, "field", "(IIII)I"⟩
abbrev cX6_fail : ByteArray := prog_8_method_10_code
def yX6_fail : MethodName := ⟨RX6, "fail", "(I)V"⟩
abbrev cX6_look : ByteArray := prog_8_method_11_code
def yX6_look : MethodName := ⟨RX6, "look", "()I"⟩
abbrev cX6_blanks : ByteArray := prog_8_method_12_code
def yX6_blanks : MethodName := ⟨RX6, "blanks", "()V"⟩
abbrev cX6_wordOf : ByteArray := prog_8_method_13_code
def yX6_wordOf : MethodName := ⟨RX6, "wordOf", "(I)J"⟩
abbrev cX6_sees : ByteArray := prog_8_method_14_code
def yX6_sees : MethodName := ⟨RX6, "sees", "(J)Z"⟩
abbrev cX6_takesWord : ByteArray := prog_8_method_15_code
def yX6_takesWord : MethodName := ⟨RX6, "takesWord", "(J)Z"⟩
abbrev cX6_takesSign : ByteArray := prog_8_method_16_code
def yX6_takesSign : MethodName := ⟨RX6, "takesSign", "(I)Z"⟩
abbrev cX6_wantSign : ByteArray := prog_8_method_17_code
def yX6_wantSign : MethodName := ⟨RX6, "wantSign", "(I)V"⟩
abbrev cX6_isKept : ByteArray := prog_8_method_18_code
def yX6_isKept : MethodName := ⟨RX6, "isKept", "(J)Z"⟩
abbrev cX6_path : ByteArray := prog_8_method_19_code
def yX6_path : MethodName := ⟨RX6, "path", "()I"⟩
abbrev cX6_isFlat : ByteArray := prog_8_method_20_code
def yX6_isFlat : MethodName := ⟨RX6, "isFlat", "(I)Z"⟩
abbrev cX6_column : ByteArray := prog_8_method_21_code
def yX6_column : MethodName := ⟨RX6, "column", "()I"⟩
abbrev cX6_isWhole : ByteArray := prog_8_method_22_code
def yX6_isWhole : MethodName := ⟨RX6, "isWhole", "(I)Z"⟩
abbrev cX6_readItem : ByteArray := prog_8_method_23_code
def yX6_readItem : MethodName := ⟨RX6, "readItem", "()V"⟩
abbrev cX6_isBy : ByteArray := prog_8_method_24_code
def yX6_isBy : MethodName := ⟨RX6, "isBy", "(I)Z"⟩
abbrev cX6_readBy : ByteArray := prog_8_method_25_code
def yX6_readBy : MethodName := ⟨RX6, "readBy", "()V"⟩
abbrev cX6_addStep : ByteArray := prog_8_method_26_code
def yX6_addStep : MethodName := ⟨RX6, "addStep", "(IIIIII)V"⟩
abbrev cX6_push : ByteArray := prog_8_method_27_code
def yX6_push : MethodName := ⟨RX6, "push", "(II)V"⟩
abbrev cX6_joins : ByteArray := prog_8_method_28_code
def yX6_joins : MethodName := ⟨RX6, "joins", "(I)V"⟩
abbrev cX6_readTest : ByteArray := prog_8_method_29_code
def yX6_readTest : MethodName := ⟨RX6, "readTest", "()V"⟩
abbrev cX6_readCondition : ByteArray := prog_8_method_30_code
def yX6_readCondition : MethodName := ⟨RX6, "readCondition", "()V"⟩
abbrev cX6_readAsked : ByteArray := prog_8_method_31_code
def yX6_readAsked : MethodName := ⟨RX6, "readAsked", "(I)V"⟩
abbrev cX6_operator : ByteArray := prog_8_method_32_code
def yX6_operator : MethodName := ⟨RX6, "operator", "()I"⟩
abbrev cX6_readLiteral : ByteArray := prog_8_method_33_code
def yX6_readLiteral : MethodName := ⟨RX6, "readLiteral", "(I)V"⟩
abbrev cX6_readNumber : ByteArray := prog_8_method_34_code
def yX6_readNumber : MethodName := ⟨RX6, "readNumber", "()J"⟩
abbrev cX6_say : ByteArray := prog_8_method_35_code
def yX6_say : MethodName := ⟨RX6, "say", "(I)V"⟩
abbrev cX6_readText : ByteArray := prog_8_method_36_code
def yX6_readText : MethodName := ⟨RX6, "readText", "()V"⟩
abbrev cX6_behind : ByteArray := prog_8_method_37_code
def yX6_behind : MethodName := ⟨RX6, "behind", "(I)I"⟩
abbrev cX6_collects : ByteArray := prog_8_method_38_code
def yX6_collects : MethodName := ⟨RX6, "collects", "(I)Z"⟩
abbrev cX6_query : ByteArray := prog_8_method_39_code
def yX6_query : MethodName := ⟨RX6, "query", "(I)I"⟩
abbrev cX6_count : ByteArray := prog_8_method_40_code
def yX6_count : MethodName := ⟨RX6, "count", "(I)I"⟩
abbrev cX6_has : ByteArray := prog_8_method_41_code
def yX6_has : MethodName := ⟨RX6, "has", "(II)Z"⟩
abbrev cX6_item : ByteArray := prog_8_method_42_code
def yX6_item : MethodName := ⟨RX6, "item", "(II)I"⟩
abbrev cX6_by : ByteArray := prog_8_method_43_code
def yX6_by : MethodName := ⟨RX6, "by", "(I)I"⟩
abbrev cX6_step : ByteArray := prog_8_method_44_code
def yX6_step : MethodName := ⟨RX6, "step", "(II)I"⟩
abbrev cX6_literal : ByteArray := prog_8_method_45_code
def yX6_literal : MethodName := ⟨RX6, "literal", "(I)I"⟩
abbrev cX6_number : ByteArray := prog_8_method_46_code
def yX6_number : MethodName := ⟨RX6, "number", "(I)J"⟩
abbrev cX6_sizeOf : ByteArray := prog_8_method_47_code
def yX6_sizeOf : MethodName := ⟨RX6, "sizeOf", "(I)I"⟩
abbrev cX6_length : ByteArray := prog_8_method_48_code
def yX6_length : MethodName := ⟨RX6, "length", "(I)I"⟩
abbrev cX6_byteOf : ByteArray := prog_8_method_49_code
def yX6_byteOf : MethodName := ⟨RX6, "byteOf", "(II)I"⟩
def RJ0 : String := "java/lang/String"
def TJ0 : u_T := fun k => match k with
  | _ => ("", "", "", false)
def tyJ0 : Nat → FieldType := fun k => match k with
  | _ => .int
abbrev wsJ00 : List Cond := u_ws RJ0 TJ0 0
theorem nmJ0 : ∀ a, a < 0 → ∀ b, b < 0 → a ≠ b → (TJ0 a).2.1 ≠ (TJ0 b).2.1 := by decide +kernel
theorem tyJ0_ok : ∀ k, k < 0 → parseFieldDescriptor (TJ0 k).2.2.1 = some (tyJ0 k) := by decide +kernel
abbrev cJ0_length_8abf5 : ByteArray := prog_9_method_54_code
def yJ0_length_8abf5 : MethodName := ⟨RJ0, "length", "()I"⟩
abbrev cJ0_charAt_5068e : ByteArray := prog_9_method_56_code
def yJ0_charAt_5068e : MethodName := ⟨RJ0, "charAt", "(I)C"⟩
abbrev cJ0_coder_7d493 : ByteArray := prog_9_method_152_code
def yJ0_coder_7d493 : MethodName := ⟨RJ0, "coder", "()B"⟩
abbrev cJ0_isLatin1_aae02 : ByteArray := prog_9_method_154_code
def yJ0_isLatin1_aae02 : MethodName := ⟨RJ0, "isLatin1", "()Z"⟩
abbrev cJ0_checkIndex_df160 : ByteArray := prog_9_method_155_code
def yJ0_checkIndex_df160 : MethodName := ⟨RJ0, "checkIndex", "(II)V"⟩
def RJ1 : String := "java/lang/StringLatin1"
def TJ1 : u_T := fun k => match k with
  | _ => ("", "", "", false)
def tyJ1 : Nat → FieldType := fun k => match k with
  | _ => .int
abbrev wsJ10 : List Cond := u_ws RJ1 TJ1 0
theorem nmJ1 : ∀ a, a < 0 → ∀ b, b < 0 → a ≠ b → (TJ1 a).2.1 ≠ (TJ1 b).2.1 := by decide +kernel
theorem tyJ1_ok : ∀ k, k < 0 → parseFieldDescriptor (TJ1 k).2.2.1 = some (tyJ1 k) := by decide +kernel
abbrev cJ1_charAt_3b067 : ByteArray := prog_10_method_2_code
def yJ1_charAt_3b067 : MethodName := ⟨RJ1, "charAt", "([BI)C"⟩
def RJ2 : String := "java/lang/StringUTF16"
def TJ2 : u_T := fun k => match k with
  | _ => ("", "", "", false)
def tyJ2 : Nat → FieldType := fun k => match k with
  | _ => .int
abbrev wsJ20 : List Cond := u_ws RJ2 TJ2 0
theorem nmJ2 : ∀ a, a < 0 → ∀ b, b < 0 → a ≠ b → (TJ2 a).2.1 ≠ (TJ2 b).2.1 := by decide +kernel
theorem tyJ2_ok : ∀ k, k < 0 → parseFieldDescriptor (TJ2 k).2.2.1 = some (tyJ2 k) := by decide +kernel
abbrev cJ2_getChar_3b067 : ByteArray := prog_11_method_5_code
def yJ2_getChar_3b067 : MethodName := ⟨RJ2, "getChar", "([BI)C"⟩
abbrev cJ2_length_9d52b : ByteArray := prog_11_method_6_code
def yJ2_length_9d52b : MethodName := ⟨RJ2, "length", "([B)I"⟩
abbrev cJ2_charAt_3b067 : ByteArray := prog_11_method_83_code
def yJ2_charAt_3b067 : MethodName := ⟨RJ2, "charAt", "([BI)C"⟩
abbrev cJ2_checkIndex_2214a : ByteArray := prog_11_method_91_code
def yJ2_checkIndex_2214a : MethodName := ⟨RJ2, "checkIndex", "(I[B)V"⟩
def RJ10 : String := "java/lang/System"
def TJ10 : u_T := fun k => match k with
  | _ => ("", "", "", false)
def tyJ10 : Nat → FieldType := fun k => match k with
  | _ => .int
abbrev wsJ100 : List Cond := u_ws RJ10 TJ10 0
theorem nmJ10 : ∀ a, a < 0 → ∀ b, b < 0 → a ≠ b → (TJ10 a).2.1 ≠ (TJ10 b).2.1 := by decide +kernel
theorem tyJ10_ok : ∀ k, k < 0 → parseFieldDescriptor (TJ10 k).2.2.1 = some (tyJ10 k) := by decide +kernel
def RJ3 : String := "jdk/internal/util/Preconditions"
def TJ3 : u_T := fun k => match k with
  | _ => ("", "", "", false)
def tyJ3 : Nat → FieldType := fun k => match k with
  | _ => .int
abbrev wsJ30 : List Cond := u_ws RJ3 TJ3 0
theorem nmJ3 : ∀ a, a < 0 → ∀ b, b < 0 → a ≠ b → (TJ3 a).2.1 ≠ (TJ3 b).2.1 := by decide +kernel
theorem tyJ3_ok : ∀ k, k < 0 → parseFieldDescriptor (TJ3 k).2.2.1 = some (tyJ3 k) := by decide +kernel
abbrev cJ3_checkIndex_8e157 : ByteArray := prog_13_method_11_code
def yJ3_checkIndex_8e157 : MethodName := ⟨RJ3, "checkIndex", "(IILjava/util/function/BiFunction;)I"⟩
def RL : String := "QueryTextLaw"
abbrev cL_law : ByteArray := code
def yL_law : MethodName := ⟨RL, "law", "([I)Z"⟩
theorem dX0_init_0 : decode cX0_init 0 = .ok (.aload_n 0, 1) := by decide +kernel
theorem dX0_init_1 : decode cX0_init 1 = .ok (.invokespecial 3, 3) := by decide +kernel
theorem dX0_init_4 : decode cX0_init 4 = .ok (.aload_n 0, 1) := by decide +kernel
theorem dX0_init_5 : decode cX0_init 5 = .ok (.new 9, 3) := by decide +kernel
theorem dX0_init_8 : decode cX0_init 8 = .ok (.dup, 1) := by decide +kernel
theorem dX0_init_9 : decode cX0_init 9 = .ok (.invokespecial 11, 3) := by decide +kernel
theorem dX0_init_12 : decode cX0_init 12 = .ok (.putfield 12, 3) := by decide +kernel
theorem dX0_init_15 : decode cX0_init 15 = .ok (.aload_n 0, 1) := by decide +kernel
theorem dX0_init_16 : decode cX0_init 16 = .ok (.bipush 16, 2) := by decide +kernel
theorem dX0_init_18 : decode cX0_init 18 = .ok (.newarray .int, 2) := by decide +kernel
theorem dX0_init_20 : decode cX0_init 20 = .ok (.putfield 18, 3) := by decide +kernel
theorem dX0_init_23 : decode cX0_init 23 = .ok (.aload_n 0, 1) := by decide +kernel
theorem dX0_init_24 : decode cX0_init 24 = .ok (.bipush 98, 2) := by decide +kernel
theorem dX0_init_26 : decode cX0_init 26 = .ok (.newarray .int, 2) := by decide +kernel
theorem dX0_init_28 : decode cX0_init 28 = .ok (.putfield 22, 3) := by decide +kernel
theorem dX0_init_31 : decode cX0_init 31 = .ok (.aload_n 0, 1) := by decide +kernel
theorem dX0_init_32 : decode cX0_init 32 = .ok (.bipush 98, 2) := by decide +kernel
theorem dX0_init_34 : decode cX0_init 34 = .ok (.newarray .int, 2) := by decide +kernel
theorem dX0_init_36 : decode cX0_init 36 = .ok (.putfield 25, 3) := by decide +kernel
theorem dX0_init_39 : decode cX0_init 39 = .ok (.aload_n 0, 1) := by decide +kernel
theorem dX0_init_40 : decode cX0_init 40 = .ok (.aload_n 2, 1) := by decide +kernel
theorem dX0_init_41 : decode cX0_init 41 = .ok (.putfield 28, 3) := by decide +kernel
theorem dX0_init_44 : decode cX0_init 44 = .ok (.aload_n 0, 1) := by decide +kernel
theorem dX0_init_45 : decode cX0_init 45 = .ok (.new 32, 3) := by decide +kernel
theorem dX0_init_48 : decode cX0_init 48 = .ok (.dup, 1) := by decide +kernel
theorem dX0_init_49 : decode cX0_init 49 = .ok (.aload_n 1, 1) := by decide +kernel
theorem dX0_init_50 : decode cX0_init 50 = .ok (.invokespecial 34, 3) := by decide +kernel
theorem dX0_init_53 : decode cX0_init 53 = .ok (.putfield 37, 3) := by decide +kernel
theorem dX0_init_56 : decode cX0_init 56 = .ok (.return_, 1) := by decide +kernel
theorem dX0_begin_0 : decode cX0_begin 0 = .ok (.aload_n 0, 1) := by decide +kernel
theorem dX0_begin_1 : decode cX0_begin 1 = .ok (.iconst (-1), 1) := by decide +kernel
theorem dX0_begin_2 : decode cX0_begin 2 = .ok (.putfield 41, 3) := by decide +kernel
theorem dX0_begin_5 : decode cX0_begin 5 = .ok (.aload_n 0, 1) := by decide +kernel
theorem dX0_begin_6 : decode cX0_begin 6 = .ok (.getfield 12, 3) := by decide +kernel
theorem dX0_begin_9 : decode cX0_begin 9 = .ok (.invokevirtual 45, 3) := by decide +kernel
theorem dX0_begin_12 : decode cX0_begin 12 = .ok (.aload_n 0, 1) := by decide +kernel
theorem dX0_begin_13 : decode cX0_begin 13 = .ok (.getfield 37, 3) := by decide +kernel
theorem dX0_begin_16 : decode cX0_begin 16 = .ok (.invokevirtual 48, 3) := by decide +kernel
theorem dX0_begin_19 : decode cX0_begin 19 = .ok (.return_, 1) := by decide +kernel
theorem dX0_refuse_0 : decode cX0_refuse 0 = .ok (.aload_n 0, 1) := by decide +kernel
theorem dX0_refuse_1 : decode cX0_refuse 1 = .ok (.getfield 41, 3) := by decide +kernel
theorem dX0_refuse_4 : decode cX0_refuse 4 = .ok (.iconst (-1), 1) := by decide +kernel
theorem dX0_refuse_5 : decode cX0_refuse 5 = .ok (.if_icmp .ne 8, 3) := by decide +kernel
theorem dX0_refuse_8 : decode cX0_refuse 8 = .ok (.aload_n 0, 1) := by decide +kernel
theorem dX0_refuse_9 : decode cX0_refuse 9 = .ok (.iload_n 1, 1) := by decide +kernel
theorem dX0_refuse_10 : decode cX0_refuse 10 = .ok (.putfield 41, 3) := by decide +kernel
theorem dX0_refuse_13 : decode cX0_refuse 13 = .ok (.iconst 0, 1) := by decide +kernel
theorem dX0_refuse_14 : decode cX0_refuse 14 = .ok (.ireturn, 1) := by decide +kernel
theorem dX0_take_0 : decode cX0_take 0 = .ok (.aload_n 0, 1) := by decide +kernel
theorem dX0_take_1 : decode cX0_take 1 = .ok (.getfield 37, 3) := by decide +kernel
theorem dX0_take_4 : decode cX0_take 4 = .ok (.getfield 51, 3) := by decide +kernel
theorem dX0_take_7 : decode cX0_take 7 = .ok (.iload_n 1, 1) := by decide +kernel
theorem dX0_take_8 : decode cX0_take 8 = .ok (.if_icmp .eq 15, 3) := by decide +kernel
theorem dX0_take_11 : decode cX0_take 11 = .ok (.aload_n 0, 1) := by decide +kernel
theorem dX0_take_12 : decode cX0_take 12 = .ok (.aload_n 0, 1) := by decide +kernel
theorem dX0_take_13 : decode cX0_take 13 = .ok (.getfield 37, 3) := by decide +kernel
theorem dX0_take_16 : decode cX0_take 16 = .ok (.getfield 54, 3) := by decide +kernel
theorem dX0_take_19 : decode cX0_take 19 = .ok (.invokevirtual 57, 3) := by decide +kernel
theorem dX0_take_22 : decode cX0_take 22 = .ok (.ireturn, 1) := by decide +kernel
theorem dX0_take_23 : decode cX0_take 23 = .ok (.aload_n 0, 1) := by decide +kernel
theorem dX0_take_24 : decode cX0_take 24 = .ok (.getfield 37, 3) := by decide +kernel
theorem dX0_take_27 : decode cX0_take 27 = .ok (.invokevirtual 61, 3) := by decide +kernel
theorem dX0_take_30 : decode cX0_take 30 = .ok (.iconst 1, 1) := by decide +kernel
theorem dX0_take_31 : decode cX0_take 31 = .ok (.ireturn, 1) := by decide +kernel
theorem dX0_readItems_0 : decode cX0_readItems 0 = .ok (.aload_n 0, 1) := by decide +kernel
theorem dX0_readItems_1 : decode cX0_readItems 1 = .ok (.iconst 0, 1) := by decide +kernel
theorem dX0_readItems_2 : decode cX0_readItems 2 = .ok (.invokevirtual 64, 3) := by decide +kernel
theorem dX0_readItems_5 : decode cX0_readItems 5 = .ok (.ifCond .ne 5, 3) := by decide +kernel
theorem dX0_readItems_8 : decode cX0_readItems 8 = .ok (.iconst 0, 1) := by decide +kernel
theorem dX0_readItems_9 : decode cX0_readItems 9 = .ok (.ireturn, 1) := by decide +kernel
theorem dX0_readItems_10 : decode cX0_readItems 10 = .ok (.iconst 0, 1) := by decide +kernel
theorem dX0_readItems_11 : decode cX0_readItems 11 = .ok (.istore_n 1, 1) := by decide +kernel
theorem dX0_readItems_12 : decode cX0_readItems 12 = .ok (.iload_n 1, 1) := by decide +kernel
theorem dX0_readItems_13 : decode cX0_readItems 13 = .ok (.bipush 16, 2) := by decide +kernel
theorem dX0_readItems_15 : decode cX0_readItems 15 = .ok (.if_icmp .ge 52, 3) := by decide +kernel
theorem dX0_readItems_18 : decode cX0_readItems 18 = .ok (.aload_n 0, 1) := by decide +kernel
theorem dX0_readItems_19 : decode cX0_readItems 19 = .ok (.getfield 18, 3) := by decide +kernel
theorem dX0_readItems_22 : decode cX0_readItems 22 = .ok (.iload_n 1, 1) := by decide +kernel
theorem dX0_readItems_23 : decode cX0_readItems 23 = .ok (.aload_n 0, 1) := by decide +kernel
theorem dX0_readItems_24 : decode cX0_readItems 24 = .ok (.getfield 37, 3) := by decide +kernel
theorem dX0_readItems_27 : decode cX0_readItems 27 = .ok (.getfield 54, 3) := by decide +kernel
theorem dX0_readItems_30 : decode cX0_readItems 30 = .ok (.iastore, 1) := by decide +kernel
theorem dX0_readItems_31 : decode cX0_readItems 31 = .ok (.aload_n 0, 1) := by decide +kernel
theorem dX0_readItems_32 : decode cX0_readItems 32 = .ok (.invokevirtual 67, 3) := by decide +kernel
theorem dX0_readItems_35 : decode cX0_readItems 35 = .ok (.ifCond .ne 5, 3) := by decide +kernel
theorem dX0_readItems_38 : decode cX0_readItems 38 = .ok (.iconst 0, 1) := by decide +kernel
theorem dX0_readItems_39 : decode cX0_readItems 39 = .ok (.ireturn, 1) := by decide +kernel
theorem dX0_readItems_40 : decode cX0_readItems 40 = .ok (.aload_n 0, 1) := by decide +kernel
theorem dX0_readItems_41 : decode cX0_readItems 41 = .ok (.getfield 37, 3) := by decide +kernel
theorem dX0_readItems_44 : decode cX0_readItems 44 = .ok (.getfield 51, 3) := by decide +kernel
theorem dX0_readItems_47 : decode cX0_readItems 47 = .ok (.bipush 19, 2) := by decide +kernel
theorem dX0_readItems_49 : decode cX0_readItems 49 = .ok (.if_icmp .eq 5, 3) := by decide +kernel
theorem dX0_readItems_52 : decode cX0_readItems 52 = .ok (.iconst 1, 1) := by decide +kernel
theorem dX0_readItems_53 : decode cX0_readItems 53 = .ok (.ireturn, 1) := by decide +kernel
theorem dX0_readItems_54 : decode cX0_readItems 54 = .ok (.aload_n 0, 1) := by decide +kernel
theorem dX0_readItems_55 : decode cX0_readItems 55 = .ok (.getfield 37, 3) := by decide +kernel
theorem dX0_readItems_58 : decode cX0_readItems 58 = .ok (.invokevirtual 61, 3) := by decide +kernel
theorem dX0_readItems_61 : decode cX0_readItems 61 = .ok (.iinc 1 1, 3) := by decide +kernel
theorem dX0_readItems_64 : decode cX0_readItems 64 = .ok (.goto (-52), 3) := by decide +kernel
theorem dX0_readItems_67 : decode cX0_readItems 67 = .ok (.aload_n 0, 1) := by decide +kernel
theorem dX0_readItems_68 : decode cX0_readItems 68 = .ok (.aload_n 0, 1) := by decide +kernel
theorem dX0_readItems_69 : decode cX0_readItems 69 = .ok (.getfield 37, 3) := by decide +kernel
theorem dX0_readItems_72 : decode cX0_readItems 72 = .ok (.getfield 54, 3) := by decide +kernel
theorem dX0_readItems_75 : decode cX0_readItems 75 = .ok (.invokevirtual 57, 3) := by decide +kernel
theorem dX0_readItems_78 : decode cX0_readItems 78 = .ok (.ireturn, 1) := by decide +kernel
theorem dX0_readItem_0 : decode cX0_readItem 0 = .ok (.aload_n 0, 1) := by decide +kernel
theorem dX0_readItem_1 : decode cX0_readItem 1 = .ok (.getfield 37, 3) := by decide +kernel
theorem dX0_readItem_4 : decode cX0_readItem 4 = .ok (.getfield 51, 3) := by decide +kernel
theorem dX0_readItem_7 : decode cX0_readItem 7 = .ok (.istore_n 1, 1) := by decide +kernel
theorem dX0_readItem_8 : decode cX0_readItem 8 = .ok (.aload_n 0, 1) := by decide +kernel
theorem dX0_readItem_9 : decode cX0_readItem 9 = .ok (.getfield 37, 3) := by decide +kernel
theorem dX0_readItem_12 : decode cX0_readItem 12 = .ok (.getfield 54, 3) := by decide +kernel
theorem dX0_readItem_15 : decode cX0_readItem 15 = .ok (.istore_n 2, 1) := by decide +kernel
theorem dX0_readItem_16 : decode cX0_readItem 16 = .ok (.iload_n 1, 1) := by decide +kernel
theorem dX0_readItem_17 : decode cX0_readItem 17 = .ok (.bipush 12, 2) := by decide +kernel
theorem dX0_readItem_19 : decode cX0_readItem 19 = .ok (.if_icmp .lt 9, 3) := by decide +kernel
theorem dX0_readItem_22 : decode cX0_readItem 22 = .ok (.iload_n 1, 1) := by decide +kernel
theorem dX0_readItem_23 : decode cX0_readItem 23 = .ok (.bipush 15, 2) := by decide +kernel
theorem dX0_readItem_25 : decode cX0_readItem 25 = .ok (.if_icmp .le 39, 3) := by decide +kernel
theorem dX0_readItem_28 : decode cX0_readItem 28 = .ok (.aload_n 0, 1) := by decide +kernel
theorem dX0_readItem_29 : decode cX0_readItem 29 = .ok (.invokevirtual 71, 3) := by decide +kernel
theorem dX0_readItem_32 : decode cX0_readItem 32 = .ok (.istore_n 3, 1) := by decide +kernel
theorem dX0_readItem_33 : decode cX0_readItem 33 = .ok (.iload_n 3, 1) := by decide +kernel
theorem dX0_readItem_34 : decode cX0_readItem 34 = .ok (.iconst (-1), 1) := by decide +kernel
theorem dX0_readItem_35 : decode cX0_readItem 35 = .ok (.if_icmp .eq 27, 3) := by decide +kernel
theorem dX0_readItem_38 : decode cX0_readItem 38 = .ok (.aload_n 0, 1) := by decide +kernel
theorem dX0_readItem_39 : decode cX0_readItem 39 = .ok (.getfield 12, 3) := by decide +kernel
theorem dX0_readItem_42 : decode cX0_readItem 42 = .ok (.iconst 0, 1) := by decide +kernel
theorem dX0_readItem_43 : decode cX0_readItem 43 = .ok (.iload_n 3, 1) := by decide +kernel
theorem dX0_readItem_44 : decode cX0_readItem 44 = .ok (.invokevirtual 75, 3) := by decide +kernel
theorem dX0_readItem_47 : decode cX0_readItem 47 = .ok (.ifCond .ne 11, 3) := by decide +kernel
theorem dX0_readItem_50 : decode cX0_readItem 50 = .ok (.aload_n 0, 1) := by decide +kernel
theorem dX0_readItem_51 : decode cX0_readItem 51 = .ok (.iload_n 2, 1) := by decide +kernel
theorem dX0_readItem_52 : decode cX0_readItem 52 = .ok (.invokevirtual 57, 3) := by decide +kernel
theorem dX0_readItem_55 : decode cX0_readItem 55 = .ok (.ifCond .eq 7, 3) := by decide +kernel
theorem dX0_readItem_58 : decode cX0_readItem 58 = .ok (.iconst 1, 1) := by decide +kernel
theorem dX0_readItem_59 : decode cX0_readItem 59 = .ok (.goto 4, 3) := by decide +kernel
theorem dX0_readItem_62 : decode cX0_readItem 62 = .ok (.iconst 0, 1) := by decide +kernel
theorem dX0_readItem_63 : decode cX0_readItem 63 = .ok (.ireturn, 1) := by decide +kernel
theorem dX0_readItem_64 : decode cX0_readItem 64 = .ok (.aload_n 0, 1) := by decide +kernel
theorem dX0_readItem_65 : decode cX0_readItem 65 = .ok (.getfield 37, 3) := by decide +kernel
theorem dX0_readItem_68 : decode cX0_readItem 68 = .ok (.invokevirtual 61, 3) := by decide +kernel
theorem dX0_readItem_71 : decode cX0_readItem 71 = .ok (.iload_n 1, 1) := by decide +kernel
theorem dX0_readItem_72 : decode cX0_readItem 72 = .ok (.bipush 12, 2) := by decide +kernel
theorem dX0_readItem_74 : decode cX0_readItem 74 = .ok (.if_icmp .ne 41, 3) := by decide +kernel
theorem dX0_readItem_77 : decode cX0_readItem 77 = .ok (.aload_n 0, 1) := by decide +kernel
theorem dX0_readItem_78 : decode cX0_readItem 78 = .ok (.getfield 37, 3) := by decide +kernel
theorem dX0_readItem_81 : decode cX0_readItem 81 = .ok (.getfield 51, 3) := by decide +kernel
theorem dX0_readItem_84 : decode cX0_readItem 84 = .ok (.bipush 20, 2) := by decide +kernel
theorem dX0_readItem_86 : decode cX0_readItem 86 = .ok (.if_icmp .eq 29, 3) := by decide +kernel
theorem dX0_readItem_89 : decode cX0_readItem 89 = .ok (.aload_n 0, 1) := by decide +kernel
theorem dX0_readItem_90 : decode cX0_readItem 90 = .ok (.getfield 12, 3) := by decide +kernel
theorem dX0_readItem_93 : decode cX0_readItem 93 = .ok (.iconst 1, 1) := by decide +kernel
theorem dX0_readItem_94 : decode cX0_readItem 94 = .ok (.iconst (-1), 1) := by decide +kernel
theorem dX0_readItem_95 : decode cX0_readItem 95 = .ok (.invokevirtual 75, 3) := by decide +kernel
theorem dX0_readItem_98 : decode cX0_readItem 98 = .ok (.ifCond .ne 11, 3) := by decide +kernel
theorem dX0_readItem_101 : decode cX0_readItem 101 = .ok (.aload_n 0, 1) := by decide +kernel
theorem dX0_readItem_102 : decode cX0_readItem 102 = .ok (.iload_n 2, 1) := by decide +kernel
theorem dX0_readItem_103 : decode cX0_readItem 103 = .ok (.invokevirtual 57, 3) := by decide +kernel
theorem dX0_readItem_106 : decode cX0_readItem 106 = .ok (.ifCond .eq 7, 3) := by decide +kernel
theorem dX0_readItem_109 : decode cX0_readItem 109 = .ok (.iconst 1, 1) := by decide +kernel
theorem dX0_readItem_110 : decode cX0_readItem 110 = .ok (.goto 4, 3) := by decide +kernel
theorem dX0_readItem_113 : decode cX0_readItem 113 = .ok (.iconst 0, 1) := by decide +kernel
theorem dX0_readItem_114 : decode cX0_readItem 114 = .ok (.ireturn, 1) := by decide +kernel
theorem dX0_readItem_115 : decode cX0_readItem 115 = .ok (.aload_n 0, 1) := by decide +kernel
theorem dX0_readItem_116 : decode cX0_readItem 116 = .ok (.bipush 20, 2) := by decide +kernel
theorem dX0_readItem_118 : decode cX0_readItem 118 = .ok (.invokevirtual 64, 3) := by decide +kernel
theorem dX0_readItem_121 : decode cX0_readItem 121 = .ok (.ifCond .ne 5, 3) := by decide +kernel
theorem dX0_readItem_124 : decode cX0_readItem 124 = .ok (.iconst 0, 1) := by decide +kernel
theorem dX0_readItem_125 : decode cX0_readItem 125 = .ok (.ireturn, 1) := by decide +kernel
theorem dX0_readItem_126 : decode cX0_readItem 126 = .ok (.aload_n 0, 1) := by decide +kernel
theorem dX0_readItem_127 : decode cX0_readItem 127 = .ok (.getfield 37, 3) := by decide +kernel
theorem dX0_readItem_130 : decode cX0_readItem 130 = .ok (.getfield 54, 3) := by decide +kernel
theorem dX0_readItem_133 : decode cX0_readItem 133 = .ok (.istore_n 3, 1) := by decide +kernel
theorem dX0_readItem_134 : decode cX0_readItem 134 = .ok (.aload_n 0, 1) := by decide +kernel
theorem dX0_readItem_135 : decode cX0_readItem 135 = .ok (.invokevirtual 71, 3) := by decide +kernel
theorem dX0_readItem_138 : decode cX0_readItem 138 = .ok (.istore 4, 2) := by decide +kernel
theorem dX0_readItem_140 : decode cX0_readItem 140 = .ok (.iload 4, 2) := by decide +kernel
theorem dX0_readItem_142 : decode cX0_readItem 142 = .ok (.iconst (-1), 1) := by decide +kernel
theorem dX0_readItem_143 : decode cX0_readItem 143 = .ok (.if_icmp .ne 5, 3) := by decide +kernel
theorem dX0_readItem_146 : decode cX0_readItem 146 = .ok (.iconst 0, 1) := by decide +kernel
theorem dX0_readItem_147 : decode cX0_readItem 147 = .ok (.ireturn, 1) := by decide +kernel
theorem dX0_readItem_148 : decode cX0_readItem 148 = .ok (.aload_n 0, 1) := by decide +kernel
theorem dX0_readItem_149 : decode cX0_readItem 149 = .ok (.getfield 28, 3) := by decide +kernel
theorem dX0_readItem_152 : decode cX0_readItem 152 = .ok (.iload 4, 2) := by decide +kernel
theorem dX0_readItem_154 : decode cX0_readItem 154 = .ok (.invokevirtual 79, 3) := by decide +kernel
theorem dX0_readItem_157 : decode cX0_readItem 157 = .ok (.ifCond .eq 25, 3) := by decide +kernel
theorem dX0_readItem_160 : decode cX0_readItem 160 = .ok (.iload_n 1, 1) := by decide +kernel
theorem dX0_readItem_161 : decode cX0_readItem 161 = .ok (.bipush 13, 2) := by decide +kernel
theorem dX0_readItem_163 : decode cX0_readItem 163 = .ok (.if_icmp .ne 25, 3) := by decide +kernel
theorem dX0_readItem_166 : decode cX0_readItem 166 = .ok (.aload_n 0, 1) := by decide +kernel
theorem dX0_readItem_167 : decode cX0_readItem 167 = .ok (.aload_n 0, 1) := by decide +kernel
theorem dX0_readItem_168 : decode cX0_readItem 168 = .ok (.getfield 28, 3) := by decide +kernel
theorem dX0_readItem_171 : decode cX0_readItem 171 = .ok (.iload 4, 2) := by decide +kernel
theorem dX0_readItem_173 : decode cX0_readItem 173 = .ok (.invokevirtual 84, 3) := by decide +kernel
theorem dX0_readItem_176 : decode cX0_readItem 176 = .ok (.invokevirtual 88, 3) := by decide +kernel
theorem dX0_readItem_179 : decode cX0_readItem 179 = .ok (.ifCond .ne 9, 3) := by decide +kernel
theorem dX0_readItem_182 : decode cX0_readItem 182 = .ok (.aload_n 0, 1) := by decide +kernel
theorem dX0_readItem_183 : decode cX0_readItem 183 = .ok (.iload_n 3, 1) := by decide +kernel
theorem dX0_readItem_184 : decode cX0_readItem 184 = .ok (.invokevirtual 57, 3) := by decide +kernel
theorem dX0_readItem_187 : decode cX0_readItem 187 = .ok (.ireturn, 1) := by decide +kernel
theorem dX0_readItem_188 : decode cX0_readItem 188 = .ok (.aload_n 0, 1) := by decide +kernel
theorem dX0_readItem_189 : decode cX0_readItem 189 = .ok (.bipush 21, 2) := by decide +kernel
theorem dX0_readItem_191 : decode cX0_readItem 191 = .ok (.invokevirtual 64, 3) := by decide +kernel
theorem dX0_readItem_194 : decode cX0_readItem 194 = .ok (.ifCond .eq 33, 3) := by decide +kernel
theorem dX0_readItem_197 : decode cX0_readItem 197 = .ok (.aload_n 0, 1) := by decide +kernel
theorem dX0_readItem_198 : decode cX0_readItem 198 = .ok (.getfield 12, 3) := by decide +kernel
theorem dX0_readItem_201 : decode cX0_readItem 201 = .ok (.iconst 2, 1) := by decide +kernel
theorem dX0_readItem_202 : decode cX0_readItem 202 = .ok (.iload_n 1, 1) := by decide +kernel
theorem dX0_readItem_203 : decode cX0_readItem 203 = .ok (.iadd, 1) := by decide +kernel
theorem dX0_readItem_204 : decode cX0_readItem 204 = .ok (.bipush 12, 2) := by decide +kernel
theorem dX0_readItem_206 : decode cX0_readItem 206 = .ok (.isub, 1) := by decide +kernel
theorem dX0_readItem_207 : decode cX0_readItem 207 = .ok (.iload 4, 2) := by decide +kernel
theorem dX0_readItem_209 : decode cX0_readItem 209 = .ok (.invokevirtual 75, 3) := by decide +kernel
theorem dX0_readItem_212 : decode cX0_readItem 212 = .ok (.ifCond .ne 11, 3) := by decide +kernel
theorem dX0_readItem_215 : decode cX0_readItem 215 = .ok (.aload_n 0, 1) := by decide +kernel
theorem dX0_readItem_216 : decode cX0_readItem 216 = .ok (.iload_n 2, 1) := by decide +kernel
theorem dX0_readItem_217 : decode cX0_readItem 217 = .ok (.invokevirtual 57, 3) := by decide +kernel
theorem dX0_readItem_220 : decode cX0_readItem 220 = .ok (.ifCond .eq 7, 3) := by decide +kernel
theorem dX0_readItem_223 : decode cX0_readItem 223 = .ok (.iconst 1, 1) := by decide +kernel
theorem dX0_readItem_224 : decode cX0_readItem 224 = .ok (.goto 4, 3) := by decide +kernel
theorem dX0_readItem_227 : decode cX0_readItem 227 = .ok (.iconst 0, 1) := by decide +kernel
theorem dX0_readItem_228 : decode cX0_readItem 228 = .ok (.ireturn, 1) := by decide +kernel
theorem dX0_isOfNumbers_0 : decode cX0_isOfNumbers 0 = .ok (.iload_n 1, 1) := by decide +kernel
theorem dX0_isOfNumbers_1 : decode cX0_isOfNumbers 1 = .ok (.iconst 1, 1) := by decide +kernel
theorem dX0_isOfNumbers_2 : decode cX0_isOfNumbers 2 = .ok (.if_icmp .eq 8, 3) := by decide +kernel
theorem dX0_isOfNumbers_5 : decode cX0_isOfNumbers 5 = .ok (.iload_n 1, 1) := by decide +kernel
theorem dX0_isOfNumbers_6 : decode cX0_isOfNumbers 6 = .ok (.iconst 2, 1) := by decide +kernel
theorem dX0_isOfNumbers_7 : decode cX0_isOfNumbers 7 = .ok (.if_icmp .ne 7, 3) := by decide +kernel
theorem dX0_isOfNumbers_10 : decode cX0_isOfNumbers 10 = .ok (.iconst 1, 1) := by decide +kernel
theorem dX0_isOfNumbers_11 : decode cX0_isOfNumbers 11 = .ok (.goto 4, 3) := by decide +kernel
theorem dX0_isOfNumbers_14 : decode cX0_isOfNumbers 14 = .ok (.iconst 0, 1) := by decide +kernel
theorem dX0_isOfNumbers_15 : decode cX0_isOfNumbers 15 = .ok (.ireturn, 1) := by decide +kernel
theorem dX0_readPath_0 : decode cX0_readPath 0 = .ok (.aload_n 0, 1) := by decide +kernel
theorem dX0_readPath_1 : decode cX0_readPath 1 = .ok (.getfield 37, 3) := by decide +kernel
theorem dX0_readPath_4 : decode cX0_readPath 4 = .ok (.getfield 54, 3) := by decide +kernel
theorem dX0_readPath_7 : decode cX0_readPath 7 = .ok (.istore_n 1, 1) := by decide +kernel
theorem dX0_readPath_8 : decode cX0_readPath 8 = .ok (.iconst (-1), 1) := by decide +kernel
theorem dX0_readPath_9 : decode cX0_readPath 9 = .ok (.istore_n 2, 1) := by decide +kernel
theorem dX0_readPath_10 : decode cX0_readPath 10 = .ok (.iconst 0, 1) := by decide +kernel
theorem dX0_readPath_11 : decode cX0_readPath 11 = .ok (.istore_n 3, 1) := by decide +kernel
theorem dX0_readPath_12 : decode cX0_readPath 12 = .ok (.iload_n 3, 1) := by decide +kernel
theorem dX0_readPath_13 : decode cX0_readPath 13 = .ok (.sipush 2000, 3) := by decide +kernel
theorem dX0_readPath_16 : decode cX0_readPath 16 = .ok (.if_icmp .gt 111, 3) := by decide +kernel
theorem dX0_readPath_19 : decode cX0_readPath 19 = .ok (.aload_n 0, 1) := by decide +kernel
theorem dX0_readPath_20 : decode cX0_readPath 20 = .ok (.getfield 37, 3) := by decide +kernel
theorem dX0_readPath_23 : decode cX0_readPath 23 = .ok (.getfield 51, 3) := by decide +kernel
theorem dX0_readPath_26 : decode cX0_readPath 26 = .ok (.bipush 16, 2) := by decide +kernel
theorem dX0_readPath_28 : decode cX0_readPath 28 = .ok (.if_icmp .eq 17, 3) := by decide +kernel
theorem dX0_readPath_31 : decode cX0_readPath 31 = .ok (.aload_n 0, 1) := by decide +kernel
theorem dX0_readPath_32 : decode cX0_readPath 32 = .ok (.aload_n 0, 1) := by decide +kernel
theorem dX0_readPath_33 : decode cX0_readPath 33 = .ok (.getfield 37, 3) := by decide +kernel
theorem dX0_readPath_36 : decode cX0_readPath 36 = .ok (.getfield 54, 3) := by decide +kernel
theorem dX0_readPath_39 : decode cX0_readPath 39 = .ok (.invokevirtual 57, 3) := by decide +kernel
theorem dX0_readPath_42 : decode cX0_readPath 42 = .ok (.pop, 1) := by decide +kernel
theorem dX0_readPath_43 : decode cX0_readPath 43 = .ok (.iconst (-1), 1) := by decide +kernel
theorem dX0_readPath_44 : decode cX0_readPath 44 = .ok (.ireturn, 1) := by decide +kernel
theorem dX0_readPath_45 : decode cX0_readPath 45 = .ok (.iload_n 3, 1) := by decide +kernel
theorem dX0_readPath_46 : decode cX0_readPath 46 = .ok (.ifCond .eq 8, 3) := by decide +kernel
theorem dX0_readPath_49 : decode cX0_readPath 49 = .ok (.iload_n 2, 1) := by decide +kernel
theorem dX0_readPath_50 : decode cX0_readPath 50 = .ok (.iconst (-1), 1) := by decide +kernel
theorem dX0_readPath_51 : decode cX0_readPath 51 = .ok (.if_icmp .eq 26, 3) := by decide +kernel
theorem dX0_readPath_54 : decode cX0_readPath 54 = .ok (.aload_n 0, 1) := by decide +kernel
theorem dX0_readPath_55 : decode cX0_readPath 55 = .ok (.getfield 28, 3) := by decide +kernel
theorem dX0_readPath_58 : decode cX0_readPath 58 = .ok (.iload_n 2, 1) := by decide +kernel
theorem dX0_readPath_59 : decode cX0_readPath 59 = .ok (.aload_n 0, 1) := by decide +kernel
theorem dX0_readPath_60 : decode cX0_readPath 60 = .ok (.getfield 37, 3) := by decide +kernel
theorem dX0_readPath_63 : decode cX0_readPath 63 = .ok (.getfield 54, 3) := by decide +kernel
theorem dX0_readPath_66 : decode cX0_readPath 66 = .ok (.aload_n 0, 1) := by decide +kernel
theorem dX0_readPath_67 : decode cX0_readPath 67 = .ok (.getfield 37, 3) := by decide +kernel
theorem dX0_readPath_70 : decode cX0_readPath 70 = .ok (.getfield 91, 3) := by decide +kernel
theorem dX0_readPath_73 : decode cX0_readPath 73 = .ok (.invokevirtual 94, 3) := by decide +kernel
theorem dX0_readPath_76 : decode cX0_readPath 76 = .ok (.istore_n 2, 1) := by decide +kernel
theorem dX0_readPath_77 : decode cX0_readPath 77 = .ok (.aload_n 0, 1) := by decide +kernel
theorem dX0_readPath_78 : decode cX0_readPath 78 = .ok (.getfield 37, 3) := by decide +kernel
theorem dX0_readPath_81 : decode cX0_readPath 81 = .ok (.invokevirtual 98, 3) := by decide +kernel
theorem dX0_readPath_84 : decode cX0_readPath 84 = .ok (.ifCond .ne 6, 3) := by decide +kernel
theorem dX0_readPath_87 : decode cX0_readPath 87 = .ok (.goto 40, 3) := by decide +kernel
theorem dX0_readPath_90 : decode cX0_readPath 90 = .ok (.aload_n 0, 1) := by decide +kernel
theorem dX0_readPath_91 : decode cX0_readPath 91 = .ok (.getfield 37, 3) := by decide +kernel
theorem dX0_readPath_94 : decode cX0_readPath 94 = .ok (.invokevirtual 101, 3) := by decide +kernel
theorem dX0_readPath_97 : decode cX0_readPath 97 = .ok (.ifCond .ne 17, 3) := by decide +kernel
theorem dX0_readPath_100 : decode cX0_readPath 100 = .ok (.aload_n 0, 1) := by decide +kernel
theorem dX0_readPath_101 : decode cX0_readPath 101 = .ok (.aload_n 0, 1) := by decide +kernel
theorem dX0_readPath_102 : decode cX0_readPath 102 = .ok (.getfield 37, 3) := by decide +kernel
theorem dX0_readPath_105 : decode cX0_readPath 105 = .ok (.getfield 91, 3) := by decide +kernel
theorem dX0_readPath_108 : decode cX0_readPath 108 = .ok (.invokevirtual 57, 3) := by decide +kernel
theorem dX0_readPath_111 : decode cX0_readPath 111 = .ok (.pop, 1) := by decide +kernel
theorem dX0_readPath_112 : decode cX0_readPath 112 = .ok (.iconst (-1), 1) := by decide +kernel
theorem dX0_readPath_113 : decode cX0_readPath 113 = .ok (.ireturn, 1) := by decide +kernel
theorem dX0_readPath_114 : decode cX0_readPath 114 = .ok (.aload_n 0, 1) := by decide +kernel
theorem dX0_readPath_115 : decode cX0_readPath 115 = .ok (.getfield 37, 3) := by decide +kernel
theorem dX0_readPath_118 : decode cX0_readPath 118 = .ok (.invokevirtual 61, 3) := by decide +kernel
theorem dX0_readPath_121 : decode cX0_readPath 121 = .ok (.iinc 3 1, 3) := by decide +kernel
theorem dX0_readPath_124 : decode cX0_readPath 124 = .ok (.goto (-112), 3) := by decide +kernel
theorem dX0_readPath_127 : decode cX0_readPath 127 = .ok (.aload_n 0, 1) := by decide +kernel
theorem dX0_readPath_128 : decode cX0_readPath 128 = .ok (.getfield 37, 3) := by decide +kernel
theorem dX0_readPath_131 : decode cX0_readPath 131 = .ok (.invokevirtual 61, 3) := by decide +kernel
theorem dX0_readPath_134 : decode cX0_readPath 134 = .ok (.iload_n 2, 1) := by decide +kernel
theorem dX0_readPath_135 : decode cX0_readPath 135 = .ok (.iconst (-1), 1) := by decide +kernel
theorem dX0_readPath_136 : decode cX0_readPath 136 = .ok (.if_icmp .ne 9, 3) := by decide +kernel
theorem dX0_readPath_139 : decode cX0_readPath 139 = .ok (.aload_n 0, 1) := by decide +kernel
theorem dX0_readPath_140 : decode cX0_readPath 140 = .ok (.iload_n 1, 1) := by decide +kernel
theorem dX0_readPath_141 : decode cX0_readPath 141 = .ok (.invokevirtual 57, 3) := by decide +kernel
theorem dX0_readPath_144 : decode cX0_readPath 144 = .ok (.pop, 1) := by decide +kernel
theorem dX0_readPath_145 : decode cX0_readPath 145 = .ok (.iload_n 2, 1) := by decide +kernel
theorem dX0_readPath_146 : decode cX0_readPath 146 = .ok (.ireturn, 1) := by decide +kernel
theorem dX0_readWhere_0 : decode cX0_readWhere 0 = .ok (.aload_n 0, 1) := by decide +kernel
theorem dX0_readWhere_1 : decode cX0_readWhere 1 = .ok (.getfield 37, 3) := by decide +kernel
theorem dX0_readWhere_4 : decode cX0_readWhere 4 = .ok (.getfield 51, 3) := by decide +kernel
theorem dX0_readWhere_7 : decode cX0_readWhere 7 = .ok (.iconst 1, 1) := by decide +kernel
theorem dX0_readWhere_8 : decode cX0_readWhere 8 = .ok (.if_icmp .eq 5, 3) := by decide +kernel
theorem dX0_readWhere_11 : decode cX0_readWhere 11 = .ok (.iconst 1, 1) := by decide +kernel
theorem dX0_readWhere_12 : decode cX0_readWhere 12 = .ok (.ireturn, 1) := by decide +kernel
theorem dX0_readWhere_13 : decode cX0_readWhere 13 = .ok (.aload_n 0, 1) := by decide +kernel
theorem dX0_readWhere_14 : decode cX0_readWhere 14 = .ok (.getfield 37, 3) := by decide +kernel
theorem dX0_readWhere_17 : decode cX0_readWhere 17 = .ok (.invokevirtual 61, 3) := by decide +kernel
theorem dX0_readWhere_20 : decode cX0_readWhere 20 = .ok (.aload_n 0, 1) := by decide +kernel
theorem dX0_readWhere_21 : decode cX0_readWhere 21 = .ok (.iconst 0, 1) := by decide +kernel
theorem dX0_readWhere_22 : decode cX0_readWhere 22 = .ok (.putfield 104, 3) := by decide +kernel
theorem dX0_readWhere_25 : decode cX0_readWhere 25 = .ok (.aload_n 0, 1) := by decide +kernel
theorem dX0_readWhere_26 : decode cX0_readWhere 26 = .ok (.iconst 0, 1) := by decide +kernel
theorem dX0_readWhere_27 : decode cX0_readWhere 27 = .ok (.putfield 107, 3) := by decide +kernel
theorem dX0_readWhere_30 : decode cX0_readWhere 30 = .ok (.iconst 1, 1) := by decide +kernel
theorem dX0_readWhere_31 : decode cX0_readWhere 31 = .ok (.istore_n 1, 1) := by decide +kernel
theorem dX0_readWhere_32 : decode cX0_readWhere 32 = .ok (.iconst 0, 1) := by decide +kernel
theorem dX0_readWhere_33 : decode cX0_readWhere 33 = .ok (.istore_n 2, 1) := by decide +kernel
theorem dX0_readWhere_34 : decode cX0_readWhere 34 = .ok (.iload_n 2, 1) := by decide +kernel
theorem dX0_readWhere_35 : decode cX0_readWhere 35 = .ok (.sipush 2000, 3) := by decide +kernel
theorem dX0_readWhere_38 : decode cX0_readWhere 38 = .ok (.if_icmp .gt 73, 3) := by decide +kernel
theorem dX0_readWhere_41 : decode cX0_readWhere 41 = .ok (.iload_n 1, 1) := by decide +kernel
theorem dX0_readWhere_42 : decode cX0_readWhere 42 = .ok (.ifCond .eq 69, 3) := by decide +kernel
theorem dX0_readWhere_45 : decode cX0_readWhere 45 = .ok (.aload_n 0, 1) := by decide +kernel
theorem dX0_readWhere_46 : decode cX0_readWhere 46 = .ok (.invokevirtual 110, 3) := by decide +kernel
theorem dX0_readWhere_49 : decode cX0_readWhere 49 = .ok (.ifCond .eq 17, 3) := by decide +kernel
theorem dX0_readWhere_52 : decode cX0_readWhere 52 = .ok (.aload_n 0, 1) := by decide +kernel
theorem dX0_readWhere_53 : decode cX0_readWhere 53 = .ok (.invokevirtual 113, 3) := by decide +kernel
theorem dX0_readWhere_56 : decode cX0_readWhere 56 = .ok (.ifCond .eq 10, 3) := by decide +kernel
theorem dX0_readWhere_59 : decode cX0_readWhere 59 = .ok (.aload_n 0, 1) := by decide +kernel
theorem dX0_readWhere_60 : decode cX0_readWhere 60 = .ok (.invokevirtual 116, 3) := by decide +kernel
theorem dX0_readWhere_63 : decode cX0_readWhere 63 = .ok (.ifCond .ne 5, 3) := by decide +kernel
theorem dX0_readWhere_66 : decode cX0_readWhere 66 = .ok (.iconst 0, 1) := by decide +kernel
theorem dX0_readWhere_67 : decode cX0_readWhere 67 = .ok (.ireturn, 1) := by decide +kernel
theorem dX0_readWhere_68 : decode cX0_readWhere 68 = .ok (.aload_n 0, 1) := by decide +kernel
theorem dX0_readWhere_69 : decode cX0_readWhere 69 = .ok (.getfield 37, 3) := by decide +kernel
theorem dX0_readWhere_72 : decode cX0_readWhere 72 = .ok (.getfield 51, 3) := by decide +kernel
theorem dX0_readWhere_75 : decode cX0_readWhere 75 = .ok (.istore_n 3, 1) := by decide +kernel
theorem dX0_readWhere_76 : decode cX0_readWhere 76 = .ok (.iload_n 3, 1) := by decide +kernel
theorem dX0_readWhere_77 : decode cX0_readWhere 77 = .ok (.iconst 4, 1) := by decide +kernel
theorem dX0_readWhere_78 : decode cX0_readWhere 78 = .ok (.if_icmp .eq 8, 3) := by decide +kernel
theorem dX0_readWhere_81 : decode cX0_readWhere 81 = .ok (.iload_n 3, 1) := by decide +kernel
theorem dX0_readWhere_82 : decode cX0_readWhere 82 = .ok (.iconst 5, 1) := by decide +kernel
theorem dX0_readWhere_83 : decode cX0_readWhere 83 = .ok (.if_icmp .ne 7, 3) := by decide +kernel
theorem dX0_readWhere_86 : decode cX0_readWhere 86 = .ok (.iconst 1, 1) := by decide +kernel
theorem dX0_readWhere_87 : decode cX0_readWhere 87 = .ok (.goto 4, 3) := by decide +kernel
theorem dX0_readWhere_90 : decode cX0_readWhere 90 = .ok (.iconst 0, 1) := by decide +kernel
theorem dX0_readWhere_91 : decode cX0_readWhere 91 = .ok (.istore_n 1, 1) := by decide +kernel
theorem dX0_readWhere_92 : decode cX0_readWhere 92 = .ok (.iload_n 1, 1) := by decide +kernel
theorem dX0_readWhere_93 : decode cX0_readWhere 93 = .ok (.ifCond .eq 12, 3) := by decide +kernel
theorem dX0_readWhere_96 : decode cX0_readWhere 96 = .ok (.aload_n 0, 1) := by decide +kernel
theorem dX0_readWhere_97 : decode cX0_readWhere 97 = .ok (.invokevirtual 119, 3) := by decide +kernel
theorem dX0_readWhere_100 : decode cX0_readWhere 100 = .ok (.ifCond .ne 5, 3) := by decide +kernel
theorem dX0_readWhere_103 : decode cX0_readWhere 103 = .ok (.iconst 0, 1) := by decide +kernel
theorem dX0_readWhere_104 : decode cX0_readWhere 104 = .ok (.ireturn, 1) := by decide +kernel
theorem dX0_readWhere_105 : decode cX0_readWhere 105 = .ok (.iinc 2 1, 3) := by decide +kernel
theorem dX0_readWhere_108 : decode cX0_readWhere 108 = .ok (.goto (-74), 3) := by decide +kernel
theorem dX0_readWhere_111 : decode cX0_readWhere 111 = .ok (.iconst 1, 1) := by decide +kernel
theorem dX0_readWhere_112 : decode cX0_readWhere 112 = .ok (.ireturn, 1) := by decide +kernel
theorem dX0_await_0 : decode cX0_await 0 = .ok (.aload_n 0, 1) := by decide +kernel
theorem dX0_await_1 : decode cX0_await 1 = .ok (.getfield 104, 3) := by decide +kernel
theorem dX0_await_4 : decode cX0_await 4 = .ok (.bipush 98, 2) := by decide +kernel
theorem dX0_await_6 : decode cX0_await 6 = .ok (.if_icmp .lt 15, 3) := by decide +kernel
theorem dX0_await_9 : decode cX0_await 9 = .ok (.aload_n 0, 1) := by decide +kernel
theorem dX0_await_10 : decode cX0_await 10 = .ok (.aload_n 0, 1) := by decide +kernel
theorem dX0_await_11 : decode cX0_await 11 = .ok (.getfield 37, 3) := by decide +kernel
theorem dX0_await_14 : decode cX0_await 14 = .ok (.getfield 54, 3) := by decide +kernel
theorem dX0_await_17 : decode cX0_await 17 = .ok (.invokevirtual 57, 3) := by decide +kernel
theorem dX0_await_20 : decode cX0_await 20 = .ok (.ireturn, 1) := by decide +kernel
theorem dX0_await_21 : decode cX0_await 21 = .ok (.aload_n 0, 1) := by decide +kernel
theorem dX0_await_22 : decode cX0_await 22 = .ok (.getfield 22, 3) := by decide +kernel
theorem dX0_await_25 : decode cX0_await 25 = .ok (.aload_n 0, 1) := by decide +kernel
theorem dX0_await_26 : decode cX0_await 26 = .ok (.getfield 104, 3) := by decide +kernel
theorem dX0_await_29 : decode cX0_await 29 = .ok (.aload_n 0, 1) := by decide +kernel
theorem dX0_await_30 : decode cX0_await 30 = .ok (.getfield 37, 3) := by decide +kernel
theorem dX0_await_33 : decode cX0_await 33 = .ok (.getfield 51, 3) := by decide +kernel
theorem dX0_await_36 : decode cX0_await 36 = .ok (.iastore, 1) := by decide +kernel
theorem dX0_await_37 : decode cX0_await 37 = .ok (.aload_n 0, 1) := by decide +kernel
theorem dX0_await_38 : decode cX0_await 38 = .ok (.getfield 25, 3) := by decide +kernel
theorem dX0_await_41 : decode cX0_await 41 = .ok (.aload_n 0, 1) := by decide +kernel
theorem dX0_await_42 : decode cX0_await 42 = .ok (.getfield 104, 3) := by decide +kernel
theorem dX0_await_45 : decode cX0_await 45 = .ok (.aload_n 0, 1) := by decide +kernel
theorem dX0_await_46 : decode cX0_await 46 = .ok (.getfield 37, 3) := by decide +kernel
theorem dX0_await_49 : decode cX0_await 49 = .ok (.getfield 54, 3) := by decide +kernel
theorem dX0_await_52 : decode cX0_await 52 = .ok (.iastore, 1) := by decide +kernel
theorem dX0_await_53 : decode cX0_await 53 = .ok (.aload_n 0, 1) := by decide +kernel
theorem dX0_await_54 : decode cX0_await 54 = .ok (.dup, 1) := by decide +kernel
theorem dX0_await_55 : decode cX0_await 55 = .ok (.getfield 104, 3) := by decide +kernel
theorem dX0_await_58 : decode cX0_await 58 = .ok (.iconst 1, 1) := by decide +kernel
theorem dX0_await_59 : decode cX0_await 59 = .ok (.iadd, 1) := by decide +kernel
theorem dX0_await_60 : decode cX0_await 60 = .ok (.putfield 104, 3) := by decide +kernel
theorem dX0_await_63 : decode cX0_await 63 = .ok (.aload_n 0, 1) := by decide +kernel
theorem dX0_await_64 : decode cX0_await 64 = .ok (.getfield 37, 3) := by decide +kernel
theorem dX0_await_67 : decode cX0_await 67 = .ok (.invokevirtual 61, 3) := by decide +kernel
theorem dX0_await_70 : decode cX0_await 70 = .ok (.iconst 1, 1) := by decide +kernel
theorem dX0_await_71 : decode cX0_await 71 = .ok (.ireturn, 1) := by decide +kernel
theorem dX0_openTests_0 : decode cX0_openTests 0 = .ok (.iconst 0, 1) := by decide +kernel
theorem dX0_openTests_1 : decode cX0_openTests 1 = .ok (.istore_n 1, 1) := by decide +kernel
theorem dX0_openTests_2 : decode cX0_openTests 2 = .ok (.iload_n 1, 1) := by decide +kernel
theorem dX0_openTests_3 : decode cX0_openTests 3 = .ok (.bipush 32, 2) := by decide +kernel
theorem dX0_openTests_5 : decode cX0_openTests 5 = .ok (.if_icmp .gt 73, 3) := by decide +kernel
theorem dX0_openTests_8 : decode cX0_openTests 8 = .ok (.aload_n 0, 1) := by decide +kernel
theorem dX0_openTests_9 : decode cX0_openTests 9 = .ok (.getfield 37, 3) := by decide +kernel
theorem dX0_openTests_12 : decode cX0_openTests 12 = .ok (.getfield 51, 3) := by decide +kernel
theorem dX0_openTests_15 : decode cX0_openTests 15 = .ok (.bipush 6, 2) := by decide +kernel
theorem dX0_openTests_17 : decode cX0_openTests 17 = .ok (.if_icmp .eq 15, 3) := by decide +kernel
theorem dX0_openTests_20 : decode cX0_openTests 20 = .ok (.aload_n 0, 1) := by decide +kernel
theorem dX0_openTests_21 : decode cX0_openTests 21 = .ok (.getfield 37, 3) := by decide +kernel
theorem dX0_openTests_24 : decode cX0_openTests 24 = .ok (.getfield 51, 3) := by decide +kernel
theorem dX0_openTests_27 : decode cX0_openTests 27 = .ok (.bipush 20, 2) := by decide +kernel
theorem dX0_openTests_29 : decode cX0_openTests 29 = .ok (.if_icmp .ne 49, 3) := by decide +kernel
theorem dX0_openTests_32 : decode cX0_openTests 32 = .ok (.aload_n 0, 1) := by decide +kernel
theorem dX0_openTests_33 : decode cX0_openTests 33 = .ok (.getfield 107, 3) := by decide +kernel
theorem dX0_openTests_36 : decode cX0_openTests 36 = .ok (.bipush 32, 2) := by decide +kernel
theorem dX0_openTests_38 : decode cX0_openTests 38 = .ok (.if_icmp .lt 15, 3) := by decide +kernel
theorem dX0_openTests_41 : decode cX0_openTests 41 = .ok (.aload_n 0, 1) := by decide +kernel
theorem dX0_openTests_42 : decode cX0_openTests 42 = .ok (.aload_n 0, 1) := by decide +kernel
theorem dX0_openTests_43 : decode cX0_openTests 43 = .ok (.getfield 37, 3) := by decide +kernel
theorem dX0_openTests_46 : decode cX0_openTests 46 = .ok (.getfield 54, 3) := by decide +kernel
theorem dX0_openTests_49 : decode cX0_openTests 49 = .ok (.invokevirtual 57, 3) := by decide +kernel
theorem dX0_openTests_52 : decode cX0_openTests 52 = .ok (.ireturn, 1) := by decide +kernel
theorem dX0_openTests_53 : decode cX0_openTests 53 = .ok (.aload_n 0, 1) := by decide +kernel
theorem dX0_openTests_54 : decode cX0_openTests 54 = .ok (.dup, 1) := by decide +kernel
theorem dX0_openTests_55 : decode cX0_openTests 55 = .ok (.getfield 107, 3) := by decide +kernel
theorem dX0_openTests_58 : decode cX0_openTests 58 = .ok (.iconst 1, 1) := by decide +kernel
theorem dX0_openTests_59 : decode cX0_openTests 59 = .ok (.iadd, 1) := by decide +kernel
theorem dX0_openTests_60 : decode cX0_openTests 60 = .ok (.putfield 107, 3) := by decide +kernel
theorem dX0_openTests_63 : decode cX0_openTests 63 = .ok (.aload_n 0, 1) := by decide +kernel
theorem dX0_openTests_64 : decode cX0_openTests 64 = .ok (.invokevirtual 119, 3) := by decide +kernel
theorem dX0_openTests_67 : decode cX0_openTests 67 = .ok (.ifCond .ne 5, 3) := by decide +kernel
theorem dX0_openTests_70 : decode cX0_openTests 70 = .ok (.iconst 0, 1) := by decide +kernel
theorem dX0_openTests_71 : decode cX0_openTests 71 = .ok (.ireturn, 1) := by decide +kernel
theorem dX0_openTests_72 : decode cX0_openTests 72 = .ok (.iinc 1 1, 3) := by decide +kernel
theorem dX0_openTests_75 : decode cX0_openTests 75 = .ok (.goto (-73), 3) := by decide +kernel
theorem dX0_openTests_78 : decode cX0_openTests 78 = .ok (.iconst 1, 1) := by decide +kernel
theorem dX0_openTests_79 : decode cX0_openTests 79 = .ok (.ireturn, 1) := by decide +kernel
theorem dX0_closeTests_0 : decode cX0_closeTests 0 = .ok (.iconst 0, 1) := by decide +kernel
theorem dX0_closeTests_1 : decode cX0_closeTests 1 = .ok (.istore_n 1, 1) := by decide +kernel
theorem dX0_closeTests_2 : decode cX0_closeTests 2 = .ok (.iload_n 1, 1) := by decide +kernel
theorem dX0_closeTests_3 : decode cX0_closeTests 3 = .ok (.bipush 32, 2) := by decide +kernel
theorem dX0_closeTests_5 : decode cX0_closeTests 5 = .ok (.if_icmp .gt 107, 3) := by decide +kernel
theorem dX0_closeTests_8 : decode cX0_closeTests 8 = .ok (.aload_n 0, 1) := by decide +kernel
theorem dX0_closeTests_9 : decode cX0_closeTests 9 = .ok (.bipush 6, 2) := by decide +kernel
theorem dX0_closeTests_11 : decode cX0_closeTests 11 = .ok (.iconst 5, 1) := by decide +kernel
theorem dX0_closeTests_12 : decode cX0_closeTests 12 = .ok (.invokevirtual 122, 3) := by decide +kernel
theorem dX0_closeTests_15 : decode cX0_closeTests 15 = .ok (.ifCond .eq 13, 3) := by decide +kernel
theorem dX0_closeTests_18 : decode cX0_closeTests 18 = .ok (.aload_n 0, 1) := by decide +kernel
theorem dX0_closeTests_19 : decode cX0_closeTests 19 = .ok (.iconst 4, 1) := by decide +kernel
theorem dX0_closeTests_20 : decode cX0_closeTests 20 = .ok (.bipush 6, 2) := by decide +kernel
theorem dX0_closeTests_22 : decode cX0_closeTests 22 = .ok (.invokevirtual 122, 3) := by decide +kernel
theorem dX0_closeTests_25 : decode cX0_closeTests 25 = .ok (.ifCond .ne 5, 3) := by decide +kernel
theorem dX0_closeTests_28 : decode cX0_closeTests 28 = .ok (.iconst 0, 1) := by decide +kernel
theorem dX0_closeTests_29 : decode cX0_closeTests 29 = .ok (.ireturn, 1) := by decide +kernel
theorem dX0_closeTests_30 : decode cX0_closeTests 30 = .ok (.aload_n 0, 1) := by decide +kernel
theorem dX0_closeTests_31 : decode cX0_closeTests 31 = .ok (.getfield 37, 3) := by decide +kernel
theorem dX0_closeTests_34 : decode cX0_closeTests 34 = .ok (.getfield 51, 3) := by decide +kernel
theorem dX0_closeTests_37 : decode cX0_closeTests 37 = .ok (.iconst 4, 1) := by decide +kernel
theorem dX0_closeTests_38 : decode cX0_closeTests 38 = .ok (.if_icmp .ne 5, 3) := by decide +kernel
theorem dX0_closeTests_41 : decode cX0_closeTests 41 = .ok (.iconst 1, 1) := by decide +kernel
theorem dX0_closeTests_42 : decode cX0_closeTests 42 = .ok (.ireturn, 1) := by decide +kernel
theorem dX0_closeTests_43 : decode cX0_closeTests 43 = .ok (.aload_n 0, 1) := by decide +kernel
theorem dX0_closeTests_44 : decode cX0_closeTests 44 = .ok (.iconst 5, 1) := by decide +kernel
theorem dX0_closeTests_45 : decode cX0_closeTests 45 = .ok (.bipush 7, 2) := by decide +kernel
theorem dX0_closeTests_47 : decode cX0_closeTests 47 = .ok (.invokevirtual 122, 3) := by decide +kernel
theorem dX0_closeTests_50 : decode cX0_closeTests 50 = .ok (.ifCond .ne 5, 3) := by decide +kernel
theorem dX0_closeTests_53 : decode cX0_closeTests 53 = .ok (.iconst 0, 1) := by decide +kernel
theorem dX0_closeTests_54 : decode cX0_closeTests 54 = .ok (.ireturn, 1) := by decide +kernel
theorem dX0_closeTests_55 : decode cX0_closeTests 55 = .ok (.aload_n 0, 1) := by decide +kernel
theorem dX0_closeTests_56 : decode cX0_closeTests 56 = .ok (.getfield 37, 3) := by decide +kernel
theorem dX0_closeTests_59 : decode cX0_closeTests 59 = .ok (.getfield 51, 3) := by decide +kernel
theorem dX0_closeTests_62 : decode cX0_closeTests 62 = .ok (.iconst 5, 1) := by decide +kernel
theorem dX0_closeTests_63 : decode cX0_closeTests 63 = .ok (.if_icmp .eq 10, 3) := by decide +kernel
theorem dX0_closeTests_66 : decode cX0_closeTests 66 = .ok (.aload_n 0, 1) := by decide +kernel
theorem dX0_closeTests_67 : decode cX0_closeTests 67 = .ok (.getfield 104, 3) := by decide +kernel
theorem dX0_closeTests_70 : decode cX0_closeTests 70 = .ok (.ifCond .ne 5, 3) := by decide +kernel
theorem dX0_closeTests_73 : decode cX0_closeTests 73 = .ok (.iconst 1, 1) := by decide +kernel
theorem dX0_closeTests_74 : decode cX0_closeTests 74 = .ok (.ireturn, 1) := by decide +kernel
theorem dX0_closeTests_75 : decode cX0_closeTests 75 = .ok (.aload_n 0, 1) := by decide +kernel
theorem dX0_closeTests_76 : decode cX0_closeTests 76 = .ok (.bipush 21, 2) := by decide +kernel
theorem dX0_closeTests_78 : decode cX0_closeTests 78 = .ok (.invokevirtual 64, 3) := by decide +kernel
theorem dX0_closeTests_81 : decode cX0_closeTests 81 = .ok (.ifCond .ne 5, 3) := by decide +kernel
theorem dX0_closeTests_84 : decode cX0_closeTests 84 = .ok (.iconst 0, 1) := by decide +kernel
theorem dX0_closeTests_85 : decode cX0_closeTests 85 = .ok (.ireturn, 1) := by decide +kernel
theorem dX0_closeTests_86 : decode cX0_closeTests 86 = .ok (.aload_n 0, 1) := by decide +kernel
theorem dX0_closeTests_87 : decode cX0_closeTests 87 = .ok (.dup, 1) := by decide +kernel
theorem dX0_closeTests_88 : decode cX0_closeTests 88 = .ok (.getfield 104, 3) := by decide +kernel
theorem dX0_closeTests_91 : decode cX0_closeTests 91 = .ok (.iconst 1, 1) := by decide +kernel
theorem dX0_closeTests_92 : decode cX0_closeTests 92 = .ok (.isub, 1) := by decide +kernel
theorem dX0_closeTests_93 : decode cX0_closeTests 93 = .ok (.putfield 104, 3) := by decide +kernel
theorem dX0_closeTests_96 : decode cX0_closeTests 96 = .ok (.aload_n 0, 1) := by decide +kernel
theorem dX0_closeTests_97 : decode cX0_closeTests 97 = .ok (.dup, 1) := by decide +kernel
theorem dX0_closeTests_98 : decode cX0_closeTests 98 = .ok (.getfield 107, 3) := by decide +kernel
theorem dX0_closeTests_101 : decode cX0_closeTests 101 = .ok (.iconst 1, 1) := by decide +kernel
theorem dX0_closeTests_102 : decode cX0_closeTests 102 = .ok (.isub, 1) := by decide +kernel
theorem dX0_closeTests_103 : decode cX0_closeTests 103 = .ok (.putfield 107, 3) := by decide +kernel
theorem dX0_closeTests_106 : decode cX0_closeTests 106 = .ok (.iinc 1 1, 3) := by decide +kernel
theorem dX0_closeTests_109 : decode cX0_closeTests 109 = .ok (.goto (-107), 3) := by decide +kernel
theorem dX0_closeTests_112 : decode cX0_closeTests 112 = .ok (.iconst 1, 1) := by decide +kernel
theorem dX0_closeTests_113 : decode cX0_closeTests 113 = .ok (.ireturn, 1) := by decide +kernel
theorem dX0_join_0 : decode cX0_join 0 = .ok (.aload_n 0, 1) := by decide +kernel
theorem dX0_join_1 : decode cX0_join 1 = .ok (.getfield 104, 3) := by decide +kernel
theorem dX0_join_4 : decode cX0_join 4 = .ok (.ifCond .le 73, 3) := by decide +kernel
theorem dX0_join_7 : decode cX0_join 7 = .ok (.aload_n 0, 1) := by decide +kernel
theorem dX0_join_8 : decode cX0_join 8 = .ok (.getfield 22, 3) := by decide +kernel
theorem dX0_join_11 : decode cX0_join 11 = .ok (.aload_n 0, 1) := by decide +kernel
theorem dX0_join_12 : decode cX0_join 12 = .ok (.getfield 104, 3) := by decide +kernel
theorem dX0_join_15 : decode cX0_join 15 = .ok (.iconst 1, 1) := by decide +kernel
theorem dX0_join_16 : decode cX0_join 16 = .ok (.isub, 1) := by decide +kernel
theorem dX0_join_17 : decode cX0_join 17 = .ok (.iaload, 1) := by decide +kernel
theorem dX0_join_18 : decode cX0_join 18 = .ok (.iload_n 1, 1) := by decide +kernel
theorem dX0_join_19 : decode cX0_join 19 = .ok (.if_icmp .ne 58, 3) := by decide +kernel
theorem dX0_join_22 : decode cX0_join 22 = .ok (.aload_n 0, 1) := by decide +kernel
theorem dX0_join_23 : decode cX0_join 23 = .ok (.dup, 1) := by decide +kernel
theorem dX0_join_24 : decode cX0_join 24 = .ok (.getfield 104, 3) := by decide +kernel
theorem dX0_join_27 : decode cX0_join 27 = .ok (.iconst 1, 1) := by decide +kernel
theorem dX0_join_28 : decode cX0_join 28 = .ok (.isub, 1) := by decide +kernel
theorem dX0_join_29 : decode cX0_join 29 = .ok (.putfield 104, 3) := by decide +kernel
theorem dX0_join_32 : decode cX0_join 32 = .ok (.iload_n 1, 1) := by decide +kernel
theorem dX0_join_33 : decode cX0_join 33 = .ok (.bipush 6, 2) := by decide +kernel
theorem dX0_join_35 : decode cX0_join 35 = .ok (.if_icmp .ne 13, 3) := by decide +kernel
theorem dX0_join_38 : decode cX0_join 38 = .ok (.aload_n 0, 1) := by decide +kernel
theorem dX0_join_39 : decode cX0_join 39 = .ok (.dup, 1) := by decide +kernel
theorem dX0_join_40 : decode cX0_join 40 = .ok (.getfield 107, 3) := by decide +kernel
theorem dX0_join_43 : decode cX0_join 43 = .ok (.iconst 1, 1) := by decide +kernel
theorem dX0_join_44 : decode cX0_join 44 = .ok (.isub, 1) := by decide +kernel
theorem dX0_join_45 : decode cX0_join 45 = .ok (.putfield 107, 3) := by decide +kernel
theorem dX0_join_48 : decode cX0_join 48 = .ok (.aload_n 0, 1) := by decide +kernel
theorem dX0_join_49 : decode cX0_join 49 = .ok (.getfield 12, 3) := by decide +kernel
theorem dX0_join_52 : decode cX0_join 52 = .ok (.iload_n 2, 1) := by decide +kernel
theorem dX0_join_53 : decode cX0_join 53 = .ok (.iconst (-1), 1) := by decide +kernel
theorem dX0_join_54 : decode cX0_join 54 = .ok (.iconst (-1), 1) := by decide +kernel
theorem dX0_join_55 : decode cX0_join 55 = .ok (.iconst (-1), 1) := by decide +kernel
theorem dX0_join_56 : decode cX0_join 56 = .ok (.iconst 0, 1) := by decide +kernel
theorem dX0_join_57 : decode cX0_join 57 = .ok (.invokevirtual 125, 3) := by decide +kernel
theorem dX0_join_60 : decode cX0_join 60 = .ok (.ifCond .ne (-60), 3) := by decide +kernel
theorem dX0_join_63 : decode cX0_join 63 = .ok (.aload_n 0, 1) := by decide +kernel
theorem dX0_join_64 : decode cX0_join 64 = .ok (.aload_n 0, 1) := by decide +kernel
theorem dX0_join_65 : decode cX0_join 65 = .ok (.getfield 25, 3) := by decide +kernel
theorem dX0_join_68 : decode cX0_join 68 = .ok (.aload_n 0, 1) := by decide +kernel
theorem dX0_join_69 : decode cX0_join 69 = .ok (.getfield 104, 3) := by decide +kernel
theorem dX0_join_72 : decode cX0_join 72 = .ok (.iaload, 1) := by decide +kernel
theorem dX0_join_73 : decode cX0_join 73 = .ok (.invokevirtual 57, 3) := by decide +kernel
theorem dX0_join_76 : decode cX0_join 76 = .ok (.ireturn, 1) := by decide +kernel
theorem dX0_join_77 : decode cX0_join 77 = .ok (.iconst 1, 1) := by decide +kernel
theorem dX0_join_78 : decode cX0_join 78 = .ok (.ireturn, 1) := by decide +kernel
theorem dX0_readTest_0 : decode cX0_readTest 0 = .ok (.aload_n 0, 1) := by decide +kernel
theorem dX0_readTest_1 : decode cX0_readTest 1 = .ok (.getfield 37, 3) := by decide +kernel
theorem dX0_readTest_4 : decode cX0_readTest 4 = .ok (.getfield 54, 3) := by decide +kernel
theorem dX0_readTest_7 : decode cX0_readTest 7 = .ok (.istore_n 1, 1) := by decide +kernel
theorem dX0_readTest_8 : decode cX0_readTest 8 = .ok (.aload_n 0, 1) := by decide +kernel
theorem dX0_readTest_9 : decode cX0_readTest 9 = .ok (.invokevirtual 71, 3) := by decide +kernel
theorem dX0_readTest_12 : decode cX0_readTest 12 = .ok (.istore_n 2, 1) := by decide +kernel
theorem dX0_readTest_13 : decode cX0_readTest 13 = .ok (.iload_n 2, 1) := by decide +kernel
theorem dX0_readTest_14 : decode cX0_readTest 14 = .ok (.iconst (-1), 1) := by decide +kernel
theorem dX0_readTest_15 : decode cX0_readTest 15 = .ok (.if_icmp .ne 5, 3) := by decide +kernel
theorem dX0_readTest_18 : decode cX0_readTest 18 = .ok (.iconst 0, 1) := by decide +kernel
theorem dX0_readTest_19 : decode cX0_readTest 19 = .ok (.ireturn, 1) := by decide +kernel
theorem dX0_readTest_20 : decode cX0_readTest 20 = .ok (.aload_n 0, 1) := by decide +kernel
theorem dX0_readTest_21 : decode cX0_readTest 21 = .ok (.getfield 28, 3) := by decide +kernel
theorem dX0_readTest_24 : decode cX0_readTest 24 = .ok (.iload_n 2, 1) := by decide +kernel
theorem dX0_readTest_25 : decode cX0_readTest 25 = .ok (.invokevirtual 79, 3) := by decide +kernel
theorem dX0_readTest_28 : decode cX0_readTest 28 = .ok (.ifCond .ne 9, 3) := by decide +kernel
theorem dX0_readTest_31 : decode cX0_readTest 31 = .ok (.aload_n 0, 1) := by decide +kernel
theorem dX0_readTest_32 : decode cX0_readTest 32 = .ok (.iload_n 1, 1) := by decide +kernel
theorem dX0_readTest_33 : decode cX0_readTest 33 = .ok (.invokevirtual 57, 3) := by decide +kernel
theorem dX0_readTest_36 : decode cX0_readTest 36 = .ok (.ireturn, 1) := by decide +kernel
theorem dX0_readTest_37 : decode cX0_readTest 37 = .ok (.aload_n 0, 1) := by decide +kernel
theorem dX0_readTest_38 : decode cX0_readTest 38 = .ok (.getfield 37, 3) := by decide +kernel
theorem dX0_readTest_41 : decode cX0_readTest 41 = .ok (.getfield 51, 3) := by decide +kernel
theorem dX0_readTest_44 : decode cX0_readTest 44 = .ok (.istore_n 3, 1) := by decide +kernel
theorem dX0_readTest_45 : decode cX0_readTest 45 = .ok (.iload_n 3, 1) := by decide +kernel
theorem dX0_readTest_46 : decode cX0_readTest 46 = .ok (.bipush 7, 2) := by decide +kernel
theorem dX0_readTest_48 : decode cX0_readTest 48 = .ok (.if_icmp .ne 10, 3) := by decide +kernel
theorem dX0_readTest_51 : decode cX0_readTest 51 = .ok (.aload_n 0, 1) := by decide +kernel
theorem dX0_readTest_52 : decode cX0_readTest 52 = .ok (.iload_n 2, 1) := by decide +kernel
theorem dX0_readTest_53 : decode cX0_readTest 53 = .ok (.iload_n 1, 1) := by decide +kernel
theorem dX0_readTest_54 : decode cX0_readTest 54 = .ok (.invokevirtual 129, 3) := by decide +kernel
theorem dX0_readTest_57 : decode cX0_readTest 57 = .ok (.ireturn, 1) := by decide +kernel
theorem dX0_readTest_58 : decode cX0_readTest 58 = .ok (.iload_n 3, 1) := by decide +kernel
theorem dX0_readTest_59 : decode cX0_readTest 59 = .ok (.bipush 9, 2) := by decide +kernel
theorem dX0_readTest_61 : decode cX0_readTest 61 = .ok (.if_icmp .ne 10, 3) := by decide +kernel
theorem dX0_readTest_64 : decode cX0_readTest 64 = .ok (.aload_n 0, 1) := by decide +kernel
theorem dX0_readTest_65 : decode cX0_readTest 65 = .ok (.iload_n 2, 1) := by decide +kernel
theorem dX0_readTest_66 : decode cX0_readTest 66 = .ok (.iload_n 1, 1) := by decide +kernel
theorem dX0_readTest_67 : decode cX0_readTest 67 = .ok (.invokevirtual 132, 3) := by decide +kernel
theorem dX0_readTest_70 : decode cX0_readTest 70 = .ok (.ireturn, 1) := by decide +kernel
theorem dX0_readTest_71 : decode cX0_readTest 71 = .ok (.iload_n 3, 1) := by decide +kernel
theorem dX0_readTest_72 : decode cX0_readTest 72 = .ok (.bipush 22, 2) := by decide +kernel
theorem dX0_readTest_74 : decode cX0_readTest 74 = .ok (.if_icmp .lt 16, 3) := by decide +kernel
theorem dX0_readTest_77 : decode cX0_readTest 77 = .ok (.iload_n 3, 1) := by decide +kernel
theorem dX0_readTest_78 : decode cX0_readTest 78 = .ok (.bipush 27, 2) := by decide +kernel
theorem dX0_readTest_80 : decode cX0_readTest 80 = .ok (.if_icmp .gt 10, 3) := by decide +kernel
theorem dX0_readTest_83 : decode cX0_readTest 83 = .ok (.aload_n 0, 1) := by decide +kernel
theorem dX0_readTest_84 : decode cX0_readTest 84 = .ok (.iload_n 2, 1) := by decide +kernel
theorem dX0_readTest_85 : decode cX0_readTest 85 = .ok (.iload_n 1, 1) := by decide +kernel
theorem dX0_readTest_86 : decode cX0_readTest 86 = .ok (.invokevirtual 135, 3) := by decide +kernel
theorem dX0_readTest_89 : decode cX0_readTest 89 = .ok (.ireturn, 1) := by decide +kernel
theorem dX0_readTest_90 : decode cX0_readTest 90 = .ok (.aload_n 0, 1) := by decide +kernel
theorem dX0_readTest_91 : decode cX0_readTest 91 = .ok (.aload_n 0, 1) := by decide +kernel
theorem dX0_readTest_92 : decode cX0_readTest 92 = .ok (.getfield 37, 3) := by decide +kernel
theorem dX0_readTest_95 : decode cX0_readTest 95 = .ok (.getfield 54, 3) := by decide +kernel
theorem dX0_readTest_98 : decode cX0_readTest 98 = .ok (.invokevirtual 57, 3) := by decide +kernel
theorem dX0_readTest_101 : decode cX0_readTest 101 = .ok (.ireturn, 1) := by decide +kernel
theorem dX0_readIsNull_0 : decode cX0_readIsNull 0 = .ok (.aload_n 0, 1) := by decide +kernel
theorem dX0_readIsNull_1 : decode cX0_readIsNull 1 = .ok (.getfield 37, 3) := by decide +kernel
theorem dX0_readIsNull_4 : decode cX0_readIsNull 4 = .ok (.invokevirtual 61, 3) := by decide +kernel
theorem dX0_readIsNull_7 : decode cX0_readIsNull 7 = .ok (.iconst 0, 1) := by decide +kernel
theorem dX0_readIsNull_8 : decode cX0_readIsNull 8 = .ok (.istore_n 3, 1) := by decide +kernel
theorem dX0_readIsNull_9 : decode cX0_readIsNull 9 = .ok (.aload_n 0, 1) := by decide +kernel
theorem dX0_readIsNull_10 : decode cX0_readIsNull 10 = .ok (.getfield 37, 3) := by decide +kernel
theorem dX0_readIsNull_13 : decode cX0_readIsNull 13 = .ok (.getfield 51, 3) := by decide +kernel
theorem dX0_readIsNull_16 : decode cX0_readIsNull 16 = .ok (.bipush 6, 2) := by decide +kernel
theorem dX0_readIsNull_18 : decode cX0_readIsNull 18 = .ok (.if_icmp .ne 12, 3) := by decide +kernel
theorem dX0_readIsNull_21 : decode cX0_readIsNull 21 = .ok (.iconst 1, 1) := by decide +kernel
theorem dX0_readIsNull_22 : decode cX0_readIsNull 22 = .ok (.istore_n 3, 1) := by decide +kernel
theorem dX0_readIsNull_23 : decode cX0_readIsNull 23 = .ok (.aload_n 0, 1) := by decide +kernel
theorem dX0_readIsNull_24 : decode cX0_readIsNull 24 = .ok (.getfield 37, 3) := by decide +kernel
theorem dX0_readIsNull_27 : decode cX0_readIsNull 27 = .ok (.invokevirtual 61, 3) := by decide +kernel
theorem dX0_readIsNull_30 : decode cX0_readIsNull 30 = .ok (.aload_n 0, 1) := by decide +kernel
theorem dX0_readIsNull_31 : decode cX0_readIsNull 31 = .ok (.bipush 8, 2) := by decide +kernel
theorem dX0_readIsNull_33 : decode cX0_readIsNull 33 = .ok (.invokevirtual 64, 3) := by decide +kernel
theorem dX0_readIsNull_36 : decode cX0_readIsNull 36 = .ok (.ifCond .eq 30, 3) := by decide +kernel
theorem dX0_readIsNull_39 : decode cX0_readIsNull 39 = .ok (.aload_n 0, 1) := by decide +kernel
theorem dX0_readIsNull_40 : decode cX0_readIsNull 40 = .ok (.getfield 12, 3) := by decide +kernel
theorem dX0_readIsNull_43 : decode cX0_readIsNull 43 = .ok (.iload_n 3, 1) := by decide +kernel
theorem dX0_readIsNull_44 : decode cX0_readIsNull 44 = .ok (.iload_n 1, 1) := by decide +kernel
theorem dX0_readIsNull_45 : decode cX0_readIsNull 45 = .ok (.iconst (-1), 1) := by decide +kernel
theorem dX0_readIsNull_46 : decode cX0_readIsNull 46 = .ok (.iconst (-1), 1) := by decide +kernel
theorem dX0_readIsNull_47 : decode cX0_readIsNull 47 = .ok (.iconst 0, 1) := by decide +kernel
theorem dX0_readIsNull_48 : decode cX0_readIsNull 48 = .ok (.invokevirtual 125, 3) := by decide +kernel
theorem dX0_readIsNull_51 : decode cX0_readIsNull 51 = .ok (.ifCond .ne 11, 3) := by decide +kernel
theorem dX0_readIsNull_54 : decode cX0_readIsNull 54 = .ok (.aload_n 0, 1) := by decide +kernel
theorem dX0_readIsNull_55 : decode cX0_readIsNull 55 = .ok (.iload_n 2, 1) := by decide +kernel
theorem dX0_readIsNull_56 : decode cX0_readIsNull 56 = .ok (.invokevirtual 57, 3) := by decide +kernel
theorem dX0_readIsNull_59 : decode cX0_readIsNull 59 = .ok (.ifCond .eq 7, 3) := by decide +kernel
theorem dX0_readIsNull_62 : decode cX0_readIsNull 62 = .ok (.iconst 1, 1) := by decide +kernel
theorem dX0_readIsNull_63 : decode cX0_readIsNull 63 = .ok (.goto 4, 3) := by decide +kernel
theorem dX0_readIsNull_66 : decode cX0_readIsNull 66 = .ok (.iconst 0, 1) := by decide +kernel
theorem dX0_readIsNull_67 : decode cX0_readIsNull 67 = .ok (.ireturn, 1) := by decide +kernel
theorem dX0_readIn_0 : decode cX0_readIn 0 = .ok (.aload_n 0, 1) := by decide +kernel
theorem dX0_readIn_1 : decode cX0_readIn 1 = .ok (.getfield 37, 3) := by decide +kernel
theorem dX0_readIn_4 : decode cX0_readIn 4 = .ok (.invokevirtual 61, 3) := by decide +kernel
theorem dX0_readIn_7 : decode cX0_readIn 7 = .ok (.aload_n 0, 1) := by decide +kernel
theorem dX0_readIn_8 : decode cX0_readIn 8 = .ok (.bipush 20, 2) := by decide +kernel
theorem dX0_readIn_10 : decode cX0_readIn 10 = .ok (.invokevirtual 64, 3) := by decide +kernel
theorem dX0_readIn_13 : decode cX0_readIn 13 = .ok (.ifCond .ne 5, 3) := by decide +kernel
theorem dX0_readIn_16 : decode cX0_readIn 16 = .ok (.iconst 0, 1) := by decide +kernel
theorem dX0_readIn_17 : decode cX0_readIn 17 = .ok (.ireturn, 1) := by decide +kernel
theorem dX0_readIn_18 : decode cX0_readIn 18 = .ok (.aload_n 0, 1) := by decide +kernel
theorem dX0_readIn_19 : decode cX0_readIn 19 = .ok (.getfield 12, 3) := by decide +kernel
theorem dX0_readIn_22 : decode cX0_readIn 22 = .ok (.getfield 138, 3) := by decide +kernel
theorem dX0_readIn_25 : decode cX0_readIn 25 = .ok (.istore_n 3, 1) := by decide +kernel
theorem dX0_readIn_26 : decode cX0_readIn 26 = .ok (.iconst 0, 1) := by decide +kernel
theorem dX0_readIn_27 : decode cX0_readIn 27 = .ok (.istore 4, 2) := by decide +kernel
theorem dX0_readIn_29 : decode cX0_readIn 29 = .ok (.iload 4, 2) := by decide +kernel
theorem dX0_readIn_31 : decode cX0_readIn 31 = .ok (.bipush 64, 2) := by decide +kernel
theorem dX0_readIn_33 : decode cX0_readIn 33 = .ok (.if_icmp .gt 41, 3) := by decide +kernel
theorem dX0_readIn_36 : decode cX0_readIn 36 = .ok (.aload_n 0, 1) := by decide +kernel
theorem dX0_readIn_37 : decode cX0_readIn 37 = .ok (.iload_n 1, 1) := by decide +kernel
theorem dX0_readIn_38 : decode cX0_readIn 38 = .ok (.invokevirtual 141, 3) := by decide +kernel
theorem dX0_readIn_41 : decode cX0_readIn 41 = .ok (.ifCond .ne 5, 3) := by decide +kernel
theorem dX0_readIn_44 : decode cX0_readIn 44 = .ok (.iconst 0, 1) := by decide +kernel
theorem dX0_readIn_45 : decode cX0_readIn 45 = .ok (.ireturn, 1) := by decide +kernel
theorem dX0_readIn_46 : decode cX0_readIn 46 = .ok (.aload_n 0, 1) := by decide +kernel
theorem dX0_readIn_47 : decode cX0_readIn 47 = .ok (.getfield 37, 3) := by decide +kernel
theorem dX0_readIn_50 : decode cX0_readIn 50 = .ok (.getfield 51, 3) := by decide +kernel
theorem dX0_readIn_53 : decode cX0_readIn 53 = .ok (.bipush 19, 2) := by decide +kernel
theorem dX0_readIn_55 : decode cX0_readIn 55 = .ok (.if_icmp .eq 6, 3) := by decide +kernel
theorem dX0_readIn_58 : decode cX0_readIn 58 = .ok (.goto 16, 3) := by decide +kernel
theorem dX0_readIn_61 : decode cX0_readIn 61 = .ok (.aload_n 0, 1) := by decide +kernel
theorem dX0_readIn_62 : decode cX0_readIn 62 = .ok (.getfield 37, 3) := by decide +kernel
theorem dX0_readIn_65 : decode cX0_readIn 65 = .ok (.invokevirtual 61, 3) := by decide +kernel
theorem dX0_readIn_68 : decode cX0_readIn 68 = .ok (.iinc 4 1, 3) := by decide +kernel
theorem dX0_readIn_71 : decode cX0_readIn 71 = .ok (.goto (-42), 3) := by decide +kernel
theorem dX0_readIn_74 : decode cX0_readIn 74 = .ok (.aload_n 0, 1) := by decide +kernel
theorem dX0_readIn_75 : decode cX0_readIn 75 = .ok (.getfield 12, 3) := by decide +kernel
theorem dX0_readIn_78 : decode cX0_readIn 78 = .ok (.getfield 138, 3) := by decide +kernel
theorem dX0_readIn_81 : decode cX0_readIn 81 = .ok (.iload_n 3, 1) := by decide +kernel
theorem dX0_readIn_82 : decode cX0_readIn 82 = .ok (.isub, 1) := by decide +kernel
theorem dX0_readIn_83 : decode cX0_readIn 83 = .ok (.istore 4, 2) := by decide +kernel
theorem dX0_readIn_85 : decode cX0_readIn 85 = .ok (.aload_n 0, 1) := by decide +kernel
theorem dX0_readIn_86 : decode cX0_readIn 86 = .ok (.bipush 21, 2) := by decide +kernel
theorem dX0_readIn_88 : decode cX0_readIn 88 = .ok (.invokevirtual 64, 3) := by decide +kernel
theorem dX0_readIn_91 : decode cX0_readIn 91 = .ok (.ifCond .eq 31, 3) := by decide +kernel
theorem dX0_readIn_94 : decode cX0_readIn 94 = .ok (.aload_n 0, 1) := by decide +kernel
theorem dX0_readIn_95 : decode cX0_readIn 95 = .ok (.getfield 12, 3) := by decide +kernel
theorem dX0_readIn_98 : decode cX0_readIn 98 = .ok (.iconst 2, 1) := by decide +kernel
theorem dX0_readIn_99 : decode cX0_readIn 99 = .ok (.iload_n 1, 1) := by decide +kernel
theorem dX0_readIn_100 : decode cX0_readIn 100 = .ok (.iconst (-1), 1) := by decide +kernel
theorem dX0_readIn_101 : decode cX0_readIn 101 = .ok (.iload_n 3, 1) := by decide +kernel
theorem dX0_readIn_102 : decode cX0_readIn 102 = .ok (.iload 4, 2) := by decide +kernel
theorem dX0_readIn_104 : decode cX0_readIn 104 = .ok (.invokevirtual 125, 3) := by decide +kernel
theorem dX0_readIn_107 : decode cX0_readIn 107 = .ok (.ifCond .ne 11, 3) := by decide +kernel
theorem dX0_readIn_110 : decode cX0_readIn 110 = .ok (.aload_n 0, 1) := by decide +kernel
theorem dX0_readIn_111 : decode cX0_readIn 111 = .ok (.iload_n 2, 1) := by decide +kernel
theorem dX0_readIn_112 : decode cX0_readIn 112 = .ok (.invokevirtual 57, 3) := by decide +kernel
theorem dX0_readIn_115 : decode cX0_readIn 115 = .ok (.ifCond .eq 7, 3) := by decide +kernel
theorem dX0_readIn_118 : decode cX0_readIn 118 = .ok (.iconst 1, 1) := by decide +kernel
theorem dX0_readIn_119 : decode cX0_readIn 119 = .ok (.goto 4, 3) := by decide +kernel
theorem dX0_readIn_122 : decode cX0_readIn 122 = .ok (.iconst 0, 1) := by decide +kernel
theorem dX0_readIn_123 : decode cX0_readIn 123 = .ok (.ireturn, 1) := by decide +kernel
theorem dX0_readCompared_0 : decode cX0_readCompared 0 = .ok (.aload_n 0, 1) := by decide +kernel
theorem dX0_readCompared_1 : decode cX0_readCompared 1 = .ok (.getfield 37, 3) := by decide +kernel
theorem dX0_readCompared_4 : decode cX0_readCompared 4 = .ok (.getfield 51, 3) := by decide +kernel
theorem dX0_readCompared_7 : decode cX0_readCompared 7 = .ok (.bipush 22, 2) := by decide +kernel
theorem dX0_readCompared_9 : decode cX0_readCompared 9 = .ok (.isub, 1) := by decide +kernel
theorem dX0_readCompared_10 : decode cX0_readCompared 10 = .ok (.istore_n 3, 1) := by decide +kernel
theorem dX0_readCompared_11 : decode cX0_readCompared 11 = .ok (.aload_n 0, 1) := by decide +kernel
theorem dX0_readCompared_12 : decode cX0_readCompared 12 = .ok (.getfield 37, 3) := by decide +kernel
theorem dX0_readCompared_15 : decode cX0_readCompared 15 = .ok (.invokevirtual 61, 3) := by decide +kernel
theorem dX0_readCompared_18 : decode cX0_readCompared 18 = .ok (.aload_n 0, 1) := by decide +kernel
theorem dX0_readCompared_19 : decode cX0_readCompared 19 = .ok (.getfield 37, 3) := by decide +kernel
theorem dX0_readCompared_22 : decode cX0_readCompared 22 = .ok (.getfield 51, 3) := by decide +kernel
theorem dX0_readCompared_25 : decode cX0_readCompared 25 = .ok (.bipush 16, 2) := by decide +kernel
theorem dX0_readCompared_27 : decode cX0_readCompared 27 = .ok (.if_icmp .eq 50, 3) := by decide +kernel
theorem dX0_readCompared_30 : decode cX0_readCompared 30 = .ok (.aload_n 0, 1) := by decide +kernel
theorem dX0_readCompared_31 : decode cX0_readCompared 31 = .ok (.getfield 12, 3) := by decide +kernel
theorem dX0_readCompared_34 : decode cX0_readCompared 34 = .ok (.getfield 138, 3) := by decide +kernel
theorem dX0_readCompared_37 : decode cX0_readCompared 37 = .ok (.istore 4, 2) := by decide +kernel
theorem dX0_readCompared_39 : decode cX0_readCompared 39 = .ok (.aload_n 0, 1) := by decide +kernel
theorem dX0_readCompared_40 : decode cX0_readCompared 40 = .ok (.iload_n 1, 1) := by decide +kernel
theorem dX0_readCompared_41 : decode cX0_readCompared 41 = .ok (.invokevirtual 141, 3) := by decide +kernel
theorem dX0_readCompared_44 : decode cX0_readCompared 44 = .ok (.ifCond .eq 31, 3) := by decide +kernel
theorem dX0_readCompared_47 : decode cX0_readCompared 47 = .ok (.aload_n 0, 1) := by decide +kernel
theorem dX0_readCompared_48 : decode cX0_readCompared 48 = .ok (.getfield 12, 3) := by decide +kernel
theorem dX0_readCompared_51 : decode cX0_readCompared 51 = .ok (.iconst 3, 1) := by decide +kernel
theorem dX0_readCompared_52 : decode cX0_readCompared 52 = .ok (.iload_n 1, 1) := by decide +kernel
theorem dX0_readCompared_53 : decode cX0_readCompared 53 = .ok (.iload_n 3, 1) := by decide +kernel
theorem dX0_readCompared_54 : decode cX0_readCompared 54 = .ok (.iload 4, 2) := by decide +kernel
theorem dX0_readCompared_56 : decode cX0_readCompared 56 = .ok (.iconst 1, 1) := by decide +kernel
theorem dX0_readCompared_57 : decode cX0_readCompared 57 = .ok (.invokevirtual 125, 3) := by decide +kernel
theorem dX0_readCompared_60 : decode cX0_readCompared 60 = .ok (.ifCond .ne 11, 3) := by decide +kernel
theorem dX0_readCompared_63 : decode cX0_readCompared 63 = .ok (.aload_n 0, 1) := by decide +kernel
theorem dX0_readCompared_64 : decode cX0_readCompared 64 = .ok (.iload_n 2, 1) := by decide +kernel
theorem dX0_readCompared_65 : decode cX0_readCompared 65 = .ok (.invokevirtual 57, 3) := by decide +kernel
theorem dX0_readCompared_68 : decode cX0_readCompared 68 = .ok (.ifCond .eq 7, 3) := by decide +kernel
theorem dX0_readCompared_71 : decode cX0_readCompared 71 = .ok (.iconst 1, 1) := by decide +kernel
theorem dX0_readCompared_72 : decode cX0_readCompared 72 = .ok (.goto 4, 3) := by decide +kernel
theorem dX0_readCompared_75 : decode cX0_readCompared 75 = .ok (.iconst 0, 1) := by decide +kernel
theorem dX0_readCompared_76 : decode cX0_readCompared 76 = .ok (.ireturn, 1) := by decide +kernel
theorem dX0_readCompared_77 : decode cX0_readCompared 77 = .ok (.aload_n 0, 1) := by decide +kernel
theorem dX0_readCompared_78 : decode cX0_readCompared 78 = .ok (.getfield 37, 3) := by decide +kernel
theorem dX0_readCompared_81 : decode cX0_readCompared 81 = .ok (.getfield 54, 3) := by decide +kernel
theorem dX0_readCompared_84 : decode cX0_readCompared 84 = .ok (.istore 4, 2) := by decide +kernel
theorem dX0_readCompared_86 : decode cX0_readCompared 86 = .ok (.aload_n 0, 1) := by decide +kernel
theorem dX0_readCompared_87 : decode cX0_readCompared 87 = .ok (.invokevirtual 71, 3) := by decide +kernel
theorem dX0_readCompared_90 : decode cX0_readCompared 90 = .ok (.istore 5, 2) := by decide +kernel
theorem dX0_readCompared_92 : decode cX0_readCompared 92 = .ok (.iload 5, 2) := by decide +kernel
theorem dX0_readCompared_94 : decode cX0_readCompared 94 = .ok (.iconst (-1), 1) := by decide +kernel
theorem dX0_readCompared_95 : decode cX0_readCompared 95 = .ok (.if_icmp .ne 5, 3) := by decide +kernel
theorem dX0_readCompared_98 : decode cX0_readCompared 98 = .ok (.iconst 0, 1) := by decide +kernel
theorem dX0_readCompared_99 : decode cX0_readCompared 99 = .ok (.ireturn, 1) := by decide +kernel
theorem dX0_readCompared_100 : decode cX0_readCompared 100 = .ok (.aload_n 0, 1) := by decide +kernel
theorem dX0_readCompared_101 : decode cX0_readCompared 101 = .ok (.getfield 28, 3) := by decide +kernel
theorem dX0_readCompared_104 : decode cX0_readCompared 104 = .ok (.iload 5, 2) := by decide +kernel
theorem dX0_readCompared_106 : decode cX0_readCompared 106 = .ok (.invokevirtual 79, 3) := by decide +kernel
theorem dX0_readCompared_109 : decode cX0_readCompared 109 = .ok (.ifCond .eq 27, 3) := by decide +kernel
theorem dX0_readCompared_112 : decode cX0_readCompared 112 = .ok (.aload_n 0, 1) := by decide +kernel
theorem dX0_readCompared_113 : decode cX0_readCompared 113 = .ok (.aload_n 0, 1) := by decide +kernel
theorem dX0_readCompared_114 : decode cX0_readCompared 114 = .ok (.getfield 28, 3) := by decide +kernel
theorem dX0_readCompared_117 : decode cX0_readCompared 117 = .ok (.iload_n 1, 1) := by decide +kernel
theorem dX0_readCompared_118 : decode cX0_readCompared 118 = .ok (.invokevirtual 84, 3) := by decide +kernel
theorem dX0_readCompared_121 : decode cX0_readCompared 121 = .ok (.aload_n 0, 1) := by decide +kernel
theorem dX0_readCompared_122 : decode cX0_readCompared 122 = .ok (.getfield 28, 3) := by decide +kernel
theorem dX0_readCompared_125 : decode cX0_readCompared 125 = .ok (.iload 5, 2) := by decide +kernel
theorem dX0_readCompared_127 : decode cX0_readCompared 127 = .ok (.invokevirtual 84, 3) := by decide +kernel
theorem dX0_readCompared_130 : decode cX0_readCompared 130 = .ok (.invokevirtual 144, 3) := by decide +kernel
theorem dX0_readCompared_133 : decode cX0_readCompared 133 = .ok (.ifCond .ne 10, 3) := by decide +kernel
theorem dX0_readCompared_136 : decode cX0_readCompared 136 = .ok (.aload_n 0, 1) := by decide +kernel
theorem dX0_readCompared_137 : decode cX0_readCompared 137 = .ok (.iload 4, 2) := by decide +kernel
theorem dX0_readCompared_139 : decode cX0_readCompared 139 = .ok (.invokevirtual 57, 3) := by decide +kernel
theorem dX0_readCompared_142 : decode cX0_readCompared 142 = .ok (.ireturn, 1) := by decide +kernel
theorem dX0_readCompared_143 : decode cX0_readCompared 143 = .ok (.aload_n 0, 1) := by decide +kernel
theorem dX0_readCompared_144 : decode cX0_readCompared 144 = .ok (.getfield 12, 3) := by decide +kernel
theorem dX0_readCompared_147 : decode cX0_readCompared 147 = .ok (.iconst 4, 1) := by decide +kernel
theorem dX0_readCompared_148 : decode cX0_readCompared 148 = .ok (.iload_n 1, 1) := by decide +kernel
theorem dX0_readCompared_149 : decode cX0_readCompared 149 = .ok (.iload_n 3, 1) := by decide +kernel
theorem dX0_readCompared_150 : decode cX0_readCompared 150 = .ok (.iload 5, 2) := by decide +kernel
theorem dX0_readCompared_152 : decode cX0_readCompared 152 = .ok (.iconst 0, 1) := by decide +kernel
theorem dX0_readCompared_153 : decode cX0_readCompared 153 = .ok (.invokevirtual 125, 3) := by decide +kernel
theorem dX0_readCompared_156 : decode cX0_readCompared 156 = .ok (.ifCond .ne 11, 3) := by decide +kernel
theorem dX0_readCompared_159 : decode cX0_readCompared 159 = .ok (.aload_n 0, 1) := by decide +kernel
theorem dX0_readCompared_160 : decode cX0_readCompared 160 = .ok (.iload_n 2, 1) := by decide +kernel
theorem dX0_readCompared_161 : decode cX0_readCompared 161 = .ok (.invokevirtual 57, 3) := by decide +kernel
theorem dX0_readCompared_164 : decode cX0_readCompared 164 = .ok (.ifCond .eq 7, 3) := by decide +kernel
theorem dX0_readCompared_167 : decode cX0_readCompared 167 = .ok (.iconst 1, 1) := by decide +kernel
theorem dX0_readCompared_168 : decode cX0_readCompared 168 = .ok (.goto 4, 3) := by decide +kernel
theorem dX0_readCompared_171 : decode cX0_readCompared 171 = .ok (.iconst 0, 1) := by decide +kernel
theorem dX0_readCompared_172 : decode cX0_readCompared 172 = .ok (.ireturn, 1) := by decide +kernel
theorem dX0_canCompare_0 : decode cX0_canCompare 0 = .ok (.iload_n 1, 1) := by decide +kernel
theorem dX0_canCompare_1 : decode cX0_canCompare 1 = .ok (.iload_n 2, 1) := by decide +kernel
theorem dX0_canCompare_2 : decode cX0_canCompare 2 = .ok (.if_icmp .eq 19, 3) := by decide +kernel
theorem dX0_canCompare_5 : decode cX0_canCompare 5 = .ok (.aload_n 0, 1) := by decide +kernel
theorem dX0_canCompare_6 : decode cX0_canCompare 6 = .ok (.iload_n 1, 1) := by decide +kernel
theorem dX0_canCompare_7 : decode cX0_canCompare 7 = .ok (.invokevirtual 88, 3) := by decide +kernel
theorem dX0_canCompare_10 : decode cX0_canCompare 10 = .ok (.ifCond .eq 15, 3) := by decide +kernel
theorem dX0_canCompare_13 : decode cX0_canCompare 13 = .ok (.aload_n 0, 1) := by decide +kernel
theorem dX0_canCompare_14 : decode cX0_canCompare 14 = .ok (.iload_n 2, 1) := by decide +kernel
theorem dX0_canCompare_15 : decode cX0_canCompare 15 = .ok (.invokevirtual 88, 3) := by decide +kernel
theorem dX0_canCompare_18 : decode cX0_canCompare 18 = .ok (.ifCond .eq 7, 3) := by decide +kernel
theorem dX0_canCompare_21 : decode cX0_canCompare 21 = .ok (.iconst 1, 1) := by decide +kernel
theorem dX0_canCompare_22 : decode cX0_canCompare 22 = .ok (.goto 4, 3) := by decide +kernel
theorem dX0_canCompare_25 : decode cX0_canCompare 25 = .ok (.iconst 0, 1) := by decide +kernel
theorem dX0_canCompare_26 : decode cX0_canCompare 26 = .ok (.ireturn, 1) := by decide +kernel
theorem dX0_readLiteral_0 : decode cX0_readLiteral 0 = .ok (.aload_n 0, 1) := by decide +kernel
theorem dX0_readLiteral_1 : decode cX0_readLiteral 1 = .ok (.getfield 37, 3) := by decide +kernel
theorem dX0_readLiteral_4 : decode cX0_readLiteral 4 = .ok (.getfield 54, 3) := by decide +kernel
theorem dX0_readLiteral_7 : decode cX0_readLiteral 7 = .ok (.istore_n 2, 1) := by decide +kernel
theorem dX0_readLiteral_8 : decode cX0_readLiteral 8 = .ok (.aload_n 0, 1) := by decide +kernel
theorem dX0_readLiteral_9 : decode cX0_readLiteral 9 = .ok (.getfield 12, 3) := by decide +kernel
theorem dX0_readLiteral_12 : decode cX0_readLiteral 12 = .ok (.getfield 147, 3) := by decide +kernel
theorem dX0_readLiteral_15 : decode cX0_readLiteral 15 = .ok (.istore_n 3, 1) := by decide +kernel
theorem dX0_readLiteral_16 : decode cX0_readLiteral 16 = .ok (.iconst 0, 1) := by decide +kernel
theorem dX0_readLiteral_17 : decode cX0_readLiteral 17 = .ok (.istore 4, 2) := by decide +kernel
theorem dX0_readLiteral_19 : decode cX0_readLiteral 19 = .ok (.lconst 0, 1) := by decide +kernel
theorem dX0_readLiteral_20 : decode cX0_readLiteral 20 = .ok (.lstore 5, 2) := by decide +kernel
theorem dX0_readLiteral_22 : decode cX0_readLiteral 22 = .ok (.iconst (-1), 1) := by decide +kernel
theorem dX0_readLiteral_23 : decode cX0_readLiteral 23 = .ok (.istore 7, 2) := by decide +kernel
theorem dX0_readLiteral_25 : decode cX0_readLiteral 25 = .ok (.aload_n 0, 1) := by decide +kernel
theorem dX0_readLiteral_26 : decode cX0_readLiteral 26 = .ok (.getfield 37, 3) := by decide +kernel
theorem dX0_readLiteral_29 : decode cX0_readLiteral 29 = .ok (.getfield 51, 3) := by decide +kernel
theorem dX0_readLiteral_32 : decode cX0_readLiteral 32 = .ok (.tableswitch 104 10 18 #[52, 58, 104, 104, 104, 104, 104, 61, 85], 52) := by decide +kernel
theorem dX0_readLiteral_84 : decode cX0_readLiteral 84 = .ok (.lconst 1, 1) := by decide +kernel
theorem dX0_readLiteral_85 : decode cX0_readLiteral 85 = .ok (.lstore 5, 2) := by decide +kernel
theorem dX0_readLiteral_87 : decode cX0_readLiteral 87 = .ok (.goto 52, 3) := by decide +kernel
theorem dX0_readLiteral_90 : decode cX0_readLiteral 90 = .ok (.goto 49, 3) := by decide +kernel
theorem dX0_readLiteral_93 : decode cX0_readLiteral 93 = .ok (.iconst 2, 1) := by decide +kernel
theorem dX0_readLiteral_94 : decode cX0_readLiteral 94 = .ok (.istore 4, 2) := by decide +kernel
theorem dX0_readLiteral_96 : decode cX0_readLiteral 96 = .ok (.aload_n 0, 1) := by decide +kernel
theorem dX0_readLiteral_97 : decode cX0_readLiteral 97 = .ok (.getfield 37, 3) := by decide +kernel
theorem dX0_readLiteral_100 : decode cX0_readLiteral 100 = .ok (.invokevirtual 150, 3) := by decide +kernel
theorem dX0_readLiteral_103 : decode cX0_readLiteral 103 = .ok (.istore 7, 2) := by decide +kernel
theorem dX0_readLiteral_105 : decode cX0_readLiteral 105 = .ok (.aload_n 0, 1) := by decide +kernel
theorem dX0_readLiteral_106 : decode cX0_readLiteral 106 = .ok (.getfield 37, 3) := by decide +kernel
theorem dX0_readLiteral_109 : decode cX0_readLiteral 109 = .ok (.getfield 153, 3) := by decide +kernel
theorem dX0_readLiteral_112 : decode cX0_readLiteral 112 = .ok (.lstore 5, 2) := by decide +kernel
theorem dX0_readLiteral_114 : decode cX0_readLiteral 114 = .ok (.goto 25, 3) := by decide +kernel
theorem dX0_readLiteral_117 : decode cX0_readLiteral 117 = .ok (.iconst 3, 1) := by decide +kernel
theorem dX0_readLiteral_118 : decode cX0_readLiteral 118 = .ok (.istore 4, 2) := by decide +kernel
theorem dX0_readLiteral_120 : decode cX0_readLiteral 120 = .ok (.aload_n 0, 1) := by decide +kernel
theorem dX0_readLiteral_121 : decode cX0_readLiteral 121 = .ok (.getfield 37, 3) := by decide +kernel
theorem dX0_readLiteral_124 : decode cX0_readLiteral 124 = .ok (.aload_n 0, 1) := by decide +kernel
theorem dX0_readLiteral_125 : decode cX0_readLiteral 125 = .ok (.getfield 12, 3) := by decide +kernel
theorem dX0_readLiteral_128 : decode cX0_readLiteral 128 = .ok (.invokevirtual 157, 3) := by decide +kernel
theorem dX0_readLiteral_131 : decode cX0_readLiteral 131 = .ok (.istore 7, 2) := by decide +kernel
theorem dX0_readLiteral_133 : decode cX0_readLiteral 133 = .ok (.goto 6, 3) := by decide +kernel
theorem dX0_readLiteral_136 : decode cX0_readLiteral 136 = .ok (.iload_n 2, 1) := by decide +kernel
theorem dX0_readLiteral_137 : decode cX0_readLiteral 137 = .ok (.istore 7, 2) := by decide +kernel
theorem dX0_readLiteral_139 : decode cX0_readLiteral 139 = .ok (.iload 7, 2) := by decide +kernel
theorem dX0_readLiteral_141 : decode cX0_readLiteral 141 = .ok (.iconst (-1), 1) := by decide +kernel
theorem dX0_readLiteral_142 : decode cX0_readLiteral 142 = .ok (.if_icmp .eq 10, 3) := by decide +kernel
theorem dX0_readLiteral_145 : decode cX0_readLiteral 145 = .ok (.aload_n 0, 1) := by decide +kernel
theorem dX0_readLiteral_146 : decode cX0_readLiteral 146 = .ok (.iload 7, 2) := by decide +kernel
theorem dX0_readLiteral_148 : decode cX0_readLiteral 148 = .ok (.invokevirtual 57, 3) := by decide +kernel
theorem dX0_readLiteral_151 : decode cX0_readLiteral 151 = .ok (.ireturn, 1) := by decide +kernel
theorem dX0_readLiteral_152 : decode cX0_readLiteral 152 = .ok (.aload_n 0, 1) := by decide +kernel
theorem dX0_readLiteral_153 : decode cX0_readLiteral 153 = .ok (.getfield 37, 3) := by decide +kernel
theorem dX0_readLiteral_156 : decode cX0_readLiteral 156 = .ok (.invokevirtual 61, 3) := by decide +kernel
theorem dX0_readLiteral_159 : decode cX0_readLiteral 159 = .ok (.aload_n 0, 1) := by decide +kernel
theorem dX0_readLiteral_160 : decode cX0_readLiteral 160 = .ok (.aload_n 0, 1) := by decide +kernel
theorem dX0_readLiteral_161 : decode cX0_readLiteral 161 = .ok (.getfield 28, 3) := by decide +kernel
theorem dX0_readLiteral_164 : decode cX0_readLiteral 164 = .ok (.iload_n 1, 1) := by decide +kernel
theorem dX0_readLiteral_165 : decode cX0_readLiteral 165 = .ok (.invokevirtual 84, 3) := by decide +kernel
theorem dX0_readLiteral_168 : decode cX0_readLiteral 168 = .ok (.iload 4, 2) := by decide +kernel
theorem dX0_readLiteral_170 : decode cX0_readLiteral 170 = .ok (.invokevirtual 144, 3) := by decide +kernel
theorem dX0_readLiteral_173 : decode cX0_readLiteral 173 = .ok (.ifCond .eq 18, 3) := by decide +kernel
theorem dX0_readLiteral_176 : decode cX0_readLiteral 176 = .ok (.aload_n 0, 1) := by decide +kernel
theorem dX0_readLiteral_177 : decode cX0_readLiteral 177 = .ok (.getfield 12, 3) := by decide +kernel
theorem dX0_readLiteral_180 : decode cX0_readLiteral 180 = .ok (.iload 4, 2) := by decide +kernel
theorem dX0_readLiteral_182 : decode cX0_readLiteral 182 = .ok (.lload 5, 2) := by decide +kernel
theorem dX0_readLiteral_184 : decode cX0_readLiteral 184 = .ok (.iload_n 3, 1) := by decide +kernel
theorem dX0_readLiteral_185 : decode cX0_readLiteral 185 = .ok (.invokevirtual 161, 3) := by decide +kernel
theorem dX0_readLiteral_188 : decode cX0_readLiteral 188 = .ok (.ifCond .ne 11, 3) := by decide +kernel
theorem dX0_readLiteral_191 : decode cX0_readLiteral 191 = .ok (.aload_n 0, 1) := by decide +kernel
theorem dX0_readLiteral_192 : decode cX0_readLiteral 192 = .ok (.iload_n 2, 1) := by decide +kernel
theorem dX0_readLiteral_193 : decode cX0_readLiteral 193 = .ok (.invokevirtual 57, 3) := by decide +kernel
theorem dX0_readLiteral_196 : decode cX0_readLiteral 196 = .ok (.ifCond .eq 7, 3) := by decide +kernel
theorem dX0_readLiteral_199 : decode cX0_readLiteral 199 = .ok (.iconst 1, 1) := by decide +kernel
theorem dX0_readLiteral_200 : decode cX0_readLiteral 200 = .ok (.goto 4, 3) := by decide +kernel
theorem dX0_readLiteral_203 : decode cX0_readLiteral 203 = .ok (.iconst 0, 1) := by decide +kernel
theorem dX0_readLiteral_204 : decode cX0_readLiteral 204 = .ok (.ireturn, 1) := by decide +kernel
theorem dX0_readGroup_0 : decode cX0_readGroup 0 = .ok (.aload_n 0, 1) := by decide +kernel
theorem dX0_readGroup_1 : decode cX0_readGroup 1 = .ok (.getfield 37, 3) := by decide +kernel
theorem dX0_readGroup_4 : decode cX0_readGroup 4 = .ok (.getfield 51, 3) := by decide +kernel
theorem dX0_readGroup_7 : decode cX0_readGroup 7 = .ok (.iconst 2, 1) := by decide +kernel
theorem dX0_readGroup_8 : decode cX0_readGroup 8 = .ok (.if_icmp .ne 27, 3) := by decide +kernel
theorem dX0_readGroup_11 : decode cX0_readGroup 11 = .ok (.aload_n 0, 1) := by decide +kernel
theorem dX0_readGroup_12 : decode cX0_readGroup 12 = .ok (.getfield 37, 3) := by decide +kernel
theorem dX0_readGroup_15 : decode cX0_readGroup 15 = .ok (.invokevirtual 61, 3) := by decide +kernel
theorem dX0_readGroup_18 : decode cX0_readGroup 18 = .ok (.aload_n 0, 1) := by decide +kernel
theorem dX0_readGroup_19 : decode cX0_readGroup 19 = .ok (.iconst 3, 1) := by decide +kernel
theorem dX0_readGroup_20 : decode cX0_readGroup 20 = .ok (.invokevirtual 64, 3) := by decide +kernel
theorem dX0_readGroup_23 : decode cX0_readGroup 23 = .ok (.ifCond .eq 10, 3) := by decide +kernel
theorem dX0_readGroup_26 : decode cX0_readGroup 26 = .ok (.aload_n 0, 1) := by decide +kernel
theorem dX0_readGroup_27 : decode cX0_readGroup 27 = .ok (.invokevirtual 165, 3) := by decide +kernel
theorem dX0_readGroup_30 : decode cX0_readGroup 30 = .ok (.ifCond .ne 5, 3) := by decide +kernel
theorem dX0_readGroup_33 : decode cX0_readGroup 33 = .ok (.iconst 0, 1) := by decide +kernel
theorem dX0_readGroup_34 : decode cX0_readGroup 34 = .ok (.ireturn, 1) := by decide +kernel
theorem dX0_readGroup_35 : decode cX0_readGroup 35 = .ok (.aload_n 0, 1) := by decide +kernel
theorem dX0_readGroup_36 : decode cX0_readGroup 36 = .ok (.getfield 37, 3) := by decide +kernel
theorem dX0_readGroup_39 : decode cX0_readGroup 39 = .ok (.getfield 51, 3) := by decide +kernel
theorem dX0_readGroup_42 : decode cX0_readGroup 42 = .ok (.bipush 29, 2) := by decide +kernel
theorem dX0_readGroup_44 : decode cX0_readGroup 44 = .ok (.if_icmp .eq 17, 3) := by decide +kernel
theorem dX0_readGroup_47 : decode cX0_readGroup 47 = .ok (.aload_n 0, 1) := by decide +kernel
theorem dX0_readGroup_48 : decode cX0_readGroup 48 = .ok (.aload_n 0, 1) := by decide +kernel
theorem dX0_readGroup_49 : decode cX0_readGroup 49 = .ok (.getfield 37, 3) := by decide +kernel
theorem dX0_readGroup_52 : decode cX0_readGroup 52 = .ok (.getfield 54, 3) := by decide +kernel
theorem dX0_readGroup_55 : decode cX0_readGroup 55 = .ok (.invokevirtual 57, 3) := by decide +kernel
theorem dX0_readGroup_58 : decode cX0_readGroup 58 = .ok (.ifCond .eq 7, 3) := by decide +kernel
theorem dX0_readGroup_61 : decode cX0_readGroup 61 = .ok (.iconst 1, 1) := by decide +kernel
theorem dX0_readGroup_62 : decode cX0_readGroup 62 = .ok (.goto 4, 3) := by decide +kernel
theorem dX0_readGroup_65 : decode cX0_readGroup 65 = .ok (.iconst 0, 1) := by decide +kernel
theorem dX0_readGroup_66 : decode cX0_readGroup 66 = .ok (.ireturn, 1) := by decide +kernel
theorem dX0_readBehindBy_0 : decode cX0_readBehindBy 0 = .ok (.iconst 0, 1) := by decide +kernel
theorem dX0_readBehindBy_1 : decode cX0_readBehindBy 1 = .ok (.istore_n 1, 1) := by decide +kernel
theorem dX0_readBehindBy_2 : decode cX0_readBehindBy 2 = .ok (.iload_n 1, 1) := by decide +kernel
theorem dX0_readBehindBy_3 : decode cX0_readBehindBy 3 = .ok (.bipush 8, 2) := by decide +kernel
theorem dX0_readBehindBy_5 : decode cX0_readBehindBy 5 = .ok (.if_icmp .ge 78, 3) := by decide +kernel
theorem dX0_readBehindBy_8 : decode cX0_readBehindBy 8 = .ok (.aload_n 0, 1) := by decide +kernel
theorem dX0_readBehindBy_9 : decode cX0_readBehindBy 9 = .ok (.getfield 37, 3) := by decide +kernel
theorem dX0_readBehindBy_12 : decode cX0_readBehindBy 12 = .ok (.getfield 54, 3) := by decide +kernel
theorem dX0_readBehindBy_15 : decode cX0_readBehindBy 15 = .ok (.istore_n 2, 1) := by decide +kernel
theorem dX0_readBehindBy_16 : decode cX0_readBehindBy 16 = .ok (.aload_n 0, 1) := by decide +kernel
theorem dX0_readBehindBy_17 : decode cX0_readBehindBy 17 = .ok (.invokevirtual 71, 3) := by decide +kernel
theorem dX0_readBehindBy_20 : decode cX0_readBehindBy 20 = .ok (.istore_n 3, 1) := by decide +kernel
theorem dX0_readBehindBy_21 : decode cX0_readBehindBy 21 = .ok (.iload_n 3, 1) := by decide +kernel
theorem dX0_readBehindBy_22 : decode cX0_readBehindBy 22 = .ok (.iconst (-1), 1) := by decide +kernel
theorem dX0_readBehindBy_23 : decode cX0_readBehindBy 23 = .ok (.if_icmp .ne 5, 3) := by decide +kernel
theorem dX0_readBehindBy_26 : decode cX0_readBehindBy 26 = .ok (.iconst 0, 1) := by decide +kernel
theorem dX0_readBehindBy_27 : decode cX0_readBehindBy 27 = .ok (.ireturn, 1) := by decide +kernel
theorem dX0_readBehindBy_28 : decode cX0_readBehindBy 28 = .ok (.aload_n 0, 1) := by decide +kernel
theorem dX0_readBehindBy_29 : decode cX0_readBehindBy 29 = .ok (.getfield 28, 3) := by decide +kernel
theorem dX0_readBehindBy_32 : decode cX0_readBehindBy 32 = .ok (.iload_n 3, 1) := by decide +kernel
theorem dX0_readBehindBy_33 : decode cX0_readBehindBy 33 = .ok (.invokevirtual 79, 3) := by decide +kernel
theorem dX0_readBehindBy_36 : decode cX0_readBehindBy 36 = .ok (.ifCond .eq 14, 3) := by decide +kernel
theorem dX0_readBehindBy_39 : decode cX0_readBehindBy 39 = .ok (.aload_n 0, 1) := by decide +kernel
theorem dX0_readBehindBy_40 : decode cX0_readBehindBy 40 = .ok (.getfield 12, 3) := by decide +kernel
theorem dX0_readBehindBy_43 : decode cX0_readBehindBy 43 = .ok (.iload_n 3, 1) := by decide +kernel
theorem dX0_readBehindBy_44 : decode cX0_readBehindBy 44 = .ok (.invokevirtual 168, 3) := by decide +kernel
theorem dX0_readBehindBy_47 : decode cX0_readBehindBy 47 = .ok (.ifCond .ne 9, 3) := by decide +kernel
theorem dX0_readBehindBy_50 : decode cX0_readBehindBy 50 = .ok (.aload_n 0, 1) := by decide +kernel
theorem dX0_readBehindBy_51 : decode cX0_readBehindBy 51 = .ok (.iload_n 2, 1) := by decide +kernel
theorem dX0_readBehindBy_52 : decode cX0_readBehindBy 52 = .ok (.invokevirtual 57, 3) := by decide +kernel
theorem dX0_readBehindBy_55 : decode cX0_readBehindBy 55 = .ok (.ireturn, 1) := by decide +kernel
theorem dX0_readBehindBy_56 : decode cX0_readBehindBy 56 = .ok (.aload_n 0, 1) := by decide +kernel
theorem dX0_readBehindBy_57 : decode cX0_readBehindBy 57 = .ok (.getfield 37, 3) := by decide +kernel
theorem dX0_readBehindBy_60 : decode cX0_readBehindBy 60 = .ok (.getfield 51, 3) := by decide +kernel
theorem dX0_readBehindBy_63 : decode cX0_readBehindBy 63 = .ok (.bipush 19, 2) := by decide +kernel
theorem dX0_readBehindBy_65 : decode cX0_readBehindBy 65 = .ok (.if_icmp .eq 5, 3) := by decide +kernel
theorem dX0_readBehindBy_68 : decode cX0_readBehindBy 68 = .ok (.iconst 1, 1) := by decide +kernel
theorem dX0_readBehindBy_69 : decode cX0_readBehindBy 69 = .ok (.ireturn, 1) := by decide +kernel
theorem dX0_readBehindBy_70 : decode cX0_readBehindBy 70 = .ok (.aload_n 0, 1) := by decide +kernel
theorem dX0_readBehindBy_71 : decode cX0_readBehindBy 71 = .ok (.getfield 37, 3) := by decide +kernel
theorem dX0_readBehindBy_74 : decode cX0_readBehindBy 74 = .ok (.invokevirtual 61, 3) := by decide +kernel
theorem dX0_readBehindBy_77 : decode cX0_readBehindBy 77 = .ok (.iinc 1 1, 3) := by decide +kernel
theorem dX0_readBehindBy_80 : decode cX0_readBehindBy 80 = .ok (.goto (-78), 3) := by decide +kernel
theorem dX0_readBehindBy_83 : decode cX0_readBehindBy 83 = .ok (.aload_n 0, 1) := by decide +kernel
theorem dX0_readBehindBy_84 : decode cX0_readBehindBy 84 = .ok (.aload_n 0, 1) := by decide +kernel
theorem dX0_readBehindBy_85 : decode cX0_readBehindBy 85 = .ok (.getfield 37, 3) := by decide +kernel
theorem dX0_readBehindBy_88 : decode cX0_readBehindBy 88 = .ok (.getfield 54, 3) := by decide +kernel
theorem dX0_readBehindBy_91 : decode cX0_readBehindBy 91 = .ok (.invokevirtual 57, 3) := by decide +kernel
theorem dX0_readBehindBy_94 : decode cX0_readBehindBy 94 = .ok (.ireturn, 1) := by decide +kernel
theorem dX0_checkItems_0 : decode cX0_checkItems 0 = .ok (.aload_n 0, 1) := by decide +kernel
theorem dX0_checkItems_1 : decode cX0_checkItems 1 = .ok (.getfield 12, 3) := by decide +kernel
theorem dX0_checkItems_4 : decode cX0_checkItems 4 = .ok (.invokevirtual 171, 3) := by decide +kernel
theorem dX0_checkItems_7 : decode cX0_checkItems 7 = .ok (.ifCond .ne 4, 3) := by decide +kernel
theorem dX0_checkItems_10 : decode cX0_checkItems 10 = .ok (.return_, 1) := by decide +kernel
theorem dX0_checkItems_11 : decode cX0_checkItems 11 = .ok (.iconst 0, 1) := by decide +kernel
theorem dX0_checkItems_12 : decode cX0_checkItems 12 = .ok (.istore_n 1, 1) := by decide +kernel
theorem dX0_checkItems_13 : decode cX0_checkItems 13 = .ok (.iload_n 1, 1) := by decide +kernel
theorem dX0_checkItems_14 : decode cX0_checkItems 14 = .ok (.aload_n 0, 1) := by decide +kernel
theorem dX0_checkItems_15 : decode cX0_checkItems 15 = .ok (.getfield 12, 3) := by decide +kernel
theorem dX0_checkItems_18 : decode cX0_checkItems 18 = .ok (.getfield 174, 3) := by decide +kernel
theorem dX0_checkItems_21 : decode cX0_checkItems 21 = .ok (.if_icmp .ge 67, 3) := by decide +kernel
theorem dX0_checkItems_24 : decode cX0_checkItems 24 = .ok (.aload_n 0, 1) := by decide +kernel
theorem dX0_checkItems_25 : decode cX0_checkItems 25 = .ok (.getfield 12, 3) := by decide +kernel
theorem dX0_checkItems_28 : decode cX0_checkItems 28 = .ok (.getfield 177, 3) := by decide +kernel
theorem dX0_checkItems_31 : decode cX0_checkItems 31 = .ok (.iload_n 1, 1) := by decide +kernel
theorem dX0_checkItems_32 : decode cX0_checkItems 32 = .ok (.iconst 2, 1) := by decide +kernel
theorem dX0_checkItems_33 : decode cX0_checkItems 33 = .ok (.imul, 1) := by decide +kernel
theorem dX0_checkItems_34 : decode cX0_checkItems 34 = .ok (.iaload, 1) := by decide +kernel
theorem dX0_checkItems_35 : decode cX0_checkItems 35 = .ok (.ifCond .ne 7, 3) := by decide +kernel
theorem dX0_checkItems_38 : decode cX0_checkItems 38 = .ok (.iconst 1, 1) := by decide +kernel
theorem dX0_checkItems_39 : decode cX0_checkItems 39 = .ok (.goto 4, 3) := by decide +kernel
theorem dX0_checkItems_42 : decode cX0_checkItems 42 = .ok (.iconst 0, 1) := by decide +kernel
theorem dX0_checkItems_43 : decode cX0_checkItems 43 = .ok (.istore_n 2, 1) := by decide +kernel
theorem dX0_checkItems_44 : decode cX0_checkItems 44 = .ok (.iload_n 2, 1) := by decide +kernel
theorem dX0_checkItems_45 : decode cX0_checkItems 45 = .ok (.ifCond .eq 37, 3) := by decide +kernel
theorem dX0_checkItems_48 : decode cX0_checkItems 48 = .ok (.aload_n 0, 1) := by decide +kernel
theorem dX0_checkItems_49 : decode cX0_checkItems 49 = .ok (.getfield 12, 3) := by decide +kernel
theorem dX0_checkItems_52 : decode cX0_checkItems 52 = .ok (.aload_n 0, 1) := by decide +kernel
theorem dX0_checkItems_53 : decode cX0_checkItems 53 = .ok (.getfield 12, 3) := by decide +kernel
theorem dX0_checkItems_56 : decode cX0_checkItems 56 = .ok (.getfield 177, 3) := by decide +kernel
theorem dX0_checkItems_59 : decode cX0_checkItems 59 = .ok (.iload_n 1, 1) := by decide +kernel
theorem dX0_checkItems_60 : decode cX0_checkItems 60 = .ok (.iconst 2, 1) := by decide +kernel
theorem dX0_checkItems_61 : decode cX0_checkItems 61 = .ok (.imul, 1) := by decide +kernel
theorem dX0_checkItems_62 : decode cX0_checkItems 62 = .ok (.iconst 1, 1) := by decide +kernel
theorem dX0_checkItems_63 : decode cX0_checkItems 63 = .ok (.iadd, 1) := by decide +kernel
theorem dX0_checkItems_64 : decode cX0_checkItems 64 = .ok (.iaload, 1) := by decide +kernel
theorem dX0_checkItems_65 : decode cX0_checkItems 65 = .ok (.invokevirtual 180, 3) := by decide +kernel
theorem dX0_checkItems_68 : decode cX0_checkItems 68 = .ok (.ifCond .ne 14, 3) := by decide +kernel
theorem dX0_checkItems_71 : decode cX0_checkItems 71 = .ok (.aload_n 0, 1) := by decide +kernel
theorem dX0_checkItems_72 : decode cX0_checkItems 72 = .ok (.aload_n 0, 1) := by decide +kernel
theorem dX0_checkItems_73 : decode cX0_checkItems 73 = .ok (.getfield 18, 3) := by decide +kernel
theorem dX0_checkItems_76 : decode cX0_checkItems 76 = .ok (.iload_n 1, 1) := by decide +kernel
theorem dX0_checkItems_77 : decode cX0_checkItems 77 = .ok (.iaload, 1) := by decide +kernel
theorem dX0_checkItems_78 : decode cX0_checkItems 78 = .ok (.invokevirtual 57, 3) := by decide +kernel
theorem dX0_checkItems_81 : decode cX0_checkItems 81 = .ok (.pop, 1) := by decide +kernel
theorem dX0_checkItems_82 : decode cX0_checkItems 82 = .ok (.iinc 1 1, 3) := by decide +kernel
theorem dX0_checkItems_85 : decode cX0_checkItems 85 = .ok (.goto (-72), 3) := by decide +kernel
theorem dX0_checkItems_88 : decode cX0_checkItems 88 = .ok (.return_, 1) := by decide +kernel
theorem dX1_init_0 : decode cX1_init 0 = .ok (.aload_n 0, 1) := by decide +kernel
theorem dX1_init_1 : decode cX1_init 1 = .ok (.invokespecial 3, 3) := by decide +kernel
theorem dX1_init_4 : decode cX1_init 4 = .ok (.aload_n 0, 1) := by decide +kernel
theorem dX1_init_5 : decode cX1_init 5 = .ok (.bipush 32, 2) := by decide +kernel
theorem dX1_init_7 : decode cX1_init 7 = .ok (.newarray .int, 2) := by decide +kernel
theorem dX1_init_9 : decode cX1_init 9 = .ok (.putfield 9, 3) := by decide +kernel
theorem dX1_init_12 : decode cX1_init 12 = .ok (.aload_n 0, 1) := by decide +kernel
theorem dX1_init_13 : decode cX1_init 13 = .ok (.bipush 8, 2) := by decide +kernel
theorem dX1_init_15 : decode cX1_init 15 = .ok (.newarray .int, 2) := by decide +kernel
theorem dX1_init_17 : decode cX1_init 17 = .ok (.putfield 15, 3) := by decide +kernel
theorem dX1_init_20 : decode cX1_init 20 = .ok (.aload_n 0, 1) := by decide +kernel
theorem dX1_init_21 : decode cX1_init 21 = .ok (.sipush 320, 3) := by decide +kernel
theorem dX1_init_24 : decode cX1_init 24 = .ok (.newarray .int, 2) := by decide +kernel
theorem dX1_init_26 : decode cX1_init 26 = .ok (.putfield 18, 3) := by decide +kernel
theorem dX1_init_29 : decode cX1_init 29 = .ok (.aload_n 0, 1) := by decide +kernel
theorem dX1_init_30 : decode cX1_init 30 = .ok (.bipush 64, 2) := by decide +kernel
theorem dX1_init_32 : decode cX1_init 32 = .ok (.newarray .int, 2) := by decide +kernel
theorem dX1_init_34 : decode cX1_init 34 = .ok (.putfield 21, 3) := by decide +kernel
theorem dX1_init_37 : decode cX1_init 37 = .ok (.aload_n 0, 1) := by decide +kernel
theorem dX1_init_38 : decode cX1_init 38 = .ok (.bipush 64, 2) := by decide +kernel
theorem dX1_init_40 : decode cX1_init 40 = .ok (.newarray .long, 2) := by decide +kernel
theorem dX1_init_42 : decode cX1_init 42 = .ok (.putfield 24, 3) := by decide +kernel
theorem dX1_init_45 : decode cX1_init 45 = .ok (.aload_n 0, 1) := by decide +kernel
theorem dX1_init_46 : decode cX1_init 46 = .ok (.bipush 64, 2) := by decide +kernel
theorem dX1_init_48 : decode cX1_init 48 = .ok (.newarray .int, 2) := by decide +kernel
theorem dX1_init_50 : decode cX1_init 50 = .ok (.putfield 28, 3) := by decide +kernel
theorem dX1_init_53 : decode cX1_init 53 = .ok (.aload_n 0, 1) := by decide +kernel
theorem dX1_init_54 : decode cX1_init 54 = .ok (.bipush 64, 2) := by decide +kernel
theorem dX1_init_56 : decode cX1_init 56 = .ok (.newarray .int, 2) := by decide +kernel
theorem dX1_init_58 : decode cX1_init 58 = .ok (.putfield 31, 3) := by decide +kernel
theorem dX1_init_61 : decode cX1_init 61 = .ok (.aload_n 0, 1) := by decide +kernel
theorem dX1_init_62 : decode cX1_init 62 = .ok (.sipush 2000, 3) := by decide +kernel
theorem dX1_init_65 : decode cX1_init 65 = .ok (.newarray .int, 2) := by decide +kernel
theorem dX1_init_67 : decode cX1_init 67 = .ok (.putfield 34, 3) := by decide +kernel
theorem dX1_init_70 : decode cX1_init 70 = .ok (.return_, 1) := by decide +kernel
theorem dX1_clear_0 : decode cX1_clear 0 = .ok (.aload_n 0, 1) := by decide +kernel
theorem dX1_clear_1 : decode cX1_clear 1 = .ok (.iconst 0, 1) := by decide +kernel
theorem dX1_clear_2 : decode cX1_clear 2 = .ok (.putfield 37, 3) := by decide +kernel
theorem dX1_clear_5 : decode cX1_clear 5 = .ok (.aload_n 0, 1) := by decide +kernel
theorem dX1_clear_6 : decode cX1_clear 6 = .ok (.iconst 0, 1) := by decide +kernel
theorem dX1_clear_7 : decode cX1_clear 7 = .ok (.putfield 41, 3) := by decide +kernel
theorem dX1_clear_10 : decode cX1_clear 10 = .ok (.aload_n 0, 1) := by decide +kernel
theorem dX1_clear_11 : decode cX1_clear 11 = .ok (.iconst 0, 1) := by decide +kernel
theorem dX1_clear_12 : decode cX1_clear 12 = .ok (.putfield 44, 3) := by decide +kernel
theorem dX1_clear_15 : decode cX1_clear 15 = .ok (.aload_n 0, 1) := by decide +kernel
theorem dX1_clear_16 : decode cX1_clear 16 = .ok (.iconst 0, 1) := by decide +kernel
theorem dX1_clear_17 : decode cX1_clear 17 = .ok (.putfield 47, 3) := by decide +kernel
theorem dX1_clear_20 : decode cX1_clear 20 = .ok (.aload_n 0, 1) := by decide +kernel
theorem dX1_clear_21 : decode cX1_clear 21 = .ok (.iconst 0, 1) := by decide +kernel
theorem dX1_clear_22 : decode cX1_clear 22 = .ok (.putfield 50, 3) := by decide +kernel
theorem dX1_clear_25 : decode cX1_clear 25 = .ok (.return_, 1) := by decide +kernel
theorem dX1_copy_0 : decode cX1_copy 0 = .ok (.aload_n 1, 1) := by decide +kernel
theorem dX1_copy_1 : decode cX1_copy 1 = .ok (.getfield 9, 3) := by decide +kernel
theorem dX1_copy_4 : decode cX1_copy 4 = .ok (.iconst 0, 1) := by decide +kernel
theorem dX1_copy_5 : decode cX1_copy 5 = .ok (.aload_n 0, 1) := by decide +kernel
theorem dX1_copy_6 : decode cX1_copy 6 = .ok (.getfield 9, 3) := by decide +kernel
theorem dX1_copy_9 : decode cX1_copy 9 = .ok (.iconst 0, 1) := by decide +kernel
theorem dX1_copy_10 : decode cX1_copy 10 = .ok (.bipush 32, 2) := by decide +kernel
theorem dX1_copy_12 : decode cX1_copy 12 = .ok (.invokestatic 53, 3) := by decide +kernel
theorem dX1_copy_15 : decode cX1_copy 15 = .ok (.aload_n 1, 1) := by decide +kernel
theorem dX1_copy_16 : decode cX1_copy 16 = .ok (.getfield 15, 3) := by decide +kernel
theorem dX1_copy_19 : decode cX1_copy 19 = .ok (.iconst 0, 1) := by decide +kernel
theorem dX1_copy_20 : decode cX1_copy 20 = .ok (.aload_n 0, 1) := by decide +kernel
theorem dX1_copy_21 : decode cX1_copy 21 = .ok (.getfield 15, 3) := by decide +kernel
theorem dX1_copy_24 : decode cX1_copy 24 = .ok (.iconst 0, 1) := by decide +kernel
theorem dX1_copy_25 : decode cX1_copy 25 = .ok (.bipush 8, 2) := by decide +kernel
theorem dX1_copy_27 : decode cX1_copy 27 = .ok (.invokestatic 53, 3) := by decide +kernel
theorem dX1_copy_30 : decode cX1_copy 30 = .ok (.aload_n 1, 1) := by decide +kernel
theorem dX1_copy_31 : decode cX1_copy 31 = .ok (.getfield 18, 3) := by decide +kernel
theorem dX1_copy_34 : decode cX1_copy 34 = .ok (.iconst 0, 1) := by decide +kernel
theorem dX1_copy_35 : decode cX1_copy 35 = .ok (.aload_n 0, 1) := by decide +kernel
theorem dX1_copy_36 : decode cX1_copy 36 = .ok (.getfield 18, 3) := by decide +kernel
theorem dX1_copy_39 : decode cX1_copy 39 = .ok (.iconst 0, 1) := by decide +kernel
theorem dX1_copy_40 : decode cX1_copy 40 = .ok (.sipush 320, 3) := by decide +kernel
theorem dX1_copy_43 : decode cX1_copy 43 = .ok (.invokestatic 53, 3) := by decide +kernel
theorem dX1_copy_46 : decode cX1_copy 46 = .ok (.aload_n 1, 1) := by decide +kernel
theorem dX1_copy_47 : decode cX1_copy 47 = .ok (.getfield 21, 3) := by decide +kernel
theorem dX1_copy_50 : decode cX1_copy 50 = .ok (.iconst 0, 1) := by decide +kernel
theorem dX1_copy_51 : decode cX1_copy 51 = .ok (.aload_n 0, 1) := by decide +kernel
theorem dX1_copy_52 : decode cX1_copy 52 = .ok (.getfield 21, 3) := by decide +kernel
theorem dX1_copy_55 : decode cX1_copy 55 = .ok (.iconst 0, 1) := by decide +kernel
theorem dX1_copy_56 : decode cX1_copy 56 = .ok (.bipush 64, 2) := by decide +kernel
theorem dX1_copy_58 : decode cX1_copy 58 = .ok (.invokestatic 53, 3) := by decide +kernel
theorem dX1_copy_61 : decode cX1_copy 61 = .ok (.aload_n 1, 1) := by decide +kernel
theorem dX1_copy_62 : decode cX1_copy 62 = .ok (.getfield 24, 3) := by decide +kernel
theorem dX1_copy_65 : decode cX1_copy 65 = .ok (.iconst 0, 1) := by decide +kernel
theorem dX1_copy_66 : decode cX1_copy 66 = .ok (.aload_n 0, 1) := by decide +kernel
theorem dX1_copy_67 : decode cX1_copy 67 = .ok (.getfield 24, 3) := by decide +kernel
theorem dX1_copy_70 : decode cX1_copy 70 = .ok (.iconst 0, 1) := by decide +kernel
theorem dX1_copy_71 : decode cX1_copy 71 = .ok (.bipush 64, 2) := by decide +kernel
theorem dX1_copy_73 : decode cX1_copy 73 = .ok (.invokestatic 53, 3) := by decide +kernel
theorem dX1_copy_76 : decode cX1_copy 76 = .ok (.aload_n 1, 1) := by decide +kernel
theorem dX1_copy_77 : decode cX1_copy 77 = .ok (.getfield 28, 3) := by decide +kernel
theorem dX1_copy_80 : decode cX1_copy 80 = .ok (.iconst 0, 1) := by decide +kernel
theorem dX1_copy_81 : decode cX1_copy 81 = .ok (.aload_n 0, 1) := by decide +kernel
theorem dX1_copy_82 : decode cX1_copy 82 = .ok (.getfield 28, 3) := by decide +kernel
theorem dX1_copy_85 : decode cX1_copy 85 = .ok (.iconst 0, 1) := by decide +kernel
theorem dX1_copy_86 : decode cX1_copy 86 = .ok (.bipush 64, 2) := by decide +kernel
theorem dX1_copy_88 : decode cX1_copy 88 = .ok (.invokestatic 53, 3) := by decide +kernel
theorem dX1_copy_91 : decode cX1_copy 91 = .ok (.aload_n 1, 1) := by decide +kernel
theorem dX1_copy_92 : decode cX1_copy 92 = .ok (.getfield 31, 3) := by decide +kernel
theorem dX1_copy_95 : decode cX1_copy 95 = .ok (.iconst 0, 1) := by decide +kernel
theorem dX1_copy_96 : decode cX1_copy 96 = .ok (.aload_n 0, 1) := by decide +kernel
theorem dX1_copy_97 : decode cX1_copy 97 = .ok (.getfield 31, 3) := by decide +kernel
theorem dX1_copy_100 : decode cX1_copy 100 = .ok (.iconst 0, 1) := by decide +kernel
theorem dX1_copy_101 : decode cX1_copy 101 = .ok (.bipush 64, 2) := by decide +kernel
theorem dX1_copy_103 : decode cX1_copy 103 = .ok (.invokestatic 53, 3) := by decide +kernel
theorem dX1_copy_106 : decode cX1_copy 106 = .ok (.aload_n 1, 1) := by decide +kernel
theorem dX1_copy_107 : decode cX1_copy 107 = .ok (.getfield 34, 3) := by decide +kernel
theorem dX1_copy_110 : decode cX1_copy 110 = .ok (.iconst 0, 1) := by decide +kernel
theorem dX1_copy_111 : decode cX1_copy 111 = .ok (.aload_n 0, 1) := by decide +kernel
theorem dX1_copy_112 : decode cX1_copy 112 = .ok (.getfield 34, 3) := by decide +kernel
theorem dX1_copy_115 : decode cX1_copy 115 = .ok (.iconst 0, 1) := by decide +kernel
theorem dX1_copy_116 : decode cX1_copy 116 = .ok (.sipush 2000, 3) := by decide +kernel
theorem dX1_copy_119 : decode cX1_copy 119 = .ok (.invokestatic 53, 3) := by decide +kernel
theorem dX1_copy_122 : decode cX1_copy 122 = .ok (.aload_n 0, 1) := by decide +kernel
theorem dX1_copy_123 : decode cX1_copy 123 = .ok (.aload_n 1, 1) := by decide +kernel
theorem dX1_copy_124 : decode cX1_copy 124 = .ok (.getfield 37, 3) := by decide +kernel
theorem dX1_copy_127 : decode cX1_copy 127 = .ok (.putfield 37, 3) := by decide +kernel
theorem dX1_copy_130 : decode cX1_copy 130 = .ok (.aload_n 0, 1) := by decide +kernel
theorem dX1_copy_131 : decode cX1_copy 131 = .ok (.aload_n 1, 1) := by decide +kernel
theorem dX1_copy_132 : decode cX1_copy 132 = .ok (.getfield 41, 3) := by decide +kernel
theorem dX1_copy_135 : decode cX1_copy 135 = .ok (.putfield 41, 3) := by decide +kernel
theorem dX1_copy_138 : decode cX1_copy 138 = .ok (.aload_n 0, 1) := by decide +kernel
theorem dX1_copy_139 : decode cX1_copy 139 = .ok (.aload_n 1, 1) := by decide +kernel
theorem dX1_copy_140 : decode cX1_copy 140 = .ok (.getfield 44, 3) := by decide +kernel
theorem dX1_copy_143 : decode cX1_copy 143 = .ok (.putfield 44, 3) := by decide +kernel
theorem dX1_copy_146 : decode cX1_copy 146 = .ok (.aload_n 0, 1) := by decide +kernel
theorem dX1_copy_147 : decode cX1_copy 147 = .ok (.aload_n 1, 1) := by decide +kernel
theorem dX1_copy_148 : decode cX1_copy 148 = .ok (.getfield 47, 3) := by decide +kernel
theorem dX1_copy_151 : decode cX1_copy 151 = .ok (.putfield 47, 3) := by decide +kernel
theorem dX1_copy_154 : decode cX1_copy 154 = .ok (.aload_n 0, 1) := by decide +kernel
theorem dX1_copy_155 : decode cX1_copy 155 = .ok (.aload_n 1, 1) := by decide +kernel
theorem dX1_copy_156 : decode cX1_copy 156 = .ok (.getfield 50, 3) := by decide +kernel
theorem dX1_copy_159 : decode cX1_copy 159 = .ok (.putfield 50, 3) := by decide +kernel
theorem dX1_copy_162 : decode cX1_copy 162 = .ok (.return_, 1) := by decide +kernel
theorem dX1_addItem_0 : decode cX1_addItem 0 = .ok (.aload_n 0, 1) := by decide +kernel
theorem dX1_addItem_1 : decode cX1_addItem 1 = .ok (.getfield 37, 3) := by decide +kernel
theorem dX1_addItem_4 : decode cX1_addItem 4 = .ok (.bipush 16, 2) := by decide +kernel
theorem dX1_addItem_6 : decode cX1_addItem 6 = .ok (.if_icmp .lt 5, 3) := by decide +kernel
theorem dX1_addItem_9 : decode cX1_addItem 9 = .ok (.iconst 0, 1) := by decide +kernel
theorem dX1_addItem_10 : decode cX1_addItem 10 = .ok (.ireturn, 1) := by decide +kernel
theorem dX1_addItem_11 : decode cX1_addItem 11 = .ok (.aload_n 0, 1) := by decide +kernel
theorem dX1_addItem_12 : decode cX1_addItem 12 = .ok (.getfield 9, 3) := by decide +kernel
theorem dX1_addItem_15 : decode cX1_addItem 15 = .ok (.aload_n 0, 1) := by decide +kernel
theorem dX1_addItem_16 : decode cX1_addItem 16 = .ok (.getfield 37, 3) := by decide +kernel
theorem dX1_addItem_19 : decode cX1_addItem 19 = .ok (.iconst 2, 1) := by decide +kernel
theorem dX1_addItem_20 : decode cX1_addItem 20 = .ok (.imul, 1) := by decide +kernel
theorem dX1_addItem_21 : decode cX1_addItem 21 = .ok (.iload_n 1, 1) := by decide +kernel
theorem dX1_addItem_22 : decode cX1_addItem 22 = .ok (.iastore, 1) := by decide +kernel
theorem dX1_addItem_23 : decode cX1_addItem 23 = .ok (.aload_n 0, 1) := by decide +kernel
theorem dX1_addItem_24 : decode cX1_addItem 24 = .ok (.getfield 9, 3) := by decide +kernel
theorem dX1_addItem_27 : decode cX1_addItem 27 = .ok (.aload_n 0, 1) := by decide +kernel
theorem dX1_addItem_28 : decode cX1_addItem 28 = .ok (.getfield 37, 3) := by decide +kernel
theorem dX1_addItem_31 : decode cX1_addItem 31 = .ok (.iconst 2, 1) := by decide +kernel
theorem dX1_addItem_32 : decode cX1_addItem 32 = .ok (.imul, 1) := by decide +kernel
theorem dX1_addItem_33 : decode cX1_addItem 33 = .ok (.iconst 1, 1) := by decide +kernel
theorem dX1_addItem_34 : decode cX1_addItem 34 = .ok (.iadd, 1) := by decide +kernel
theorem dX1_addItem_35 : decode cX1_addItem 35 = .ok (.iload_n 2, 1) := by decide +kernel
theorem dX1_addItem_36 : decode cX1_addItem 36 = .ok (.iastore, 1) := by decide +kernel
theorem dX1_addItem_37 : decode cX1_addItem 37 = .ok (.aload_n 0, 1) := by decide +kernel
theorem dX1_addItem_38 : decode cX1_addItem 38 = .ok (.dup, 1) := by decide +kernel
theorem dX1_addItem_39 : decode cX1_addItem 39 = .ok (.getfield 37, 3) := by decide +kernel
theorem dX1_addItem_42 : decode cX1_addItem 42 = .ok (.iconst 1, 1) := by decide +kernel
theorem dX1_addItem_43 : decode cX1_addItem 43 = .ok (.iadd, 1) := by decide +kernel
theorem dX1_addItem_44 : decode cX1_addItem 44 = .ok (.putfield 37, 3) := by decide +kernel
theorem dX1_addItem_47 : decode cX1_addItem 47 = .ok (.iconst 1, 1) := by decide +kernel
theorem dX1_addItem_48 : decode cX1_addItem 48 = .ok (.ireturn, 1) := by decide +kernel
theorem dX1_addBehindBy_0 : decode cX1_addBehindBy 0 = .ok (.aload_n 0, 1) := by decide +kernel
theorem dX1_addBehindBy_1 : decode cX1_addBehindBy 1 = .ok (.getfield 41, 3) := by decide +kernel
theorem dX1_addBehindBy_4 : decode cX1_addBehindBy 4 = .ok (.bipush 8, 2) := by decide +kernel
theorem dX1_addBehindBy_6 : decode cX1_addBehindBy 6 = .ok (.if_icmp .ge 11, 3) := by decide +kernel
theorem dX1_addBehindBy_9 : decode cX1_addBehindBy 9 = .ok (.aload_n 0, 1) := by decide +kernel
theorem dX1_addBehindBy_10 : decode cX1_addBehindBy 10 = .ok (.iload_n 1, 1) := by decide +kernel
theorem dX1_addBehindBy_11 : decode cX1_addBehindBy 11 = .ok (.invokevirtual 59, 3) := by decide +kernel
theorem dX1_addBehindBy_14 : decode cX1_addBehindBy 14 = .ok (.ifCond .eq 5, 3) := by decide +kernel
theorem dX1_addBehindBy_17 : decode cX1_addBehindBy 17 = .ok (.iconst 0, 1) := by decide +kernel
theorem dX1_addBehindBy_18 : decode cX1_addBehindBy 18 = .ok (.ireturn, 1) := by decide +kernel
theorem dX1_addBehindBy_19 : decode cX1_addBehindBy 19 = .ok (.aload_n 0, 1) := by decide +kernel
theorem dX1_addBehindBy_20 : decode cX1_addBehindBy 20 = .ok (.getfield 15, 3) := by decide +kernel
theorem dX1_addBehindBy_23 : decode cX1_addBehindBy 23 = .ok (.aload_n 0, 1) := by decide +kernel
theorem dX1_addBehindBy_24 : decode cX1_addBehindBy 24 = .ok (.getfield 41, 3) := by decide +kernel
theorem dX1_addBehindBy_27 : decode cX1_addBehindBy 27 = .ok (.iload_n 1, 1) := by decide +kernel
theorem dX1_addBehindBy_28 : decode cX1_addBehindBy 28 = .ok (.iastore, 1) := by decide +kernel
theorem dX1_addBehindBy_29 : decode cX1_addBehindBy 29 = .ok (.aload_n 0, 1) := by decide +kernel
theorem dX1_addBehindBy_30 : decode cX1_addBehindBy 30 = .ok (.dup, 1) := by decide +kernel
theorem dX1_addBehindBy_31 : decode cX1_addBehindBy 31 = .ok (.getfield 41, 3) := by decide +kernel
theorem dX1_addBehindBy_34 : decode cX1_addBehindBy 34 = .ok (.iconst 1, 1) := by decide +kernel
theorem dX1_addBehindBy_35 : decode cX1_addBehindBy 35 = .ok (.iadd, 1) := by decide +kernel
theorem dX1_addBehindBy_36 : decode cX1_addBehindBy 36 = .ok (.putfield 41, 3) := by decide +kernel
theorem dX1_addBehindBy_39 : decode cX1_addBehindBy 39 = .ok (.iconst 1, 1) := by decide +kernel
theorem dX1_addBehindBy_40 : decode cX1_addBehindBy 40 = .ok (.ireturn, 1) := by decide +kernel
theorem dX1_addStep_0 : decode cX1_addStep 0 = .ok (.aload_n 0, 1) := by decide +kernel
theorem dX1_addStep_1 : decode cX1_addStep 1 = .ok (.getfield 44, 3) := by decide +kernel
theorem dX1_addStep_4 : decode cX1_addStep 4 = .ok (.bipush 64, 2) := by decide +kernel
theorem dX1_addStep_6 : decode cX1_addStep 6 = .ok (.if_icmp .lt 5, 3) := by decide +kernel
theorem dX1_addStep_9 : decode cX1_addStep 9 = .ok (.iconst 0, 1) := by decide +kernel
theorem dX1_addStep_10 : decode cX1_addStep 10 = .ok (.ireturn, 1) := by decide +kernel
theorem dX1_addStep_11 : decode cX1_addStep 11 = .ok (.aload_n 0, 1) := by decide +kernel
theorem dX1_addStep_12 : decode cX1_addStep 12 = .ok (.getfield 44, 3) := by decide +kernel
theorem dX1_addStep_15 : decode cX1_addStep 15 = .ok (.iconst 5, 1) := by decide +kernel
theorem dX1_addStep_16 : decode cX1_addStep 16 = .ok (.imul, 1) := by decide +kernel
theorem dX1_addStep_17 : decode cX1_addStep 17 = .ok (.istore 6, 2) := by decide +kernel
theorem dX1_addStep_19 : decode cX1_addStep 19 = .ok (.aload_n 0, 1) := by decide +kernel
theorem dX1_addStep_20 : decode cX1_addStep 20 = .ok (.getfield 18, 3) := by decide +kernel
theorem dX1_addStep_23 : decode cX1_addStep 23 = .ok (.iload 6, 2) := by decide +kernel
theorem dX1_addStep_25 : decode cX1_addStep 25 = .ok (.iload_n 1, 1) := by decide +kernel
theorem dX1_addStep_26 : decode cX1_addStep 26 = .ok (.iastore, 1) := by decide +kernel
theorem dX1_addStep_27 : decode cX1_addStep 27 = .ok (.aload_n 0, 1) := by decide +kernel
theorem dX1_addStep_28 : decode cX1_addStep 28 = .ok (.getfield 18, 3) := by decide +kernel
theorem dX1_addStep_31 : decode cX1_addStep 31 = .ok (.iload 6, 2) := by decide +kernel
theorem dX1_addStep_33 : decode cX1_addStep 33 = .ok (.iconst 1, 1) := by decide +kernel
theorem dX1_addStep_34 : decode cX1_addStep 34 = .ok (.iadd, 1) := by decide +kernel
theorem dX1_addStep_35 : decode cX1_addStep 35 = .ok (.iload_n 2, 1) := by decide +kernel
theorem dX1_addStep_36 : decode cX1_addStep 36 = .ok (.iastore, 1) := by decide +kernel
theorem dX1_addStep_37 : decode cX1_addStep 37 = .ok (.aload_n 0, 1) := by decide +kernel
theorem dX1_addStep_38 : decode cX1_addStep 38 = .ok (.getfield 18, 3) := by decide +kernel
theorem dX1_addStep_41 : decode cX1_addStep 41 = .ok (.iload 6, 2) := by decide +kernel
theorem dX1_addStep_43 : decode cX1_addStep 43 = .ok (.iconst 2, 1) := by decide +kernel
theorem dX1_addStep_44 : decode cX1_addStep 44 = .ok (.iadd, 1) := by decide +kernel
theorem dX1_addStep_45 : decode cX1_addStep 45 = .ok (.iload_n 3, 1) := by decide +kernel
theorem dX1_addStep_46 : decode cX1_addStep 46 = .ok (.iastore, 1) := by decide +kernel
theorem dX1_addStep_47 : decode cX1_addStep 47 = .ok (.aload_n 0, 1) := by decide +kernel
theorem dX1_addStep_48 : decode cX1_addStep 48 = .ok (.getfield 18, 3) := by decide +kernel
theorem dX1_addStep_51 : decode cX1_addStep 51 = .ok (.iload 6, 2) := by decide +kernel
theorem dX1_addStep_53 : decode cX1_addStep 53 = .ok (.iconst 3, 1) := by decide +kernel
theorem dX1_addStep_54 : decode cX1_addStep 54 = .ok (.iadd, 1) := by decide +kernel
theorem dX1_addStep_55 : decode cX1_addStep 55 = .ok (.iload 4, 2) := by decide +kernel
theorem dX1_addStep_57 : decode cX1_addStep 57 = .ok (.iastore, 1) := by decide +kernel
theorem dX1_addStep_58 : decode cX1_addStep 58 = .ok (.aload_n 0, 1) := by decide +kernel
theorem dX1_addStep_59 : decode cX1_addStep 59 = .ok (.getfield 18, 3) := by decide +kernel
theorem dX1_addStep_62 : decode cX1_addStep 62 = .ok (.iload 6, 2) := by decide +kernel
theorem dX1_addStep_64 : decode cX1_addStep 64 = .ok (.iconst 4, 1) := by decide +kernel
theorem dX1_addStep_65 : decode cX1_addStep 65 = .ok (.iadd, 1) := by decide +kernel
theorem dX1_addStep_66 : decode cX1_addStep 66 = .ok (.iload 5, 2) := by decide +kernel
theorem dX1_addStep_68 : decode cX1_addStep 68 = .ok (.iastore, 1) := by decide +kernel
theorem dX1_addStep_69 : decode cX1_addStep 69 = .ok (.aload_n 0, 1) := by decide +kernel
theorem dX1_addStep_70 : decode cX1_addStep 70 = .ok (.dup, 1) := by decide +kernel
theorem dX1_addStep_71 : decode cX1_addStep 71 = .ok (.getfield 44, 3) := by decide +kernel
theorem dX1_addStep_74 : decode cX1_addStep 74 = .ok (.iconst 1, 1) := by decide +kernel
theorem dX1_addStep_75 : decode cX1_addStep 75 = .ok (.iadd, 1) := by decide +kernel
theorem dX1_addStep_76 : decode cX1_addStep 76 = .ok (.putfield 44, 3) := by decide +kernel
theorem dX1_addStep_79 : decode cX1_addStep 79 = .ok (.iconst 1, 1) := by decide +kernel
theorem dX1_addStep_80 : decode cX1_addStep 80 = .ok (.ireturn, 1) := by decide +kernel
theorem dX1_addTextByte_0 : decode cX1_addTextByte 0 = .ok (.aload_n 0, 1) := by decide +kernel
theorem dX1_addTextByte_1 : decode cX1_addTextByte 1 = .ok (.getfield 50, 3) := by decide +kernel
theorem dX1_addTextByte_4 : decode cX1_addTextByte 4 = .ok (.sipush 2000, 3) := by decide +kernel
theorem dX1_addTextByte_7 : decode cX1_addTextByte 7 = .ok (.if_icmp .ge 23, 3) := by decide +kernel
theorem dX1_addTextByte_10 : decode cX1_addTextByte 10 = .ok (.aload_n 0, 1) := by decide +kernel
theorem dX1_addTextByte_11 : decode cX1_addTextByte 11 = .ok (.getfield 34, 3) := by decide +kernel
theorem dX1_addTextByte_14 : decode cX1_addTextByte 14 = .ok (.aload_n 0, 1) := by decide +kernel
theorem dX1_addTextByte_15 : decode cX1_addTextByte 15 = .ok (.getfield 50, 3) := by decide +kernel
theorem dX1_addTextByte_18 : decode cX1_addTextByte 18 = .ok (.iload_n 1, 1) := by decide +kernel
theorem dX1_addTextByte_19 : decode cX1_addTextByte 19 = .ok (.iastore, 1) := by decide +kernel
theorem dX1_addTextByte_20 : decode cX1_addTextByte 20 = .ok (.aload_n 0, 1) := by decide +kernel
theorem dX1_addTextByte_21 : decode cX1_addTextByte 21 = .ok (.dup, 1) := by decide +kernel
theorem dX1_addTextByte_22 : decode cX1_addTextByte 22 = .ok (.getfield 50, 3) := by decide +kernel
theorem dX1_addTextByte_25 : decode cX1_addTextByte 25 = .ok (.iconst 1, 1) := by decide +kernel
theorem dX1_addTextByte_26 : decode cX1_addTextByte 26 = .ok (.iadd, 1) := by decide +kernel
theorem dX1_addTextByte_27 : decode cX1_addTextByte 27 = .ok (.putfield 50, 3) := by decide +kernel
theorem dX1_addTextByte_30 : decode cX1_addTextByte 30 = .ok (.return_, 1) := by decide +kernel
theorem dX1_addLiteral_0 : decode cX1_addLiteral 0 = .ok (.aload_n 0, 1) := by decide +kernel
theorem dX1_addLiteral_1 : decode cX1_addLiteral 1 = .ok (.getfield 47, 3) := by decide +kernel
theorem dX1_addLiteral_4 : decode cX1_addLiteral 4 = .ok (.bipush 64, 2) := by decide +kernel
theorem dX1_addLiteral_6 : decode cX1_addLiteral 6 = .ok (.if_icmp .lt 5, 3) := by decide +kernel
theorem dX1_addLiteral_9 : decode cX1_addLiteral 9 = .ok (.iconst 0, 1) := by decide +kernel
theorem dX1_addLiteral_10 : decode cX1_addLiteral 10 = .ok (.ireturn, 1) := by decide +kernel
theorem dX1_addLiteral_11 : decode cX1_addLiteral 11 = .ok (.aload_n 0, 1) := by decide +kernel
theorem dX1_addLiteral_12 : decode cX1_addLiteral 12 = .ok (.getfield 21, 3) := by decide +kernel
theorem dX1_addLiteral_15 : decode cX1_addLiteral 15 = .ok (.aload_n 0, 1) := by decide +kernel
theorem dX1_addLiteral_16 : decode cX1_addLiteral 16 = .ok (.getfield 47, 3) := by decide +kernel
theorem dX1_addLiteral_19 : decode cX1_addLiteral 19 = .ok (.iload_n 1, 1) := by decide +kernel
theorem dX1_addLiteral_20 : decode cX1_addLiteral 20 = .ok (.iastore, 1) := by decide +kernel
theorem dX1_addLiteral_21 : decode cX1_addLiteral 21 = .ok (.aload_n 0, 1) := by decide +kernel
theorem dX1_addLiteral_22 : decode cX1_addLiteral 22 = .ok (.getfield 24, 3) := by decide +kernel
theorem dX1_addLiteral_25 : decode cX1_addLiteral 25 = .ok (.aload_n 0, 1) := by decide +kernel
theorem dX1_addLiteral_26 : decode cX1_addLiteral 26 = .ok (.getfield 47, 3) := by decide +kernel
theorem dX1_addLiteral_29 : decode cX1_addLiteral 29 = .ok (.lload_n 2, 1) := by decide +kernel
theorem dX1_addLiteral_30 : decode cX1_addLiteral 30 = .ok (.lastore, 1) := by decide +kernel
theorem dX1_addLiteral_31 : decode cX1_addLiteral 31 = .ok (.aload_n 0, 1) := by decide +kernel
theorem dX1_addLiteral_32 : decode cX1_addLiteral 32 = .ok (.getfield 28, 3) := by decide +kernel
theorem dX1_addLiteral_35 : decode cX1_addLiteral 35 = .ok (.aload_n 0, 1) := by decide +kernel
theorem dX1_addLiteral_36 : decode cX1_addLiteral 36 = .ok (.getfield 47, 3) := by decide +kernel
theorem dX1_addLiteral_39 : decode cX1_addLiteral 39 = .ok (.iload 4, 2) := by decide +kernel
theorem dX1_addLiteral_41 : decode cX1_addLiteral 41 = .ok (.iastore, 1) := by decide +kernel
theorem dX1_addLiteral_42 : decode cX1_addLiteral 42 = .ok (.aload_n 0, 1) := by decide +kernel
theorem dX1_addLiteral_43 : decode cX1_addLiteral 43 = .ok (.getfield 31, 3) := by decide +kernel
theorem dX1_addLiteral_46 : decode cX1_addLiteral 46 = .ok (.aload_n 0, 1) := by decide +kernel
theorem dX1_addLiteral_47 : decode cX1_addLiteral 47 = .ok (.getfield 47, 3) := by decide +kernel
theorem dX1_addLiteral_50 : decode cX1_addLiteral 50 = .ok (.aload_n 0, 1) := by decide +kernel
theorem dX1_addLiteral_51 : decode cX1_addLiteral 51 = .ok (.getfield 50, 3) := by decide +kernel
theorem dX1_addLiteral_54 : decode cX1_addLiteral 54 = .ok (.iload 4, 2) := by decide +kernel
theorem dX1_addLiteral_56 : decode cX1_addLiteral 56 = .ok (.isub, 1) := by decide +kernel
theorem dX1_addLiteral_57 : decode cX1_addLiteral 57 = .ok (.iastore, 1) := by decide +kernel
theorem dX1_addLiteral_58 : decode cX1_addLiteral 58 = .ok (.aload_n 0, 1) := by decide +kernel
theorem dX1_addLiteral_59 : decode cX1_addLiteral 59 = .ok (.dup, 1) := by decide +kernel
theorem dX1_addLiteral_60 : decode cX1_addLiteral 60 = .ok (.getfield 47, 3) := by decide +kernel
theorem dX1_addLiteral_63 : decode cX1_addLiteral 63 = .ok (.iconst 1, 1) := by decide +kernel
theorem dX1_addLiteral_64 : decode cX1_addLiteral 64 = .ok (.iadd, 1) := by decide +kernel
theorem dX1_addLiteral_65 : decode cX1_addLiteral 65 = .ok (.putfield 47, 3) := by decide +kernel
theorem dX1_addLiteral_68 : decode cX1_addLiteral 68 = .ok (.iconst 1, 1) := by decide +kernel
theorem dX1_addLiteral_69 : decode cX1_addLiteral 69 = .ok (.ireturn, 1) := by decide +kernel
theorem dX1_isBehindBy_0 : decode cX1_isBehindBy 0 = .ok (.iconst 0, 1) := by decide +kernel
theorem dX1_isBehindBy_1 : decode cX1_isBehindBy 1 = .ok (.istore_n 2, 1) := by decide +kernel
theorem dX1_isBehindBy_2 : decode cX1_isBehindBy 2 = .ok (.iload_n 2, 1) := by decide +kernel
theorem dX1_isBehindBy_3 : decode cX1_isBehindBy 3 = .ok (.aload_n 0, 1) := by decide +kernel
theorem dX1_isBehindBy_4 : decode cX1_isBehindBy 4 = .ok (.getfield 41, 3) := by decide +kernel
theorem dX1_isBehindBy_7 : decode cX1_isBehindBy 7 = .ok (.if_icmp .ge 21, 3) := by decide +kernel
theorem dX1_isBehindBy_10 : decode cX1_isBehindBy 10 = .ok (.aload_n 0, 1) := by decide +kernel
theorem dX1_isBehindBy_11 : decode cX1_isBehindBy 11 = .ok (.getfield 15, 3) := by decide +kernel
theorem dX1_isBehindBy_14 : decode cX1_isBehindBy 14 = .ok (.iload_n 2, 1) := by decide +kernel
theorem dX1_isBehindBy_15 : decode cX1_isBehindBy 15 = .ok (.iaload, 1) := by decide +kernel
theorem dX1_isBehindBy_16 : decode cX1_isBehindBy 16 = .ok (.iload_n 1, 1) := by decide +kernel
theorem dX1_isBehindBy_17 : decode cX1_isBehindBy 17 = .ok (.if_icmp .ne 5, 3) := by decide +kernel
theorem dX1_isBehindBy_20 : decode cX1_isBehindBy 20 = .ok (.iconst 1, 1) := by decide +kernel
theorem dX1_isBehindBy_21 : decode cX1_isBehindBy 21 = .ok (.ireturn, 1) := by decide +kernel
theorem dX1_isBehindBy_22 : decode cX1_isBehindBy 22 = .ok (.iinc 2 1, 3) := by decide +kernel
theorem dX1_isBehindBy_25 : decode cX1_isBehindBy 25 = .ok (.goto (-23), 3) := by decide +kernel
theorem dX1_isBehindBy_28 : decode cX1_isBehindBy 28 = .ok (.iconst 0, 1) := by decide +kernel
theorem dX1_isBehindBy_29 : decode cX1_isBehindBy 29 = .ok (.ireturn, 1) := by decide +kernel
theorem dX1_collects_0 : decode cX1_collects 0 = .ok (.aload_n 0, 1) := by decide +kernel
theorem dX1_collects_1 : decode cX1_collects 1 = .ok (.getfield 41, 3) := by decide +kernel
theorem dX1_collects_4 : decode cX1_collects 4 = .ok (.ifCond .le 7, 3) := by decide +kernel
theorem dX1_collects_7 : decode cX1_collects 7 = .ok (.iconst 1, 1) := by decide +kernel
theorem dX1_collects_8 : decode cX1_collects 8 = .ok (.goto 4, 3) := by decide +kernel
theorem dX1_collects_11 : decode cX1_collects 11 = .ok (.iconst 0, 1) := by decide +kernel
theorem dX1_collects_12 : decode cX1_collects 12 = .ok (.istore_n 1, 1) := by decide +kernel
theorem dX1_collects_13 : decode cX1_collects 13 = .ok (.iconst 0, 1) := by decide +kernel
theorem dX1_collects_14 : decode cX1_collects 14 = .ok (.istore_n 2, 1) := by decide +kernel
theorem dX1_collects_15 : decode cX1_collects 15 = .ok (.iload_n 2, 1) := by decide +kernel
theorem dX1_collects_16 : decode cX1_collects 16 = .ok (.aload_n 0, 1) := by decide +kernel
theorem dX1_collects_17 : decode cX1_collects 17 = .ok (.getfield 37, 3) := by decide +kernel
theorem dX1_collects_20 : decode cX1_collects 20 = .ok (.if_icmp .ge 30, 3) := by decide +kernel
theorem dX1_collects_23 : decode cX1_collects 23 = .ok (.iload_n 1, 1) := by decide +kernel
theorem dX1_collects_24 : decode cX1_collects 24 = .ok (.ifCond .ne 14, 3) := by decide +kernel
theorem dX1_collects_27 : decode cX1_collects 27 = .ok (.aload_n 0, 1) := by decide +kernel
theorem dX1_collects_28 : decode cX1_collects 28 = .ok (.getfield 9, 3) := by decide +kernel
theorem dX1_collects_31 : decode cX1_collects 31 = .ok (.iload_n 2, 1) := by decide +kernel
theorem dX1_collects_32 : decode cX1_collects 32 = .ok (.iconst 2, 1) := by decide +kernel
theorem dX1_collects_33 : decode cX1_collects 33 = .ok (.imul, 1) := by decide +kernel
theorem dX1_collects_34 : decode cX1_collects 34 = .ok (.iaload, 1) := by decide +kernel
theorem dX1_collects_35 : decode cX1_collects 35 = .ok (.ifCond .eq 7, 3) := by decide +kernel
theorem dX1_collects_38 : decode cX1_collects 38 = .ok (.iconst 1, 1) := by decide +kernel
theorem dX1_collects_39 : decode cX1_collects 39 = .ok (.goto 4, 3) := by decide +kernel
theorem dX1_collects_42 : decode cX1_collects 42 = .ok (.iconst 0, 1) := by decide +kernel
theorem dX1_collects_43 : decode cX1_collects 43 = .ok (.istore_n 1, 1) := by decide +kernel
theorem dX1_collects_44 : decode cX1_collects 44 = .ok (.iinc 2 1, 3) := by decide +kernel
theorem dX1_collects_47 : decode cX1_collects 47 = .ok (.goto (-32), 3) := by decide +kernel
theorem dX1_collects_50 : decode cX1_collects 50 = .ok (.iload_n 1, 1) := by decide +kernel
theorem dX1_collects_51 : decode cX1_collects 51 = .ok (.ireturn, 1) := by decide +kernel
theorem dX1_hasLiteral_0 : decode cX1_hasLiteral 0 = .ok (.iload_n 1, 1) := by decide +kernel
theorem dX1_hasLiteral_1 : decode cX1_hasLiteral 1 = .ok (.ifCond .lt 15, 3) := by decide +kernel
theorem dX1_hasLiteral_4 : decode cX1_hasLiteral 4 = .ok (.iload_n 1, 1) := by decide +kernel
theorem dX1_hasLiteral_5 : decode cX1_hasLiteral 5 = .ok (.aload_n 0, 1) := by decide +kernel
theorem dX1_hasLiteral_6 : decode cX1_hasLiteral 6 = .ok (.getfield 47, 3) := by decide +kernel
theorem dX1_hasLiteral_9 : decode cX1_hasLiteral 9 = .ok (.if_icmp .ge 7, 3) := by decide +kernel
theorem dX1_hasLiteral_12 : decode cX1_hasLiteral 12 = .ok (.iconst 1, 1) := by decide +kernel
theorem dX1_hasLiteral_13 : decode cX1_hasLiteral 13 = .ok (.goto 4, 3) := by decide +kernel
theorem dX1_hasLiteral_16 : decode cX1_hasLiteral 16 = .ok (.iconst 0, 1) := by decide +kernel
theorem dX1_hasLiteral_17 : decode cX1_hasLiteral 17 = .ok (.ireturn, 1) := by decide +kernel
theorem dX1_hasText_0 : decode cX1_hasText 0 = .ok (.iload_n 1, 1) := by decide +kernel
theorem dX1_hasText_1 : decode cX1_hasText 1 = .ok (.ifCond .lt 25, 3) := by decide +kernel
theorem dX1_hasText_4 : decode cX1_hasText 4 = .ok (.iload_n 1, 1) := by decide +kernel
theorem dX1_hasText_5 : decode cX1_hasText 5 = .ok (.aload_n 0, 1) := by decide +kernel
theorem dX1_hasText_6 : decode cX1_hasText 6 = .ok (.getfield 47, 3) := by decide +kernel
theorem dX1_hasText_9 : decode cX1_hasText 9 = .ok (.if_icmp .ge 17, 3) := by decide +kernel
theorem dX1_hasText_12 : decode cX1_hasText 12 = .ok (.aload_n 0, 1) := by decide +kernel
theorem dX1_hasText_13 : decode cX1_hasText 13 = .ok (.getfield 21, 3) := by decide +kernel
theorem dX1_hasText_16 : decode cX1_hasText 16 = .ok (.iload_n 1, 1) := by decide +kernel
theorem dX1_hasText_17 : decode cX1_hasText 17 = .ok (.iaload, 1) := by decide +kernel
theorem dX1_hasText_18 : decode cX1_hasText 18 = .ok (.iconst 3, 1) := by decide +kernel
theorem dX1_hasText_19 : decode cX1_hasText 19 = .ok (.if_icmp .ne 7, 3) := by decide +kernel
theorem dX1_hasText_22 : decode cX1_hasText 22 = .ok (.iconst 1, 1) := by decide +kernel
theorem dX1_hasText_23 : decode cX1_hasText 23 = .ok (.goto 4, 3) := by decide +kernel
theorem dX1_hasText_26 : decode cX1_hasText 26 = .ok (.iconst 0, 1) := by decide +kernel
theorem dX1_hasText_27 : decode cX1_hasText 27 = .ok (.ireturn, 1) := by decide +kernel
theorem dX2_init_0 : decode cX2_init 0 = .ok (.aload_n 0, 1) := by decide +kernel
theorem dX2_init_1 : decode cX2_init 1 = .ok (.invokespecial 3, 3) := by decide +kernel
theorem dX2_init_4 : decode cX2_init 4 = .ok (.aload_n 0, 1) := by decide +kernel
theorem dX2_init_5 : decode cX2_init 5 = .ok (.aload_n 1, 1) := by decide +kernel
theorem dX2_init_6 : decode cX2_init 6 = .ok (.putfield 9, 3) := by decide +kernel
theorem dX2_init_9 : decode cX2_init 9 = .ok (.return_, 1) := by decide +kernel
theorem dX2_begin_0 : decode cX2_begin 0 = .ok (.aload_n 0, 1) := by decide +kernel
theorem dX2_begin_1 : decode cX2_begin 1 = .ok (.iconst 0, 1) := by decide +kernel
theorem dX2_begin_2 : decode cX2_begin 2 = .ok (.putfield 15, 3) := by decide +kernel
theorem dX2_begin_5 : decode cX2_begin 5 = .ok (.aload_n 0, 1) := by decide +kernel
theorem dX2_begin_6 : decode cX2_begin 6 = .ok (.invokevirtual 19, 3) := by decide +kernel
theorem dX2_begin_9 : decode cX2_begin 9 = .ok (.return_, 1) := by decide +kernel
theorem dX2_advance_0 : decode cX2_advance 0 = .ok (.aload_n 0, 1) := by decide +kernel
theorem dX2_advance_1 : decode cX2_advance 1 = .ok (.aload_n 0, 1) := by decide +kernel
theorem dX2_advance_2 : decode cX2_advance 2 = .ok (.getfield 15, 3) := by decide +kernel
theorem dX2_advance_5 : decode cX2_advance 5 = .ok (.putfield 22, 3) := by decide +kernel
theorem dX2_advance_8 : decode cX2_advance 8 = .ok (.aload_n 0, 1) := by decide +kernel
theorem dX2_advance_9 : decode cX2_advance 9 = .ok (.getfield 22, 3) := by decide +kernel
theorem dX2_advance_12 : decode cX2_advance 12 = .ok (.aload_n 0, 1) := by decide +kernel
theorem dX2_advance_13 : decode cX2_advance 13 = .ok (.getfield 9, 3) := by decide +kernel
theorem dX2_advance_16 : decode cX2_advance 16 = .ok (.getfield 25, 3) := by decide +kernel
theorem dX2_advance_19 : decode cX2_advance 19 = .ok (.if_icmp .ge 33, 3) := by decide +kernel
theorem dX2_advance_22 : decode cX2_advance 22 = .ok (.aload_n 0, 1) := by decide +kernel
theorem dX2_advance_23 : decode cX2_advance 23 = .ok (.getfield 9, 3) := by decide +kernel
theorem dX2_advance_26 : decode cX2_advance 26 = .ok (.aload_n 0, 1) := by decide +kernel
theorem dX2_advance_27 : decode cX2_advance 27 = .ok (.getfield 22, 3) := by decide +kernel
theorem dX2_advance_30 : decode cX2_advance 30 = .ok (.invokevirtual 30, 3) := by decide +kernel
theorem dX2_advance_33 : decode cX2_advance 33 = .ok (.invokestatic 34, 3) := by decide +kernel
theorem dX2_advance_36 : decode cX2_advance 36 = .ok (.ifCond .eq 16, 3) := by decide +kernel
theorem dX2_advance_39 : decode cX2_advance 39 = .ok (.aload_n 0, 1) := by decide +kernel
theorem dX2_advance_40 : decode cX2_advance 40 = .ok (.dup, 1) := by decide +kernel
theorem dX2_advance_41 : decode cX2_advance 41 = .ok (.getfield 22, 3) := by decide +kernel
theorem dX2_advance_44 : decode cX2_advance 44 = .ok (.iconst 1, 1) := by decide +kernel
theorem dX2_advance_45 : decode cX2_advance 45 = .ok (.iadd, 1) := by decide +kernel
theorem dX2_advance_46 : decode cX2_advance 46 = .ok (.putfield 22, 3) := by decide +kernel
theorem dX2_advance_49 : decode cX2_advance 49 = .ok (.goto (-41), 3) := by decide +kernel
theorem dX2_advance_52 : decode cX2_advance 52 = .ok (.aload_n 0, 1) := by decide +kernel
theorem dX2_advance_53 : decode cX2_advance 53 = .ok (.getfield 9, 3) := by decide +kernel
theorem dX2_advance_56 : decode cX2_advance 56 = .ok (.aload_n 0, 1) := by decide +kernel
theorem dX2_advance_57 : decode cX2_advance 57 = .ok (.getfield 22, 3) := by decide +kernel
theorem dX2_advance_60 : decode cX2_advance 60 = .ok (.invokevirtual 30, 3) := by decide +kernel
theorem dX2_advance_63 : decode cX2_advance 63 = .ok (.istore_n 1, 1) := by decide +kernel
theorem dX2_advance_64 : decode cX2_advance 64 = .ok (.iload_n 1, 1) := by decide +kernel
theorem dX2_advance_65 : decode cX2_advance 65 = .ok (.iconst (-1), 1) := by decide +kernel
theorem dX2_advance_66 : decode cX2_advance 66 = .ok (.if_icmp .ne 18, 3) := by decide +kernel
theorem dX2_advance_69 : decode cX2_advance 69 = .ok (.aload_n 0, 1) := by decide +kernel
theorem dX2_advance_70 : decode cX2_advance 70 = .ok (.aload_n 0, 1) := by decide +kernel
theorem dX2_advance_71 : decode cX2_advance 71 = .ok (.getfield 22, 3) := by decide +kernel
theorem dX2_advance_74 : decode cX2_advance 74 = .ok (.putfield 15, 3) := by decide +kernel
theorem dX2_advance_77 : decode cX2_advance 77 = .ok (.aload_n 0, 1) := by decide +kernel
theorem dX2_advance_78 : decode cX2_advance 78 = .ok (.bipush 29, 2) := by decide +kernel
theorem dX2_advance_80 : decode cX2_advance 80 = .ok (.putfield 38, 3) := by decide +kernel
theorem dX2_advance_83 : decode cX2_advance 83 = .ok (.return_, 1) := by decide +kernel
theorem dX2_advance_84 : decode cX2_advance 84 = .ok (.aload_n 0, 1) := by decide +kernel
theorem dX2_advance_85 : decode cX2_advance 85 = .ok (.aload_n 0, 1) := by decide +kernel
theorem dX2_advance_86 : decode cX2_advance 86 = .ok (.getfield 22, 3) := by decide +kernel
theorem dX2_advance_89 : decode cX2_advance 89 = .ok (.iconst 1, 1) := by decide +kernel
theorem dX2_advance_90 : decode cX2_advance 90 = .ok (.iadd, 1) := by decide +kernel
theorem dX2_advance_91 : decode cX2_advance 91 = .ok (.putfield 15, 3) := by decide +kernel
theorem dX2_advance_94 : decode cX2_advance 94 = .ok (.iload_n 1, 1) := by decide +kernel
theorem dX2_advance_95 : decode cX2_advance 95 = .ok (.invokestatic 41, 3) := by decide +kernel
theorem dX2_advance_98 : decode cX2_advance 98 = .ok (.ifCond .ne 13, 3) := by decide +kernel
theorem dX2_advance_101 : decode cX2_advance 101 = .ok (.aload_n 0, 1) := by decide +kernel
theorem dX2_advance_102 : decode cX2_advance 102 = .ok (.aload_n 0, 1) := by decide +kernel
theorem dX2_advance_103 : decode cX2_advance 103 = .ok (.iload_n 1, 1) := by decide +kernel
theorem dX2_advance_104 : decode cX2_advance 104 = .ok (.invokevirtual 44, 3) := by decide +kernel
theorem dX2_advance_107 : decode cX2_advance 107 = .ok (.putfield 38, 3) := by decide +kernel
theorem dX2_advance_110 : decode cX2_advance 110 = .ok (.return_, 1) := by decide +kernel
theorem dX2_advance_111 : decode cX2_advance 111 = .ok (.aload_n 0, 1) := by decide +kernel
theorem dX2_advance_112 : decode cX2_advance 112 = .ok (.getfield 15, 3) := by decide +kernel
theorem dX2_advance_115 : decode cX2_advance 115 = .ok (.aload_n 0, 1) := by decide +kernel
theorem dX2_advance_116 : decode cX2_advance 116 = .ok (.getfield 9, 3) := by decide +kernel
theorem dX2_advance_119 : decode cX2_advance 119 = .ok (.getfield 25, 3) := by decide +kernel
theorem dX2_advance_122 : decode cX2_advance 122 = .ok (.if_icmp .ge 33, 3) := by decide +kernel
theorem dX2_advance_125 : decode cX2_advance 125 = .ok (.aload_n 0, 1) := by decide +kernel
theorem dX2_advance_126 : decode cX2_advance 126 = .ok (.getfield 9, 3) := by decide +kernel
theorem dX2_advance_129 : decode cX2_advance 129 = .ok (.aload_n 0, 1) := by decide +kernel
theorem dX2_advance_130 : decode cX2_advance 130 = .ok (.getfield 15, 3) := by decide +kernel
theorem dX2_advance_133 : decode cX2_advance 133 = .ok (.invokevirtual 30, 3) := by decide +kernel
theorem dX2_advance_136 : decode cX2_advance 136 = .ok (.invokestatic 47, 3) := by decide +kernel
theorem dX2_advance_139 : decode cX2_advance 139 = .ok (.ifCond .eq 16, 3) := by decide +kernel
theorem dX2_advance_142 : decode cX2_advance 142 = .ok (.aload_n 0, 1) := by decide +kernel
theorem dX2_advance_143 : decode cX2_advance 143 = .ok (.dup, 1) := by decide +kernel
theorem dX2_advance_144 : decode cX2_advance 144 = .ok (.getfield 15, 3) := by decide +kernel
theorem dX2_advance_147 : decode cX2_advance 147 = .ok (.iconst 1, 1) := by decide +kernel
theorem dX2_advance_148 : decode cX2_advance 148 = .ok (.iadd, 1) := by decide +kernel
theorem dX2_advance_149 : decode cX2_advance 149 = .ok (.putfield 15, 3) := by decide +kernel
theorem dX2_advance_152 : decode cX2_advance 152 = .ok (.goto (-41), 3) := by decide +kernel
theorem dX2_advance_155 : decode cX2_advance 155 = .ok (.aload_n 0, 1) := by decide +kernel
theorem dX2_advance_156 : decode cX2_advance 156 = .ok (.aload_n 0, 1) := by decide +kernel
theorem dX2_advance_157 : decode cX2_advance 157 = .ok (.invokevirtual 50, 3) := by decide +kernel
theorem dX2_advance_160 : decode cX2_advance 160 = .ok (.putfield 38, 3) := by decide +kernel
theorem dX2_advance_163 : decode cX2_advance 163 = .ok (.return_, 1) := by decide +kernel
theorem dX2_passDot_0 : decode cX2_passDot 0 = .ok (.aload_n 0, 1) := by decide +kernel
theorem dX2_passDot_1 : decode cX2_passDot 1 = .ok (.getfield 9, 3) := by decide +kernel
theorem dX2_passDot_4 : decode cX2_passDot 4 = .ok (.aload_n 0, 1) := by decide +kernel
theorem dX2_passDot_5 : decode cX2_passDot 5 = .ok (.getfield 15, 3) := by decide +kernel
theorem dX2_passDot_8 : decode cX2_passDot 8 = .ok (.invokevirtual 30, 3) := by decide +kernel
theorem dX2_passDot_11 : decode cX2_passDot 11 = .ok (.bipush 46, 2) := by decide +kernel
theorem dX2_passDot_13 : decode cX2_passDot 13 = .ok (.if_icmp .eq 5, 3) := by decide +kernel
theorem dX2_passDot_16 : decode cX2_passDot 16 = .ok (.iconst 0, 1) := by decide +kernel
theorem dX2_passDot_17 : decode cX2_passDot 17 = .ok (.ireturn, 1) := by decide +kernel
theorem dX2_passDot_18 : decode cX2_passDot 18 = .ok (.aload_n 0, 1) := by decide +kernel
theorem dX2_passDot_19 : decode cX2_passDot 19 = .ok (.dup, 1) := by decide +kernel
theorem dX2_passDot_20 : decode cX2_passDot 20 = .ok (.getfield 15, 3) := by decide +kernel
theorem dX2_passDot_23 : decode cX2_passDot 23 = .ok (.iconst 1, 1) := by decide +kernel
theorem dX2_passDot_24 : decode cX2_passDot 24 = .ok (.iadd, 1) := by decide +kernel
theorem dX2_passDot_25 : decode cX2_passDot 25 = .ok (.putfield 15, 3) := by decide +kernel
theorem dX2_passDot_28 : decode cX2_passDot 28 = .ok (.iconst 1, 1) := by decide +kernel
theorem dX2_passDot_29 : decode cX2_passDot 29 = .ok (.ireturn, 1) := by decide +kernel
theorem dX2_isLetterBehind_0 : decode cX2_isLetterBehind 0 = .ok (.aload_n 0, 1) := by decide +kernel
theorem dX2_isLetterBehind_1 : decode cX2_isLetterBehind 1 = .ok (.getfield 9, 3) := by decide +kernel
theorem dX2_isLetterBehind_4 : decode cX2_isLetterBehind 4 = .ok (.aload_n 0, 1) := by decide +kernel
theorem dX2_isLetterBehind_5 : decode cX2_isLetterBehind 5 = .ok (.getfield 15, 3) := by decide +kernel
theorem dX2_isLetterBehind_8 : decode cX2_isLetterBehind 8 = .ok (.invokevirtual 30, 3) := by decide +kernel
theorem dX2_isLetterBehind_11 : decode cX2_isLetterBehind 11 = .ok (.invokestatic 41, 3) := by decide +kernel
theorem dX2_isLetterBehind_14 : decode cX2_isLetterBehind 14 = .ok (.ireturn, 1) := by decide +kernel
theorem dX2_wordToken_0 : decode cX2_wordToken 0 = .ok (.iconst 0, 1) := by decide +kernel
theorem dX2_wordToken_1 : decode cX2_wordToken 1 = .ok (.istore_n 1, 1) := by decide +kernel
theorem dX2_wordToken_2 : decode cX2_wordToken 2 = .ok (.iconst 0, 1) := by decide +kernel
theorem dX2_wordToken_3 : decode cX2_wordToken 3 = .ok (.istore_n 2, 1) := by decide +kernel
theorem dX2_wordToken_4 : decode cX2_wordToken 4 = .ok (.iconst 0, 1) := by decide +kernel
theorem dX2_wordToken_5 : decode cX2_wordToken 5 = .ok (.istore_n 3, 1) := by decide +kernel
theorem dX2_wordToken_6 : decode cX2_wordToken 6 = .ok (.iload_n 3, 1) := by decide +kernel
theorem dX2_wordToken_7 : decode cX2_wordToken 7 = .ok (.ldc 54, 2) := by decide +kernel
theorem dX2_wordToken_9 : decode cX2_wordToken 9 = .ok (.invokevirtual 56, 3) := by decide +kernel
theorem dX2_wordToken_12 : decode cX2_wordToken 12 = .ok (.if_icmp .ge 91, 3) := by decide +kernel
theorem dX2_wordToken_15 : decode cX2_wordToken 15 = .ok (.ldc 54, 2) := by decide +kernel
theorem dX2_wordToken_17 : decode cX2_wordToken 17 = .ok (.iload_n 3, 1) := by decide +kernel
theorem dX2_wordToken_18 : decode cX2_wordToken 18 = .ok (.invokevirtual 61, 3) := by decide +kernel
theorem dX2_wordToken_21 : decode cX2_wordToken 21 = .ok (.istore 4, 2) := by decide +kernel
theorem dX2_wordToken_23 : decode cX2_wordToken 23 = .ok (.iload 4, 2) := by decide +kernel
theorem dX2_wordToken_25 : decode cX2_wordToken 25 = .ok (.bipush 32, 2) := by decide +kernel
theorem dX2_wordToken_27 : decode cX2_wordToken 27 = .ok (.if_icmp .eq 50, 3) := by decide +kernel
theorem dX2_wordToken_30 : decode cX2_wordToken 30 = .ok (.iload_n 2, 1) := by decide +kernel
theorem dX2_wordToken_31 : decode cX2_wordToken 31 = .ok (.iconst (-1), 1) := by decide +kernel
theorem dX2_wordToken_32 : decode cX2_wordToken 32 = .ok (.if_icmp .eq 40, 3) := by decide +kernel
theorem dX2_wordToken_35 : decode cX2_wordToken 35 = .ok (.aload_n 0, 1) := by decide +kernel
theorem dX2_wordToken_36 : decode cX2_wordToken 36 = .ok (.getfield 22, 3) := by decide +kernel
theorem dX2_wordToken_39 : decode cX2_wordToken 39 = .ok (.iload_n 2, 1) := by decide +kernel
theorem dX2_wordToken_40 : decode cX2_wordToken 40 = .ok (.iadd, 1) := by decide +kernel
theorem dX2_wordToken_41 : decode cX2_wordToken 41 = .ok (.aload_n 0, 1) := by decide +kernel
theorem dX2_wordToken_42 : decode cX2_wordToken 42 = .ok (.getfield 15, 3) := by decide +kernel
theorem dX2_wordToken_45 : decode cX2_wordToken 45 = .ok (.if_icmp .ge 27, 3) := by decide +kernel
theorem dX2_wordToken_48 : decode cX2_wordToken 48 = .ok (.aload_n 0, 1) := by decide +kernel
theorem dX2_wordToken_49 : decode cX2_wordToken 49 = .ok (.getfield 9, 3) := by decide +kernel
theorem dX2_wordToken_52 : decode cX2_wordToken 52 = .ok (.aload_n 0, 1) := by decide +kernel
theorem dX2_wordToken_53 : decode cX2_wordToken 53 = .ok (.getfield 22, 3) := by decide +kernel
theorem dX2_wordToken_56 : decode cX2_wordToken 56 = .ok (.iload_n 2, 1) := by decide +kernel
theorem dX2_wordToken_57 : decode cX2_wordToken 57 = .ok (.iadd, 1) := by decide +kernel
theorem dX2_wordToken_58 : decode cX2_wordToken 58 = .ok (.invokevirtual 30, 3) := by decide +kernel
theorem dX2_wordToken_61 : decode cX2_wordToken 61 = .ok (.iload 4, 2) := by decide +kernel
theorem dX2_wordToken_63 : decode cX2_wordToken 63 = .ok (.if_icmp .ne 9, 3) := by decide +kernel
theorem dX2_wordToken_66 : decode cX2_wordToken 66 = .ok (.iload_n 2, 1) := by decide +kernel
theorem dX2_wordToken_67 : decode cX2_wordToken 67 = .ok (.iconst 1, 1) := by decide +kernel
theorem dX2_wordToken_68 : decode cX2_wordToken 68 = .ok (.iadd, 1) := by decide +kernel
theorem dX2_wordToken_69 : decode cX2_wordToken 69 = .ok (.goto 4, 3) := by decide +kernel
theorem dX2_wordToken_72 : decode cX2_wordToken 72 = .ok (.iconst (-1), 1) := by decide +kernel
theorem dX2_wordToken_73 : decode cX2_wordToken 73 = .ok (.istore_n 2, 1) := by decide +kernel
theorem dX2_wordToken_74 : decode cX2_wordToken 74 = .ok (.goto 23, 3) := by decide +kernel
theorem dX2_wordToken_77 : decode cX2_wordToken 77 = .ok (.iload_n 2, 1) := by decide +kernel
theorem dX2_wordToken_78 : decode cX2_wordToken 78 = .ok (.aload_n 0, 1) := by decide +kernel
theorem dX2_wordToken_79 : decode cX2_wordToken 79 = .ok (.getfield 15, 3) := by decide +kernel
theorem dX2_wordToken_82 : decode cX2_wordToken 82 = .ok (.aload_n 0, 1) := by decide +kernel
theorem dX2_wordToken_83 : decode cX2_wordToken 83 = .ok (.getfield 22, 3) := by decide +kernel
theorem dX2_wordToken_86 : decode cX2_wordToken 86 = .ok (.isub, 1) := by decide +kernel
theorem dX2_wordToken_87 : decode cX2_wordToken 87 = .ok (.if_icmp .ne 5, 3) := by decide +kernel
theorem dX2_wordToken_90 : decode cX2_wordToken 90 = .ok (.iload_n 1, 1) := by decide +kernel
theorem dX2_wordToken_91 : decode cX2_wordToken 91 = .ok (.ireturn, 1) := by decide +kernel
theorem dX2_wordToken_92 : decode cX2_wordToken 92 = .ok (.iinc 1 1, 3) := by decide +kernel
theorem dX2_wordToken_95 : decode cX2_wordToken 95 = .ok (.iconst 0, 1) := by decide +kernel
theorem dX2_wordToken_96 : decode cX2_wordToken 96 = .ok (.istore_n 2, 1) := by decide +kernel
theorem dX2_wordToken_97 : decode cX2_wordToken 97 = .ok (.iinc 3 1, 3) := by decide +kernel
theorem dX2_wordToken_100 : decode cX2_wordToken 100 = .ok (.goto (-94), 3) := by decide +kernel
theorem dX2_wordToken_103 : decode cX2_wordToken 103 = .ok (.bipush 16, 2) := by decide +kernel
theorem dX2_wordToken_105 : decode cX2_wordToken 105 = .ok (.ireturn, 1) := by decide +kernel
theorem dX2_signToken_0 : decode cX2_signToken 0 = .ok (.iload_n 1, 1) := by decide +kernel
theorem dX2_signToken_1 : decode cX2_signToken 1 = .ok (.tableswitch 156 39 62 #[120, 114, 117, 156, 156, 111, 123, 156, 156, 156, 156, 156, 156, 156, 156, 156, 156, 156, 156, 156, 156, 129, 126, 129], 111) := by decide +kernel
theorem dX2_signToken_112 : decode cX2_signToken 112 = .ok (.bipush 19, 2) := by decide +kernel
theorem dX2_signToken_114 : decode cX2_signToken 114 = .ok (.ireturn, 1) := by decide +kernel
theorem dX2_signToken_115 : decode cX2_signToken 115 = .ok (.bipush 20, 2) := by decide +kernel
theorem dX2_signToken_117 : decode cX2_signToken 117 = .ok (.ireturn, 1) := by decide +kernel
theorem dX2_signToken_118 : decode cX2_signToken 118 = .ok (.bipush 21, 2) := by decide +kernel
theorem dX2_signToken_120 : decode cX2_signToken 120 = .ok (.ireturn, 1) := by decide +kernel
theorem dX2_signToken_121 : decode cX2_signToken 121 = .ok (.bipush 18, 2) := by decide +kernel
theorem dX2_signToken_123 : decode cX2_signToken 123 = .ok (.ireturn, 1) := by decide +kernel
theorem dX2_signToken_124 : decode cX2_signToken 124 = .ok (.bipush 17, 2) := by decide +kernel
theorem dX2_signToken_126 : decode cX2_signToken 126 = .ok (.ireturn, 1) := by decide +kernel
theorem dX2_signToken_127 : decode cX2_signToken 127 = .ok (.bipush 22, 2) := by decide +kernel
theorem dX2_signToken_129 : decode cX2_signToken 129 = .ok (.ireturn, 1) := by decide +kernel
theorem dX2_signToken_130 : decode cX2_signToken 130 = .ok (.aload_n 0, 1) := by decide +kernel
theorem dX2_signToken_131 : decode cX2_signToken 131 = .ok (.iload_n 1, 1) := by decide +kernel
theorem dX2_signToken_132 : decode cX2_signToken 132 = .ok (.bipush 60, 2) := by decide +kernel
theorem dX2_signToken_134 : decode cX2_signToken 134 = .ok (.if_icmp .ne 7, 3) := by decide +kernel
theorem dX2_signToken_137 : decode cX2_signToken 137 = .ok (.iconst 1, 1) := by decide +kernel
theorem dX2_signToken_138 : decode cX2_signToken 138 = .ok (.goto 4, 3) := by decide +kernel
theorem dX2_signToken_141 : decode cX2_signToken 141 = .ok (.iconst 0, 1) := by decide +kernel
theorem dX2_signToken_142 : decode cX2_signToken 142 = .ok (.aload_n 0, 1) := by decide +kernel
theorem dX2_signToken_143 : decode cX2_signToken 143 = .ok (.getfield 9, 3) := by decide +kernel
theorem dX2_signToken_146 : decode cX2_signToken 146 = .ok (.aload_n 0, 1) := by decide +kernel
theorem dX2_signToken_147 : decode cX2_signToken 147 = .ok (.getfield 15, 3) := by decide +kernel
theorem dX2_signToken_150 : decode cX2_signToken 150 = .ok (.invokevirtual 30, 3) := by decide +kernel
theorem dX2_signToken_153 : decode cX2_signToken 153 = .ok (.invokevirtual 65, 3) := by decide +kernel
theorem dX2_signToken_156 : decode cX2_signToken 156 = .ok (.ireturn, 1) := by decide +kernel
theorem dX2_signToken_157 : decode cX2_signToken 157 = .ok (.iload_n 1, 1) := by decide +kernel
theorem dX2_signToken_158 : decode cX2_signToken 158 = .ok (.bipush 48, 2) := by decide +kernel
theorem dX2_signToken_160 : decode cX2_signToken 160 = .ok (.if_icmp .lt 14, 3) := by decide +kernel
theorem dX2_signToken_163 : decode cX2_signToken 163 = .ok (.iload_n 1, 1) := by decide +kernel
theorem dX2_signToken_164 : decode cX2_signToken 164 = .ok (.bipush 57, 2) := by decide +kernel
theorem dX2_signToken_166 : decode cX2_signToken 166 = .ok (.if_icmp .gt 8, 3) := by decide +kernel
theorem dX2_signToken_169 : decode cX2_signToken 169 = .ok (.bipush 17, 2) := by decide +kernel
theorem dX2_signToken_171 : decode cX2_signToken 171 = .ok (.goto 5, 3) := by decide +kernel
theorem dX2_signToken_174 : decode cX2_signToken 174 = .ok (.bipush 28, 2) := by decide +kernel
theorem dX2_signToken_176 : decode cX2_signToken 176 = .ok (.ireturn, 1) := by decide +kernel
theorem dX2_orderToken_0 : decode cX2_orderToken 0 = .ok (.iload_n 2, 1) := by decide +kernel
theorem dX2_orderToken_1 : decode cX2_orderToken 1 = .ok (.bipush 61, 2) := by decide +kernel
theorem dX2_orderToken_3 : decode cX2_orderToken 3 = .ok (.if_icmp .ne 25, 3) := by decide +kernel
theorem dX2_orderToken_6 : decode cX2_orderToken 6 = .ok (.aload_n 0, 1) := by decide +kernel
theorem dX2_orderToken_7 : decode cX2_orderToken 7 = .ok (.dup, 1) := by decide +kernel
theorem dX2_orderToken_8 : decode cX2_orderToken 8 = .ok (.getfield 15, 3) := by decide +kernel
theorem dX2_orderToken_11 : decode cX2_orderToken 11 = .ok (.iconst 1, 1) := by decide +kernel
theorem dX2_orderToken_12 : decode cX2_orderToken 12 = .ok (.iadd, 1) := by decide +kernel
theorem dX2_orderToken_13 : decode cX2_orderToken 13 = .ok (.putfield 15, 3) := by decide +kernel
theorem dX2_orderToken_16 : decode cX2_orderToken 16 = .ok (.iload_n 1, 1) := by decide +kernel
theorem dX2_orderToken_17 : decode cX2_orderToken 17 = .ok (.ifCond .eq 8, 3) := by decide +kernel
theorem dX2_orderToken_20 : decode cX2_orderToken 20 = .ok (.bipush 25, 2) := by decide +kernel
theorem dX2_orderToken_22 : decode cX2_orderToken 22 = .ok (.goto 5, 3) := by decide +kernel
theorem dX2_orderToken_25 : decode cX2_orderToken 25 = .ok (.bipush 27, 2) := by decide +kernel
theorem dX2_orderToken_27 : decode cX2_orderToken 27 = .ok (.ireturn, 1) := by decide +kernel
theorem dX2_orderToken_28 : decode cX2_orderToken 28 = .ok (.iload_n 1, 1) := by decide +kernel
theorem dX2_orderToken_29 : decode cX2_orderToken 29 = .ok (.ifCond .eq 22, 3) := by decide +kernel
theorem dX2_orderToken_32 : decode cX2_orderToken 32 = .ok (.iload_n 2, 1) := by decide +kernel
theorem dX2_orderToken_33 : decode cX2_orderToken 33 = .ok (.bipush 62, 2) := by decide +kernel
theorem dX2_orderToken_35 : decode cX2_orderToken 35 = .ok (.if_icmp .ne 16, 3) := by decide +kernel
theorem dX2_orderToken_38 : decode cX2_orderToken 38 = .ok (.aload_n 0, 1) := by decide +kernel
theorem dX2_orderToken_39 : decode cX2_orderToken 39 = .ok (.dup, 1) := by decide +kernel
theorem dX2_orderToken_40 : decode cX2_orderToken 40 = .ok (.getfield 15, 3) := by decide +kernel
theorem dX2_orderToken_43 : decode cX2_orderToken 43 = .ok (.iconst 1, 1) := by decide +kernel
theorem dX2_orderToken_44 : decode cX2_orderToken 44 = .ok (.iadd, 1) := by decide +kernel
theorem dX2_orderToken_45 : decode cX2_orderToken 45 = .ok (.putfield 15, 3) := by decide +kernel
theorem dX2_orderToken_48 : decode cX2_orderToken 48 = .ok (.bipush 23, 2) := by decide +kernel
theorem dX2_orderToken_50 : decode cX2_orderToken 50 = .ok (.ireturn, 1) := by decide +kernel
theorem dX2_orderToken_51 : decode cX2_orderToken 51 = .ok (.iload_n 1, 1) := by decide +kernel
theorem dX2_orderToken_52 : decode cX2_orderToken 52 = .ok (.ifCond .eq 8, 3) := by decide +kernel
theorem dX2_orderToken_55 : decode cX2_orderToken 55 = .ok (.bipush 24, 2) := by decide +kernel
theorem dX2_orderToken_57 : decode cX2_orderToken 57 = .ok (.goto 5, 3) := by decide +kernel
theorem dX2_orderToken_60 : decode cX2_orderToken 60 = .ok (.bipush 26, 2) := by decide +kernel
theorem dX2_orderToken_62 : decode cX2_orderToken 62 = .ok (.ireturn, 1) := by decide +kernel
theorem dX2_readNumber_0 : decode cX2_readNumber 0 = .ok (.aload_n 0, 1) := by decide +kernel
theorem dX2_readNumber_1 : decode cX2_readNumber 1 = .ok (.getfield 9, 3) := by decide +kernel
theorem dX2_readNumber_4 : decode cX2_readNumber 4 = .ok (.aload_n 0, 1) := by decide +kernel
theorem dX2_readNumber_5 : decode cX2_readNumber 5 = .ok (.getfield 22, 3) := by decide +kernel
theorem dX2_readNumber_8 : decode cX2_readNumber 8 = .ok (.invokevirtual 30, 3) := by decide +kernel
theorem dX2_readNumber_11 : decode cX2_readNumber 11 = .ok (.bipush 45, 2) := by decide +kernel
theorem dX2_readNumber_13 : decode cX2_readNumber 13 = .ok (.if_icmp .ne 7, 3) := by decide +kernel
theorem dX2_readNumber_16 : decode cX2_readNumber 16 = .ok (.iconst 1, 1) := by decide +kernel
theorem dX2_readNumber_17 : decode cX2_readNumber 17 = .ok (.goto 4, 3) := by decide +kernel
theorem dX2_readNumber_20 : decode cX2_readNumber 20 = .ok (.iconst 0, 1) := by decide +kernel
theorem dX2_readNumber_21 : decode cX2_readNumber 21 = .ok (.istore_n 1, 1) := by decide +kernel
theorem dX2_readNumber_22 : decode cX2_readNumber 22 = .ok (.iload_n 1, 1) := by decide +kernel
theorem dX2_readNumber_23 : decode cX2_readNumber 23 = .ok (.ifCond .eq 12, 3) := by decide +kernel
theorem dX2_readNumber_26 : decode cX2_readNumber 26 = .ok (.aload_n 0, 1) := by decide +kernel
theorem dX2_readNumber_27 : decode cX2_readNumber 27 = .ok (.getfield 22, 3) := by decide +kernel
theorem dX2_readNumber_30 : decode cX2_readNumber 30 = .ok (.iconst 1, 1) := by decide +kernel
theorem dX2_readNumber_31 : decode cX2_readNumber 31 = .ok (.iadd, 1) := by decide +kernel
theorem dX2_readNumber_32 : decode cX2_readNumber 32 = .ok (.goto 7, 3) := by decide +kernel
theorem dX2_readNumber_35 : decode cX2_readNumber 35 = .ok (.aload_n 0, 1) := by decide +kernel
theorem dX2_readNumber_36 : decode cX2_readNumber 36 = .ok (.getfield 22, 3) := by decide +kernel
theorem dX2_readNumber_39 : decode cX2_readNumber 39 = .ok (.istore_n 2, 1) := by decide +kernel
theorem dX2_readNumber_40 : decode cX2_readNumber 40 = .ok (.iload_n 2, 1) := by decide +kernel
theorem dX2_readNumber_41 : decode cX2_readNumber 41 = .ok (.aload_n 0, 1) := by decide +kernel
theorem dX2_readNumber_42 : decode cX2_readNumber 42 = .ok (.getfield 9, 3) := by decide +kernel
theorem dX2_readNumber_45 : decode cX2_readNumber 45 = .ok (.getfield 25, 3) := by decide +kernel
theorem dX2_readNumber_48 : decode cX2_readNumber 48 = .ok (.if_icmp .lt 11, 3) := by decide +kernel
theorem dX2_readNumber_51 : decode cX2_readNumber 51 = .ok (.aload_n 0, 1) := by decide +kernel
theorem dX2_readNumber_52 : decode cX2_readNumber 52 = .ok (.getfield 9, 3) := by decide +kernel
theorem dX2_readNumber_55 : decode cX2_readNumber 55 = .ok (.getfield 25, 3) := by decide +kernel
theorem dX2_readNumber_58 : decode cX2_readNumber 58 = .ok (.ireturn, 1) := by decide +kernel
theorem dX2_readNumber_59 : decode cX2_readNumber 59 = .ok (.lconst 0, 1) := by decide +kernel
theorem dX2_readNumber_60 : decode cX2_readNumber 60 = .ok (.lstore_n 3, 1) := by decide +kernel
theorem dX2_readNumber_61 : decode cX2_readNumber 61 = .ok (.iconst 1, 1) := by decide +kernel
theorem dX2_readNumber_62 : decode cX2_readNumber 62 = .ok (.istore 5, 2) := by decide +kernel
theorem dX2_readNumber_64 : decode cX2_readNumber 64 = .ok (.iload_n 2, 1) := by decide +kernel
theorem dX2_readNumber_65 : decode cX2_readNumber 65 = .ok (.istore 6, 2) := by decide +kernel
theorem dX2_readNumber_67 : decode cX2_readNumber 67 = .ok (.iload 6, 2) := by decide +kernel
theorem dX2_readNumber_69 : decode cX2_readNumber 69 = .ok (.aload_n 0, 1) := by decide +kernel
theorem dX2_readNumber_70 : decode cX2_readNumber 70 = .ok (.getfield 9, 3) := by decide +kernel
theorem dX2_readNumber_73 : decode cX2_readNumber 73 = .ok (.getfield 25, 3) := by decide +kernel
theorem dX2_readNumber_76 : decode cX2_readNumber 76 = .ok (.if_icmp .ge 84, 3) := by decide +kernel
theorem dX2_readNumber_79 : decode cX2_readNumber 79 = .ok (.aload_n 0, 1) := by decide +kernel
theorem dX2_readNumber_80 : decode cX2_readNumber 80 = .ok (.getfield 9, 3) := by decide +kernel
theorem dX2_readNumber_83 : decode cX2_readNumber 83 = .ok (.iload 6, 2) := by decide +kernel
theorem dX2_readNumber_85 : decode cX2_readNumber 85 = .ok (.invokevirtual 30, 3) := by decide +kernel
theorem dX2_readNumber_88 : decode cX2_readNumber 88 = .ok (.invokestatic 69, 3) := by decide +kernel
theorem dX2_readNumber_91 : decode cX2_readNumber 91 = .ok (.ifCond .eq 69, 3) := by decide +kernel
theorem dX2_readNumber_94 : decode cX2_readNumber 94 = .ok (.aload_n 0, 1) := by decide +kernel
theorem dX2_readNumber_95 : decode cX2_readNumber 95 = .ok (.getfield 9, 3) := by decide +kernel
theorem dX2_readNumber_98 : decode cX2_readNumber 98 = .ok (.iload 6, 2) := by decide +kernel
theorem dX2_readNumber_100 : decode cX2_readNumber 100 = .ok (.invokevirtual 30, 3) := by decide +kernel
theorem dX2_readNumber_103 : decode cX2_readNumber 103 = .ok (.bipush 48, 2) := by decide +kernel
theorem dX2_readNumber_105 : decode cX2_readNumber 105 = .ok (.isub, 1) := by decide +kernel
theorem dX2_readNumber_106 : decode cX2_readNumber 106 = .ok (.istore 7, 2) := by decide +kernel
theorem dX2_readNumber_108 : decode cX2_readNumber 108 = .ok (.iload 5, 2) := by decide +kernel
theorem dX2_readNumber_110 : decode cX2_readNumber 110 = .ok (.ifCond .eq 31, 3) := by decide +kernel
theorem dX2_readNumber_113 : decode cX2_readNumber 113 = .ok (.lload_n 3, 1) := by decide +kernel
theorem dX2_readNumber_114 : decode cX2_readNumber 114 = .ok (.ldc2_w 72, 3) := by decide +kernel
theorem dX2_readNumber_117 : decode cX2_readNumber 117 = .ok (.lcmp, 1) := by decide +kernel
theorem dX2_readNumber_118 : decode cX2_readNumber 118 = .ok (.ifCond .lt 23, 3) := by decide +kernel
theorem dX2_readNumber_121 : decode cX2_readNumber 121 = .ok (.lload_n 3, 1) := by decide +kernel
theorem dX2_readNumber_122 : decode cX2_readNumber 122 = .ok (.ldc2_w 74, 3) := by decide +kernel
theorem dX2_readNumber_125 : decode cX2_readNumber 125 = .ok (.lmul, 1) := by decide +kernel
theorem dX2_readNumber_126 : decode cX2_readNumber 126 = .ok (.ldc2_w 76, 3) := by decide +kernel
theorem dX2_readNumber_129 : decode cX2_readNumber 129 = .ok (.iload 7, 2) := by decide +kernel
theorem dX2_readNumber_131 : decode cX2_readNumber 131 = .ok (.i2l, 1) := by decide +kernel
theorem dX2_readNumber_132 : decode cX2_readNumber 132 = .ok (.ladd, 1) := by decide +kernel
theorem dX2_readNumber_133 : decode cX2_readNumber 133 = .ok (.lcmp, 1) := by decide +kernel
theorem dX2_readNumber_134 : decode cX2_readNumber 134 = .ok (.ifCond .lt 7, 3) := by decide +kernel
theorem dX2_readNumber_137 : decode cX2_readNumber 137 = .ok (.iconst 1, 1) := by decide +kernel
theorem dX2_readNumber_138 : decode cX2_readNumber 138 = .ok (.goto 4, 3) := by decide +kernel
theorem dX2_readNumber_141 : decode cX2_readNumber 141 = .ok (.iconst 0, 1) := by decide +kernel
theorem dX2_readNumber_142 : decode cX2_readNumber 142 = .ok (.istore 5, 2) := by decide +kernel
theorem dX2_readNumber_144 : decode cX2_readNumber 144 = .ok (.lload_n 3, 1) := by decide +kernel
theorem dX2_readNumber_145 : decode cX2_readNumber 145 = .ok (.ldc2_w 74, 3) := by decide +kernel
theorem dX2_readNumber_148 : decode cX2_readNumber 148 = .ok (.lmul, 1) := by decide +kernel
theorem dX2_readNumber_149 : decode cX2_readNumber 149 = .ok (.iload 7, 2) := by decide +kernel
theorem dX2_readNumber_151 : decode cX2_readNumber 151 = .ok (.i2l, 1) := by decide +kernel
theorem dX2_readNumber_152 : decode cX2_readNumber 152 = .ok (.lsub, 1) := by decide +kernel
theorem dX2_readNumber_153 : decode cX2_readNumber 153 = .ok (.lstore_n 3, 1) := by decide +kernel
theorem dX2_readNumber_154 : decode cX2_readNumber 154 = .ok (.iinc 6 1, 3) := by decide +kernel
theorem dX2_readNumber_157 : decode cX2_readNumber 157 = .ok (.goto (-90), 3) := by decide +kernel
theorem dX2_readNumber_160 : decode cX2_readNumber 160 = .ok (.aload_n 0, 1) := by decide +kernel
theorem dX2_readNumber_161 : decode cX2_readNumber 161 = .ok (.getfield 9, 3) := by decide +kernel
theorem dX2_readNumber_164 : decode cX2_readNumber 164 = .ok (.iload_n 2, 1) := by decide +kernel
theorem dX2_readNumber_165 : decode cX2_readNumber 165 = .ok (.invokevirtual 30, 3) := by decide +kernel
theorem dX2_readNumber_168 : decode cX2_readNumber 168 = .ok (.bipush 48, 2) := by decide +kernel
theorem dX2_readNumber_170 : decode cX2_readNumber 170 = .ok (.if_icmp .ne 19, 3) := by decide +kernel
theorem dX2_readNumber_173 : decode cX2_readNumber 173 = .ok (.iload_n 1, 1) := by decide +kernel
theorem dX2_readNumber_174 : decode cX2_readNumber 174 = .ok (.ifCond .ne 11, 3) := by decide +kernel
theorem dX2_readNumber_177 : decode cX2_readNumber 177 = .ok (.iload 6, 2) := by decide +kernel
theorem dX2_readNumber_179 : decode cX2_readNumber 179 = .ok (.iload_n 2, 1) := by decide +kernel
theorem dX2_readNumber_180 : decode cX2_readNumber 180 = .ok (.iconst 1, 1) := by decide +kernel
theorem dX2_readNumber_181 : decode cX2_readNumber 181 = .ok (.iadd, 1) := by decide +kernel
theorem dX2_readNumber_182 : decode cX2_readNumber 182 = .ok (.if_icmp .le 7, 3) := by decide +kernel
theorem dX2_readNumber_185 : decode cX2_readNumber 185 = .ok (.iconst 1, 1) := by decide +kernel
theorem dX2_readNumber_186 : decode cX2_readNumber 186 = .ok (.goto 4, 3) := by decide +kernel
theorem dX2_readNumber_189 : decode cX2_readNumber 189 = .ok (.iconst 0, 1) := by decide +kernel
theorem dX2_readNumber_190 : decode cX2_readNumber 190 = .ok (.istore 7, 2) := by decide +kernel
theorem dX2_readNumber_192 : decode cX2_readNumber 192 = .ok (.iload 6, 2) := by decide +kernel
theorem dX2_readNumber_194 : decode cX2_readNumber 194 = .ok (.iload_n 2, 1) := by decide +kernel
theorem dX2_readNumber_195 : decode cX2_readNumber 195 = .ok (.if_icmp .eq 25, 3) := by decide +kernel
theorem dX2_readNumber_198 : decode cX2_readNumber 198 = .ok (.iload 7, 2) := by decide +kernel
theorem dX2_readNumber_200 : decode cX2_readNumber 200 = .ok (.ifCond .ne 20, 3) := by decide +kernel
theorem dX2_readNumber_203 : decode cX2_readNumber 203 = .ok (.iload 5, 2) := by decide +kernel
theorem dX2_readNumber_205 : decode cX2_readNumber 205 = .ok (.ifCond .eq 15, 3) := by decide +kernel
theorem dX2_readNumber_208 : decode cX2_readNumber 208 = .ok (.iload_n 1, 1) := by decide +kernel
theorem dX2_readNumber_209 : decode cX2_readNumber 209 = .ok (.ifCond .ne 16, 3) := by decide +kernel
theorem dX2_readNumber_212 : decode cX2_readNumber 212 = .ok (.lload_n 3, 1) := by decide +kernel
theorem dX2_readNumber_213 : decode cX2_readNumber 213 = .ok (.ldc2_w 76, 3) := by decide +kernel
theorem dX2_readNumber_216 : decode cX2_readNumber 216 = .ok (.lcmp, 1) := by decide +kernel
theorem dX2_readNumber_217 : decode cX2_readNumber 217 = .ok (.ifCond .ne 8, 3) := by decide +kernel
theorem dX2_readNumber_220 : decode cX2_readNumber 220 = .ok (.aload_n 0, 1) := by decide +kernel
theorem dX2_readNumber_221 : decode cX2_readNumber 221 = .ok (.getfield 22, 3) := by decide +kernel
theorem dX2_readNumber_224 : decode cX2_readNumber 224 = .ok (.ireturn, 1) := by decide +kernel
theorem dX2_readNumber_225 : decode cX2_readNumber 225 = .ok (.aload_n 0, 1) := by decide +kernel
theorem dX2_readNumber_226 : decode cX2_readNumber 226 = .ok (.iload_n 1, 1) := by decide +kernel
theorem dX2_readNumber_227 : decode cX2_readNumber 227 = .ok (.ifCond .eq 7, 3) := by decide +kernel
theorem dX2_readNumber_230 : decode cX2_readNumber 230 = .ok (.lload_n 3, 1) := by decide +kernel
theorem dX2_readNumber_231 : decode cX2_readNumber 231 = .ok (.goto 5, 3) := by decide +kernel
theorem dX2_readNumber_234 : decode cX2_readNumber 234 = .ok (.lload_n 3, 1) := by decide +kernel
theorem dX2_readNumber_235 : decode cX2_readNumber 235 = .ok (.lneg, 1) := by decide +kernel
theorem dX2_readNumber_236 : decode cX2_readNumber 236 = .ok (.putfield 78, 3) := by decide +kernel
theorem dX2_readNumber_239 : decode cX2_readNumber 239 = .ok (.aload_n 0, 1) := by decide +kernel
theorem dX2_readNumber_240 : decode cX2_readNumber 240 = .ok (.iload 6, 2) := by decide +kernel
theorem dX2_readNumber_242 : decode cX2_readNumber 242 = .ok (.putfield 15, 3) := by decide +kernel
theorem dX2_readNumber_245 : decode cX2_readNumber 245 = .ok (.iconst (-1), 1) := by decide +kernel
theorem dX2_readNumber_246 : decode cX2_readNumber 246 = .ok (.ireturn, 1) := by decide +kernel
theorem dX2_readText_0 : decode cX2_readText 0 = .ok (.iconst 0, 1) := by decide +kernel
theorem dX2_readText_1 : decode cX2_readText 1 = .ok (.istore_n 2, 1) := by decide +kernel
theorem dX2_readText_2 : decode cX2_readText 2 = .ok (.aload_n 0, 1) := by decide +kernel
theorem dX2_readText_3 : decode cX2_readText 3 = .ok (.getfield 22, 3) := by decide +kernel
theorem dX2_readText_6 : decode cX2_readText 6 = .ok (.iconst 1, 1) := by decide +kernel
theorem dX2_readText_7 : decode cX2_readText 7 = .ok (.iadd, 1) := by decide +kernel
theorem dX2_readText_8 : decode cX2_readText 8 = .ok (.istore_n 3, 1) := by decide +kernel
theorem dX2_readText_9 : decode cX2_readText 9 = .ok (.iload_n 3, 1) := by decide +kernel
theorem dX2_readText_10 : decode cX2_readText 10 = .ok (.aload_n 0, 1) := by decide +kernel
theorem dX2_readText_11 : decode cX2_readText 11 = .ok (.getfield 9, 3) := by decide +kernel
theorem dX2_readText_14 : decode cX2_readText 14 = .ok (.getfield 25, 3) := by decide +kernel
theorem dX2_readText_17 : decode cX2_readText 17 = .ok (.if_icmp .ge 103, 3) := by decide +kernel
theorem dX2_readText_20 : decode cX2_readText 20 = .ok (.aload_n 0, 1) := by decide +kernel
theorem dX2_readText_21 : decode cX2_readText 21 = .ok (.getfield 9, 3) := by decide +kernel
theorem dX2_readText_24 : decode cX2_readText 24 = .ok (.iload_n 3, 1) := by decide +kernel
theorem dX2_readText_25 : decode cX2_readText 25 = .ok (.invokevirtual 30, 3) := by decide +kernel
theorem dX2_readText_28 : decode cX2_readText 28 = .ok (.istore 4, 2) := by decide +kernel
theorem dX2_readText_30 : decode cX2_readText 30 = .ok (.iload 4, 2) := by decide +kernel
theorem dX2_readText_32 : decode cX2_readText 32 = .ok (.bipush 39, 2) := by decide +kernel
theorem dX2_readText_34 : decode cX2_readText 34 = .ok (.if_icmp .ne 12, 3) := by decide +kernel
theorem dX2_readText_37 : decode cX2_readText 37 = .ok (.aload_n 0, 1) := by decide +kernel
theorem dX2_readText_38 : decode cX2_readText 38 = .ok (.iload_n 3, 1) := by decide +kernel
theorem dX2_readText_39 : decode cX2_readText 39 = .ok (.iconst 1, 1) := by decide +kernel
theorem dX2_readText_40 : decode cX2_readText 40 = .ok (.iadd, 1) := by decide +kernel
theorem dX2_readText_41 : decode cX2_readText 41 = .ok (.putfield 15, 3) := by decide +kernel
theorem dX2_readText_44 : decode cX2_readText 44 = .ok (.iconst (-1), 1) := by decide +kernel
theorem dX2_readText_45 : decode cX2_readText 45 = .ok (.ireturn, 1) := by decide +kernel
theorem dX2_readText_46 : decode cX2_readText 46 = .ok (.iload_n 2, 1) := by decide +kernel
theorem dX2_readText_47 : decode cX2_readText 47 = .ok (.sipush 255, 3) := by decide +kernel
theorem dX2_readText_50 : decode cX2_readText 50 = .ok (.if_icmp .ge 17, 3) := by decide +kernel
theorem dX2_readText_53 : decode cX2_readText 53 = .ok (.iload 4, 2) := by decide +kernel
theorem dX2_readText_55 : decode cX2_readText 55 = .ok (.bipush 32, 2) := by decide +kernel
theorem dX2_readText_57 : decode cX2_readText 57 = .ok (.if_icmp .lt 10, 3) := by decide +kernel
theorem dX2_readText_60 : decode cX2_readText 60 = .ok (.iload 4, 2) := by decide +kernel
theorem dX2_readText_62 : decode cX2_readText 62 = .ok (.bipush 126, 2) := by decide +kernel
theorem dX2_readText_64 : decode cX2_readText 64 = .ok (.if_icmp .le 5, 3) := by decide +kernel
theorem dX2_readText_67 : decode cX2_readText 67 = .ok (.iload_n 3, 1) := by decide +kernel
theorem dX2_readText_68 : decode cX2_readText 68 = .ok (.ireturn, 1) := by decide +kernel
theorem dX2_readText_69 : decode cX2_readText 69 = .ok (.iload 4, 2) := by decide +kernel
theorem dX2_readText_71 : decode cX2_readText 71 = .ok (.bipush 92, 2) := by decide +kernel
theorem dX2_readText_73 : decode cX2_readText 73 = .ok (.if_icmp .ne 32, 3) := by decide +kernel
theorem dX2_readText_76 : decode cX2_readText 76 = .ok (.aload_n 0, 1) := by decide +kernel
theorem dX2_readText_77 : decode cX2_readText 77 = .ok (.iload_n 3, 1) := by decide +kernel
theorem dX2_readText_78 : decode cX2_readText 78 = .ok (.invokevirtual 82, 3) := by decide +kernel
theorem dX2_readText_81 : decode cX2_readText 81 = .ok (.istore 5, 2) := by decide +kernel
theorem dX2_readText_83 : decode cX2_readText 83 = .ok (.iload 5, 2) := by decide +kernel
theorem dX2_readText_85 : decode cX2_readText 85 = .ok (.iconst (-1), 1) := by decide +kernel
theorem dX2_readText_86 : decode cX2_readText 86 = .ok (.if_icmp .eq 6, 3) := by decide +kernel
theorem dX2_readText_89 : decode cX2_readText 89 = .ok (.iload 5, 2) := by decide +kernel
theorem dX2_readText_91 : decode cX2_readText 91 = .ok (.ireturn, 1) := by decide +kernel
theorem dX2_readText_92 : decode cX2_readText 92 = .ok (.aload_n 0, 1) := by decide +kernel
theorem dX2_readText_93 : decode cX2_readText 93 = .ok (.getfield 85, 3) := by decide +kernel
theorem dX2_readText_96 : decode cX2_readText 96 = .ok (.istore 4, 2) := by decide +kernel
theorem dX2_readText_98 : decode cX2_readText 98 = .ok (.iload_n 3, 1) := by decide +kernel
theorem dX2_readText_99 : decode cX2_readText 99 = .ok (.aload_n 0, 1) := by decide +kernel
theorem dX2_readText_100 : decode cX2_readText 100 = .ok (.getfield 88, 3) := by decide +kernel
theorem dX2_readText_103 : decode cX2_readText 103 = .ok (.iadd, 1) := by decide +kernel
theorem dX2_readText_104 : decode cX2_readText 104 = .ok (.istore_n 3, 1) := by decide +kernel
theorem dX2_readText_105 : decode cX2_readText 105 = .ok (.aload_n 1, 1) := by decide +kernel
theorem dX2_readText_106 : decode cX2_readText 106 = .ok (.iload 4, 2) := by decide +kernel
theorem dX2_readText_108 : decode cX2_readText 108 = .ok (.invokevirtual 91, 3) := by decide +kernel
theorem dX2_readText_111 : decode cX2_readText 111 = .ok (.iinc 2 1, 3) := by decide +kernel
theorem dX2_readText_114 : decode cX2_readText 114 = .ok (.iinc 3 1, 3) := by decide +kernel
theorem dX2_readText_117 : decode cX2_readText 117 = .ok (.goto (-108), 3) := by decide +kernel
theorem dX2_readText_120 : decode cX2_readText 120 = .ok (.aload_n 0, 1) := by decide +kernel
theorem dX2_readText_121 : decode cX2_readText 121 = .ok (.getfield 9, 3) := by decide +kernel
theorem dX2_readText_124 : decode cX2_readText 124 = .ok (.getfield 25, 3) := by decide +kernel
theorem dX2_readText_127 : decode cX2_readText 127 = .ok (.ireturn, 1) := by decide +kernel
theorem dX2_readEscape_0 : decode cX2_readEscape 0 = .ok (.aload_n 0, 1) := by decide +kernel
theorem dX2_readEscape_1 : decode cX2_readEscape 1 = .ok (.getfield 9, 3) := by decide +kernel
theorem dX2_readEscape_4 : decode cX2_readEscape 4 = .ok (.iload_n 1, 1) := by decide +kernel
theorem dX2_readEscape_5 : decode cX2_readEscape 5 = .ok (.iconst 1, 1) := by decide +kernel
theorem dX2_readEscape_6 : decode cX2_readEscape 6 = .ok (.iadd, 1) := by decide +kernel
theorem dX2_readEscape_7 : decode cX2_readEscape 7 = .ok (.invokevirtual 30, 3) := by decide +kernel
theorem dX2_readEscape_10 : decode cX2_readEscape 10 = .ok (.istore_n 2, 1) := by decide +kernel
theorem dX2_readEscape_11 : decode cX2_readEscape 11 = .ok (.iload_n 2, 1) := by decide +kernel
theorem dX2_readEscape_12 : decode cX2_readEscape 12 = .ok (.bipush 39, 2) := by decide +kernel
theorem dX2_readEscape_14 : decode cX2_readEscape 14 = .ok (.if_icmp .eq 9, 3) := by decide +kernel
theorem dX2_readEscape_17 : decode cX2_readEscape 17 = .ok (.iload_n 2, 1) := by decide +kernel
theorem dX2_readEscape_18 : decode cX2_readEscape 18 = .ok (.bipush 92, 2) := by decide +kernel
theorem dX2_readEscape_20 : decode cX2_readEscape 20 = .ok (.if_icmp .ne 15, 3) := by decide +kernel
theorem dX2_readEscape_23 : decode cX2_readEscape 23 = .ok (.aload_n 0, 1) := by decide +kernel
theorem dX2_readEscape_24 : decode cX2_readEscape 24 = .ok (.iload_n 2, 1) := by decide +kernel
theorem dX2_readEscape_25 : decode cX2_readEscape 25 = .ok (.putfield 85, 3) := by decide +kernel
theorem dX2_readEscape_28 : decode cX2_readEscape 28 = .ok (.aload_n 0, 1) := by decide +kernel
theorem dX2_readEscape_29 : decode cX2_readEscape 29 = .ok (.iconst 1, 1) := by decide +kernel
theorem dX2_readEscape_30 : decode cX2_readEscape 30 = .ok (.putfield 88, 3) := by decide +kernel
theorem dX2_readEscape_33 : decode cX2_readEscape 33 = .ok (.iconst (-1), 1) := by decide +kernel
theorem dX2_readEscape_34 : decode cX2_readEscape 34 = .ok (.ireturn, 1) := by decide +kernel
theorem dX2_readEscape_35 : decode cX2_readEscape 35 = .ok (.iload_n 2, 1) := by decide +kernel
theorem dX2_readEscape_36 : decode cX2_readEscape 36 = .ok (.bipush 120, 2) := by decide +kernel
theorem dX2_readEscape_38 : decode cX2_readEscape 38 = .ok (.if_icmp .eq 20, 3) := by decide +kernel
theorem dX2_readEscape_41 : decode cX2_readEscape 41 = .ok (.iload_n 2, 1) := by decide +kernel
theorem dX2_readEscape_42 : decode cX2_readEscape 42 = .ok (.iconst (-1), 1) := by decide +kernel
theorem dX2_readEscape_43 : decode cX2_readEscape 43 = .ok (.if_icmp .ne 13, 3) := by decide +kernel
theorem dX2_readEscape_46 : decode cX2_readEscape 46 = .ok (.aload_n 0, 1) := by decide +kernel
theorem dX2_readEscape_47 : decode cX2_readEscape 47 = .ok (.getfield 9, 3) := by decide +kernel
theorem dX2_readEscape_50 : decode cX2_readEscape 50 = .ok (.getfield 25, 3) := by decide +kernel
theorem dX2_readEscape_53 : decode cX2_readEscape 53 = .ok (.goto 4, 3) := by decide +kernel
theorem dX2_readEscape_56 : decode cX2_readEscape 56 = .ok (.iload_n 1, 1) := by decide +kernel
theorem dX2_readEscape_57 : decode cX2_readEscape 57 = .ok (.ireturn, 1) := by decide +kernel
theorem dX2_readEscape_58 : decode cX2_readEscape 58 = .ok (.aload_n 0, 1) := by decide +kernel
theorem dX2_readEscape_59 : decode cX2_readEscape 59 = .ok (.getfield 9, 3) := by decide +kernel
theorem dX2_readEscape_62 : decode cX2_readEscape 62 = .ok (.iload_n 1, 1) := by decide +kernel
theorem dX2_readEscape_63 : decode cX2_readEscape 63 = .ok (.iconst 2, 1) := by decide +kernel
theorem dX2_readEscape_64 : decode cX2_readEscape 64 = .ok (.iadd, 1) := by decide +kernel
theorem dX2_readEscape_65 : decode cX2_readEscape 65 = .ok (.invokevirtual 30, 3) := by decide +kernel
theorem dX2_readEscape_68 : decode cX2_readEscape 68 = .ok (.invokestatic 97, 3) := by decide +kernel
theorem dX2_readEscape_71 : decode cX2_readEscape 71 = .ok (.istore_n 3, 1) := by decide +kernel
theorem dX2_readEscape_72 : decode cX2_readEscape 72 = .ok (.aload_n 0, 1) := by decide +kernel
theorem dX2_readEscape_73 : decode cX2_readEscape 73 = .ok (.getfield 9, 3) := by decide +kernel
theorem dX2_readEscape_76 : decode cX2_readEscape 76 = .ok (.iload_n 1, 1) := by decide +kernel
theorem dX2_readEscape_77 : decode cX2_readEscape 77 = .ok (.iconst 3, 1) := by decide +kernel
theorem dX2_readEscape_78 : decode cX2_readEscape 78 = .ok (.iadd, 1) := by decide +kernel
theorem dX2_readEscape_79 : decode cX2_readEscape 79 = .ok (.invokevirtual 30, 3) := by decide +kernel
theorem dX2_readEscape_82 : decode cX2_readEscape 82 = .ok (.invokestatic 97, 3) := by decide +kernel
theorem dX2_readEscape_85 : decode cX2_readEscape 85 = .ok (.istore 4, 2) := by decide +kernel
theorem dX2_readEscape_87 : decode cX2_readEscape 87 = .ok (.iload_n 3, 1) := by decide +kernel
theorem dX2_readEscape_88 : decode cX2_readEscape 88 = .ok (.iconst (-1), 1) := by decide +kernel
theorem dX2_readEscape_89 : decode cX2_readEscape 89 = .ok (.if_icmp .ne 28, 3) := by decide +kernel
theorem dX2_readEscape_92 : decode cX2_readEscape 92 = .ok (.iload_n 1, 1) := by decide +kernel
theorem dX2_readEscape_93 : decode cX2_readEscape 93 = .ok (.iconst 2, 1) := by decide +kernel
theorem dX2_readEscape_94 : decode cX2_readEscape 94 = .ok (.iadd, 1) := by decide +kernel
theorem dX2_readEscape_95 : decode cX2_readEscape 95 = .ok (.aload_n 0, 1) := by decide +kernel
theorem dX2_readEscape_96 : decode cX2_readEscape 96 = .ok (.getfield 9, 3) := by decide +kernel
theorem dX2_readEscape_99 : decode cX2_readEscape 99 = .ok (.getfield 25, 3) := by decide +kernel
theorem dX2_readEscape_102 : decode cX2_readEscape 102 = .ok (.if_icmp .ge 7, 3) := by decide +kernel
theorem dX2_readEscape_105 : decode cX2_readEscape 105 = .ok (.iload_n 1, 1) := by decide +kernel
theorem dX2_readEscape_106 : decode cX2_readEscape 106 = .ok (.goto 10, 3) := by decide +kernel
theorem dX2_readEscape_109 : decode cX2_readEscape 109 = .ok (.aload_n 0, 1) := by decide +kernel
theorem dX2_readEscape_110 : decode cX2_readEscape 110 = .ok (.getfield 9, 3) := by decide +kernel
theorem dX2_readEscape_113 : decode cX2_readEscape 113 = .ok (.getfield 25, 3) := by decide +kernel
theorem dX2_readEscape_116 : decode cX2_readEscape 116 = .ok (.ireturn, 1) := by decide +kernel
theorem dX2_readEscape_117 : decode cX2_readEscape 117 = .ok (.iload 4, 2) := by decide +kernel
theorem dX2_readEscape_119 : decode cX2_readEscape 119 = .ok (.iconst (-1), 1) := by decide +kernel
theorem dX2_readEscape_120 : decode cX2_readEscape 120 = .ok (.if_icmp .ne 28, 3) := by decide +kernel
theorem dX2_readEscape_123 : decode cX2_readEscape 123 = .ok (.iload_n 1, 1) := by decide +kernel
theorem dX2_readEscape_124 : decode cX2_readEscape 124 = .ok (.iconst 3, 1) := by decide +kernel
theorem dX2_readEscape_125 : decode cX2_readEscape 125 = .ok (.iadd, 1) := by decide +kernel
theorem dX2_readEscape_126 : decode cX2_readEscape 126 = .ok (.aload_n 0, 1) := by decide +kernel
theorem dX2_readEscape_127 : decode cX2_readEscape 127 = .ok (.getfield 9, 3) := by decide +kernel
theorem dX2_readEscape_130 : decode cX2_readEscape 130 = .ok (.getfield 25, 3) := by decide +kernel
theorem dX2_readEscape_133 : decode cX2_readEscape 133 = .ok (.if_icmp .ge 7, 3) := by decide +kernel
theorem dX2_readEscape_136 : decode cX2_readEscape 136 = .ok (.iload_n 1, 1) := by decide +kernel
theorem dX2_readEscape_137 : decode cX2_readEscape 137 = .ok (.goto 10, 3) := by decide +kernel
theorem dX2_readEscape_140 : decode cX2_readEscape 140 = .ok (.aload_n 0, 1) := by decide +kernel
theorem dX2_readEscape_141 : decode cX2_readEscape 141 = .ok (.getfield 9, 3) := by decide +kernel
theorem dX2_readEscape_144 : decode cX2_readEscape 144 = .ok (.getfield 25, 3) := by decide +kernel
theorem dX2_readEscape_147 : decode cX2_readEscape 147 = .ok (.ireturn, 1) := by decide +kernel
theorem dX2_readEscape_148 : decode cX2_readEscape 148 = .ok (.aload_n 0, 1) := by decide +kernel
theorem dX2_readEscape_149 : decode cX2_readEscape 149 = .ok (.iload_n 3, 1) := by decide +kernel
theorem dX2_readEscape_150 : decode cX2_readEscape 150 = .ok (.bipush 16, 2) := by decide +kernel
theorem dX2_readEscape_152 : decode cX2_readEscape 152 = .ok (.imul, 1) := by decide +kernel
theorem dX2_readEscape_153 : decode cX2_readEscape 153 = .ok (.iload 4, 2) := by decide +kernel
theorem dX2_readEscape_155 : decode cX2_readEscape 155 = .ok (.iadd, 1) := by decide +kernel
theorem dX2_readEscape_156 : decode cX2_readEscape 156 = .ok (.putfield 85, 3) := by decide +kernel
theorem dX2_readEscape_159 : decode cX2_readEscape 159 = .ok (.aload_n 0, 1) := by decide +kernel
theorem dX2_readEscape_160 : decode cX2_readEscape 160 = .ok (.iconst 3, 1) := by decide +kernel
theorem dX2_readEscape_161 : decode cX2_readEscape 161 = .ok (.putfield 88, 3) := by decide +kernel
theorem dX2_readEscape_164 : decode cX2_readEscape 164 = .ok (.iconst (-1), 1) := by decide +kernel
theorem dX2_readEscape_165 : decode cX2_readEscape 165 = .ok (.ireturn, 1) := by decide +kernel
theorem dX3_init_0 : decode cX3_init 0 = .ok (.aload_n 0, 1) := by decide +kernel
theorem dX3_init_1 : decode cX3_init 1 = .ok (.invokespecial 3, 3) := by decide +kernel
theorem dX3_init_4 : decode cX3_init 4 = .ok (.aload_n 0, 1) := by decide +kernel
theorem dX3_init_5 : decode cX3_init 5 = .ok (.sipush 1024, 3) := by decide +kernel
theorem dX3_init_8 : decode cX3_init 8 = .ok (.newarray .int, 2) := by decide +kernel
theorem dX3_init_10 : decode cX3_init 10 = .ok (.putfield 9, 3) := by decide +kernel
theorem dX3_init_13 : decode cX3_init 13 = .ok (.aload_n 0, 1) := by decide +kernel
theorem dX3_init_14 : decode cX3_init 14 = .ok (.bipush 64, 2) := by decide +kernel
theorem dX3_init_16 : decode cX3_init 16 = .ok (.newarray .int, 2) := by decide +kernel
theorem dX3_init_18 : decode cX3_init 18 = .ok (.putfield 15, 3) := by decide +kernel
theorem dX3_init_21 : decode cX3_init 21 = .ok (.aload_n 0, 1) := by decide +kernel
theorem dX3_init_22 : decode cX3_init 22 = .ok (.bipush 64, 2) := by decide +kernel
theorem dX3_init_24 : decode cX3_init 24 = .ok (.newarray .int, 2) := by decide +kernel
theorem dX3_init_26 : decode cX3_init 26 = .ok (.putfield 18, 3) := by decide +kernel
theorem dX3_init_29 : decode cX3_init 29 = .ok (.aload_n 0, 1) := by decide +kernel
theorem dX3_init_30 : decode cX3_init 30 = .ok (.bipush 64, 2) := by decide +kernel
theorem dX3_init_32 : decode cX3_init 32 = .ok (.newarray .int, 2) := by decide +kernel
theorem dX3_init_34 : decode cX3_init 34 = .ok (.putfield 21, 3) := by decide +kernel
theorem dX3_init_37 : decode cX3_init 37 = .ok (.aload_n 0, 1) := by decide +kernel
theorem dX3_init_38 : decode cX3_init 38 = .ok (.bipush 64, 2) := by decide +kernel
theorem dX3_init_40 : decode cX3_init 40 = .ok (.newarray .boolean, 2) := by decide +kernel
theorem dX3_init_42 : decode cX3_init 42 = .ok (.putfield 24, 3) := by decide +kernel
theorem dX3_init_45 : decode cX3_init 45 = .ok (.aload_n 0, 1) := by decide +kernel
theorem dX3_init_46 : decode cX3_init 46 = .ok (.aload_n 1, 1) := by decide +kernel
theorem dX3_init_47 : decode cX3_init 47 = .ok (.putfield 28, 3) := by decide +kernel
theorem dX3_init_50 : decode cX3_init 50 = .ok (.return_, 1) := by decide +kernel
theorem dX3_add_0 : decode cX3_add 0 = .ok (.aload_n 0, 1) := by decide +kernel
theorem dX3_add_1 : decode cX3_add 1 = .ok (.getfield 32, 3) := by decide +kernel
theorem dX3_add_4 : decode cX3_add 4 = .ok (.bipush 64, 2) := by decide +kernel
theorem dX3_add_6 : decode cX3_add 6 = .ok (.if_icmp .ge 21, 3) := by decide +kernel
theorem dX3_add_9 : decode cX3_add 9 = .ok (.iload_n 2, 1) := by decide +kernel
theorem dX3_add_10 : decode cX3_add 10 = .ok (.ifCond .lt 17, 3) := by decide +kernel
theorem dX3_add_13 : decode cX3_add 13 = .ok (.iload_n 2, 1) := by decide +kernel
theorem dX3_add_14 : decode cX3_add 14 = .ok (.iconst 2, 1) := by decide +kernel
theorem dX3_add_15 : decode cX3_add 15 = .ok (.if_icmp .gt 12, 3) := by decide +kernel
theorem dX3_add_18 : decode cX3_add 18 = .ok (.iload_n 3, 1) := by decide +kernel
theorem dX3_add_19 : decode cX3_add 19 = .ok (.ifCond .lt 8, 3) := by decide +kernel
theorem dX3_add_22 : decode cX3_add 22 = .ok (.iload_n 3, 1) := by decide +kernel
theorem dX3_add_23 : decode cX3_add 23 = .ok (.iconst 4, 1) := by decide +kernel
theorem dX3_add_24 : decode cX3_add 24 = .ok (.if_icmp .le 5, 3) := by decide +kernel
theorem dX3_add_27 : decode cX3_add 27 = .ok (.iconst (-1), 1) := by decide +kernel
theorem dX3_add_28 : decode cX3_add 28 = .ok (.ireturn, 1) := by decide +kernel
theorem dX3_add_29 : decode cX3_add 29 = .ok (.iload_n 1, 1) := by decide +kernel
theorem dX3_add_30 : decode cX3_add 30 = .ok (.iconst (-1), 1) := by decide +kernel
theorem dX3_add_31 : decode cX3_add 31 = .ok (.if_icmp .eq 14, 3) := by decide +kernel
theorem dX3_add_34 : decode cX3_add 34 = .ok (.aload_n 0, 1) := by decide +kernel
theorem dX3_add_35 : decode cX3_add 35 = .ok (.iload_n 1, 1) := by decide +kernel
theorem dX3_add_36 : decode cX3_add 36 = .ok (.invokevirtual 36, 3) := by decide +kernel
theorem dX3_add_39 : decode cX3_add 39 = .ok (.iconst 4, 1) := by decide +kernel
theorem dX3_add_40 : decode cX3_add 40 = .ok (.if_icmp .eq 5, 3) := by decide +kernel
theorem dX3_add_43 : decode cX3_add 43 = .ok (.iconst (-1), 1) := by decide +kernel
theorem dX3_add_44 : decode cX3_add 44 = .ok (.ireturn, 1) := by decide +kernel
theorem dX3_add_45 : decode cX3_add 45 = .ok (.aload_n 0, 1) := by decide +kernel
theorem dX3_add_46 : decode cX3_add 46 = .ok (.invokevirtual 40, 3) := by decide +kernel
theorem dX3_add_49 : decode cX3_add 49 = .ok (.ifCond .eq 20, 3) := by decide +kernel
theorem dX3_add_52 : decode cX3_add 52 = .ok (.aload_n 0, 1) := by decide +kernel
theorem dX3_add_53 : decode cX3_add 53 = .ok (.iload_n 1, 1) := by decide +kernel
theorem dX3_add_54 : decode cX3_add 54 = .ok (.iconst 0, 1) := by decide +kernel
theorem dX3_add_55 : decode cX3_add 55 = .ok (.aload_n 0, 1) := by decide +kernel
theorem dX3_add_56 : decode cX3_add 56 = .ok (.getfield 28, 3) := by decide +kernel
theorem dX3_add_59 : decode cX3_add 59 = .ok (.getfield 44, 3) := by decide +kernel
theorem dX3_add_62 : decode cX3_add 62 = .ok (.invokevirtual 47, 3) := by decide +kernel
theorem dX3_add_65 : decode cX3_add 65 = .ok (.iconst (-1), 1) := by decide +kernel
theorem dX3_add_66 : decode cX3_add 66 = .ok (.if_icmp .eq 5, 3) := by decide +kernel
theorem dX3_add_69 : decode cX3_add 69 = .ok (.iconst (-1), 1) := by decide +kernel
theorem dX3_add_70 : decode cX3_add 70 = .ok (.ireturn, 1) := by decide +kernel
theorem dX3_add_71 : decode cX3_add 71 = .ok (.iconst 0, 1) := by decide +kernel
theorem dX3_add_72 : decode cX3_add 72 = .ok (.istore 4, 2) := by decide +kernel
theorem dX3_add_74 : decode cX3_add 74 = .ok (.iload 4, 2) := by decide +kernel
theorem dX3_add_76 : decode cX3_add 76 = .ok (.aload_n 0, 1) := by decide +kernel
theorem dX3_add_77 : decode cX3_add 77 = .ok (.getfield 28, 3) := by decide +kernel
theorem dX3_add_80 : decode cX3_add 80 = .ok (.getfield 44, 3) := by decide +kernel
theorem dX3_add_83 : decode cX3_add 83 = .ok (.if_icmp .ge 40, 3) := by decide +kernel
theorem dX3_add_86 : decode cX3_add 86 = .ok (.iload 4, 2) := by decide +kernel
theorem dX3_add_88 : decode cX3_add 88 = .ok (.bipush 16, 2) := by decide +kernel
theorem dX3_add_90 : decode cX3_add 90 = .ok (.if_icmp .ge 33, 3) := by decide +kernel
theorem dX3_add_93 : decode cX3_add 93 = .ok (.aload_n 0, 1) := by decide +kernel
theorem dX3_add_94 : decode cX3_add 94 = .ok (.getfield 9, 3) := by decide +kernel
theorem dX3_add_97 : decode cX3_add 97 = .ok (.aload_n 0, 1) := by decide +kernel
theorem dX3_add_98 : decode cX3_add 98 = .ok (.getfield 32, 3) := by decide +kernel
theorem dX3_add_101 : decode cX3_add 101 = .ok (.bipush 16, 2) := by decide +kernel
theorem dX3_add_103 : decode cX3_add 103 = .ok (.imul, 1) := by decide +kernel
theorem dX3_add_104 : decode cX3_add 104 = .ok (.iload 4, 2) := by decide +kernel
theorem dX3_add_106 : decode cX3_add 106 = .ok (.iadd, 1) := by decide +kernel
theorem dX3_add_107 : decode cX3_add 107 = .ok (.aload_n 0, 1) := by decide +kernel
theorem dX3_add_108 : decode cX3_add 108 = .ok (.getfield 28, 3) := by decide +kernel
theorem dX3_add_111 : decode cX3_add 111 = .ok (.iload 4, 2) := by decide +kernel
theorem dX3_add_113 : decode cX3_add 113 = .ok (.invokevirtual 51, 3) := by decide +kernel
theorem dX3_add_116 : decode cX3_add 116 = .ok (.iastore, 1) := by decide +kernel
theorem dX3_add_117 : decode cX3_add 117 = .ok (.iinc 4 1, 3) := by decide +kernel
theorem dX3_add_120 : decode cX3_add 120 = .ok (.goto (-46), 3) := by decide +kernel
theorem dX3_add_123 : decode cX3_add 123 = .ok (.aload_n 0, 1) := by decide +kernel
theorem dX3_add_124 : decode cX3_add 124 = .ok (.getfield 15, 3) := by decide +kernel
theorem dX3_add_127 : decode cX3_add 127 = .ok (.aload_n 0, 1) := by decide +kernel
theorem dX3_add_128 : decode cX3_add 128 = .ok (.getfield 32, 3) := by decide +kernel
theorem dX3_add_131 : decode cX3_add 131 = .ok (.aload_n 0, 1) := by decide +kernel
theorem dX3_add_132 : decode cX3_add 132 = .ok (.getfield 28, 3) := by decide +kernel
theorem dX3_add_135 : decode cX3_add 135 = .ok (.getfield 44, 3) := by decide +kernel
theorem dX3_add_138 : decode cX3_add 138 = .ok (.iastore, 1) := by decide +kernel
theorem dX3_add_139 : decode cX3_add 139 = .ok (.aload_n 0, 1) := by decide +kernel
theorem dX3_add_140 : decode cX3_add 140 = .ok (.getfield 18, 3) := by decide +kernel
theorem dX3_add_143 : decode cX3_add 143 = .ok (.aload_n 0, 1) := by decide +kernel
theorem dX3_add_144 : decode cX3_add 144 = .ok (.getfield 32, 3) := by decide +kernel
theorem dX3_add_147 : decode cX3_add 147 = .ok (.iload_n 1, 1) := by decide +kernel
theorem dX3_add_148 : decode cX3_add 148 = .ok (.iastore, 1) := by decide +kernel
theorem dX3_add_149 : decode cX3_add 149 = .ok (.aload_n 0, 1) := by decide +kernel
theorem dX3_add_150 : decode cX3_add 150 = .ok (.getfield 21, 3) := by decide +kernel
theorem dX3_add_153 : decode cX3_add 153 = .ok (.aload_n 0, 1) := by decide +kernel
theorem dX3_add_154 : decode cX3_add 154 = .ok (.getfield 32, 3) := by decide +kernel
theorem dX3_add_157 : decode cX3_add 157 = .ok (.iload_n 3, 1) := by decide +kernel
theorem dX3_add_158 : decode cX3_add 158 = .ok (.iastore, 1) := by decide +kernel
theorem dX3_add_159 : decode cX3_add 159 = .ok (.aload_n 0, 1) := by decide +kernel
theorem dX3_add_160 : decode cX3_add 160 = .ok (.getfield 24, 3) := by decide +kernel
theorem dX3_add_163 : decode cX3_add 163 = .ok (.aload_n 0, 1) := by decide +kernel
theorem dX3_add_164 : decode cX3_add 164 = .ok (.getfield 32, 3) := by decide +kernel
theorem dX3_add_167 : decode cX3_add 167 = .ok (.iload_n 2, 1) := by decide +kernel
theorem dX3_add_168 : decode cX3_add 168 = .ok (.iconst 2, 1) := by decide +kernel
theorem dX3_add_169 : decode cX3_add 169 = .ok (.if_icmp .eq 21, 3) := by decide +kernel
theorem dX3_add_172 : decode cX3_add 172 = .ok (.iload_n 1, 1) := by decide +kernel
theorem dX3_add_173 : decode cX3_add 173 = .ok (.iconst (-1), 1) := by decide +kernel
theorem dX3_add_174 : decode cX3_add 174 = .ok (.if_icmp .eq 12, 3) := by decide +kernel
theorem dX3_add_177 : decode cX3_add 177 = .ok (.aload_n 0, 1) := by decide +kernel
theorem dX3_add_178 : decode cX3_add 178 = .ok (.getfield 24, 3) := by decide +kernel
theorem dX3_add_181 : decode cX3_add 181 = .ok (.iload_n 1, 1) := by decide +kernel
theorem dX3_add_182 : decode cX3_add 182 = .ok (.baload, 1) := by decide +kernel
theorem dX3_add_183 : decode cX3_add 183 = .ok (.ifCond .eq 7, 3) := by decide +kernel
theorem dX3_add_186 : decode cX3_add 186 = .ok (.iconst 1, 1) := by decide +kernel
theorem dX3_add_187 : decode cX3_add 187 = .ok (.goto 4, 3) := by decide +kernel
theorem dX3_add_190 : decode cX3_add 190 = .ok (.iconst 0, 1) := by decide +kernel
theorem dX3_add_191 : decode cX3_add 191 = .ok (.bastore, 1) := by decide +kernel
theorem dX3_add_192 : decode cX3_add 192 = .ok (.aload_n 0, 1) := by decide +kernel
theorem dX3_add_193 : decode cX3_add 193 = .ok (.dup, 1) := by decide +kernel
theorem dX3_add_194 : decode cX3_add 194 = .ok (.getfield 32, 3) := by decide +kernel
theorem dX3_add_197 : decode cX3_add 197 = .ok (.iconst 1, 1) := by decide +kernel
theorem dX3_add_198 : decode cX3_add 198 = .ok (.iadd, 1) := by decide +kernel
theorem dX3_add_199 : decode cX3_add 199 = .ok (.putfield 32, 3) := by decide +kernel
theorem dX3_add_202 : decode cX3_add 202 = .ok (.aload_n 0, 1) := by decide +kernel
theorem dX3_add_203 : decode cX3_add 203 = .ok (.getfield 32, 3) := by decide +kernel
theorem dX3_add_206 : decode cX3_add 206 = .ok (.iconst 1, 1) := by decide +kernel
theorem dX3_add_207 : decode cX3_add 207 = .ok (.isub, 1) := by decide +kernel
theorem dX3_add_208 : decode cX3_add 208 = .ok (.ireturn, 1) := by decide +kernel
theorem dX3_isName_0 : decode cX3_isName 0 = .ok (.aload_n 0, 1) := by decide +kernel
theorem dX3_isName_1 : decode cX3_isName 1 = .ok (.getfield 28, 3) := by decide +kernel
theorem dX3_isName_4 : decode cX3_isName 4 = .ok (.getfield 44, 3) := by decide +kernel
theorem dX3_isName_7 : decode cX3_isName 7 = .ok (.bipush 16, 2) := by decide +kernel
theorem dX3_isName_9 : decode cX3_isName 9 = .ok (.if_icmp .gt 17, 3) := by decide +kernel
theorem dX3_isName_12 : decode cX3_isName 12 = .ok (.aload_n 0, 1) := by decide +kernel
theorem dX3_isName_13 : decode cX3_isName 13 = .ok (.getfield 28, 3) := by decide +kernel
theorem dX3_isName_16 : decode cX3_isName 16 = .ok (.iconst 0, 1) := by decide +kernel
theorem dX3_isName_17 : decode cX3_isName 17 = .ok (.invokevirtual 51, 3) := by decide +kernel
theorem dX3_isName_20 : decode cX3_isName 20 = .ok (.invokestatic 54, 3) := by decide +kernel
theorem dX3_isName_23 : decode cX3_isName 23 = .ok (.ifCond .ne 5, 3) := by decide +kernel
theorem dX3_isName_26 : decode cX3_isName 26 = .ok (.iconst 0, 1) := by decide +kernel
theorem dX3_isName_27 : decode cX3_isName 27 = .ok (.ireturn, 1) := by decide +kernel
theorem dX3_isName_28 : decode cX3_isName 28 = .ok (.iconst 1, 1) := by decide +kernel
theorem dX3_isName_29 : decode cX3_isName 29 = .ok (.istore_n 1, 1) := by decide +kernel
theorem dX3_isName_30 : decode cX3_isName 30 = .ok (.iload_n 1, 1) := by decide +kernel
theorem dX3_isName_31 : decode cX3_isName 31 = .ok (.aload_n 0, 1) := by decide +kernel
theorem dX3_isName_32 : decode cX3_isName 32 = .ok (.getfield 28, 3) := by decide +kernel
theorem dX3_isName_35 : decode cX3_isName 35 = .ok (.getfield 44, 3) := by decide +kernel
theorem dX3_isName_38 : decode cX3_isName 38 = .ok (.if_icmp .ge 25, 3) := by decide +kernel
theorem dX3_isName_41 : decode cX3_isName 41 = .ok (.aload_n 0, 1) := by decide +kernel
theorem dX3_isName_42 : decode cX3_isName 42 = .ok (.getfield 28, 3) := by decide +kernel
theorem dX3_isName_45 : decode cX3_isName 45 = .ok (.iload_n 1, 1) := by decide +kernel
theorem dX3_isName_46 : decode cX3_isName 46 = .ok (.invokevirtual 51, 3) := by decide +kernel
theorem dX3_isName_49 : decode cX3_isName 49 = .ok (.invokestatic 58, 3) := by decide +kernel
theorem dX3_isName_52 : decode cX3_isName 52 = .ok (.ifCond .ne 5, 3) := by decide +kernel
theorem dX3_isName_55 : decode cX3_isName 55 = .ok (.iconst 0, 1) := by decide +kernel
theorem dX3_isName_56 : decode cX3_isName 56 = .ok (.ireturn, 1) := by decide +kernel
theorem dX3_isName_57 : decode cX3_isName 57 = .ok (.iinc 1 1, 3) := by decide +kernel
theorem dX3_isName_60 : decode cX3_isName 60 = .ok (.goto (-30), 3) := by decide +kernel
theorem dX3_isName_63 : decode cX3_isName 63 = .ok (.iconst 1, 1) := by decide +kernel
theorem dX3_isName_64 : decode cX3_isName 64 = .ok (.ireturn, 1) := by decide +kernel
theorem dX3_find_0 : decode cX3_find 0 = .ok (.iconst 0, 1) := by decide +kernel
theorem dX3_find_1 : decode cX3_find 1 = .ok (.istore 4, 2) := by decide +kernel
theorem dX3_find_3 : decode cX3_find 3 = .ok (.iload 4, 2) := by decide +kernel
theorem dX3_find_5 : decode cX3_find 5 = .ok (.aload_n 0, 1) := by decide +kernel
theorem dX3_find_6 : decode cX3_find 6 = .ok (.getfield 32, 3) := by decide +kernel
theorem dX3_find_9 : decode cX3_find 9 = .ok (.if_icmp .ge 46, 3) := by decide +kernel
theorem dX3_find_12 : decode cX3_find 12 = .ok (.aload_n 0, 1) := by decide +kernel
theorem dX3_find_13 : decode cX3_find 13 = .ok (.getfield 18, 3) := by decide +kernel
theorem dX3_find_16 : decode cX3_find 16 = .ok (.iload 4, 2) := by decide +kernel
theorem dX3_find_18 : decode cX3_find 18 = .ok (.iaload, 1) := by decide +kernel
theorem dX3_find_19 : decode cX3_find 19 = .ok (.iload_n 1, 1) := by decide +kernel
theorem dX3_find_20 : decode cX3_find 20 = .ok (.if_icmp .ne 29, 3) := by decide +kernel
theorem dX3_find_23 : decode cX3_find 23 = .ok (.aload_n 0, 1) := by decide +kernel
theorem dX3_find_24 : decode cX3_find 24 = .ok (.getfield 15, 3) := by decide +kernel
theorem dX3_find_27 : decode cX3_find 27 = .ok (.iload 4, 2) := by decide +kernel
theorem dX3_find_29 : decode cX3_find 29 = .ok (.iaload, 1) := by decide +kernel
theorem dX3_find_30 : decode cX3_find 30 = .ok (.iload_n 3, 1) := by decide +kernel
theorem dX3_find_31 : decode cX3_find 31 = .ok (.iload_n 2, 1) := by decide +kernel
theorem dX3_find_32 : decode cX3_find 32 = .ok (.isub, 1) := by decide +kernel
theorem dX3_find_33 : decode cX3_find 33 = .ok (.if_icmp .ne 16, 3) := by decide +kernel
theorem dX3_find_36 : decode cX3_find 36 = .ok (.aload_n 0, 1) := by decide +kernel
theorem dX3_find_37 : decode cX3_find 37 = .ok (.iload 4, 2) := by decide +kernel
theorem dX3_find_39 : decode cX3_find 39 = .ok (.iload_n 2, 1) := by decide +kernel
theorem dX3_find_40 : decode cX3_find 40 = .ok (.invokevirtual 61, 3) := by decide +kernel
theorem dX3_find_43 : decode cX3_find 43 = .ok (.ifCond .eq 6, 3) := by decide +kernel
theorem dX3_find_46 : decode cX3_find 46 = .ok (.iload 4, 2) := by decide +kernel
theorem dX3_find_48 : decode cX3_find 48 = .ok (.ireturn, 1) := by decide +kernel
theorem dX3_find_49 : decode cX3_find 49 = .ok (.iinc 4 1, 3) := by decide +kernel
theorem dX3_find_52 : decode cX3_find 52 = .ok (.goto (-49), 3) := by decide +kernel
theorem dX3_find_55 : decode cX3_find 55 = .ok (.iconst (-1), 1) := by decide +kernel
theorem dX3_find_56 : decode cX3_find 56 = .ok (.ireturn, 1) := by decide +kernel
theorem dX3_bearsName_0 : decode cX3_bearsName 0 = .ok (.iconst 0, 1) := by decide +kernel
theorem dX3_bearsName_1 : decode cX3_bearsName 1 = .ok (.istore_n 3, 1) := by decide +kernel
theorem dX3_bearsName_2 : decode cX3_bearsName 2 = .ok (.iload_n 3, 1) := by decide +kernel
theorem dX3_bearsName_3 : decode cX3_bearsName 3 = .ok (.aload_n 0, 1) := by decide +kernel
theorem dX3_bearsName_4 : decode cX3_bearsName 4 = .ok (.getfield 15, 3) := by decide +kernel
theorem dX3_bearsName_7 : decode cX3_bearsName 7 = .ok (.iload_n 1, 1) := by decide +kernel
theorem dX3_bearsName_8 : decode cX3_bearsName 8 = .ok (.iaload, 1) := by decide +kernel
theorem dX3_bearsName_9 : decode cX3_bearsName 9 = .ok (.if_icmp .ge 35, 3) := by decide +kernel
theorem dX3_bearsName_12 : decode cX3_bearsName 12 = .ok (.aload_n 0, 1) := by decide +kernel
theorem dX3_bearsName_13 : decode cX3_bearsName 13 = .ok (.getfield 9, 3) := by decide +kernel
theorem dX3_bearsName_16 : decode cX3_bearsName 16 = .ok (.iload_n 1, 1) := by decide +kernel
theorem dX3_bearsName_17 : decode cX3_bearsName 17 = .ok (.bipush 16, 2) := by decide +kernel
theorem dX3_bearsName_19 : decode cX3_bearsName 19 = .ok (.imul, 1) := by decide +kernel
theorem dX3_bearsName_20 : decode cX3_bearsName 20 = .ok (.iload_n 3, 1) := by decide +kernel
theorem dX3_bearsName_21 : decode cX3_bearsName 21 = .ok (.iadd, 1) := by decide +kernel
theorem dX3_bearsName_22 : decode cX3_bearsName 22 = .ok (.iaload, 1) := by decide +kernel
theorem dX3_bearsName_23 : decode cX3_bearsName 23 = .ok (.aload_n 0, 1) := by decide +kernel
theorem dX3_bearsName_24 : decode cX3_bearsName 24 = .ok (.getfield 28, 3) := by decide +kernel
theorem dX3_bearsName_27 : decode cX3_bearsName 27 = .ok (.iload_n 2, 1) := by decide +kernel
theorem dX3_bearsName_28 : decode cX3_bearsName 28 = .ok (.iload_n 3, 1) := by decide +kernel
theorem dX3_bearsName_29 : decode cX3_bearsName 29 = .ok (.iadd, 1) := by decide +kernel
theorem dX3_bearsName_30 : decode cX3_bearsName 30 = .ok (.invokevirtual 51, 3) := by decide +kernel
theorem dX3_bearsName_33 : decode cX3_bearsName 33 = .ok (.if_icmp .eq 5, 3) := by decide +kernel
theorem dX3_bearsName_36 : decode cX3_bearsName 36 = .ok (.iconst 0, 1) := by decide +kernel
theorem dX3_bearsName_37 : decode cX3_bearsName 37 = .ok (.ireturn, 1) := by decide +kernel
theorem dX3_bearsName_38 : decode cX3_bearsName 38 = .ok (.iinc 3 1, 3) := by decide +kernel
theorem dX3_bearsName_41 : decode cX3_bearsName 41 = .ok (.goto (-39), 3) := by decide +kernel
theorem dX3_bearsName_44 : decode cX3_bearsName 44 = .ok (.iconst 1, 1) := by decide +kernel
theorem dX3_bearsName_45 : decode cX3_bearsName 45 = .ok (.ireturn, 1) := by decide +kernel
theorem dX3_typeOf_0 : decode cX3_typeOf 0 = .ok (.iload_n 1, 1) := by decide +kernel
theorem dX3_typeOf_1 : decode cX3_typeOf 1 = .ok (.ifCond .lt 20, 3) := by decide +kernel
theorem dX3_typeOf_4 : decode cX3_typeOf 4 = .ok (.iload_n 1, 1) := by decide +kernel
theorem dX3_typeOf_5 : decode cX3_typeOf 5 = .ok (.aload_n 0, 1) := by decide +kernel
theorem dX3_typeOf_6 : decode cX3_typeOf 6 = .ok (.getfield 32, 3) := by decide +kernel
theorem dX3_typeOf_9 : decode cX3_typeOf 9 = .ok (.if_icmp .ge 12, 3) := by decide +kernel
theorem dX3_typeOf_12 : decode cX3_typeOf 12 = .ok (.aload_n 0, 1) := by decide +kernel
theorem dX3_typeOf_13 : decode cX3_typeOf 13 = .ok (.getfield 21, 3) := by decide +kernel
theorem dX3_typeOf_16 : decode cX3_typeOf 16 = .ok (.iload_n 1, 1) := by decide +kernel
theorem dX3_typeOf_17 : decode cX3_typeOf 17 = .ok (.iaload, 1) := by decide +kernel
theorem dX3_typeOf_18 : decode cX3_typeOf 18 = .ok (.goto 4, 3) := by decide +kernel
theorem dX3_typeOf_21 : decode cX3_typeOf 21 = .ok (.iconst (-1), 1) := by decide +kernel
theorem dX3_typeOf_22 : decode cX3_typeOf 22 = .ok (.ireturn, 1) := by decide +kernel
theorem dX3_isFlatValue_0 : decode cX3_isFlatValue 0 = .ok (.iload_n 1, 1) := by decide +kernel
theorem dX3_isFlatValue_1 : decode cX3_isFlatValue 1 = .ok (.ifCond .lt 34, 3) := by decide +kernel
theorem dX3_isFlatValue_4 : decode cX3_isFlatValue 4 = .ok (.iload_n 1, 1) := by decide +kernel
theorem dX3_isFlatValue_5 : decode cX3_isFlatValue 5 = .ok (.aload_n 0, 1) := by decide +kernel
theorem dX3_isFlatValue_6 : decode cX3_isFlatValue 6 = .ok (.getfield 32, 3) := by decide +kernel
theorem dX3_isFlatValue_9 : decode cX3_isFlatValue 9 = .ok (.if_icmp .ge 26, 3) := by decide +kernel
theorem dX3_isFlatValue_12 : decode cX3_isFlatValue 12 = .ok (.aload_n 0, 1) := by decide +kernel
theorem dX3_isFlatValue_13 : decode cX3_isFlatValue 13 = .ok (.getfield 24, 3) := by decide +kernel
theorem dX3_isFlatValue_16 : decode cX3_isFlatValue 16 = .ok (.iload_n 1, 1) := by decide +kernel
theorem dX3_isFlatValue_17 : decode cX3_isFlatValue 17 = .ok (.baload, 1) := by decide +kernel
theorem dX3_isFlatValue_18 : decode cX3_isFlatValue 18 = .ok (.ifCond .eq 17, 3) := by decide +kernel
theorem dX3_isFlatValue_21 : decode cX3_isFlatValue 21 = .ok (.aload_n 0, 1) := by decide +kernel
theorem dX3_isFlatValue_22 : decode cX3_isFlatValue 22 = .ok (.getfield 21, 3) := by decide +kernel
theorem dX3_isFlatValue_25 : decode cX3_isFlatValue 25 = .ok (.iload_n 1, 1) := by decide +kernel
theorem dX3_isFlatValue_26 : decode cX3_isFlatValue 26 = .ok (.iaload, 1) := by decide +kernel
theorem dX3_isFlatValue_27 : decode cX3_isFlatValue 27 = .ok (.iconst 4, 1) := by decide +kernel
theorem dX3_isFlatValue_28 : decode cX3_isFlatValue 28 = .ok (.if_icmp .eq 7, 3) := by decide +kernel
theorem dX3_isFlatValue_31 : decode cX3_isFlatValue 31 = .ok (.iconst 1, 1) := by decide +kernel
theorem dX3_isFlatValue_32 : decode cX3_isFlatValue 32 = .ok (.goto 4, 3) := by decide +kernel
theorem dX3_isFlatValue_35 : decode cX3_isFlatValue 35 = .ok (.iconst 0, 1) := by decide +kernel
theorem dX3_isFlatValue_36 : decode cX3_isFlatValue 36 = .ok (.ireturn, 1) := by decide +kernel
theorem dX4_init_0 : decode cX4_init 0 = .ok (.aload_n 0, 1) := by decide +kernel
theorem dX4_init_1 : decode cX4_init 1 = .ok (.invokespecial 3, 3) := by decide +kernel
theorem dX4_init_4 : decode cX4_init 4 = .ok (.aload_n 0, 1) := by decide +kernel
theorem dX4_init_5 : decode cX4_init 5 = .ok (.sipush 2000, 3) := by decide +kernel
theorem dX4_init_8 : decode cX4_init 8 = .ok (.newarray .int, 2) := by decide +kernel
theorem dX4_init_10 : decode cX4_init 10 = .ok (.putfield 9, 3) := by decide +kernel
theorem dX4_init_13 : decode cX4_init 13 = .ok (.return_, 1) := by decide +kernel
theorem dX4_hasRoom_0 : decode cX4_hasRoom 0 = .ok (.aload_n 0, 1) := by decide +kernel
theorem dX4_hasRoom_1 : decode cX4_hasRoom 1 = .ok (.getfield 15, 3) := by decide +kernel
theorem dX4_hasRoom_4 : decode cX4_hasRoom 4 = .ok (.bipush 20, 2) := by decide +kernel
theorem dX4_hasRoom_6 : decode cX4_hasRoom 6 = .ok (.iadd, 1) := by decide +kernel
theorem dX4_hasRoom_7 : decode cX4_hasRoom 7 = .ok (.sipush 2000, 3) := by decide +kernel
theorem dX4_hasRoom_10 : decode cX4_hasRoom 10 = .ok (.if_icmp .gt 7, 3) := by decide +kernel
theorem dX4_hasRoom_13 : decode cX4_hasRoom 13 = .ok (.iconst 1, 1) := by decide +kernel
theorem dX4_hasRoom_14 : decode cX4_hasRoom 14 = .ok (.goto 4, 3) := by decide +kernel
theorem dX4_hasRoom_17 : decode cX4_hasRoom 17 = .ok (.iconst 0, 1) := by decide +kernel
theorem dX4_hasRoom_18 : decode cX4_hasRoom 18 = .ok (.ireturn, 1) := by decide +kernel
theorem dX4_put_0 : decode cX4_put 0 = .ok (.bipush 24, 2) := by decide +kernel
theorem dX4_put_2 : decode cX4_put 2 = .ok (.istore_n 2, 1) := by decide +kernel
theorem dX4_put_3 : decode cX4_put 3 = .ok (.iload_n 2, 1) := by decide +kernel
theorem dX4_put_4 : decode cX4_put 4 = .ok (.ifCond .lt 45, 3) := by decide +kernel
theorem dX4_put_7 : decode cX4_put 7 = .ok (.aload_n 0, 1) := by decide +kernel
theorem dX4_put_8 : decode cX4_put 8 = .ok (.getfield 15, 3) := by decide +kernel
theorem dX4_put_11 : decode cX4_put 11 = .ok (.sipush 2000, 3) := by decide +kernel
theorem dX4_put_14 : decode cX4_put 14 = .ok (.if_icmp .ge 35, 3) := by decide +kernel
theorem dX4_put_17 : decode cX4_put 17 = .ok (.aload_n 0, 1) := by decide +kernel
theorem dX4_put_18 : decode cX4_put 18 = .ok (.getfield 9, 3) := by decide +kernel
theorem dX4_put_21 : decode cX4_put 21 = .ok (.aload_n 0, 1) := by decide +kernel
theorem dX4_put_22 : decode cX4_put 22 = .ok (.getfield 15, 3) := by decide +kernel
theorem dX4_put_25 : decode cX4_put 25 = .ok (.iload_n 1, 1) := by decide +kernel
theorem dX4_put_26 : decode cX4_put 26 = .ok (.iload_n 2, 1) := by decide +kernel
theorem dX4_put_27 : decode cX4_put 27 = .ok (.iushr, 1) := by decide +kernel
theorem dX4_put_28 : decode cX4_put 28 = .ok (.sipush 255, 3) := by decide +kernel
theorem dX4_put_31 : decode cX4_put 31 = .ok (.iand, 1) := by decide +kernel
theorem dX4_put_32 : decode cX4_put 32 = .ok (.iastore, 1) := by decide +kernel
theorem dX4_put_33 : decode cX4_put 33 = .ok (.aload_n 0, 1) := by decide +kernel
theorem dX4_put_34 : decode cX4_put 34 = .ok (.dup, 1) := by decide +kernel
theorem dX4_put_35 : decode cX4_put 35 = .ok (.getfield 15, 3) := by decide +kernel
theorem dX4_put_38 : decode cX4_put 38 = .ok (.iconst 1, 1) := by decide +kernel
theorem dX4_put_39 : decode cX4_put 39 = .ok (.iadd, 1) := by decide +kernel
theorem dX4_put_40 : decode cX4_put 40 = .ok (.putfield 15, 3) := by decide +kernel
theorem dX4_put_43 : decode cX4_put 43 = .ok (.iinc 2 (-8), 3) := by decide +kernel
theorem dX4_put_46 : decode cX4_put 46 = .ok (.goto (-43), 3) := by decide +kernel
theorem dX4_put_49 : decode cX4_put 49 = .ok (.return_, 1) := by decide +kernel
theorem dX4_cut_0 : decode cX4_cut 0 = .ok (.iload_n 1, 1) := by decide +kernel
theorem dX4_cut_1 : decode cX4_cut 1 = .ok (.ifCond .lt 11, 3) := by decide +kernel
theorem dX4_cut_4 : decode cX4_cut 4 = .ok (.iload_n 1, 1) := by decide +kernel
theorem dX4_cut_5 : decode cX4_cut 5 = .ok (.aload_n 0, 1) := by decide +kernel
theorem dX4_cut_6 : decode cX4_cut 6 = .ok (.getfield 15, 3) := by decide +kernel
theorem dX4_cut_9 : decode cX4_cut 9 = .ok (.if_icmp .le 5, 3) := by decide +kernel
theorem dX4_cut_12 : decode cX4_cut 12 = .ok (.iconst 0, 1) := by decide +kernel
theorem dX4_cut_13 : decode cX4_cut 13 = .ok (.ireturn, 1) := by decide +kernel
theorem dX4_cut_14 : decode cX4_cut 14 = .ok (.aload_n 0, 1) := by decide +kernel
theorem dX4_cut_15 : decode cX4_cut 15 = .ok (.iload_n 1, 1) := by decide +kernel
theorem dX4_cut_16 : decode cX4_cut 16 = .ok (.putfield 15, 3) := by decide +kernel
theorem dX4_cut_19 : decode cX4_cut 19 = .ok (.iconst 1, 1) := by decide +kernel
theorem dX4_cut_20 : decode cX4_cut 20 = .ok (.ireturn, 1) := by decide +kernel
theorem dX4_clear_0 : decode cX4_clear 0 = .ok (.aload_n 0, 1) := by decide +kernel
theorem dX4_clear_1 : decode cX4_clear 1 = .ok (.iconst 0, 1) := by decide +kernel
theorem dX4_clear_2 : decode cX4_clear 2 = .ok (.putfield 15, 3) := by decide +kernel
theorem dX4_clear_5 : decode cX4_clear 5 = .ok (.return_, 1) := by decide +kernel
theorem dX4_at_0 : decode cX4_at 0 = .ok (.iload_n 1, 1) := by decide +kernel
theorem dX4_at_1 : decode cX4_at 1 = .ok (.ifCond .lt 20, 3) := by decide +kernel
theorem dX4_at_4 : decode cX4_at 4 = .ok (.iload_n 1, 1) := by decide +kernel
theorem dX4_at_5 : decode cX4_at 5 = .ok (.aload_n 0, 1) := by decide +kernel
theorem dX4_at_6 : decode cX4_at 6 = .ok (.getfield 15, 3) := by decide +kernel
theorem dX4_at_9 : decode cX4_at 9 = .ok (.if_icmp .ge 12, 3) := by decide +kernel
theorem dX4_at_12 : decode cX4_at 12 = .ok (.aload_n 0, 1) := by decide +kernel
theorem dX4_at_13 : decode cX4_at 13 = .ok (.getfield 9, 3) := by decide +kernel
theorem dX4_at_16 : decode cX4_at 16 = .ok (.iload_n 1, 1) := by decide +kernel
theorem dX4_at_17 : decode cX4_at 17 = .ok (.iaload, 1) := by decide +kernel
theorem dX4_at_18 : decode cX4_at 18 = .ok (.goto 4, 3) := by decide +kernel
theorem dX4_at_21 : decode cX4_at 21 = .ok (.iconst (-1), 1) := by decide +kernel
theorem dX4_at_22 : decode cX4_at 22 = .ok (.ireturn, 1) := by decide +kernel
theorem dX5_init_0 : decode cX5_init 0 = .ok (.aload_n 0, 1) := by decide +kernel
theorem dX5_init_1 : decode cX5_init 1 = .ok (.invokespecial 3, 3) := by decide +kernel
theorem dX5_init_4 : decode cX5_init 4 = .ok (.aload_n 0, 1) := by decide +kernel
theorem dX5_init_5 : decode cX5_init 5 = .ok (.new 9, 3) := by decide +kernel
theorem dX5_init_8 : decode cX5_init 8 = .ok (.dup, 1) := by decide +kernel
theorem dX5_init_9 : decode cX5_init 9 = .ok (.invokespecial 11, 3) := by decide +kernel
theorem dX5_init_12 : decode cX5_init 12 = .ok (.putfield 12, 3) := by decide +kernel
theorem dX5_init_15 : decode cX5_init 15 = .ok (.aload_n 0, 1) := by decide +kernel
theorem dX5_init_16 : decode cX5_init 16 = .ok (.new 16, 3) := by decide +kernel
theorem dX5_init_19 : decode cX5_init 19 = .ok (.dup, 1) := by decide +kernel
theorem dX5_init_20 : decode cX5_init 20 = .ok (.aload_n 0, 1) := by decide +kernel
theorem dX5_init_21 : decode cX5_init 21 = .ok (.getfield 12, 3) := by decide +kernel
theorem dX5_init_24 : decode cX5_init 24 = .ok (.invokespecial 18, 3) := by decide +kernel
theorem dX5_init_27 : decode cX5_init 27 = .ok (.putfield 21, 3) := by decide +kernel
theorem dX5_init_30 : decode cX5_init 30 = .ok (.aload_n 0, 1) := by decide +kernel
theorem dX5_init_31 : decode cX5_init 31 = .ok (.new 25, 3) := by decide +kernel
theorem dX5_init_34 : decode cX5_init 34 = .ok (.dup, 1) := by decide +kernel
theorem dX5_init_35 : decode cX5_init 35 = .ok (.aload_n 0, 1) := by decide +kernel
theorem dX5_init_36 : decode cX5_init 36 = .ok (.getfield 12, 3) := by decide +kernel
theorem dX5_init_39 : decode cX5_init 39 = .ok (.aload_n 0, 1) := by decide +kernel
theorem dX5_init_40 : decode cX5_init 40 = .ok (.getfield 21, 3) := by decide +kernel
theorem dX5_init_43 : decode cX5_init 43 = .ok (.invokespecial 27, 3) := by decide +kernel
theorem dX5_init_46 : decode cX5_init 46 = .ok (.putfield 30, 3) := by decide +kernel
theorem dX5_init_49 : decode cX5_init 49 = .ok (.aload_n 0, 1) := by decide +kernel
theorem dX5_init_50 : decode cX5_init 50 = .ok (.new 34, 3) := by decide +kernel
theorem dX5_init_53 : decode cX5_init 53 = .ok (.dup, 1) := by decide +kernel
theorem dX5_init_54 : decode cX5_init 54 = .ok (.invokespecial 36, 3) := by decide +kernel
theorem dX5_init_57 : decode cX5_init 57 = .ok (.putfield 37, 3) := by decide +kernel
theorem dX5_init_60 : decode cX5_init 60 = .ok (.return_, 1) := by decide +kernel
theorem dX5_feed_0 : decode cX5_feed 0 = .ok (.aload_n 0, 1) := by decide +kernel
theorem dX5_feed_1 : decode cX5_feed 1 = .ok (.getfield 12, 3) := by decide +kernel
theorem dX5_feed_4 : decode cX5_feed 4 = .ok (.invokevirtual 41, 3) := by decide +kernel
theorem dX5_feed_7 : decode cX5_feed 7 = .ok (.ifCond .ne 5, 3) := by decide +kernel
theorem dX5_feed_10 : decode cX5_feed 10 = .ok (.iconst 0, 1) := by decide +kernel
theorem dX5_feed_11 : decode cX5_feed 11 = .ok (.ireturn, 1) := by decide +kernel
theorem dX5_feed_12 : decode cX5_feed 12 = .ok (.aload_n 0, 1) := by decide +kernel
theorem dX5_feed_13 : decode cX5_feed 13 = .ok (.getfield 12, 3) := by decide +kernel
theorem dX5_feed_16 : decode cX5_feed 16 = .ok (.iload_n 1, 1) := by decide +kernel
theorem dX5_feed_17 : decode cX5_feed 17 = .ok (.invokevirtual 45, 3) := by decide +kernel
theorem dX5_feed_20 : decode cX5_feed 20 = .ok (.aload_n 0, 1) := by decide +kernel
theorem dX5_feed_21 : decode cX5_feed 21 = .ok (.getfield 12, 3) := by decide +kernel
theorem dX5_feed_24 : decode cX5_feed 24 = .ok (.iload_n 2, 1) := by decide +kernel
theorem dX5_feed_25 : decode cX5_feed 25 = .ok (.invokevirtual 45, 3) := by decide +kernel
theorem dX5_feed_28 : decode cX5_feed 28 = .ok (.aload_n 0, 1) := by decide +kernel
theorem dX5_feed_29 : decode cX5_feed 29 = .ok (.getfield 12, 3) := by decide +kernel
theorem dX5_feed_32 : decode cX5_feed 32 = .ok (.iload_n 3, 1) := by decide +kernel
theorem dX5_feed_33 : decode cX5_feed 33 = .ok (.invokevirtual 45, 3) := by decide +kernel
theorem dX5_feed_36 : decode cX5_feed 36 = .ok (.aload_n 0, 1) := by decide +kernel
theorem dX5_feed_37 : decode cX5_feed 37 = .ok (.getfield 12, 3) := by decide +kernel
theorem dX5_feed_40 : decode cX5_feed 40 = .ok (.iload 4, 2) := by decide +kernel
theorem dX5_feed_42 : decode cX5_feed 42 = .ok (.invokevirtual 45, 3) := by decide +kernel
theorem dX5_feed_45 : decode cX5_feed 45 = .ok (.aload_n 0, 1) := by decide +kernel
theorem dX5_feed_46 : decode cX5_feed 46 = .ok (.getfield 12, 3) := by decide +kernel
theorem dX5_feed_49 : decode cX5_feed 49 = .ok (.iload 5, 2) := by decide +kernel
theorem dX5_feed_51 : decode cX5_feed 51 = .ok (.invokevirtual 45, 3) := by decide +kernel
theorem dX5_feed_54 : decode cX5_feed 54 = .ok (.iconst 1, 1) := by decide +kernel
theorem dX5_feed_55 : decode cX5_feed 55 = .ok (.ireturn, 1) := by decide +kernel
theorem dX5_field_0 : decode cX5_field 0 = .ok (.aload_n 0, 1) := by decide +kernel
theorem dX5_field_1 : decode cX5_field 1 = .ok (.getfield 12, 3) := by decide +kernel
theorem dX5_field_4 : decode cX5_field 4 = .ok (.iload 4, 2) := by decide +kernel
theorem dX5_field_6 : decode cX5_field 6 = .ok (.invokevirtual 49, 3) := by decide +kernel
theorem dX5_field_9 : decode cX5_field 9 = .ok (.ifCond .ne 6, 3) := by decide +kernel
theorem dX5_field_12 : decode cX5_field 12 = .ok (.bipush (-2), 2) := by decide +kernel
theorem dX5_field_14 : decode cX5_field 14 = .ok (.ireturn, 1) := by decide +kernel
theorem dX5_field_15 : decode cX5_field 15 = .ok (.aload_n 0, 1) := by decide +kernel
theorem dX5_field_16 : decode cX5_field 16 = .ok (.getfield 21, 3) := by decide +kernel
theorem dX5_field_19 : decode cX5_field 19 = .ok (.iload_n 1, 1) := by decide +kernel
theorem dX5_field_20 : decode cX5_field 20 = .ok (.iload_n 2, 1) := by decide +kernel
theorem dX5_field_21 : decode cX5_field 21 = .ok (.iload_n 3, 1) := by decide +kernel
theorem dX5_field_22 : decode cX5_field 22 = .ok (.invokevirtual 53, 3) := by decide +kernel
theorem dX5_field_25 : decode cX5_field 25 = .ok (.istore 5, 2) := by decide +kernel
theorem dX5_field_27 : decode cX5_field 27 = .ok (.aload_n 0, 1) := by decide +kernel
theorem dX5_field_28 : decode cX5_field 28 = .ok (.getfield 12, 3) := by decide +kernel
theorem dX5_field_31 : decode cX5_field 31 = .ok (.invokevirtual 57, 3) := by decide +kernel
theorem dX5_field_34 : decode cX5_field 34 = .ok (.aload_n 0, 1) := by decide +kernel
theorem dX5_field_35 : decode cX5_field 35 = .ok (.getfield 37, 3) := by decide +kernel
theorem dX5_field_38 : decode cX5_field 38 = .ok (.invokevirtual 60, 3) := by decide +kernel
theorem dX5_field_41 : decode cX5_field 41 = .ok (.iload 5, 2) := by decide +kernel
theorem dX5_field_43 : decode cX5_field 43 = .ok (.ireturn, 1) := by decide +kernel
theorem dX5_query_0 : decode cX5_query 0 = .ok (.aload_n 0, 1) := by decide +kernel
theorem dX5_query_1 : decode cX5_query 1 = .ok (.getfield 12, 3) := by decide +kernel
theorem dX5_query_4 : decode cX5_query 4 = .ok (.iload_n 1, 1) := by decide +kernel
theorem dX5_query_5 : decode cX5_query 5 = .ok (.invokevirtual 49, 3) := by decide +kernel
theorem dX5_query_8 : decode cX5_query 8 = .ok (.ifCond .ne 6, 3) := by decide +kernel
theorem dX5_query_11 : decode cX5_query 11 = .ok (.bipush (-2), 2) := by decide +kernel
theorem dX5_query_13 : decode cX5_query 13 = .ok (.ireturn, 1) := by decide +kernel
theorem dX5_query_14 : decode cX5_query 14 = .ok (.aload_n 0, 1) := by decide +kernel
theorem dX5_query_15 : decode cX5_query 15 = .ok (.getfield 30, 3) := by decide +kernel
theorem dX5_query_18 : decode cX5_query 18 = .ok (.invokevirtual 61, 3) := by decide +kernel
theorem dX5_query_21 : decode cX5_query 21 = .ok (.aload_n 0, 1) := by decide +kernel
theorem dX5_query_22 : decode cX5_query 22 = .ok (.getfield 30, 3) := by decide +kernel
theorem dX5_query_25 : decode cX5_query 25 = .ok (.invokevirtual 64, 3) := by decide +kernel
theorem dX5_query_28 : decode cX5_query 28 = .ok (.ifCond .eq 30, 3) := by decide +kernel
theorem dX5_query_31 : decode cX5_query 31 = .ok (.aload_n 0, 1) := by decide +kernel
theorem dX5_query_32 : decode cX5_query 32 = .ok (.getfield 30, 3) := by decide +kernel
theorem dX5_query_35 : decode cX5_query 35 = .ok (.invokevirtual 67, 3) := by decide +kernel
theorem dX5_query_38 : decode cX5_query 38 = .ok (.ifCond .eq 20, 3) := by decide +kernel
theorem dX5_query_41 : decode cX5_query 41 = .ok (.aload_n 0, 1) := by decide +kernel
theorem dX5_query_42 : decode cX5_query 42 = .ok (.getfield 30, 3) := by decide +kernel
theorem dX5_query_45 : decode cX5_query 45 = .ok (.invokevirtual 70, 3) := by decide +kernel
theorem dX5_query_48 : decode cX5_query 48 = .ok (.ifCond .eq 10, 3) := by decide +kernel
theorem dX5_query_51 : decode cX5_query 51 = .ok (.aload_n 0, 1) := by decide +kernel
theorem dX5_query_52 : decode cX5_query 52 = .ok (.getfield 30, 3) := by decide +kernel
theorem dX5_query_55 : decode cX5_query 55 = .ok (.invokevirtual 73, 3) := by decide +kernel
theorem dX5_query_58 : decode cX5_query 58 = .ok (.aload_n 0, 1) := by decide +kernel
theorem dX5_query_59 : decode cX5_query 59 = .ok (.getfield 12, 3) := by decide +kernel
theorem dX5_query_62 : decode cX5_query 62 = .ok (.invokevirtual 57, 3) := by decide +kernel
theorem dX5_query_65 : decode cX5_query 65 = .ok (.aload_n 0, 1) := by decide +kernel
theorem dX5_query_66 : decode cX5_query 66 = .ok (.getfield 30, 3) := by decide +kernel
theorem dX5_query_69 : decode cX5_query 69 = .ok (.getfield 76, 3) := by decide +kernel
theorem dX5_query_72 : decode cX5_query 72 = .ok (.iconst (-1), 1) := by decide +kernel
theorem dX5_query_73 : decode cX5_query 73 = .ok (.if_icmp .ne 17, 3) := by decide +kernel
theorem dX5_query_76 : decode cX5_query 76 = .ok (.aload_n 0, 1) := by decide +kernel
theorem dX5_query_77 : decode cX5_query 77 = .ok (.getfield 37, 3) := by decide +kernel
theorem dX5_query_80 : decode cX5_query 80 = .ok (.aload_n 0, 1) := by decide +kernel
theorem dX5_query_81 : decode cX5_query 81 = .ok (.getfield 30, 3) := by decide +kernel
theorem dX5_query_84 : decode cX5_query 84 = .ok (.getfield 80, 3) := by decide +kernel
theorem dX5_query_87 : decode cX5_query 87 = .ok (.invokevirtual 83, 3) := by decide +kernel
theorem dX5_query_90 : decode cX5_query 90 = .ok (.aload_n 0, 1) := by decide +kernel
theorem dX5_query_91 : decode cX5_query 91 = .ok (.getfield 30, 3) := by decide +kernel
theorem dX5_query_94 : decode cX5_query 94 = .ok (.getfield 76, 3) := by decide +kernel
theorem dX5_query_97 : decode cX5_query 97 = .ok (.ireturn, 1) := by decide +kernel
theorem dX5_count_0 : decode cX5_count 0 = .ok (.iload_n 1, 1) := by decide +kernel
theorem dX5_count_1 : decode cX5_count 1 = .ok (.tableswitch 83 0 4 #[35, 43, 51, 59, 67], 35) := by decide +kernel
theorem dX5_count_36 : decode cX5_count 36 = .ok (.aload_n 0, 1) := by decide +kernel
theorem dX5_count_37 : decode cX5_count 37 = .ok (.getfield 37, 3) := by decide +kernel
theorem dX5_count_40 : decode cX5_count 40 = .ok (.getfield 87, 3) := by decide +kernel
theorem dX5_count_43 : decode cX5_count 43 = .ok (.ireturn, 1) := by decide +kernel
theorem dX5_count_44 : decode cX5_count 44 = .ok (.aload_n 0, 1) := by decide +kernel
theorem dX5_count_45 : decode cX5_count 45 = .ok (.getfield 37, 3) := by decide +kernel
theorem dX5_count_48 : decode cX5_count 48 = .ok (.getfield 90, 3) := by decide +kernel
theorem dX5_count_51 : decode cX5_count 51 = .ok (.ireturn, 1) := by decide +kernel
theorem dX5_count_52 : decode cX5_count 52 = .ok (.aload_n 0, 1) := by decide +kernel
theorem dX5_count_53 : decode cX5_count 53 = .ok (.getfield 37, 3) := by decide +kernel
theorem dX5_count_56 : decode cX5_count 56 = .ok (.getfield 93, 3) := by decide +kernel
theorem dX5_count_59 : decode cX5_count 59 = .ok (.ireturn, 1) := by decide +kernel
theorem dX5_count_60 : decode cX5_count 60 = .ok (.aload_n 0, 1) := by decide +kernel
theorem dX5_count_61 : decode cX5_count 61 = .ok (.getfield 37, 3) := by decide +kernel
theorem dX5_count_64 : decode cX5_count 64 = .ok (.getfield 96, 3) := by decide +kernel
theorem dX5_count_67 : decode cX5_count 67 = .ok (.ireturn, 1) := by decide +kernel
theorem dX5_count_68 : decode cX5_count 68 = .ok (.aload_n 0, 1) := by decide +kernel
theorem dX5_count_69 : decode cX5_count 69 = .ok (.getfield 37, 3) := by decide +kernel
theorem dX5_count_72 : decode cX5_count 72 = .ok (.invokevirtual 99, 3) := by decide +kernel
theorem dX5_count_75 : decode cX5_count 75 = .ok (.ifCond .eq 7, 3) := by decide +kernel
theorem dX5_count_78 : decode cX5_count 78 = .ok (.iconst 1, 1) := by decide +kernel
theorem dX5_count_79 : decode cX5_count 79 = .ok (.goto 4, 3) := by decide +kernel
theorem dX5_count_82 : decode cX5_count 82 = .ok (.iconst 0, 1) := by decide +kernel
theorem dX5_count_83 : decode cX5_count 83 = .ok (.ireturn, 1) := by decide +kernel
theorem dX5_count_84 : decode cX5_count 84 = .ok (.iconst (-1), 1) := by decide +kernel
theorem dX5_count_85 : decode cX5_count 85 = .ok (.ireturn, 1) := by decide +kernel
theorem dX5_item_0 : decode cX5_item 0 = .ok (.iload_n 1, 1) := by decide +kernel
theorem dX5_item_1 : decode cX5_item 1 = .ok (.ifCond .lt 23, 3) := by decide +kernel
theorem dX5_item_4 : decode cX5_item 4 = .ok (.iload_n 1, 1) := by decide +kernel
theorem dX5_item_5 : decode cX5_item 5 = .ok (.aload_n 0, 1) := by decide +kernel
theorem dX5_item_6 : decode cX5_item 6 = .ok (.getfield 37, 3) := by decide +kernel
theorem dX5_item_9 : decode cX5_item 9 = .ok (.getfield 87, 3) := by decide +kernel
theorem dX5_item_12 : decode cX5_item 12 = .ok (.if_icmp .ge 12, 3) := by decide +kernel
theorem dX5_item_15 : decode cX5_item 15 = .ok (.iload_n 2, 1) := by decide +kernel
theorem dX5_item_16 : decode cX5_item 16 = .ok (.ifCond .lt 8, 3) := by decide +kernel
theorem dX5_item_19 : decode cX5_item 19 = .ok (.iload_n 2, 1) := by decide +kernel
theorem dX5_item_20 : decode cX5_item 20 = .ok (.iconst 2, 1) := by decide +kernel
theorem dX5_item_21 : decode cX5_item 21 = .ok (.if_icmp .lt 5, 3) := by decide +kernel
theorem dX5_item_24 : decode cX5_item 24 = .ok (.iconst (-1), 1) := by decide +kernel
theorem dX5_item_25 : decode cX5_item 25 = .ok (.ireturn, 1) := by decide +kernel
theorem dX5_item_26 : decode cX5_item 26 = .ok (.aload_n 0, 1) := by decide +kernel
theorem dX5_item_27 : decode cX5_item 27 = .ok (.getfield 37, 3) := by decide +kernel
theorem dX5_item_30 : decode cX5_item 30 = .ok (.getfield 102, 3) := by decide +kernel
theorem dX5_item_33 : decode cX5_item 33 = .ok (.iload_n 1, 1) := by decide +kernel
theorem dX5_item_34 : decode cX5_item 34 = .ok (.iconst 2, 1) := by decide +kernel
theorem dX5_item_35 : decode cX5_item 35 = .ok (.imul, 1) := by decide +kernel
theorem dX5_item_36 : decode cX5_item 36 = .ok (.iload_n 2, 1) := by decide +kernel
theorem dX5_item_37 : decode cX5_item 37 = .ok (.iadd, 1) := by decide +kernel
theorem dX5_item_38 : decode cX5_item 38 = .ok (.iaload, 1) := by decide +kernel
theorem dX5_item_39 : decode cX5_item 39 = .ok (.ireturn, 1) := by decide +kernel
theorem dX5_by_0 : decode cX5_by 0 = .ok (.iload_n 1, 1) := by decide +kernel
theorem dX5_by_1 : decode cX5_by 1 = .ok (.ifCond .lt 26, 3) := by decide +kernel
theorem dX5_by_4 : decode cX5_by 4 = .ok (.iload_n 1, 1) := by decide +kernel
theorem dX5_by_5 : decode cX5_by 5 = .ok (.aload_n 0, 1) := by decide +kernel
theorem dX5_by_6 : decode cX5_by 6 = .ok (.getfield 37, 3) := by decide +kernel
theorem dX5_by_9 : decode cX5_by 9 = .ok (.getfield 90, 3) := by decide +kernel
theorem dX5_by_12 : decode cX5_by 12 = .ok (.if_icmp .ge 15, 3) := by decide +kernel
theorem dX5_by_15 : decode cX5_by 15 = .ok (.aload_n 0, 1) := by decide +kernel
theorem dX5_by_16 : decode cX5_by 16 = .ok (.getfield 37, 3) := by decide +kernel
theorem dX5_by_19 : decode cX5_by 19 = .ok (.getfield 106, 3) := by decide +kernel
theorem dX5_by_22 : decode cX5_by 22 = .ok (.iload_n 1, 1) := by decide +kernel
theorem dX5_by_23 : decode cX5_by 23 = .ok (.iaload, 1) := by decide +kernel
theorem dX5_by_24 : decode cX5_by 24 = .ok (.goto 4, 3) := by decide +kernel
theorem dX5_by_27 : decode cX5_by 27 = .ok (.iconst (-1), 1) := by decide +kernel
theorem dX5_by_28 : decode cX5_by 28 = .ok (.ireturn, 1) := by decide +kernel
theorem dX5_step_0 : decode cX5_step 0 = .ok (.iload_n 1, 1) := by decide +kernel
theorem dX5_step_1 : decode cX5_step 1 = .ok (.ifCond .lt 23, 3) := by decide +kernel
theorem dX5_step_4 : decode cX5_step 4 = .ok (.iload_n 1, 1) := by decide +kernel
theorem dX5_step_5 : decode cX5_step 5 = .ok (.aload_n 0, 1) := by decide +kernel
theorem dX5_step_6 : decode cX5_step 6 = .ok (.getfield 37, 3) := by decide +kernel
theorem dX5_step_9 : decode cX5_step 9 = .ok (.getfield 93, 3) := by decide +kernel
theorem dX5_step_12 : decode cX5_step 12 = .ok (.if_icmp .ge 12, 3) := by decide +kernel
theorem dX5_step_15 : decode cX5_step 15 = .ok (.iload_n 2, 1) := by decide +kernel
theorem dX5_step_16 : decode cX5_step 16 = .ok (.ifCond .lt 8, 3) := by decide +kernel
theorem dX5_step_19 : decode cX5_step 19 = .ok (.iload_n 2, 1) := by decide +kernel
theorem dX5_step_20 : decode cX5_step 20 = .ok (.iconst 5, 1) := by decide +kernel
theorem dX5_step_21 : decode cX5_step 21 = .ok (.if_icmp .lt 5, 3) := by decide +kernel
theorem dX5_step_24 : decode cX5_step 24 = .ok (.iconst (-1), 1) := by decide +kernel
theorem dX5_step_25 : decode cX5_step 25 = .ok (.ireturn, 1) := by decide +kernel
theorem dX5_step_26 : decode cX5_step 26 = .ok (.aload_n 0, 1) := by decide +kernel
theorem dX5_step_27 : decode cX5_step 27 = .ok (.getfield 37, 3) := by decide +kernel
theorem dX5_step_30 : decode cX5_step 30 = .ok (.getfield 109, 3) := by decide +kernel
theorem dX5_step_33 : decode cX5_step 33 = .ok (.iload_n 1, 1) := by decide +kernel
theorem dX5_step_34 : decode cX5_step 34 = .ok (.iconst 5, 1) := by decide +kernel
theorem dX5_step_35 : decode cX5_step 35 = .ok (.imul, 1) := by decide +kernel
theorem dX5_step_36 : decode cX5_step 36 = .ok (.iload_n 2, 1) := by decide +kernel
theorem dX5_step_37 : decode cX5_step 37 = .ok (.iadd, 1) := by decide +kernel
theorem dX5_step_38 : decode cX5_step 38 = .ok (.iaload, 1) := by decide +kernel
theorem dX5_step_39 : decode cX5_step 39 = .ok (.ireturn, 1) := by decide +kernel
theorem dX5_literal_0 : decode cX5_literal 0 = .ok (.aload_n 0, 1) := by decide +kernel
theorem dX5_literal_1 : decode cX5_literal 1 = .ok (.getfield 37, 3) := by decide +kernel
theorem dX5_literal_4 : decode cX5_literal 4 = .ok (.iload_n 1, 1) := by decide +kernel
theorem dX5_literal_5 : decode cX5_literal 5 = .ok (.invokevirtual 112, 3) := by decide +kernel
theorem dX5_literal_8 : decode cX5_literal 8 = .ok (.ifCond .eq 15, 3) := by decide +kernel
theorem dX5_literal_11 : decode cX5_literal 11 = .ok (.aload_n 0, 1) := by decide +kernel
theorem dX5_literal_12 : decode cX5_literal 12 = .ok (.getfield 37, 3) := by decide +kernel
theorem dX5_literal_15 : decode cX5_literal 15 = .ok (.getfield 115, 3) := by decide +kernel
theorem dX5_literal_18 : decode cX5_literal 18 = .ok (.iload_n 1, 1) := by decide +kernel
theorem dX5_literal_19 : decode cX5_literal 19 = .ok (.iaload, 1) := by decide +kernel
theorem dX5_literal_20 : decode cX5_literal 20 = .ok (.goto 4, 3) := by decide +kernel
theorem dX5_literal_23 : decode cX5_literal 23 = .ok (.iconst (-1), 1) := by decide +kernel
theorem dX5_literal_24 : decode cX5_literal 24 = .ok (.ireturn, 1) := by decide +kernel
theorem dX5_number_0 : decode cX5_number 0 = .ok (.aload_n 0, 1) := by decide +kernel
theorem dX5_number_1 : decode cX5_number 1 = .ok (.getfield 37, 3) := by decide +kernel
theorem dX5_number_4 : decode cX5_number 4 = .ok (.iload_n 1, 1) := by decide +kernel
theorem dX5_number_5 : decode cX5_number 5 = .ok (.invokevirtual 112, 3) := by decide +kernel
theorem dX5_number_8 : decode cX5_number 8 = .ok (.ifCond .eq 15, 3) := by decide +kernel
theorem dX5_number_11 : decode cX5_number 11 = .ok (.aload_n 0, 1) := by decide +kernel
theorem dX5_number_12 : decode cX5_number 12 = .ok (.getfield 37, 3) := by decide +kernel
theorem dX5_number_15 : decode cX5_number 15 = .ok (.getfield 118, 3) := by decide +kernel
theorem dX5_number_18 : decode cX5_number 18 = .ok (.iload_n 1, 1) := by decide +kernel
theorem dX5_number_19 : decode cX5_number 19 = .ok (.laload, 1) := by decide +kernel
theorem dX5_number_20 : decode cX5_number 20 = .ok (.goto 4, 3) := by decide +kernel
theorem dX5_number_23 : decode cX5_number 23 = .ok (.lconst 0, 1) := by decide +kernel
theorem dX5_number_24 : decode cX5_number 24 = .ok (.lreturn, 1) := by decide +kernel
theorem dX5_length_0 : decode cX5_length 0 = .ok (.aload_n 0, 1) := by decide +kernel
theorem dX5_length_1 : decode cX5_length 1 = .ok (.getfield 37, 3) := by decide +kernel
theorem dX5_length_4 : decode cX5_length 4 = .ok (.iload_n 1, 1) := by decide +kernel
theorem dX5_length_5 : decode cX5_length 5 = .ok (.invokevirtual 122, 3) := by decide +kernel
theorem dX5_length_8 : decode cX5_length 8 = .ok (.ifCond .eq 15, 3) := by decide +kernel
theorem dX5_length_11 : decode cX5_length 11 = .ok (.aload_n 0, 1) := by decide +kernel
theorem dX5_length_12 : decode cX5_length 12 = .ok (.getfield 37, 3) := by decide +kernel
theorem dX5_length_15 : decode cX5_length 15 = .ok (.getfield 125, 3) := by decide +kernel
theorem dX5_length_18 : decode cX5_length 18 = .ok (.iload_n 1, 1) := by decide +kernel
theorem dX5_length_19 : decode cX5_length 19 = .ok (.iaload, 1) := by decide +kernel
theorem dX5_length_20 : decode cX5_length 20 = .ok (.goto 4, 3) := by decide +kernel
theorem dX5_length_23 : decode cX5_length 23 = .ok (.iconst (-1), 1) := by decide +kernel
theorem dX5_length_24 : decode cX5_length 24 = .ok (.ireturn, 1) := by decide +kernel
theorem dX5_byteOf_0 : decode cX5_byteOf 0 = .ok (.aload_n 0, 1) := by decide +kernel
theorem dX5_byteOf_1 : decode cX5_byteOf 1 = .ok (.getfield 37, 3) := by decide +kernel
theorem dX5_byteOf_4 : decode cX5_byteOf 4 = .ok (.iload_n 1, 1) := by decide +kernel
theorem dX5_byteOf_5 : decode cX5_byteOf 5 = .ok (.invokevirtual 122, 3) := by decide +kernel
theorem dX5_byteOf_8 : decode cX5_byteOf 8 = .ok (.ifCond .eq 20, 3) := by decide +kernel
theorem dX5_byteOf_11 : decode cX5_byteOf 11 = .ok (.iload_n 2, 1) := by decide +kernel
theorem dX5_byteOf_12 : decode cX5_byteOf 12 = .ok (.ifCond .lt 16, 3) := by decide +kernel
theorem dX5_byteOf_15 : decode cX5_byteOf 15 = .ok (.iload_n 2, 1) := by decide +kernel
theorem dX5_byteOf_16 : decode cX5_byteOf 16 = .ok (.aload_n 0, 1) := by decide +kernel
theorem dX5_byteOf_17 : decode cX5_byteOf 17 = .ok (.getfield 37, 3) := by decide +kernel
theorem dX5_byteOf_20 : decode cX5_byteOf 20 = .ok (.getfield 125, 3) := by decide +kernel
theorem dX5_byteOf_23 : decode cX5_byteOf 23 = .ok (.iload_n 1, 1) := by decide +kernel
theorem dX5_byteOf_24 : decode cX5_byteOf 24 = .ok (.iaload, 1) := by decide +kernel
theorem dX5_byteOf_25 : decode cX5_byteOf 25 = .ok (.if_icmp .lt 5, 3) := by decide +kernel
theorem dX5_byteOf_28 : decode cX5_byteOf 28 = .ok (.iconst (-1), 1) := by decide +kernel
theorem dX5_byteOf_29 : decode cX5_byteOf 29 = .ok (.ireturn, 1) := by decide +kernel
theorem dX5_byteOf_30 : decode cX5_byteOf 30 = .ok (.aload_n 0, 1) := by decide +kernel
theorem dX5_byteOf_31 : decode cX5_byteOf 31 = .ok (.getfield 37, 3) := by decide +kernel
theorem dX5_byteOf_34 : decode cX5_byteOf 34 = .ok (.getfield 128, 3) := by decide +kernel
theorem dX5_byteOf_37 : decode cX5_byteOf 37 = .ok (.aload_n 0, 1) := by decide +kernel
theorem dX5_byteOf_38 : decode cX5_byteOf 38 = .ok (.getfield 37, 3) := by decide +kernel
theorem dX5_byteOf_41 : decode cX5_byteOf 41 = .ok (.getfield 131, 3) := by decide +kernel
theorem dX5_byteOf_44 : decode cX5_byteOf 44 = .ok (.iload_n 1, 1) := by decide +kernel
theorem dX5_byteOf_45 : decode cX5_byteOf 45 = .ok (.iaload, 1) := by decide +kernel
theorem dX5_byteOf_46 : decode cX5_byteOf 46 = .ok (.iload_n 2, 1) := by decide +kernel
theorem dX5_byteOf_47 : decode cX5_byteOf 47 = .ok (.iadd, 1) := by decide +kernel
theorem dX5_byteOf_48 : decode cX5_byteOf 48 = .ok (.iaload, 1) := by decide +kernel
theorem dX5_byteOf_49 : decode cX5_byteOf 49 = .ok (.ireturn, 1) := by decide +kernel
theorem dX5_isLetter_0 : decode cX5_isLetter 0 = .ok (.iload_n 0, 1) := by decide +kernel
theorem dX5_isLetter_1 : decode cX5_isLetter 1 = .ok (.bipush 97, 2) := by decide +kernel
theorem dX5_isLetter_3 : decode cX5_isLetter 3 = .ok (.if_icmp .lt 9, 3) := by decide +kernel
theorem dX5_isLetter_6 : decode cX5_isLetter 6 = .ok (.iload_n 0, 1) := by decide +kernel
theorem dX5_isLetter_7 : decode cX5_isLetter 7 = .ok (.bipush 122, 2) := by decide +kernel
theorem dX5_isLetter_9 : decode cX5_isLetter 9 = .ok (.if_icmp .le 15, 3) := by decide +kernel
theorem dX5_isLetter_12 : decode cX5_isLetter 12 = .ok (.iload_n 0, 1) := by decide +kernel
theorem dX5_isLetter_13 : decode cX5_isLetter 13 = .ok (.bipush 65, 2) := by decide +kernel
theorem dX5_isLetter_15 : decode cX5_isLetter 15 = .ok (.if_icmp .lt 13, 3) := by decide +kernel
theorem dX5_isLetter_18 : decode cX5_isLetter 18 = .ok (.iload_n 0, 1) := by decide +kernel
theorem dX5_isLetter_19 : decode cX5_isLetter 19 = .ok (.bipush 90, 2) := by decide +kernel
theorem dX5_isLetter_21 : decode cX5_isLetter 21 = .ok (.if_icmp .gt 7, 3) := by decide +kernel
theorem dX5_isLetter_24 : decode cX5_isLetter 24 = .ok (.iconst 1, 1) := by decide +kernel
theorem dX5_isLetter_25 : decode cX5_isLetter 25 = .ok (.goto 4, 3) := by decide +kernel
theorem dX5_isLetter_28 : decode cX5_isLetter 28 = .ok (.iconst 0, 1) := by decide +kernel
theorem dX5_isLetter_29 : decode cX5_isLetter 29 = .ok (.ireturn, 1) := by decide +kernel
theorem dX5_isDigit_0 : decode cX5_isDigit 0 = .ok (.iload_n 0, 1) := by decide +kernel
theorem dX5_isDigit_1 : decode cX5_isDigit 1 = .ok (.bipush 48, 2) := by decide +kernel
theorem dX5_isDigit_3 : decode cX5_isDigit 3 = .ok (.if_icmp .lt 13, 3) := by decide +kernel
theorem dX5_isDigit_6 : decode cX5_isDigit 6 = .ok (.iload_n 0, 1) := by decide +kernel
theorem dX5_isDigit_7 : decode cX5_isDigit 7 = .ok (.bipush 57, 2) := by decide +kernel
theorem dX5_isDigit_9 : decode cX5_isDigit 9 = .ok (.if_icmp .gt 7, 3) := by decide +kernel
theorem dX5_isDigit_12 : decode cX5_isDigit 12 = .ok (.iconst 1, 1) := by decide +kernel
theorem dX5_isDigit_13 : decode cX5_isDigit 13 = .ok (.goto 4, 3) := by decide +kernel
theorem dX5_isDigit_16 : decode cX5_isDigit 16 = .ok (.iconst 0, 1) := by decide +kernel
theorem dX5_isDigit_17 : decode cX5_isDigit 17 = .ok (.ireturn, 1) := by decide +kernel
theorem dX5_isWordByte_0 : decode cX5_isWordByte 0 = .ok (.iload_n 0, 1) := by decide +kernel
theorem dX5_isWordByte_1 : decode cX5_isWordByte 1 = .ok (.bipush 97, 2) := by decide +kernel
theorem dX5_isWordByte_3 : decode cX5_isWordByte 3 = .ok (.if_icmp .lt 9, 3) := by decide +kernel
theorem dX5_isWordByte_6 : decode cX5_isWordByte 6 = .ok (.iload_n 0, 1) := by decide +kernel
theorem dX5_isWordByte_7 : decode cX5_isWordByte 7 = .ok (.bipush 122, 2) := by decide +kernel
theorem dX5_isWordByte_9 : decode cX5_isWordByte 9 = .ok (.if_icmp .le 33, 3) := by decide +kernel
theorem dX5_isWordByte_12 : decode cX5_isWordByte 12 = .ok (.iload_n 0, 1) := by decide +kernel
theorem dX5_isWordByte_13 : decode cX5_isWordByte 13 = .ok (.bipush 65, 2) := by decide +kernel
theorem dX5_isWordByte_15 : decode cX5_isWordByte 15 = .ok (.if_icmp .lt 9, 3) := by decide +kernel
theorem dX5_isWordByte_18 : decode cX5_isWordByte 18 = .ok (.iload_n 0, 1) := by decide +kernel
theorem dX5_isWordByte_19 : decode cX5_isWordByte 19 = .ok (.bipush 90, 2) := by decide +kernel
theorem dX5_isWordByte_21 : decode cX5_isWordByte 21 = .ok (.if_icmp .le 21, 3) := by decide +kernel
theorem dX5_isWordByte_24 : decode cX5_isWordByte 24 = .ok (.iload_n 0, 1) := by decide +kernel
theorem dX5_isWordByte_25 : decode cX5_isWordByte 25 = .ok (.bipush 48, 2) := by decide +kernel
theorem dX5_isWordByte_27 : decode cX5_isWordByte 27 = .ok (.if_icmp .lt 9, 3) := by decide +kernel
theorem dX5_isWordByte_30 : decode cX5_isWordByte 30 = .ok (.iload_n 0, 1) := by decide +kernel
theorem dX5_isWordByte_31 : decode cX5_isWordByte 31 = .ok (.bipush 57, 2) := by decide +kernel
theorem dX5_isWordByte_33 : decode cX5_isWordByte 33 = .ok (.if_icmp .le 9, 3) := by decide +kernel
theorem dX5_isWordByte_36 : decode cX5_isWordByte 36 = .ok (.iload_n 0, 1) := by decide +kernel
theorem dX5_isWordByte_37 : decode cX5_isWordByte 37 = .ok (.bipush 95, 2) := by decide +kernel
theorem dX5_isWordByte_39 : decode cX5_isWordByte 39 = .ok (.if_icmp .ne 7, 3) := by decide +kernel
theorem dX5_isWordByte_42 : decode cX5_isWordByte 42 = .ok (.iconst 1, 1) := by decide +kernel
theorem dX5_isWordByte_43 : decode cX5_isWordByte 43 = .ok (.goto 4, 3) := by decide +kernel
theorem dX5_isWordByte_46 : decode cX5_isWordByte 46 = .ok (.iconst 0, 1) := by decide +kernel
theorem dX5_isWordByte_47 : decode cX5_isWordByte 47 = .ok (.ireturn, 1) := by decide +kernel
theorem dX5_isBlank_0 : decode cX5_isBlank 0 = .ok (.iload_n 0, 1) := by decide +kernel
theorem dX5_isBlank_1 : decode cX5_isBlank 1 = .ok (.bipush 32, 2) := by decide +kernel
theorem dX5_isBlank_3 : decode cX5_isBlank 3 = .ok (.if_icmp .eq 9, 3) := by decide +kernel
theorem dX5_isBlank_6 : decode cX5_isBlank 6 = .ok (.iload_n 0, 1) := by decide +kernel
theorem dX5_isBlank_7 : decode cX5_isBlank 7 = .ok (.bipush 10, 2) := by decide +kernel
theorem dX5_isBlank_9 : decode cX5_isBlank 9 = .ok (.if_icmp .ne 7, 3) := by decide +kernel
theorem dX5_isBlank_12 : decode cX5_isBlank 12 = .ok (.iconst 1, 1) := by decide +kernel
theorem dX5_isBlank_13 : decode cX5_isBlank 13 = .ok (.goto 4, 3) := by decide +kernel
theorem dX5_isBlank_16 : decode cX5_isBlank 16 = .ok (.iconst 0, 1) := by decide +kernel
theorem dX5_isBlank_17 : decode cX5_isBlank 17 = .ok (.ireturn, 1) := by decide +kernel
theorem dX5_hexValue_0 : decode cX5_hexValue 0 = .ok (.iload_n 0, 1) := by decide +kernel
theorem dX5_hexValue_1 : decode cX5_hexValue 1 = .ok (.bipush 48, 2) := by decide +kernel
theorem dX5_hexValue_3 : decode cX5_hexValue 3 = .ok (.if_icmp .lt 14, 3) := by decide +kernel
theorem dX5_hexValue_6 : decode cX5_hexValue 6 = .ok (.iload_n 0, 1) := by decide +kernel
theorem dX5_hexValue_7 : decode cX5_hexValue 7 = .ok (.bipush 57, 2) := by decide +kernel
theorem dX5_hexValue_9 : decode cX5_hexValue 9 = .ok (.if_icmp .gt 8, 3) := by decide +kernel
theorem dX5_hexValue_12 : decode cX5_hexValue 12 = .ok (.iload_n 0, 1) := by decide +kernel
theorem dX5_hexValue_13 : decode cX5_hexValue 13 = .ok (.bipush 48, 2) := by decide +kernel
theorem dX5_hexValue_15 : decode cX5_hexValue 15 = .ok (.isub, 1) := by decide +kernel
theorem dX5_hexValue_16 : decode cX5_hexValue 16 = .ok (.ireturn, 1) := by decide +kernel
theorem dX5_hexValue_17 : decode cX5_hexValue 17 = .ok (.iload_n 0, 1) := by decide +kernel
theorem dX5_hexValue_18 : decode cX5_hexValue 18 = .ok (.bipush 97, 2) := by decide +kernel
theorem dX5_hexValue_20 : decode cX5_hexValue 20 = .ok (.if_icmp .lt 19, 3) := by decide +kernel
theorem dX5_hexValue_23 : decode cX5_hexValue 23 = .ok (.iload_n 0, 1) := by decide +kernel
theorem dX5_hexValue_24 : decode cX5_hexValue 24 = .ok (.bipush 102, 2) := by decide +kernel
theorem dX5_hexValue_26 : decode cX5_hexValue 26 = .ok (.if_icmp .gt 13, 3) := by decide +kernel
theorem dX5_hexValue_29 : decode cX5_hexValue 29 = .ok (.iload_n 0, 1) := by decide +kernel
theorem dX5_hexValue_30 : decode cX5_hexValue 30 = .ok (.bipush 97, 2) := by decide +kernel
theorem dX5_hexValue_32 : decode cX5_hexValue 32 = .ok (.isub, 1) := by decide +kernel
theorem dX5_hexValue_33 : decode cX5_hexValue 33 = .ok (.bipush 10, 2) := by decide +kernel
theorem dX5_hexValue_35 : decode cX5_hexValue 35 = .ok (.iadd, 1) := by decide +kernel
theorem dX5_hexValue_36 : decode cX5_hexValue 36 = .ok (.goto 4, 3) := by decide +kernel
theorem dX5_hexValue_39 : decode cX5_hexValue 39 = .ok (.iconst (-1), 1) := by decide +kernel
theorem dX5_hexValue_40 : decode cX5_hexValue 40 = .ok (.ireturn, 1) := by decide +kernel
theorem dX6_init_0 : decode cX6_init 0 = .ok (.aload_n 0, 1) := by decide +kernel
theorem dX6_init_1 : decode cX6_init 1 = .ok (.invokespecial 1, 3) := by decide +kernel
theorem dX6_init_4 : decode cX6_init 4 = .ok (.aload_n 0, 1) := by decide +kernel
theorem dX6_init_5 : decode cX6_init 5 = .ok (.sipush 2000, 3) := by decide +kernel
theorem dX6_init_8 : decode cX6_init 8 = .ok (.newarray .int, 2) := by decide +kernel
theorem dX6_init_10 : decode cX6_init 10 = .ok (.putfield 7, 3) := by decide +kernel
theorem dX6_init_13 : decode cX6_init 13 = .ok (.aload_n 0, 1) := by decide +kernel
theorem dX6_init_14 : decode cX6_init 14 = .ok (.sipush 2000, 3) := by decide +kernel
theorem dX6_init_17 : decode cX6_init 17 = .ok (.newarray .int, 2) := by decide +kernel
theorem dX6_init_19 : decode cX6_init 19 = .ok (.putfield 13, 3) := by decide +kernel
theorem dX6_init_22 : decode cX6_init 22 = .ok (.aload_n 0, 1) := by decide +kernel
theorem dX6_init_23 : decode cX6_init 23 = .ok (.bipush 64, 2) := by decide +kernel
theorem dX6_init_25 : decode cX6_init 25 = .ok (.newarray .int, 2) := by decide +kernel
theorem dX6_init_27 : decode cX6_init 27 = .ok (.putfield 16, 3) := by decide +kernel
theorem dX6_init_30 : decode cX6_init 30 = .ok (.aload_n 0, 1) := by decide +kernel
theorem dX6_init_31 : decode cX6_init 31 = .ok (.bipush 64, 2) := by decide +kernel
theorem dX6_init_33 : decode cX6_init 33 = .ok (.newarray .int, 2) := by decide +kernel
theorem dX6_init_35 : decode cX6_init 35 = .ok (.putfield 19, 3) := by decide +kernel
theorem dX6_init_38 : decode cX6_init 38 = .ok (.aload_n 0, 1) := by decide +kernel
theorem dX6_init_39 : decode cX6_init 39 = .ok (.bipush 64, 2) := by decide +kernel
theorem dX6_init_41 : decode cX6_init 41 = .ok (.newarray .int, 2) := by decide +kernel
theorem dX6_init_43 : decode cX6_init 43 = .ok (.putfield 22, 3) := by decide +kernel
theorem dX6_init_46 : decode cX6_init 46 = .ok (.aload_n 0, 1) := by decide +kernel
theorem dX6_init_47 : decode cX6_init 47 = .ok (.bipush 64, 2) := by decide +kernel
theorem dX6_init_49 : decode cX6_init 49 = .ok (.newarray .int, 2) := by decide +kernel
theorem dX6_init_51 : decode cX6_init 51 = .ok (.putfield 25, 3) := by decide +kernel
theorem dX6_init_54 : decode cX6_init 54 = .ok (.aload_n 0, 1) := by decide +kernel
theorem dX6_init_55 : decode cX6_init 55 = .ok (.sipush 1024, 3) := by decide +kernel
theorem dX6_init_58 : decode cX6_init 58 = .ok (.newarray .int, 2) := by decide +kernel
theorem dX6_init_60 : decode cX6_init 60 = .ok (.putfield 28, 3) := by decide +kernel
theorem dX6_init_63 : decode cX6_init 63 = .ok (.aload_n 0, 1) := by decide +kernel
theorem dX6_init_64 : decode cX6_init 64 = .ok (.iconst (-1), 1) := by decide +kernel
theorem dX6_init_65 : decode cX6_init 65 = .ok (.putfield 31, 3) := by decide +kernel
theorem dX6_init_68 : decode cX6_init 68 = .ok (.aload_n 0, 1) := by decide +kernel
theorem dX6_init_69 : decode cX6_init 69 = .ok (.bipush 8, 2) := by decide +kernel
theorem dX6_init_71 : decode cX6_init 71 = .ok (.newarray .int, 2) := by decide +kernel
theorem dX6_init_73 : decode cX6_init 73 = .ok (.putfield 35, 3) := by decide +kernel
theorem dX6_init_76 : decode cX6_init 76 = .ok (.aload_n 0, 1) := by decide +kernel
theorem dX6_init_77 : decode cX6_init 77 = .ok (.bipush 32, 2) := by decide +kernel
theorem dX6_init_79 : decode cX6_init 79 = .ok (.newarray .int, 2) := by decide +kernel
theorem dX6_init_81 : decode cX6_init 81 = .ok (.putfield 38, 3) := by decide +kernel
theorem dX6_init_84 : decode cX6_init 84 = .ok (.aload_n 0, 1) := by decide +kernel
theorem dX6_init_85 : decode cX6_init 85 = .ok (.bipush 32, 2) := by decide +kernel
theorem dX6_init_87 : decode cX6_init 87 = .ok (.newarray .int, 2) := by decide +kernel
theorem dX6_init_89 : decode cX6_init 89 = .ok (.putfield 41, 3) := by decide +kernel
theorem dX6_init_92 : decode cX6_init 92 = .ok (.aload_n 0, 1) := by decide +kernel
theorem dX6_init_93 : decode cX6_init 93 = .ok (.bipush 32, 2) := by decide +kernel
theorem dX6_init_95 : decode cX6_init 95 = .ok (.newarray .int, 2) := by decide +kernel
theorem dX6_init_97 : decode cX6_init 97 = .ok (.putfield 44, 3) := by decide +kernel
theorem dX6_init_100 : decode cX6_init 100 = .ok (.aload_n 0, 1) := by decide +kernel
theorem dX6_init_101 : decode cX6_init 101 = .ok (.bipush 16, 2) := by decide +kernel
theorem dX6_init_103 : decode cX6_init 103 = .ok (.newarray .int, 2) := by decide +kernel
theorem dX6_init_105 : decode cX6_init 105 = .ok (.putfield 47, 3) := by decide +kernel
theorem dX6_init_108 : decode cX6_init 108 = .ok (.aload_n 0, 1) := by decide +kernel
theorem dX6_init_109 : decode cX6_init 109 = .ok (.sipush 128, 3) := by decide +kernel
theorem dX6_init_112 : decode cX6_init 112 = .ok (.newarray .int, 2) := by decide +kernel
theorem dX6_init_114 : decode cX6_init 114 = .ok (.putfield 50, 3) := by decide +kernel
theorem dX6_init_117 : decode cX6_init 117 = .ok (.aload_n 0, 1) := by decide +kernel
theorem dX6_init_118 : decode cX6_init 118 = .ok (.sipush 128, 3) := by decide +kernel
theorem dX6_init_121 : decode cX6_init 121 = .ok (.newarray .int, 2) := by decide +kernel
theorem dX6_init_123 : decode cX6_init 123 = .ok (.putfield 53, 3) := by decide +kernel
theorem dX6_init_126 : decode cX6_init 126 = .ok (.aload_n 0, 1) := by decide +kernel
theorem dX6_init_127 : decode cX6_init 127 = .ok (.sipush 128, 3) := by decide +kernel
theorem dX6_init_130 : decode cX6_init 130 = .ok (.newarray .int, 2) := by decide +kernel
theorem dX6_init_132 : decode cX6_init 132 = .ok (.putfield 56, 3) := by decide +kernel
theorem dX6_init_135 : decode cX6_init 135 = .ok (.aload_n 0, 1) := by decide +kernel
theorem dX6_init_136 : decode cX6_init 136 = .ok (.sipush 128, 3) := by decide +kernel
theorem dX6_init_139 : decode cX6_init 139 = .ok (.newarray .int, 2) := by decide +kernel
theorem dX6_init_141 : decode cX6_init 141 = .ok (.putfield 59, 3) := by decide +kernel
theorem dX6_init_144 : decode cX6_init 144 = .ok (.aload_n 0, 1) := by decide +kernel
theorem dX6_init_145 : decode cX6_init 145 = .ok (.sipush 128, 3) := by decide +kernel
theorem dX6_init_148 : decode cX6_init 148 = .ok (.newarray .int, 2) := by decide +kernel
theorem dX6_init_150 : decode cX6_init 150 = .ok (.putfield 62, 3) := by decide +kernel
theorem dX6_init_153 : decode cX6_init 153 = .ok (.aload_n 0, 1) := by decide +kernel
theorem dX6_init_154 : decode cX6_init 154 = .ok (.sipush 128, 3) := by decide +kernel
theorem dX6_init_157 : decode cX6_init 157 = .ok (.newarray .int, 2) := by decide +kernel
theorem dX6_init_159 : decode cX6_init 159 = .ok (.putfield 65, 3) := by decide +kernel
theorem dX6_init_162 : decode cX6_init 162 = .ok (.aload_n 0, 1) := by decide +kernel
theorem dX6_init_163 : decode cX6_init 163 = .ok (.sipush 128, 3) := by decide +kernel
theorem dX6_init_166 : decode cX6_init 166 = .ok (.newarray .int, 2) := by decide +kernel
theorem dX6_init_168 : decode cX6_init 168 = .ok (.putfield 68, 3) := by decide +kernel
theorem dX6_init_171 : decode cX6_init 171 = .ok (.aload_n 0, 1) := by decide +kernel
theorem dX6_init_172 : decode cX6_init 172 = .ok (.sipush 128, 3) := by decide +kernel
theorem dX6_init_175 : decode cX6_init 175 = .ok (.newarray .int, 2) := by decide +kernel
theorem dX6_init_177 : decode cX6_init 177 = .ok (.putfield 71, 3) := by decide +kernel
theorem dX6_init_180 : decode cX6_init 180 = .ok (.aload_n 0, 1) := by decide +kernel
theorem dX6_init_181 : decode cX6_init 181 = .ok (.sipush 4000, 3) := by decide +kernel
theorem dX6_init_184 : decode cX6_init 184 = .ok (.newarray .int, 2) := by decide +kernel
theorem dX6_init_186 : decode cX6_init 186 = .ok (.putfield 74, 3) := by decide +kernel
theorem dX6_init_189 : decode cX6_init 189 = .ok (.aload_n 0, 1) := by decide +kernel
theorem dX6_init_190 : decode cX6_init 190 = .ok (.iconst 2, 1) := by decide +kernel
theorem dX6_init_191 : decode cX6_init 191 = .ok (.newarray .int, 2) := by decide +kernel
theorem dX6_init_193 : decode cX6_init 193 = .ok (.putfield 77, 3) := by decide +kernel
theorem dX6_init_196 : decode cX6_init 196 = .ok (.aload_n 0, 1) := by decide +kernel
theorem dX6_init_197 : decode cX6_init 197 = .ok (.sipush 128, 3) := by decide +kernel
theorem dX6_init_200 : decode cX6_init 200 = .ok (.newarray .long, 2) := by decide +kernel
theorem dX6_init_202 : decode cX6_init 202 = .ok (.putfield 80, 3) := by decide +kernel
theorem dX6_init_205 : decode cX6_init 205 = .ok (.aload_n 0, 1) := by decide +kernel
theorem dX6_init_206 : decode cX6_init 206 = .ok (.bipush 120, 2) := by decide +kernel
theorem dX6_init_208 : decode cX6_init 208 = .ok (.newarray .int, 2) := by decide +kernel
theorem dX6_init_210 : decode cX6_init 210 = .ok (.putfield 84, 3) := by decide +kernel
theorem dX6_init_213 : decode cX6_init 213 = .ok (.aload_n 0, 1) := by decide +kernel
theorem dX6_init_214 : decode cX6_init 214 = .ok (.bipush 120, 2) := by decide +kernel
theorem dX6_init_216 : decode cX6_init 216 = .ok (.newarray .int, 2) := by decide +kernel
theorem dX6_init_218 : decode cX6_init 218 = .ok (.putfield 87, 3) := by decide +kernel
theorem dX6_init_221 : decode cX6_init 221 = .ok (.return_, 1) := by decide +kernel
theorem dX6_feed_0 : decode cX6_feed 0 = .ok (.aload_n 0, 1) := by decide +kernel
theorem dX6_feed_1 : decode cX6_feed 1 = .ok (.iconst 0, 1) := by decide +kernel
theorem dX6_feed_2 : decode cX6_feed 2 = .ok (.putfield 90, 3) := by decide +kernel
theorem dX6_feed_5 : decode cX6_feed 5 = .ok (.aload_n 0, 1) := by decide +kernel
theorem dX6_feed_6 : decode cX6_feed 6 = .ok (.getfield 93, 3) := by decide +kernel
theorem dX6_feed_9 : decode cX6_feed 9 = .ok (.bipush 20, 2) := by decide +kernel
theorem dX6_feed_11 : decode cX6_feed 11 = .ok (.iadd, 1) := by decide +kernel
theorem dX6_feed_12 : decode cX6_feed 12 = .ok (.sipush 2000, 3) := by decide +kernel
theorem dX6_feed_15 : decode cX6_feed 15 = .ok (.if_icmp .le 5, 3) := by decide +kernel
theorem dX6_feed_18 : decode cX6_feed 18 = .ok (.iconst 0, 1) := by decide +kernel
theorem dX6_feed_19 : decode cX6_feed 19 = .ok (.ireturn, 1) := by decide +kernel
theorem dX6_feed_20 : decode cX6_feed 20 = .ok (.iconst 0, 1) := by decide +kernel
theorem dX6_feed_21 : decode cX6_feed 21 = .ok (.istore 6, 2) := by decide +kernel
theorem dX6_feed_23 : decode cX6_feed 23 = .ok (.iload 6, 2) := by decide +kernel
theorem dX6_feed_25 : decode cX6_feed 25 = .ok (.bipush 20, 2) := by decide +kernel
theorem dX6_feed_27 : decode cX6_feed 27 = .ok (.if_icmp .ge 86, 3) := by decide +kernel
theorem dX6_feed_30 : decode cX6_feed 30 = .ok (.iload 6, 2) := by decide +kernel
theorem dX6_feed_32 : decode cX6_feed 32 = .ok (.iconst 4, 1) := by decide +kernel
theorem dX6_feed_33 : decode cX6_feed 33 = .ok (.if_icmp .ge 7, 3) := by decide +kernel
theorem dX6_feed_36 : decode cX6_feed 36 = .ok (.iload_n 1, 1) := by decide +kernel
theorem dX6_feed_37 : decode cX6_feed 37 = .ok (.goto 39, 3) := by decide +kernel
theorem dX6_feed_40 : decode cX6_feed 40 = .ok (.iload 6, 2) := by decide +kernel
theorem dX6_feed_42 : decode cX6_feed 42 = .ok (.bipush 8, 2) := by decide +kernel
theorem dX6_feed_44 : decode cX6_feed 44 = .ok (.if_icmp .ge 7, 3) := by decide +kernel
theorem dX6_feed_47 : decode cX6_feed 47 = .ok (.iload_n 2, 1) := by decide +kernel
theorem dX6_feed_48 : decode cX6_feed 48 = .ok (.goto 28, 3) := by decide +kernel
theorem dX6_feed_51 : decode cX6_feed 51 = .ok (.iload 6, 2) := by decide +kernel
theorem dX6_feed_53 : decode cX6_feed 53 = .ok (.bipush 12, 2) := by decide +kernel
theorem dX6_feed_55 : decode cX6_feed 55 = .ok (.if_icmp .ge 7, 3) := by decide +kernel
theorem dX6_feed_58 : decode cX6_feed 58 = .ok (.iload_n 3, 1) := by decide +kernel
theorem dX6_feed_59 : decode cX6_feed 59 = .ok (.goto 17, 3) := by decide +kernel
theorem dX6_feed_62 : decode cX6_feed 62 = .ok (.iload 6, 2) := by decide +kernel
theorem dX6_feed_64 : decode cX6_feed 64 = .ok (.bipush 16, 2) := by decide +kernel
theorem dX6_feed_66 : decode cX6_feed 66 = .ok (.if_icmp .ge 8, 3) := by decide +kernel
theorem dX6_feed_69 : decode cX6_feed 69 = .ok (.iload 4, 2) := by decide +kernel
theorem dX6_feed_71 : decode cX6_feed 71 = .ok (.goto 5, 3) := by decide +kernel
theorem dX6_feed_74 : decode cX6_feed 74 = .ok (.iload 5, 2) := by decide +kernel
theorem dX6_feed_76 : decode cX6_feed 76 = .ok (.istore 7, 2) := by decide +kernel
theorem dX6_feed_78 : decode cX6_feed 78 = .ok (.aload_n 0, 1) := by decide +kernel
theorem dX6_feed_79 : decode cX6_feed 79 = .ok (.getfield 7, 3) := by decide +kernel
theorem dX6_feed_82 : decode cX6_feed 82 = .ok (.aload_n 0, 1) := by decide +kernel
theorem dX6_feed_83 : decode cX6_feed 83 = .ok (.getfield 93, 3) := by decide +kernel
theorem dX6_feed_86 : decode cX6_feed 86 = .ok (.iload 6, 2) := by decide +kernel
theorem dX6_feed_88 : decode cX6_feed 88 = .ok (.iadd, 1) := by decide +kernel
theorem dX6_feed_89 : decode cX6_feed 89 = .ok (.iload 7, 2) := by decide +kernel
theorem dX6_feed_91 : decode cX6_feed 91 = .ok (.bipush 24, 2) := by decide +kernel
theorem dX6_feed_93 : decode cX6_feed 93 = .ok (.bipush 8, 2) := by decide +kernel
theorem dX6_feed_95 : decode cX6_feed 95 = .ok (.iload 6, 2) := by decide +kernel
theorem dX6_feed_97 : decode cX6_feed 97 = .ok (.iconst 4, 1) := by decide +kernel
theorem dX6_feed_98 : decode cX6_feed 98 = .ok (.irem, 1) := by decide +kernel
theorem dX6_feed_99 : decode cX6_feed 99 = .ok (.imul, 1) := by decide +kernel
theorem dX6_feed_100 : decode cX6_feed 100 = .ok (.isub, 1) := by decide +kernel
theorem dX6_feed_101 : decode cX6_feed 101 = .ok (.ishr, 1) := by decide +kernel
theorem dX6_feed_102 : decode cX6_feed 102 = .ok (.sipush 255, 3) := by decide +kernel
theorem dX6_feed_105 : decode cX6_feed 105 = .ok (.iand, 1) := by decide +kernel
theorem dX6_feed_106 : decode cX6_feed 106 = .ok (.iastore, 1) := by decide +kernel
theorem dX6_feed_107 : decode cX6_feed 107 = .ok (.iinc 6 1, 3) := by decide +kernel
theorem dX6_feed_110 : decode cX6_feed 110 = .ok (.goto (-87), 3) := by decide +kernel
theorem dX6_feed_113 : decode cX6_feed 113 = .ok (.aload_n 0, 1) := by decide +kernel
theorem dX6_feed_114 : decode cX6_feed 114 = .ok (.dup, 1) := by decide +kernel
theorem dX6_feed_115 : decode cX6_feed 115 = .ok (.getfield 93, 3) := by decide +kernel
theorem dX6_feed_118 : decode cX6_feed 118 = .ok (.bipush 20, 2) := by decide +kernel
theorem dX6_feed_120 : decode cX6_feed 120 = .ok (.iadd, 1) := by decide +kernel
theorem dX6_feed_121 : decode cX6_feed 121 = .ok (.putfield 93, 3) := by decide +kernel
theorem dX6_feed_124 : decode cX6_feed 124 = .ok (.iconst 1, 1) := by decide +kernel
theorem dX6_feed_125 : decode cX6_feed 125 = .ok (.ireturn, 1) := by decide +kernel
theorem dX6_takes_0 : decode cX6_takes 0 = .ok (.iload_n 1, 1) := by decide +kernel
theorem dX6_takes_1 : decode cX6_takes 1 = .ok (.ifCond .lt 11, 3) := by decide +kernel
theorem dX6_takes_4 : decode cX6_takes 4 = .ok (.iload_n 1, 1) := by decide +kernel
theorem dX6_takes_5 : decode cX6_takes 5 = .ok (.aload_n 0, 1) := by decide +kernel
theorem dX6_takes_6 : decode cX6_takes 6 = .ok (.getfield 93, 3) := by decide +kernel
theorem dX6_takes_9 : decode cX6_takes 9 = .ok (.if_icmp .le 5, 3) := by decide +kernel
theorem dX6_takes_12 : decode cX6_takes 12 = .ok (.iconst 0, 1) := by decide +kernel
theorem dX6_takes_13 : decode cX6_takes 13 = .ok (.ireturn, 1) := by decide +kernel
theorem dX6_takes_14 : decode cX6_takes 14 = .ok (.iconst 0, 1) := by decide +kernel
theorem dX6_takes_15 : decode cX6_takes 15 = .ok (.istore_n 2, 1) := by decide +kernel
theorem dX6_takes_16 : decode cX6_takes 16 = .ok (.iload_n 2, 1) := by decide +kernel
theorem dX6_takes_17 : decode cX6_takes 17 = .ok (.iload_n 1, 1) := by decide +kernel
theorem dX6_takes_18 : decode cX6_takes 18 = .ok (.if_icmp .ge 21, 3) := by decide +kernel
theorem dX6_takes_21 : decode cX6_takes 21 = .ok (.aload_n 0, 1) := by decide +kernel
theorem dX6_takes_22 : decode cX6_takes 22 = .ok (.getfield 13, 3) := by decide +kernel
theorem dX6_takes_25 : decode cX6_takes 25 = .ok (.iload_n 2, 1) := by decide +kernel
theorem dX6_takes_26 : decode cX6_takes 26 = .ok (.aload_n 0, 1) := by decide +kernel
theorem dX6_takes_27 : decode cX6_takes 27 = .ok (.getfield 7, 3) := by decide +kernel
theorem dX6_takes_30 : decode cX6_takes 30 = .ok (.iload_n 2, 1) := by decide +kernel
theorem dX6_takes_31 : decode cX6_takes 31 = .ok (.iaload, 1) := by decide +kernel
theorem dX6_takes_32 : decode cX6_takes 32 = .ok (.iastore, 1) := by decide +kernel
theorem dX6_takes_33 : decode cX6_takes 33 = .ok (.iinc 2 1, 3) := by decide +kernel
theorem dX6_takes_36 : decode cX6_takes 36 = .ok (.goto (-20), 3) := by decide +kernel
theorem dX6_takes_39 : decode cX6_takes 39 = .ok (.aload_n 0, 1) := by decide +kernel
theorem dX6_takes_40 : decode cX6_takes 40 = .ok (.iload_n 1, 1) := by decide +kernel
theorem dX6_takes_41 : decode cX6_takes 41 = .ok (.putfield 96, 3) := by decide +kernel
theorem dX6_takes_44 : decode cX6_takes 44 = .ok (.aload_n 0, 1) := by decide +kernel
theorem dX6_takes_45 : decode cX6_takes 45 = .ok (.iconst 0, 1) := by decide +kernel
theorem dX6_takes_46 : decode cX6_takes 46 = .ok (.putfield 93, 3) := by decide +kernel
theorem dX6_takes_49 : decode cX6_takes 49 = .ok (.aload_n 0, 1) := by decide +kernel
theorem dX6_takes_50 : decode cX6_takes 50 = .ok (.iconst 0, 1) := by decide +kernel
theorem dX6_takes_51 : decode cX6_takes 51 = .ok (.putfield 99, 3) := by decide +kernel
theorem dX6_takes_54 : decode cX6_takes 54 = .ok (.aload_n 0, 1) := by decide +kernel
theorem dX6_takes_55 : decode cX6_takes 55 = .ok (.iconst (-1), 1) := by decide +kernel
theorem dX6_takes_56 : decode cX6_takes 56 = .ok (.putfield 102, 3) := by decide +kernel
theorem dX6_takes_59 : decode cX6_takes 59 = .ok (.iconst 1, 1) := by decide +kernel
theorem dX6_takes_60 : decode cX6_takes 60 = .ok (.ireturn, 1) := by decide +kernel
theorem dX6_isLetter_0 : decode cX6_isLetter 0 = .ok (.iload_n 0, 1) := by decide +kernel
theorem dX6_isLetter_1 : decode cX6_isLetter 1 = .ok (.bipush 97, 2) := by decide +kernel
theorem dX6_isLetter_3 : decode cX6_isLetter 3 = .ok (.if_icmp .lt 9, 3) := by decide +kernel
theorem dX6_isLetter_6 : decode cX6_isLetter 6 = .ok (.iload_n 0, 1) := by decide +kernel
theorem dX6_isLetter_7 : decode cX6_isLetter 7 = .ok (.bipush 122, 2) := by decide +kernel
theorem dX6_isLetter_9 : decode cX6_isLetter 9 = .ok (.if_icmp .le 15, 3) := by decide +kernel
theorem dX6_isLetter_12 : decode cX6_isLetter 12 = .ok (.iload_n 0, 1) := by decide +kernel
theorem dX6_isLetter_13 : decode cX6_isLetter 13 = .ok (.bipush 65, 2) := by decide +kernel
theorem dX6_isLetter_15 : decode cX6_isLetter 15 = .ok (.if_icmp .lt 13, 3) := by decide +kernel
theorem dX6_isLetter_18 : decode cX6_isLetter 18 = .ok (.iload_n 0, 1) := by decide +kernel
theorem dX6_isLetter_19 : decode cX6_isLetter 19 = .ok (.bipush 90, 2) := by decide +kernel
theorem dX6_isLetter_21 : decode cX6_isLetter 21 = .ok (.if_icmp .gt 7, 3) := by decide +kernel
theorem dX6_isLetter_24 : decode cX6_isLetter 24 = .ok (.iconst 1, 1) := by decide +kernel
theorem dX6_isLetter_25 : decode cX6_isLetter 25 = .ok (.goto 4, 3) := by decide +kernel
theorem dX6_isLetter_28 : decode cX6_isLetter 28 = .ok (.iconst 0, 1) := by decide +kernel
theorem dX6_isLetter_29 : decode cX6_isLetter 29 = .ok (.ireturn, 1) := by decide +kernel
theorem dX6_isDigit_0 : decode cX6_isDigit 0 = .ok (.iload_n 0, 1) := by decide +kernel
theorem dX6_isDigit_1 : decode cX6_isDigit 1 = .ok (.bipush 48, 2) := by decide +kernel
theorem dX6_isDigit_3 : decode cX6_isDigit 3 = .ok (.if_icmp .lt 13, 3) := by decide +kernel
theorem dX6_isDigit_6 : decode cX6_isDigit 6 = .ok (.iload_n 0, 1) := by decide +kernel
theorem dX6_isDigit_7 : decode cX6_isDigit 7 = .ok (.bipush 57, 2) := by decide +kernel
theorem dX6_isDigit_9 : decode cX6_isDigit 9 = .ok (.if_icmp .gt 7, 3) := by decide +kernel
theorem dX6_isDigit_12 : decode cX6_isDigit 12 = .ok (.iconst 1, 1) := by decide +kernel
theorem dX6_isDigit_13 : decode cX6_isDigit 13 = .ok (.goto 4, 3) := by decide +kernel
theorem dX6_isDigit_16 : decode cX6_isDigit 16 = .ok (.iconst 0, 1) := by decide +kernel
theorem dX6_isDigit_17 : decode cX6_isDigit 17 = .ok (.ireturn, 1) := by decide +kernel
theorem dX6_wordAt_0 : decode cX6_wordAt 0 = .ok (.iload_n 1, 1) := by decide +kernel
theorem dX6_wordAt_1 : decode cX6_wordAt 1 = .ok (.istore_n 2, 1) := by decide +kernel
theorem dX6_wordAt_2 : decode cX6_wordAt 2 = .ok (.iload_n 2, 1) := by decide +kernel
theorem dX6_wordAt_3 : decode cX6_wordAt 3 = .ok (.aload_n 0, 1) := by decide +kernel
theorem dX6_wordAt_4 : decode cX6_wordAt 4 = .ok (.getfield 96, 3) := by decide +kernel
theorem dX6_wordAt_7 : decode cX6_wordAt 7 = .ok (.if_icmp .ge 49, 3) := by decide +kernel
theorem dX6_wordAt_10 : decode cX6_wordAt 10 = .ok (.aload_n 0, 1) := by decide +kernel
theorem dX6_wordAt_11 : decode cX6_wordAt 11 = .ok (.getfield 13, 3) := by decide +kernel
theorem dX6_wordAt_14 : decode cX6_wordAt 14 = .ok (.iload_n 2, 1) := by decide +kernel
theorem dX6_wordAt_15 : decode cX6_wordAt 15 = .ok (.iaload, 1) := by decide +kernel
theorem dX6_wordAt_16 : decode cX6_wordAt 16 = .ok (.invokestatic 105, 3) := by decide +kernel
theorem dX6_wordAt_19 : decode cX6_wordAt 19 = .ok (.ifCond .ne 31, 3) := by decide +kernel
theorem dX6_wordAt_22 : decode cX6_wordAt 22 = .ok (.iload_n 2, 1) := by decide +kernel
theorem dX6_wordAt_23 : decode cX6_wordAt 23 = .ok (.iload_n 1, 1) := by decide +kernel
theorem dX6_wordAt_24 : decode cX6_wordAt 24 = .ok (.if_icmp .le 32, 3) := by decide +kernel
theorem dX6_wordAt_27 : decode cX6_wordAt 27 = .ok (.aload_n 0, 1) := by decide +kernel
theorem dX6_wordAt_28 : decode cX6_wordAt 28 = .ok (.getfield 13, 3) := by decide +kernel
theorem dX6_wordAt_31 : decode cX6_wordAt 31 = .ok (.iload_n 2, 1) := by decide +kernel
theorem dX6_wordAt_32 : decode cX6_wordAt 32 = .ok (.iaload, 1) := by decide +kernel
theorem dX6_wordAt_33 : decode cX6_wordAt 33 = .ok (.invokestatic 109, 3) := by decide +kernel
theorem dX6_wordAt_36 : decode cX6_wordAt 36 = .ok (.ifCond .ne 14, 3) := by decide +kernel
theorem dX6_wordAt_39 : decode cX6_wordAt 39 = .ok (.aload_n 0, 1) := by decide +kernel
theorem dX6_wordAt_40 : decode cX6_wordAt 40 = .ok (.getfield 13, 3) := by decide +kernel
theorem dX6_wordAt_43 : decode cX6_wordAt 43 = .ok (.iload_n 2, 1) := by decide +kernel
theorem dX6_wordAt_44 : decode cX6_wordAt 44 = .ok (.iaload, 1) := by decide +kernel
theorem dX6_wordAt_45 : decode cX6_wordAt 45 = .ok (.bipush 95, 2) := by decide +kernel
theorem dX6_wordAt_47 : decode cX6_wordAt 47 = .ok (.if_icmp .ne 9, 3) := by decide +kernel
theorem dX6_wordAt_50 : decode cX6_wordAt 50 = .ok (.iinc 2 1, 3) := by decide +kernel
theorem dX6_wordAt_53 : decode cX6_wordAt 53 = .ok (.goto (-51), 3) := by decide +kernel
theorem dX6_wordAt_56 : decode cX6_wordAt 56 = .ok (.iload_n 2, 1) := by decide +kernel
theorem dX6_wordAt_57 : decode cX6_wordAt 57 = .ok (.iload_n 1, 1) := by decide +kernel
theorem dX6_wordAt_58 : decode cX6_wordAt 58 = .ok (.isub, 1) := by decide +kernel
theorem dX6_wordAt_59 : decode cX6_wordAt 59 = .ok (.ireturn, 1) := by decide +kernel
theorem dX6_find_0 : decode cX6_find 0 = .ok (.iconst (-1), 1) := by decide +kernel
theorem dX6_find_1 : decode cX6_find 1 = .ok (.istore 4, 2) := by decide +kernel
theorem dX6_find_3 : decode cX6_find 3 = .ok (.aload_n 0, 1) := by decide +kernel
theorem dX6_find_4 : decode cX6_find 4 = .ok (.getfield 112, 3) := by decide +kernel
theorem dX6_find_7 : decode cX6_find 7 = .ok (.iconst 1, 1) := by decide +kernel
theorem dX6_find_8 : decode cX6_find 8 = .ok (.isub, 1) := by decide +kernel
theorem dX6_find_9 : decode cX6_find 9 = .ok (.istore 5, 2) := by decide +kernel
theorem dX6_find_11 : decode cX6_find 11 = .ok (.iload 5, 2) := by decide +kernel
theorem dX6_find_13 : decode cX6_find 13 = .ok (.ifCond .lt 104, 3) := by decide +kernel
theorem dX6_find_16 : decode cX6_find 16 = .ok (.aload_n 0, 1) := by decide +kernel
theorem dX6_find_17 : decode cX6_find 17 = .ok (.getfield 16, 3) := by decide +kernel
theorem dX6_find_20 : decode cX6_find 20 = .ok (.iload 5, 2) := by decide +kernel
theorem dX6_find_22 : decode cX6_find 22 = .ok (.iaload, 1) := by decide +kernel
theorem dX6_find_23 : decode cX6_find 23 = .ok (.iload_n 1, 1) := by decide +kernel
theorem dX6_find_24 : decode cX6_find 24 = .ok (.if_icmp .ne 18, 3) := by decide +kernel
theorem dX6_find_27 : decode cX6_find 27 = .ok (.aload_n 0, 1) := by decide +kernel
theorem dX6_find_28 : decode cX6_find 28 = .ok (.getfield 25, 3) := by decide +kernel
theorem dX6_find_31 : decode cX6_find 31 = .ok (.iload 5, 2) := by decide +kernel
theorem dX6_find_33 : decode cX6_find 33 = .ok (.iaload, 1) := by decide +kernel
theorem dX6_find_34 : decode cX6_find 34 = .ok (.iload_n 3, 1) := by decide +kernel
theorem dX6_find_35 : decode cX6_find 35 = .ok (.if_icmp .ne 7, 3) := by decide +kernel
theorem dX6_find_38 : decode cX6_find 38 = .ok (.iconst 1, 1) := by decide +kernel
theorem dX6_find_39 : decode cX6_find 39 = .ok (.goto 4, 3) := by decide +kernel
theorem dX6_find_42 : decode cX6_find 42 = .ok (.iconst 0, 1) := by decide +kernel
theorem dX6_find_43 : decode cX6_find 43 = .ok (.istore 6, 2) := by decide +kernel
theorem dX6_find_45 : decode cX6_find 45 = .ok (.iconst 0, 1) := by decide +kernel
theorem dX6_find_46 : decode cX6_find 46 = .ok (.istore 7, 2) := by decide +kernel
theorem dX6_find_48 : decode cX6_find 48 = .ok (.iload 6, 2) := by decide +kernel
theorem dX6_find_50 : decode cX6_find 50 = .ok (.ifCond .eq 47, 3) := by decide +kernel
theorem dX6_find_53 : decode cX6_find 53 = .ok (.iload 7, 2) := by decide +kernel
theorem dX6_find_55 : decode cX6_find 55 = .ok (.iload_n 3, 1) := by decide +kernel
theorem dX6_find_56 : decode cX6_find 56 = .ok (.if_icmp .ge 41, 3) := by decide +kernel
theorem dX6_find_59 : decode cX6_find 59 = .ok (.aload_n 0, 1) := by decide +kernel
theorem dX6_find_60 : decode cX6_find 60 = .ok (.getfield 28, 3) := by decide +kernel
theorem dX6_find_63 : decode cX6_find 63 = .ok (.bipush 16, 2) := by decide +kernel
theorem dX6_find_65 : decode cX6_find 65 = .ok (.iload 5, 2) := by decide +kernel
theorem dX6_find_67 : decode cX6_find 67 = .ok (.imul, 1) := by decide +kernel
theorem dX6_find_68 : decode cX6_find 68 = .ok (.iload 7, 2) := by decide +kernel
theorem dX6_find_70 : decode cX6_find 70 = .ok (.iadd, 1) := by decide +kernel
theorem dX6_find_71 : decode cX6_find 71 = .ok (.iaload, 1) := by decide +kernel
theorem dX6_find_72 : decode cX6_find 72 = .ok (.aload_n 0, 1) := by decide +kernel
theorem dX6_find_73 : decode cX6_find 73 = .ok (.getfield 13, 3) := by decide +kernel
theorem dX6_find_76 : decode cX6_find 76 = .ok (.iload_n 2, 1) := by decide +kernel
theorem dX6_find_77 : decode cX6_find 77 = .ok (.iload 7, 2) := by decide +kernel
theorem dX6_find_79 : decode cX6_find 79 = .ok (.iadd, 1) := by decide +kernel
theorem dX6_find_80 : decode cX6_find 80 = .ok (.iaload, 1) := by decide +kernel
theorem dX6_find_81 : decode cX6_find 81 = .ok (.if_icmp .ne 7, 3) := by decide +kernel
theorem dX6_find_84 : decode cX6_find 84 = .ok (.iconst 1, 1) := by decide +kernel
theorem dX6_find_85 : decode cX6_find 85 = .ok (.goto 4, 3) := by decide +kernel
theorem dX6_find_88 : decode cX6_find 88 = .ok (.iconst 0, 1) := by decide +kernel
theorem dX6_find_89 : decode cX6_find 89 = .ok (.istore 6, 2) := by decide +kernel
theorem dX6_find_91 : decode cX6_find 91 = .ok (.iinc 7 1, 3) := by decide +kernel
theorem dX6_find_94 : decode cX6_find 94 = .ok (.goto (-46), 3) := by decide +kernel
theorem dX6_find_97 : decode cX6_find 97 = .ok (.iload 6, 2) := by decide +kernel
theorem dX6_find_99 : decode cX6_find 99 = .ok (.ifCond .eq 8, 3) := by decide +kernel
theorem dX6_find_102 : decode cX6_find 102 = .ok (.iload 5, 2) := by decide +kernel
theorem dX6_find_104 : decode cX6_find 104 = .ok (.goto 5, 3) := by decide +kernel
theorem dX6_find_107 : decode cX6_find 107 = .ok (.iload 4, 2) := by decide +kernel
theorem dX6_find_109 : decode cX6_find 109 = .ok (.istore 4, 2) := by decide +kernel
theorem dX6_find_111 : decode cX6_find 111 = .ok (.iinc 5 (-1), 3) := by decide +kernel
theorem dX6_find_114 : decode cX6_find 114 = .ok (.goto (-103), 3) := by decide +kernel
theorem dX6_find_117 : decode cX6_find 117 = .ok (.iload 4, 2) := by decide +kernel
theorem dX6_find_119 : decode cX6_find 119 = .ok (.ireturn, 1) := by decide +kernel
theorem dX6_field_0 : decode cX6_field 0 = .ok (.aload_n 0, 1) := by decide +kernel
theorem dX6_field_1 : decode cX6_field 1 = .ok (.iconst 0, 1) := by decide +kernel
theorem dX6_field_2 : decode cX6_field 2 = .ok (.putfield 90, 3) := by decide +kernel
theorem dX6_field_5 : decode cX6_field 5 = .ok (.aload_n 0, 1) := by decide +kernel
theorem dX6_field_6 : decode cX6_field 6 = .ok (.iload 4, 2) := by decide +kernel
theorem dX6_field_8 : decode cX6_field 8 = .ok (.invokevirtual 115, 3) := by decide +kernel
theorem dX6_field_11 : decode cX6_field 11 = .ok (.ifCond .ne 6, 3) := by decide +kernel
theorem dX6_field_14 : decode cX6_field 14 = .ok (.bipush (-2), 2) := by decide +kernel
theorem dX6_field_16 : decode cX6_field 16 = .ok (.ireturn, 1) := by decide +kernel
theorem dX6_field_17 : decode cX6_field 17 = .ok (.aload_n 0, 1) := by decide +kernel
theorem dX6_field_18 : decode cX6_field 18 = .ok (.iconst (-1), 1) := by decide +kernel
theorem dX6_field_19 : decode cX6_field 19 = .ok (.putfield 31, 3) := by decide +kernel
theorem dX6_field_22 : decode cX6_field 22 = .ok (.aload_n 0, 1) := by decide +kernel
theorem dX6_field_23 : decode cX6_field 23 = .ok (.getfield 112, 3) := by decide +kernel
theorem dX6_field_26 : decode cX6_field 26 = .ok (.bipush 64, 2) := by decide +kernel
theorem dX6_field_28 : decode cX6_field 28 = .ok (.if_icmp .ge 60, 3) := by decide +kernel
theorem dX6_field_31 : decode cX6_field 31 = .ok (.iload_n 1, 1) := by decide +kernel
theorem dX6_field_32 : decode cX6_field 32 = .ok (.iconst (-1), 1) := by decide +kernel
theorem dX6_field_33 : decode cX6_field 33 = .ok (.if_icmp .lt 55, 3) := by decide +kernel
theorem dX6_field_36 : decode cX6_field 36 = .ok (.iload_n 1, 1) := by decide +kernel
theorem dX6_field_37 : decode cX6_field 37 = .ok (.aload_n 0, 1) := by decide +kernel
theorem dX6_field_38 : decode cX6_field 38 = .ok (.getfield 112, 3) := by decide +kernel
theorem dX6_field_41 : decode cX6_field 41 = .ok (.if_icmp .ge 47, 3) := by decide +kernel
theorem dX6_field_44 : decode cX6_field 44 = .ok (.iload_n 2, 1) := by decide +kernel
theorem dX6_field_45 : decode cX6_field 45 = .ok (.ifCond .lt 43, 3) := by decide +kernel
theorem dX6_field_48 : decode cX6_field 48 = .ok (.iload_n 2, 1) := by decide +kernel
theorem dX6_field_49 : decode cX6_field 49 = .ok (.iconst 2, 1) := by decide +kernel
theorem dX6_field_50 : decode cX6_field 50 = .ok (.if_icmp .gt 38, 3) := by decide +kernel
theorem dX6_field_53 : decode cX6_field 53 = .ok (.iload_n 3, 1) := by decide +kernel
theorem dX6_field_54 : decode cX6_field 54 = .ok (.ifCond .lt 34, 3) := by decide +kernel
theorem dX6_field_57 : decode cX6_field 57 = .ok (.iload_n 3, 1) := by decide +kernel
theorem dX6_field_58 : decode cX6_field 58 = .ok (.iconst 4, 1) := by decide +kernel
theorem dX6_field_59 : decode cX6_field 59 = .ok (.if_icmp .gt 29, 3) := by decide +kernel
theorem dX6_field_62 : decode cX6_field 62 = .ok (.iload 4, 2) := by decide +kernel
theorem dX6_field_64 : decode cX6_field 64 = .ok (.ifCond .le 24, 3) := by decide +kernel
theorem dX6_field_67 : decode cX6_field 67 = .ok (.iload 4, 2) := by decide +kernel
theorem dX6_field_69 : decode cX6_field 69 = .ok (.bipush 16, 2) := by decide +kernel
theorem dX6_field_71 : decode cX6_field 71 = .ok (.if_icmp .gt 17, 3) := by decide +kernel
theorem dX6_field_74 : decode cX6_field 74 = .ok (.aload_n 0, 1) := by decide +kernel
theorem dX6_field_75 : decode cX6_field 75 = .ok (.iconst 0, 1) := by decide +kernel
theorem dX6_field_76 : decode cX6_field 76 = .ok (.invokevirtual 118, 3) := by decide +kernel
theorem dX6_field_79 : decode cX6_field 79 = .ok (.iload 4, 2) := by decide +kernel
theorem dX6_field_81 : decode cX6_field 81 = .ok (.if_icmp .ne 7, 3) := by decide +kernel
theorem dX6_field_84 : decode cX6_field 84 = .ok (.iconst 1, 1) := by decide +kernel
theorem dX6_field_85 : decode cX6_field 85 = .ok (.goto 4, 3) := by decide +kernel
theorem dX6_field_88 : decode cX6_field 88 = .ok (.iconst 0, 1) := by decide +kernel
theorem dX6_field_89 : decode cX6_field 89 = .ok (.istore 5, 2) := by decide +kernel
theorem dX6_field_91 : decode cX6_field 91 = .ok (.iload 5, 2) := by decide +kernel
theorem dX6_field_93 : decode cX6_field 93 = .ok (.ifCond .eq 30, 3) := by decide +kernel
theorem dX6_field_96 : decode cX6_field 96 = .ok (.iload_n 1, 1) := by decide +kernel
theorem dX6_field_97 : decode cX6_field 97 = .ok (.iconst (-1), 1) := by decide +kernel
theorem dX6_field_98 : decode cX6_field 98 = .ok (.if_icmp .eq 13, 3) := by decide +kernel
theorem dX6_field_101 : decode cX6_field 101 = .ok (.aload_n 0, 1) := by decide +kernel
theorem dX6_field_102 : decode cX6_field 102 = .ok (.getfield 22, 3) := by decide +kernel
theorem dX6_field_105 : decode cX6_field 105 = .ok (.iload_n 1, 1) := by decide +kernel
theorem dX6_field_106 : decode cX6_field 106 = .ok (.iaload, 1) := by decide +kernel
theorem dX6_field_107 : decode cX6_field 107 = .ok (.iconst 4, 1) := by decide +kernel
theorem dX6_field_108 : decode cX6_field 108 = .ok (.if_icmp .ne 15, 3) := by decide +kernel
theorem dX6_field_111 : decode cX6_field 111 = .ok (.aload_n 0, 1) := by decide +kernel
theorem dX6_field_112 : decode cX6_field 112 = .ok (.iload_n 1, 1) := by decide +kernel
theorem dX6_field_113 : decode cX6_field 113 = .ok (.iconst 0, 1) := by decide +kernel
theorem dX6_field_114 : decode cX6_field 114 = .ok (.iload 4, 2) := by decide +kernel
theorem dX6_field_116 : decode cX6_field 116 = .ok (.invokevirtual 122, 3) := by decide +kernel
theorem dX6_field_119 : decode cX6_field 119 = .ok (.iconst (-1), 1) := by decide +kernel
theorem dX6_field_120 : decode cX6_field 120 = .ok (.if_icmp .eq 5, 3) := by decide +kernel
theorem dX6_field_123 : decode cX6_field 123 = .ok (.iconst (-1), 1) := by decide +kernel
theorem dX6_field_124 : decode cX6_field 124 = .ok (.ireturn, 1) := by decide +kernel
theorem dX6_field_125 : decode cX6_field 125 = .ok (.aload_n 0, 1) := by decide +kernel
theorem dX6_field_126 : decode cX6_field 126 = .ok (.getfield 16, 3) := by decide +kernel
theorem dX6_field_129 : decode cX6_field 129 = .ok (.aload_n 0, 1) := by decide +kernel
theorem dX6_field_130 : decode cX6_field 130 = .ok (.getfield 112, 3) := by decide +kernel
theorem dX6_field_133 : decode cX6_field 133 = .ok (.iload_n 1, 1) := by decide +kernel
theorem dX6_field_134 : decode cX6_field 134 = .ok (.iastore, 1) := by decide +kernel
theorem dX6_field_135 : decode cX6_field 135 = .ok (.aload_n 0, 1) := by decide +kernel
theorem dX6_field_136 : decode cX6_field 136 = .ok (.getfield 19, 3) := by decide +kernel
theorem dX6_field_139 : decode cX6_field 139 = .ok (.aload_n 0, 1) := by decide +kernel
theorem dX6_field_140 : decode cX6_field 140 = .ok (.getfield 112, 3) := by decide +kernel
theorem dX6_field_143 : decode cX6_field 143 = .ok (.iload_n 2, 1) := by decide +kernel
theorem dX6_field_144 : decode cX6_field 144 = .ok (.iastore, 1) := by decide +kernel
theorem dX6_field_145 : decode cX6_field 145 = .ok (.aload_n 0, 1) := by decide +kernel
theorem dX6_field_146 : decode cX6_field 146 = .ok (.getfield 22, 3) := by decide +kernel
theorem dX6_field_149 : decode cX6_field 149 = .ok (.aload_n 0, 1) := by decide +kernel
theorem dX6_field_150 : decode cX6_field 150 = .ok (.getfield 112, 3) := by decide +kernel
theorem dX6_field_153 : decode cX6_field 153 = .ok (.iload_n 3, 1) := by decide +kernel
theorem dX6_field_154 : decode cX6_field 154 = .ok (.iastore, 1) := by decide +kernel
theorem dX6_field_155 : decode cX6_field 155 = .ok (.aload_n 0, 1) := by decide +kernel
theorem dX6_field_156 : decode cX6_field 156 = .ok (.getfield 25, 3) := by decide +kernel
theorem dX6_field_159 : decode cX6_field 159 = .ok (.aload_n 0, 1) := by decide +kernel
theorem dX6_field_160 : decode cX6_field 160 = .ok (.getfield 112, 3) := by decide +kernel
theorem dX6_field_163 : decode cX6_field 163 = .ok (.iload 4, 2) := by decide +kernel
theorem dX6_field_165 : decode cX6_field 165 = .ok (.iastore, 1) := by decide +kernel
theorem dX6_field_166 : decode cX6_field 166 = .ok (.iconst 0, 1) := by decide +kernel
theorem dX6_field_167 : decode cX6_field 167 = .ok (.istore 6, 2) := by decide +kernel
theorem dX6_field_169 : decode cX6_field 169 = .ok (.iload 6, 2) := by decide +kernel
theorem dX6_field_171 : decode cX6_field 171 = .ok (.iload 4, 2) := by decide +kernel
theorem dX6_field_173 : decode cX6_field 173 = .ok (.if_icmp .ge 31, 3) := by decide +kernel
theorem dX6_field_176 : decode cX6_field 176 = .ok (.aload_n 0, 1) := by decide +kernel
theorem dX6_field_177 : decode cX6_field 177 = .ok (.getfield 28, 3) := by decide +kernel
theorem dX6_field_180 : decode cX6_field 180 = .ok (.bipush 16, 2) := by decide +kernel
theorem dX6_field_182 : decode cX6_field 182 = .ok (.aload_n 0, 1) := by decide +kernel
theorem dX6_field_183 : decode cX6_field 183 = .ok (.getfield 112, 3) := by decide +kernel
theorem dX6_field_186 : decode cX6_field 186 = .ok (.imul, 1) := by decide +kernel
theorem dX6_field_187 : decode cX6_field 187 = .ok (.iload 6, 2) := by decide +kernel
theorem dX6_field_189 : decode cX6_field 189 = .ok (.iadd, 1) := by decide +kernel
theorem dX6_field_190 : decode cX6_field 190 = .ok (.aload_n 0, 1) := by decide +kernel
theorem dX6_field_191 : decode cX6_field 191 = .ok (.getfield 13, 3) := by decide +kernel
theorem dX6_field_194 : decode cX6_field 194 = .ok (.iload 6, 2) := by decide +kernel
theorem dX6_field_196 : decode cX6_field 196 = .ok (.iaload, 1) := by decide +kernel
theorem dX6_field_197 : decode cX6_field 197 = .ok (.iastore, 1) := by decide +kernel
theorem dX6_field_198 : decode cX6_field 198 = .ok (.iinc 6 1, 3) := by decide +kernel
theorem dX6_field_201 : decode cX6_field 201 = .ok (.goto (-32), 3) := by decide +kernel
theorem dX6_field_204 : decode cX6_field 204 = .ok (.aload_n 0, 1) := by decide +kernel
theorem dX6_field_205 : decode cX6_field 205 = .ok (.dup, 1) := by decide +kernel
theorem dX6_field_206 : decode cX6_field 206 = .ok (.getfield 112, 3) := by decide +kernel
theorem dX6_field_209 : decode cX6_field 209 = .ok (.iconst 1, 1) := by decide +kernel
theorem dX6_field_210 : decode cX6_field 210 = .ok (.iadd, 1) := by decide +kernel
theorem dX6_field_211 : decode cX6_field 211 = .ok (.putfield 112, 3) := by decide +kernel
theorem dX6_field_214 : decode cX6_field 214 = .ok (.aload_n 0, 1) := by decide +kernel
theorem dX6_field_215 : decode cX6_field 215 = .ok (.getfield 112, 3) := by decide +kernel
theorem dX6_field_218 : decode cX6_field 218 = .ok (.iconst 1, 1) := by decide +kernel
theorem dX6_field_219 : decode cX6_field 219 = .ok (.isub, 1) := by decide +kernel
theorem dX6_field_220 : decode cX6_field 220 = .ok (.ireturn, 1) := by decide +kernel
theorem dX6_fail_0 : decode cX6_fail 0 = .ok (.aload_n 0, 1) := by decide +kernel
theorem dX6_fail_1 : decode cX6_fail 1 = .ok (.getfield 102, 3) := by decide +kernel
theorem dX6_fail_4 : decode cX6_fail 4 = .ok (.iconst (-1), 1) := by decide +kernel
theorem dX6_fail_5 : decode cX6_fail 5 = .ok (.if_icmp .ne 8, 3) := by decide +kernel
theorem dX6_fail_8 : decode cX6_fail 8 = .ok (.aload_n 0, 1) := by decide +kernel
theorem dX6_fail_9 : decode cX6_fail 9 = .ok (.iload_n 1, 1) := by decide +kernel
theorem dX6_fail_10 : decode cX6_fail 10 = .ok (.putfield 102, 3) := by decide +kernel
theorem dX6_fail_13 : decode cX6_fail 13 = .ok (.return_, 1) := by decide +kernel
theorem dX6_look_0 : decode cX6_look 0 = .ok (.aload_n 0, 1) := by decide +kernel
theorem dX6_look_1 : decode cX6_look 1 = .ok (.getfield 99, 3) := by decide +kernel
theorem dX6_look_4 : decode cX6_look 4 = .ok (.aload_n 0, 1) := by decide +kernel
theorem dX6_look_5 : decode cX6_look 5 = .ok (.getfield 96, 3) := by decide +kernel
theorem dX6_look_8 : decode cX6_look 8 = .ok (.if_icmp .ge 15, 3) := by decide +kernel
theorem dX6_look_11 : decode cX6_look 11 = .ok (.aload_n 0, 1) := by decide +kernel
theorem dX6_look_12 : decode cX6_look 12 = .ok (.getfield 13, 3) := by decide +kernel
theorem dX6_look_15 : decode cX6_look 15 = .ok (.aload_n 0, 1) := by decide +kernel
theorem dX6_look_16 : decode cX6_look 16 = .ok (.getfield 99, 3) := by decide +kernel
theorem dX6_look_19 : decode cX6_look 19 = .ok (.iaload, 1) := by decide +kernel
theorem dX6_look_20 : decode cX6_look 20 = .ok (.goto 4, 3) := by decide +kernel
theorem dX6_look_23 : decode cX6_look 23 = .ok (.iconst (-1), 1) := by decide +kernel
theorem dX6_look_24 : decode cX6_look 24 = .ok (.ireturn, 1) := by decide +kernel
theorem dX6_blanks_0 : decode cX6_blanks 0 = .ok (.aload_n 0, 1) := by decide +kernel
theorem dX6_blanks_1 : decode cX6_blanks 1 = .ok (.invokevirtual 126, 3) := by decide +kernel
theorem dX6_blanks_4 : decode cX6_blanks 4 = .ok (.bipush 32, 2) := by decide +kernel
theorem dX6_blanks_6 : decode cX6_blanks 6 = .ok (.if_icmp .eq 12, 3) := by decide +kernel
theorem dX6_blanks_9 : decode cX6_blanks 9 = .ok (.aload_n 0, 1) := by decide +kernel
theorem dX6_blanks_10 : decode cX6_blanks 10 = .ok (.invokevirtual 126, 3) := by decide +kernel
theorem dX6_blanks_13 : decode cX6_blanks 13 = .ok (.bipush 10, 2) := by decide +kernel
theorem dX6_blanks_15 : decode cX6_blanks 15 = .ok (.if_icmp .ne 16, 3) := by decide +kernel
theorem dX6_blanks_18 : decode cX6_blanks 18 = .ok (.aload_n 0, 1) := by decide +kernel
theorem dX6_blanks_19 : decode cX6_blanks 19 = .ok (.dup, 1) := by decide +kernel
theorem dX6_blanks_20 : decode cX6_blanks 20 = .ok (.getfield 99, 3) := by decide +kernel
theorem dX6_blanks_23 : decode cX6_blanks 23 = .ok (.iconst 1, 1) := by decide +kernel
theorem dX6_blanks_24 : decode cX6_blanks 24 = .ok (.iadd, 1) := by decide +kernel
theorem dX6_blanks_25 : decode cX6_blanks 25 = .ok (.putfield 99, 3) := by decide +kernel
theorem dX6_blanks_28 : decode cX6_blanks 28 = .ok (.goto (-28), 3) := by decide +kernel
theorem dX6_blanks_31 : decode cX6_blanks 31 = .ok (.return_, 1) := by decide +kernel
theorem dX6_wordOf_0 : decode cX6_wordOf 0 = .ok (.aload_n 0, 1) := by decide +kernel
theorem dX6_wordOf_1 : decode cX6_wordOf 1 = .ok (.iload_n 1, 1) := by decide +kernel
theorem dX6_wordOf_2 : decode cX6_wordOf 2 = .ok (.invokevirtual 118, 3) := by decide +kernel
theorem dX6_wordOf_5 : decode cX6_wordOf 5 = .ok (.istore_n 2, 1) := by decide +kernel
theorem dX6_wordOf_6 : decode cX6_wordOf 6 = .ok (.lconst 0, 1) := by decide +kernel
theorem dX6_wordOf_7 : decode cX6_wordOf 7 = .ok (.lstore_n 3, 1) := by decide +kernel
theorem dX6_wordOf_8 : decode cX6_wordOf 8 = .ok (.iconst 0, 1) := by decide +kernel
theorem dX6_wordOf_9 : decode cX6_wordOf 9 = .ok (.istore 5, 2) := by decide +kernel
theorem dX6_wordOf_11 : decode cX6_wordOf 11 = .ok (.iload 5, 2) := by decide +kernel
theorem dX6_wordOf_13 : decode cX6_wordOf 13 = .ok (.iload_n 2, 1) := by decide +kernel
theorem dX6_wordOf_14 : decode cX6_wordOf 14 = .ok (.if_icmp .ge 25, 3) := by decide +kernel
theorem dX6_wordOf_17 : decode cX6_wordOf 17 = .ok (.lload_n 3, 1) := by decide +kernel
theorem dX6_wordOf_18 : decode cX6_wordOf 18 = .ok (.bipush 8, 2) := by decide +kernel
theorem dX6_wordOf_20 : decode cX6_wordOf 20 = .ok (.lshl, 1) := by decide +kernel
theorem dX6_wordOf_21 : decode cX6_wordOf 21 = .ok (.aload_n 0, 1) := by decide +kernel
theorem dX6_wordOf_22 : decode cX6_wordOf 22 = .ok (.getfield 13, 3) := by decide +kernel
theorem dX6_wordOf_25 : decode cX6_wordOf 25 = .ok (.iload_n 1, 1) := by decide +kernel
theorem dX6_wordOf_26 : decode cX6_wordOf 26 = .ok (.iload 5, 2) := by decide +kernel
theorem dX6_wordOf_28 : decode cX6_wordOf 28 = .ok (.iadd, 1) := by decide +kernel
theorem dX6_wordOf_29 : decode cX6_wordOf 29 = .ok (.iaload, 1) := by decide +kernel
theorem dX6_wordOf_30 : decode cX6_wordOf 30 = .ok (.i2l, 1) := by decide +kernel
theorem dX6_wordOf_31 : decode cX6_wordOf 31 = .ok (.lor, 1) := by decide +kernel
theorem dX6_wordOf_32 : decode cX6_wordOf 32 = .ok (.lstore_n 3, 1) := by decide +kernel
theorem dX6_wordOf_33 : decode cX6_wordOf 33 = .ok (.iinc 5 1, 3) := by decide +kernel
theorem dX6_wordOf_36 : decode cX6_wordOf 36 = .ok (.goto (-25), 3) := by decide +kernel
theorem dX6_wordOf_39 : decode cX6_wordOf 39 = .ok (.iload_n 2, 1) := by decide +kernel
theorem dX6_wordOf_40 : decode cX6_wordOf 40 = .ok (.bipush 8, 2) := by decide +kernel
theorem dX6_wordOf_42 : decode cX6_wordOf 42 = .ok (.if_icmp .le 7, 3) := by decide +kernel
theorem dX6_wordOf_45 : decode cX6_wordOf 45 = .ok (.lconst 0, 1) := by decide +kernel
theorem dX6_wordOf_46 : decode cX6_wordOf 46 = .ok (.goto 4, 3) := by decide +kernel
theorem dX6_wordOf_49 : decode cX6_wordOf 49 = .ok (.lload_n 3, 1) := by decide +kernel
theorem dX6_wordOf_50 : decode cX6_wordOf 50 = .ok (.lreturn, 1) := by decide +kernel
theorem dX6_sees_0 : decode cX6_sees 0 = .ok (.aload_n 0, 1) := by decide +kernel
theorem dX6_sees_1 : decode cX6_sees 1 = .ok (.invokevirtual 130, 3) := by decide +kernel
theorem dX6_sees_4 : decode cX6_sees 4 = .ok (.aload_n 0, 1) := by decide +kernel
theorem dX6_sees_5 : decode cX6_sees 5 = .ok (.getfield 102, 3) := by decide +kernel
theorem dX6_sees_8 : decode cX6_sees 8 = .ok (.iconst (-1), 1) := by decide +kernel
theorem dX6_sees_9 : decode cX6_sees 9 = .ok (.if_icmp .ne 20, 3) := by decide +kernel
theorem dX6_sees_12 : decode cX6_sees 12 = .ok (.aload_n 0, 1) := by decide +kernel
theorem dX6_sees_13 : decode cX6_sees 13 = .ok (.aload_n 0, 1) := by decide +kernel
theorem dX6_sees_14 : decode cX6_sees 14 = .ok (.getfield 99, 3) := by decide +kernel
theorem dX6_sees_17 : decode cX6_sees 17 = .ok (.invokevirtual 133, 3) := by decide +kernel
theorem dX6_sees_20 : decode cX6_sees 20 = .ok (.lload_n 1, 1) := by decide +kernel
theorem dX6_sees_21 : decode cX6_sees 21 = .ok (.lcmp, 1) := by decide +kernel
theorem dX6_sees_22 : decode cX6_sees 22 = .ok (.ifCond .ne 7, 3) := by decide +kernel
theorem dX6_sees_25 : decode cX6_sees 25 = .ok (.iconst 1, 1) := by decide +kernel
theorem dX6_sees_26 : decode cX6_sees 26 = .ok (.goto 4, 3) := by decide +kernel
theorem dX6_sees_29 : decode cX6_sees 29 = .ok (.iconst 0, 1) := by decide +kernel
theorem dX6_sees_30 : decode cX6_sees 30 = .ok (.ireturn, 1) := by decide +kernel
theorem dX6_takesWord_0 : decode cX6_takesWord 0 = .ok (.aload_n 0, 1) := by decide +kernel
theorem dX6_takesWord_1 : decode cX6_takesWord 1 = .ok (.lload_n 1, 1) := by decide +kernel
theorem dX6_takesWord_2 : decode cX6_takesWord 2 = .ok (.invokevirtual 137, 3) := by decide +kernel
theorem dX6_takesWord_5 : decode cX6_takesWord 5 = .ok (.ifCond .ne 5, 3) := by decide +kernel
theorem dX6_takesWord_8 : decode cX6_takesWord 8 = .ok (.iconst 0, 1) := by decide +kernel
theorem dX6_takesWord_9 : decode cX6_takesWord 9 = .ok (.ireturn, 1) := by decide +kernel
theorem dX6_takesWord_10 : decode cX6_takesWord 10 = .ok (.aload_n 0, 1) := by decide +kernel
theorem dX6_takesWord_11 : decode cX6_takesWord 11 = .ok (.dup, 1) := by decide +kernel
theorem dX6_takesWord_12 : decode cX6_takesWord 12 = .ok (.getfield 99, 3) := by decide +kernel
theorem dX6_takesWord_15 : decode cX6_takesWord 15 = .ok (.aload_n 0, 1) := by decide +kernel
theorem dX6_takesWord_16 : decode cX6_takesWord 16 = .ok (.aload_n 0, 1) := by decide +kernel
theorem dX6_takesWord_17 : decode cX6_takesWord 17 = .ok (.getfield 99, 3) := by decide +kernel
theorem dX6_takesWord_20 : decode cX6_takesWord 20 = .ok (.invokevirtual 118, 3) := by decide +kernel
theorem dX6_takesWord_23 : decode cX6_takesWord 23 = .ok (.iadd, 1) := by decide +kernel
theorem dX6_takesWord_24 : decode cX6_takesWord 24 = .ok (.putfield 99, 3) := by decide +kernel
theorem dX6_takesWord_27 : decode cX6_takesWord 27 = .ok (.iconst 1, 1) := by decide +kernel
theorem dX6_takesWord_28 : decode cX6_takesWord 28 = .ok (.ireturn, 1) := by decide +kernel
theorem dX6_takesSign_0 : decode cX6_takesSign 0 = .ok (.aload_n 0, 1) := by decide +kernel
theorem dX6_takesSign_1 : decode cX6_takesSign 1 = .ok (.invokevirtual 130, 3) := by decide +kernel
theorem dX6_takesSign_4 : decode cX6_takesSign 4 = .ok (.aload_n 0, 1) := by decide +kernel
theorem dX6_takesSign_5 : decode cX6_takesSign 5 = .ok (.getfield 102, 3) := by decide +kernel
theorem dX6_takesSign_8 : decode cX6_takesSign 8 = .ok (.iconst (-1), 1) := by decide +kernel
theorem dX6_takesSign_9 : decode cX6_takesSign 9 = .ok (.if_icmp .ne 11, 3) := by decide +kernel
theorem dX6_takesSign_12 : decode cX6_takesSign 12 = .ok (.aload_n 0, 1) := by decide +kernel
theorem dX6_takesSign_13 : decode cX6_takesSign 13 = .ok (.invokevirtual 126, 3) := by decide +kernel
theorem dX6_takesSign_16 : decode cX6_takesSign 16 = .ok (.iload_n 1, 1) := by decide +kernel
theorem dX6_takesSign_17 : decode cX6_takesSign 17 = .ok (.if_icmp .eq 5, 3) := by decide +kernel
theorem dX6_takesSign_20 : decode cX6_takesSign 20 = .ok (.iconst 0, 1) := by decide +kernel
theorem dX6_takesSign_21 : decode cX6_takesSign 21 = .ok (.ireturn, 1) := by decide +kernel
theorem dX6_takesSign_22 : decode cX6_takesSign 22 = .ok (.aload_n 0, 1) := by decide +kernel
theorem dX6_takesSign_23 : decode cX6_takesSign 23 = .ok (.dup, 1) := by decide +kernel
theorem dX6_takesSign_24 : decode cX6_takesSign 24 = .ok (.getfield 99, 3) := by decide +kernel
theorem dX6_takesSign_27 : decode cX6_takesSign 27 = .ok (.iconst 1, 1) := by decide +kernel
theorem dX6_takesSign_28 : decode cX6_takesSign 28 = .ok (.iadd, 1) := by decide +kernel
theorem dX6_takesSign_29 : decode cX6_takesSign 29 = .ok (.putfield 99, 3) := by decide +kernel
theorem dX6_takesSign_32 : decode cX6_takesSign 32 = .ok (.iconst 1, 1) := by decide +kernel
theorem dX6_takesSign_33 : decode cX6_takesSign 33 = .ok (.ireturn, 1) := by decide +kernel
theorem dX6_wantSign_0 : decode cX6_wantSign 0 = .ok (.aload_n 0, 1) := by decide +kernel
theorem dX6_wantSign_1 : decode cX6_wantSign 1 = .ok (.iload_n 1, 1) := by decide +kernel
theorem dX6_wantSign_2 : decode cX6_wantSign 2 = .ok (.invokevirtual 141, 3) := by decide +kernel
theorem dX6_wantSign_5 : decode cX6_wantSign 5 = .ok (.ifCond .ne 11, 3) := by decide +kernel
theorem dX6_wantSign_8 : decode cX6_wantSign 8 = .ok (.aload_n 0, 1) := by decide +kernel
theorem dX6_wantSign_9 : decode cX6_wantSign 9 = .ok (.aload_n 0, 1) := by decide +kernel
theorem dX6_wantSign_10 : decode cX6_wantSign 10 = .ok (.getfield 99, 3) := by decide +kernel
theorem dX6_wantSign_13 : decode cX6_wantSign 13 = .ok (.invokevirtual 144, 3) := by decide +kernel
theorem dX6_wantSign_16 : decode cX6_wantSign 16 = .ok (.return_, 1) := by decide +kernel
theorem dX6_isKept_0 : decode cX6_isKept 0 = .ok (.lload_n 0, 1) := by decide +kernel
theorem dX6_isKept_1 : decode cX6_isKept 1 = .ok (.ldc2_w 148, 3) := by decide +kernel
theorem dX6_isKept_4 : decode cX6_isKept 4 = .ok (.lcmp, 1) := by decide +kernel
theorem dX6_isKept_5 : decode cX6_isKept 5 = .ok (.ifCond .eq 123, 3) := by decide +kernel
theorem dX6_isKept_8 : decode cX6_isKept 8 = .ok (.lload_n 0, 1) := by decide +kernel
theorem dX6_isKept_9 : decode cX6_isKept 9 = .ok (.ldc2_w 150, 3) := by decide +kernel
theorem dX6_isKept_12 : decode cX6_isKept 12 = .ok (.lcmp, 1) := by decide +kernel
theorem dX6_isKept_13 : decode cX6_isKept 13 = .ok (.ifCond .eq 115, 3) := by decide +kernel
theorem dX6_isKept_16 : decode cX6_isKept 16 = .ok (.lload_n 0, 1) := by decide +kernel
theorem dX6_isKept_17 : decode cX6_isKept 17 = .ok (.ldc2_w 152, 3) := by decide +kernel
theorem dX6_isKept_20 : decode cX6_isKept 20 = .ok (.lcmp, 1) := by decide +kernel
theorem dX6_isKept_21 : decode cX6_isKept 21 = .ok (.ifCond .eq 107, 3) := by decide +kernel
theorem dX6_isKept_24 : decode cX6_isKept 24 = .ok (.lload_n 0, 1) := by decide +kernel
theorem dX6_isKept_25 : decode cX6_isKept 25 = .ok (.ldc2_w 154, 3) := by decide +kernel
theorem dX6_isKept_28 : decode cX6_isKept 28 = .ok (.lcmp, 1) := by decide +kernel
theorem dX6_isKept_29 : decode cX6_isKept 29 = .ok (.ifCond .eq 99, 3) := by decide +kernel
theorem dX6_isKept_32 : decode cX6_isKept 32 = .ok (.lload_n 0, 1) := by decide +kernel
theorem dX6_isKept_33 : decode cX6_isKept 33 = .ok (.ldc2_w 156, 3) := by decide +kernel
theorem dX6_isKept_36 : decode cX6_isKept 36 = .ok (.lcmp, 1) := by decide +kernel
theorem dX6_isKept_37 : decode cX6_isKept 37 = .ok (.ifCond .eq 91, 3) := by decide +kernel
theorem dX6_isKept_40 : decode cX6_isKept 40 = .ok (.lload_n 0, 1) := by decide +kernel
theorem dX6_isKept_41 : decode cX6_isKept 41 = .ok (.ldc2_w 158, 3) := by decide +kernel
theorem dX6_isKept_44 : decode cX6_isKept 44 = .ok (.lcmp, 1) := by decide +kernel
theorem dX6_isKept_45 : decode cX6_isKept 45 = .ok (.ifCond .eq 83, 3) := by decide +kernel
theorem dX6_isKept_48 : decode cX6_isKept 48 = .ok (.lload_n 0, 1) := by decide +kernel
theorem dX6_isKept_49 : decode cX6_isKept 49 = .ok (.ldc2_w 160, 3) := by decide +kernel
theorem dX6_isKept_52 : decode cX6_isKept 52 = .ok (.lcmp, 1) := by decide +kernel
theorem dX6_isKept_53 : decode cX6_isKept 53 = .ok (.ifCond .eq 75, 3) := by decide +kernel
theorem dX6_isKept_56 : decode cX6_isKept 56 = .ok (.lload_n 0, 1) := by decide +kernel
theorem dX6_isKept_57 : decode cX6_isKept 57 = .ok (.ldc2_w 162, 3) := by decide +kernel
theorem dX6_isKept_60 : decode cX6_isKept 60 = .ok (.lcmp, 1) := by decide +kernel
theorem dX6_isKept_61 : decode cX6_isKept 61 = .ok (.ifCond .eq 67, 3) := by decide +kernel
theorem dX6_isKept_64 : decode cX6_isKept 64 = .ok (.lload_n 0, 1) := by decide +kernel
theorem dX6_isKept_65 : decode cX6_isKept 65 = .ok (.ldc2_w 164, 3) := by decide +kernel
theorem dX6_isKept_68 : decode cX6_isKept 68 = .ok (.lcmp, 1) := by decide +kernel
theorem dX6_isKept_69 : decode cX6_isKept 69 = .ok (.ifCond .eq 59, 3) := by decide +kernel
theorem dX6_isKept_72 : decode cX6_isKept 72 = .ok (.lload_n 0, 1) := by decide +kernel
theorem dX6_isKept_73 : decode cX6_isKept 73 = .ok (.ldc2_w 166, 3) := by decide +kernel
theorem dX6_isKept_76 : decode cX6_isKept 76 = .ok (.lcmp, 1) := by decide +kernel
theorem dX6_isKept_77 : decode cX6_isKept 77 = .ok (.ifCond .eq 51, 3) := by decide +kernel
theorem dX6_isKept_80 : decode cX6_isKept 80 = .ok (.lload_n 0, 1) := by decide +kernel
theorem dX6_isKept_81 : decode cX6_isKept 81 = .ok (.ldc2_w 168, 3) := by decide +kernel
theorem dX6_isKept_84 : decode cX6_isKept 84 = .ok (.lcmp, 1) := by decide +kernel
theorem dX6_isKept_85 : decode cX6_isKept 85 = .ok (.ifCond .eq 43, 3) := by decide +kernel
theorem dX6_isKept_88 : decode cX6_isKept 88 = .ok (.lload_n 0, 1) := by decide +kernel
theorem dX6_isKept_89 : decode cX6_isKept 89 = .ok (.ldc2_w 170, 3) := by decide +kernel
theorem dX6_isKept_92 : decode cX6_isKept 92 = .ok (.lcmp, 1) := by decide +kernel
theorem dX6_isKept_93 : decode cX6_isKept 93 = .ok (.ifCond .eq 35, 3) := by decide +kernel
theorem dX6_isKept_96 : decode cX6_isKept 96 = .ok (.lload_n 0, 1) := by decide +kernel
theorem dX6_isKept_97 : decode cX6_isKept 97 = .ok (.ldc2_w 172, 3) := by decide +kernel
theorem dX6_isKept_100 : decode cX6_isKept 100 = .ok (.lcmp, 1) := by decide +kernel
theorem dX6_isKept_101 : decode cX6_isKept 101 = .ok (.ifCond .eq 27, 3) := by decide +kernel
theorem dX6_isKept_104 : decode cX6_isKept 104 = .ok (.lload_n 0, 1) := by decide +kernel
theorem dX6_isKept_105 : decode cX6_isKept 105 = .ok (.ldc2_w 174, 3) := by decide +kernel
theorem dX6_isKept_108 : decode cX6_isKept 108 = .ok (.lcmp, 1) := by decide +kernel
theorem dX6_isKept_109 : decode cX6_isKept 109 = .ok (.ifCond .eq 19, 3) := by decide +kernel
theorem dX6_isKept_112 : decode cX6_isKept 112 = .ok (.lload_n 0, 1) := by decide +kernel
theorem dX6_isKept_113 : decode cX6_isKept 113 = .ok (.ldc2_w 176, 3) := by decide +kernel
theorem dX6_isKept_116 : decode cX6_isKept 116 = .ok (.lcmp, 1) := by decide +kernel
theorem dX6_isKept_117 : decode cX6_isKept 117 = .ok (.ifCond .eq 11, 3) := by decide +kernel
theorem dX6_isKept_120 : decode cX6_isKept 120 = .ok (.lload_n 0, 1) := by decide +kernel
theorem dX6_isKept_121 : decode cX6_isKept 121 = .ok (.ldc2_w 178, 3) := by decide +kernel
theorem dX6_isKept_124 : decode cX6_isKept 124 = .ok (.lcmp, 1) := by decide +kernel
theorem dX6_isKept_125 : decode cX6_isKept 125 = .ok (.ifCond .ne 7, 3) := by decide +kernel
theorem dX6_isKept_128 : decode cX6_isKept 128 = .ok (.iconst 1, 1) := by decide +kernel
theorem dX6_isKept_129 : decode cX6_isKept 129 = .ok (.goto 4, 3) := by decide +kernel
theorem dX6_isKept_132 : decode cX6_isKept 132 = .ok (.iconst 0, 1) := by decide +kernel
theorem dX6_isKept_133 : decode cX6_isKept 133 = .ok (.ireturn, 1) := by decide +kernel
theorem dX6_path_0 : decode cX6_path 0 = .ok (.aload_n 0, 1) := by decide +kernel
theorem dX6_path_1 : decode cX6_path 1 = .ok (.invokevirtual 130, 3) := by decide +kernel
theorem dX6_path_4 : decode cX6_path 4 = .ok (.iconst (-1), 1) := by decide +kernel
theorem dX6_path_5 : decode cX6_path 5 = .ok (.istore_n 1, 1) := by decide +kernel
theorem dX6_path_6 : decode cX6_path 6 = .ok (.iconst 0, 1) := by decide +kernel
theorem dX6_path_7 : decode cX6_path 7 = .ok (.istore_n 2, 1) := by decide +kernel
theorem dX6_path_8 : decode cX6_path 8 = .ok (.aload_n 0, 1) := by decide +kernel
theorem dX6_path_9 : decode cX6_path 9 = .ok (.getfield 102, 3) := by decide +kernel
theorem dX6_path_12 : decode cX6_path 12 = .ok (.iconst (-1), 1) := by decide +kernel
theorem dX6_path_13 : decode cX6_path 13 = .ok (.if_icmp .ne 108, 3) := by decide +kernel
theorem dX6_path_16 : decode cX6_path 16 = .ok (.aload_n 0, 1) := by decide +kernel
theorem dX6_path_17 : decode cX6_path 17 = .ok (.aload_n 0, 1) := by decide +kernel
theorem dX6_path_18 : decode cX6_path 18 = .ok (.getfield 99, 3) := by decide +kernel
theorem dX6_path_21 : decode cX6_path 21 = .ok (.invokevirtual 118, 3) := by decide +kernel
theorem dX6_path_24 : decode cX6_path 24 = .ok (.istore_n 3, 1) := by decide +kernel
theorem dX6_path_25 : decode cX6_path 25 = .ok (.iload_n 3, 1) := by decide +kernel
theorem dX6_path_26 : decode cX6_path 26 = .ok (.ifCond .eq 17, 3) := by decide +kernel
theorem dX6_path_29 : decode cX6_path 29 = .ok (.aload_n 0, 1) := by decide +kernel
theorem dX6_path_30 : decode cX6_path 30 = .ok (.aload_n 0, 1) := by decide +kernel
theorem dX6_path_31 : decode cX6_path 31 = .ok (.getfield 99, 3) := by decide +kernel
theorem dX6_path_34 : decode cX6_path 34 = .ok (.invokevirtual 133, 3) := by decide +kernel
theorem dX6_path_37 : decode cX6_path 37 = .ok (.invokestatic 180, 3) := by decide +kernel
theorem dX6_path_40 : decode cX6_path 40 = .ok (.ifCond .eq 13, 3) := by decide +kernel
theorem dX6_path_43 : decode cX6_path 43 = .ok (.aload_n 0, 1) := by decide +kernel
theorem dX6_path_44 : decode cX6_path 44 = .ok (.aload_n 0, 1) := by decide +kernel
theorem dX6_path_45 : decode cX6_path 45 = .ok (.getfield 99, 3) := by decide +kernel
theorem dX6_path_48 : decode cX6_path 48 = .ok (.invokevirtual 144, 3) := by decide +kernel
theorem dX6_path_51 : decode cX6_path 51 = .ok (.iconst (-1), 1) := by decide +kernel
theorem dX6_path_52 : decode cX6_path 52 = .ok (.ireturn, 1) := by decide +kernel
theorem dX6_path_53 : decode cX6_path 53 = .ok (.iload_n 2, 1) := by decide +kernel
theorem dX6_path_54 : decode cX6_path 54 = .ok (.ifCond .eq 7, 3) := by decide +kernel
theorem dX6_path_57 : decode cX6_path 57 = .ok (.iconst (-1), 1) := by decide +kernel
theorem dX6_path_58 : decode cX6_path 58 = .ok (.goto 13, 3) := by decide +kernel
theorem dX6_path_61 : decode cX6_path 61 = .ok (.aload_n 0, 1) := by decide +kernel
theorem dX6_path_62 : decode cX6_path 62 = .ok (.iload_n 1, 1) := by decide +kernel
theorem dX6_path_63 : decode cX6_path 63 = .ok (.aload_n 0, 1) := by decide +kernel
theorem dX6_path_64 : decode cX6_path 64 = .ok (.getfield 99, 3) := by decide +kernel
theorem dX6_path_67 : decode cX6_path 67 = .ok (.iload_n 3, 1) := by decide +kernel
theorem dX6_path_68 : decode cX6_path 68 = .ok (.invokevirtual 122, 3) := by decide +kernel
theorem dX6_path_71 : decode cX6_path 71 = .ok (.istore_n 1, 1) := by decide +kernel
theorem dX6_path_72 : decode cX6_path 72 = .ok (.iload_n 2, 1) := by decide +kernel
theorem dX6_path_73 : decode cX6_path 73 = .ok (.ifCond .ne 8, 3) := by decide +kernel
theorem dX6_path_76 : decode cX6_path 76 = .ok (.iload_n 1, 1) := by decide +kernel
theorem dX6_path_77 : decode cX6_path 77 = .ok (.iconst (-1), 1) := by decide +kernel
theorem dX6_path_78 : decode cX6_path 78 = .ok (.if_icmp .ne 7, 3) := by decide +kernel
theorem dX6_path_81 : decode cX6_path 81 = .ok (.iconst 1, 1) := by decide +kernel
theorem dX6_path_82 : decode cX6_path 82 = .ok (.goto 4, 3) := by decide +kernel
theorem dX6_path_85 : decode cX6_path 85 = .ok (.iconst 0, 1) := by decide +kernel
theorem dX6_path_86 : decode cX6_path 86 = .ok (.istore_n 2, 1) := by decide +kernel
theorem dX6_path_87 : decode cX6_path 87 = .ok (.aload_n 0, 1) := by decide +kernel
theorem dX6_path_88 : decode cX6_path 88 = .ok (.dup, 1) := by decide +kernel
theorem dX6_path_89 : decode cX6_path 89 = .ok (.getfield 99, 3) := by decide +kernel
theorem dX6_path_92 : decode cX6_path 92 = .ok (.iload_n 3, 1) := by decide +kernel
theorem dX6_path_93 : decode cX6_path 93 = .ok (.iadd, 1) := by decide +kernel
theorem dX6_path_94 : decode cX6_path 94 = .ok (.putfield 99, 3) := by decide +kernel
theorem dX6_path_97 : decode cX6_path 97 = .ok (.aload_n 0, 1) := by decide +kernel
theorem dX6_path_98 : decode cX6_path 98 = .ok (.invokevirtual 126, 3) := by decide +kernel
theorem dX6_path_101 : decode cX6_path 101 = .ok (.bipush 46, 2) := by decide +kernel
theorem dX6_path_103 : decode cX6_path 103 = .ok (.if_icmp .eq 5, 3) := by decide +kernel
theorem dX6_path_106 : decode cX6_path 106 = .ok (.iload_n 1, 1) := by decide +kernel
theorem dX6_path_107 : decode cX6_path 107 = .ok (.ireturn, 1) := by decide +kernel
theorem dX6_path_108 : decode cX6_path 108 = .ok (.aload_n 0, 1) := by decide +kernel
theorem dX6_path_109 : decode cX6_path 109 = .ok (.dup, 1) := by decide +kernel
theorem dX6_path_110 : decode cX6_path 110 = .ok (.getfield 99, 3) := by decide +kernel
theorem dX6_path_113 : decode cX6_path 113 = .ok (.iconst 1, 1) := by decide +kernel
theorem dX6_path_114 : decode cX6_path 114 = .ok (.iadd, 1) := by decide +kernel
theorem dX6_path_115 : decode cX6_path 115 = .ok (.putfield 99, 3) := by decide +kernel
theorem dX6_path_118 : decode cX6_path 118 = .ok (.goto (-110), 3) := by decide +kernel
theorem dX6_path_121 : decode cX6_path 121 = .ok (.iconst (-1), 1) := by decide +kernel
theorem dX6_path_122 : decode cX6_path 122 = .ok (.ireturn, 1) := by decide +kernel
theorem dX6_isFlat_0 : decode cX6_isFlat 0 = .ok (.iconst 1, 1) := by decide +kernel
theorem dX6_isFlat_1 : decode cX6_isFlat 1 = .ok (.istore_n 2, 1) := by decide +kernel
theorem dX6_isFlat_2 : decode cX6_isFlat 2 = .ok (.iload_n 1, 1) := by decide +kernel
theorem dX6_isFlat_3 : decode cX6_isFlat 3 = .ok (.istore_n 3, 1) := by decide +kernel
theorem dX6_isFlat_4 : decode cX6_isFlat 4 = .ok (.iload_n 3, 1) := by decide +kernel
theorem dX6_isFlat_5 : decode cX6_isFlat 5 = .ok (.iconst (-1), 1) := by decide +kernel
theorem dX6_isFlat_6 : decode cX6_isFlat 6 = .ok (.if_icmp .eq 33, 3) := by decide +kernel
theorem dX6_isFlat_9 : decode cX6_isFlat 9 = .ok (.iload_n 2, 1) := by decide +kernel
theorem dX6_isFlat_10 : decode cX6_isFlat 10 = .ok (.ifCond .eq 17, 3) := by decide +kernel
theorem dX6_isFlat_13 : decode cX6_isFlat 13 = .ok (.aload_n 0, 1) := by decide +kernel
theorem dX6_isFlat_14 : decode cX6_isFlat 14 = .ok (.getfield 19, 3) := by decide +kernel
theorem dX6_isFlat_17 : decode cX6_isFlat 17 = .ok (.iload_n 3, 1) := by decide +kernel
theorem dX6_isFlat_18 : decode cX6_isFlat 18 = .ok (.iaload, 1) := by decide +kernel
theorem dX6_isFlat_19 : decode cX6_isFlat 19 = .ok (.iconst 2, 1) := by decide +kernel
theorem dX6_isFlat_20 : decode cX6_isFlat 20 = .ok (.if_icmp .ge 7, 3) := by decide +kernel
theorem dX6_isFlat_23 : decode cX6_isFlat 23 = .ok (.iconst 1, 1) := by decide +kernel
theorem dX6_isFlat_24 : decode cX6_isFlat 24 = .ok (.goto 4, 3) := by decide +kernel
theorem dX6_isFlat_27 : decode cX6_isFlat 27 = .ok (.iconst 0, 1) := by decide +kernel
theorem dX6_isFlat_28 : decode cX6_isFlat 28 = .ok (.istore_n 2, 1) := by decide +kernel
theorem dX6_isFlat_29 : decode cX6_isFlat 29 = .ok (.aload_n 0, 1) := by decide +kernel
theorem dX6_isFlat_30 : decode cX6_isFlat 30 = .ok (.getfield 16, 3) := by decide +kernel
theorem dX6_isFlat_33 : decode cX6_isFlat 33 = .ok (.iload_n 3, 1) := by decide +kernel
theorem dX6_isFlat_34 : decode cX6_isFlat 34 = .ok (.iaload, 1) := by decide +kernel
theorem dX6_isFlat_35 : decode cX6_isFlat 35 = .ok (.istore_n 3, 1) := by decide +kernel
theorem dX6_isFlat_36 : decode cX6_isFlat 36 = .ok (.goto (-32), 3) := by decide +kernel
theorem dX6_isFlat_39 : decode cX6_isFlat 39 = .ok (.iload_n 2, 1) := by decide +kernel
theorem dX6_isFlat_40 : decode cX6_isFlat 40 = .ok (.ireturn, 1) := by decide +kernel
theorem dX6_column_0 : decode cX6_column 0 = .ok (.aload_n 0, 1) := by decide +kernel
theorem dX6_column_1 : decode cX6_column 1 = .ok (.invokevirtual 130, 3) := by decide +kernel
theorem dX6_column_4 : decode cX6_column 4 = .ok (.aload_n 0, 1) := by decide +kernel
theorem dX6_column_5 : decode cX6_column 5 = .ok (.getfield 99, 3) := by decide +kernel
theorem dX6_column_8 : decode cX6_column 8 = .ok (.istore_n 1, 1) := by decide +kernel
theorem dX6_column_9 : decode cX6_column 9 = .ok (.aload_n 0, 1) := by decide +kernel
theorem dX6_column_10 : decode cX6_column 10 = .ok (.invokevirtual 183, 3) := by decide +kernel
theorem dX6_column_13 : decode cX6_column 13 = .ok (.istore_n 2, 1) := by decide +kernel
theorem dX6_column_14 : decode cX6_column 14 = .ok (.aload_n 0, 1) := by decide +kernel
theorem dX6_column_15 : decode cX6_column 15 = .ok (.getfield 102, 3) := by decide +kernel
theorem dX6_column_18 : decode cX6_column 18 = .ok (.iconst (-1), 1) := by decide +kernel
theorem dX6_column_19 : decode cX6_column 19 = .ok (.if_icmp .ne 31, 3) := by decide +kernel
theorem dX6_column_22 : decode cX6_column 22 = .ok (.iload_n 2, 1) := by decide +kernel
theorem dX6_column_23 : decode cX6_column 23 = .ok (.iconst (-1), 1) := by decide +kernel
theorem dX6_column_24 : decode cX6_column 24 = .ok (.if_icmp .eq 21, 3) := by decide +kernel
theorem dX6_column_27 : decode cX6_column 27 = .ok (.aload_n 0, 1) := by decide +kernel
theorem dX6_column_28 : decode cX6_column 28 = .ok (.getfield 22, 3) := by decide +kernel
theorem dX6_column_31 : decode cX6_column 31 = .ok (.iload_n 2, 1) := by decide +kernel
theorem dX6_column_32 : decode cX6_column 32 = .ok (.iaload, 1) := by decide +kernel
theorem dX6_column_33 : decode cX6_column 33 = .ok (.iconst 4, 1) := by decide +kernel
theorem dX6_column_34 : decode cX6_column 34 = .ok (.if_icmp .eq 11, 3) := by decide +kernel
theorem dX6_column_37 : decode cX6_column 37 = .ok (.aload_n 0, 1) := by decide +kernel
theorem dX6_column_38 : decode cX6_column 38 = .ok (.iload_n 2, 1) := by decide +kernel
theorem dX6_column_39 : decode cX6_column 39 = .ok (.invokevirtual 186, 3) := by decide +kernel
theorem dX6_column_42 : decode cX6_column 42 = .ok (.ifCond .ne 8, 3) := by decide +kernel
theorem dX6_column_45 : decode cX6_column 45 = .ok (.aload_n 0, 1) := by decide +kernel
theorem dX6_column_46 : decode cX6_column 46 = .ok (.iload_n 1, 1) := by decide +kernel
theorem dX6_column_47 : decode cX6_column 47 = .ok (.invokevirtual 144, 3) := by decide +kernel
theorem dX6_column_50 : decode cX6_column 50 = .ok (.iload_n 2, 1) := by decide +kernel
theorem dX6_column_51 : decode cX6_column 51 = .ok (.ireturn, 1) := by decide +kernel
theorem dX6_isWhole_0 : decode cX6_isWhole 0 = .ok (.iload_n 0, 1) := by decide +kernel
theorem dX6_isWhole_1 : decode cX6_isWhole 1 = .ok (.iconst 1, 1) := by decide +kernel
theorem dX6_isWhole_2 : decode cX6_isWhole 2 = .ok (.if_icmp .eq 8, 3) := by decide +kernel
theorem dX6_isWhole_5 : decode cX6_isWhole 5 = .ok (.iload_n 0, 1) := by decide +kernel
theorem dX6_isWhole_6 : decode cX6_isWhole 6 = .ok (.iconst 2, 1) := by decide +kernel
theorem dX6_isWhole_7 : decode cX6_isWhole 7 = .ok (.if_icmp .ne 7, 3) := by decide +kernel
theorem dX6_isWhole_10 : decode cX6_isWhole 10 = .ok (.iconst 1, 1) := by decide +kernel
theorem dX6_isWhole_11 : decode cX6_isWhole 11 = .ok (.goto 4, 3) := by decide +kernel
theorem dX6_isWhole_14 : decode cX6_isWhole 14 = .ok (.iconst 0, 1) := by decide +kernel
theorem dX6_isWhole_15 : decode cX6_isWhole 15 = .ok (.ireturn, 1) := by decide +kernel
theorem dX6_readItem_0 : decode cX6_readItem 0 = .ok (.aload_n 0, 1) := by decide +kernel
theorem dX6_readItem_1 : decode cX6_readItem 1 = .ok (.invokevirtual 130, 3) := by decide +kernel
theorem dX6_readItem_4 : decode cX6_readItem 4 = .ok (.aload_n 0, 1) := by decide +kernel
theorem dX6_readItem_5 : decode cX6_readItem 5 = .ok (.getfield 99, 3) := by decide +kernel
theorem dX6_readItem_8 : decode cX6_readItem 8 = .ok (.istore_n 1, 1) := by decide +kernel
theorem dX6_readItem_9 : decode cX6_readItem 9 = .ok (.aload_n 0, 1) := by decide +kernel
theorem dX6_readItem_10 : decode cX6_readItem 10 = .ok (.getfield 35, 3) := by decide +kernel
theorem dX6_readItem_13 : decode cX6_readItem 13 = .ok (.iconst 4, 1) := by decide +kernel
theorem dX6_readItem_14 : decode cX6_readItem 14 = .ok (.aload_n 0, 1) := by decide +kernel
theorem dX6_readItem_15 : decode cX6_readItem 15 = .ok (.getfield 189, 3) := by decide +kernel
theorem dX6_readItem_18 : decode cX6_readItem 18 = .ok (.imul, 1) := by decide +kernel
theorem dX6_readItem_19 : decode cX6_readItem 19 = .ok (.iaload, 1) := by decide +kernel
theorem dX6_readItem_20 : decode cX6_readItem 20 = .ok (.istore_n 2, 1) := by decide +kernel
theorem dX6_readItem_21 : decode cX6_readItem 21 = .ok (.iload_n 2, 1) := by decide +kernel
theorem dX6_readItem_22 : decode cX6_readItem 22 = .ok (.bipush 16, 2) := by decide +kernel
theorem dX6_readItem_24 : decode cX6_readItem 24 = .ok (.if_icmp .ne 8, 3) := by decide +kernel
theorem dX6_readItem_27 : decode cX6_readItem 27 = .ok (.aload_n 0, 1) := by decide +kernel
theorem dX6_readItem_28 : decode cX6_readItem 28 = .ok (.iload_n 1, 1) := by decide +kernel
theorem dX6_readItem_29 : decode cX6_readItem 29 = .ok (.invokevirtual 144, 3) := by decide +kernel
theorem dX6_readItem_32 : decode cX6_readItem 32 = .ok (.aload_n 0, 1) := by decide +kernel
theorem dX6_readItem_33 : decode cX6_readItem 33 = .ok (.ldc2_w 172, 3) := by decide +kernel
theorem dX6_readItem_36 : decode cX6_readItem 36 = .ok (.invokevirtual 192, 3) := by decide +kernel
theorem dX6_readItem_39 : decode cX6_readItem 39 = .ok (.ifCond .eq 7, 3) := by decide +kernel
theorem dX6_readItem_42 : decode cX6_readItem 42 = .ok (.iconst 1, 1) := by decide +kernel
theorem dX6_readItem_43 : decode cX6_readItem 43 = .ok (.goto 46, 3) := by decide +kernel
theorem dX6_readItem_46 : decode cX6_readItem 46 = .ok (.aload_n 0, 1) := by decide +kernel
theorem dX6_readItem_47 : decode cX6_readItem 47 = .ok (.ldc2_w 174, 3) := by decide +kernel
theorem dX6_readItem_50 : decode cX6_readItem 50 = .ok (.invokevirtual 192, 3) := by decide +kernel
theorem dX6_readItem_53 : decode cX6_readItem 53 = .ok (.ifCond .eq 7, 3) := by decide +kernel
theorem dX6_readItem_56 : decode cX6_readItem 56 = .ok (.iconst 3, 1) := by decide +kernel
theorem dX6_readItem_57 : decode cX6_readItem 57 = .ok (.goto 32, 3) := by decide +kernel
theorem dX6_readItem_60 : decode cX6_readItem 60 = .ok (.aload_n 0, 1) := by decide +kernel
theorem dX6_readItem_61 : decode cX6_readItem 61 = .ok (.ldc2_w 176, 3) := by decide +kernel
theorem dX6_readItem_64 : decode cX6_readItem 64 = .ok (.invokevirtual 192, 3) := by decide +kernel
theorem dX6_readItem_67 : decode cX6_readItem 67 = .ok (.ifCond .eq 7, 3) := by decide +kernel
theorem dX6_readItem_70 : decode cX6_readItem 70 = .ok (.iconst 4, 1) := by decide +kernel
theorem dX6_readItem_71 : decode cX6_readItem 71 = .ok (.goto 18, 3) := by decide +kernel
theorem dX6_readItem_74 : decode cX6_readItem 74 = .ok (.aload_n 0, 1) := by decide +kernel
theorem dX6_readItem_75 : decode cX6_readItem 75 = .ok (.ldc2_w 178, 3) := by decide +kernel
theorem dX6_readItem_78 : decode cX6_readItem 78 = .ok (.invokevirtual 192, 3) := by decide +kernel
theorem dX6_readItem_81 : decode cX6_readItem 81 = .ok (.ifCond .eq 7, 3) := by decide +kernel
theorem dX6_readItem_84 : decode cX6_readItem 84 = .ok (.iconst 5, 1) := by decide +kernel
theorem dX6_readItem_85 : decode cX6_readItem 85 = .ok (.goto 4, 3) := by decide +kernel
theorem dX6_readItem_88 : decode cX6_readItem 88 = .ok (.iconst 0, 1) := by decide +kernel
theorem dX6_readItem_89 : decode cX6_readItem 89 = .ok (.istore_n 3, 1) := by decide +kernel
theorem dX6_readItem_90 : decode cX6_readItem 90 = .ok (.iconst (-1), 1) := by decide +kernel
theorem dX6_readItem_91 : decode cX6_readItem 91 = .ok (.istore 4, 2) := by decide +kernel
theorem dX6_readItem_93 : decode cX6_readItem 93 = .ok (.aload_n 0, 1) := by decide +kernel
theorem dX6_readItem_94 : decode cX6_readItem 94 = .ok (.invokevirtual 130, 3) := by decide +kernel
theorem dX6_readItem_97 : decode cX6_readItem 97 = .ok (.iload_n 3, 1) := by decide +kernel
theorem dX6_readItem_98 : decode cX6_readItem 98 = .ok (.ifCond .ne 31, 3) := by decide +kernel
theorem dX6_readItem_101 : decode cX6_readItem 101 = .ok (.aload_n 0, 1) := by decide +kernel
theorem dX6_readItem_102 : decode cX6_readItem 102 = .ok (.invokevirtual 183, 3) := by decide +kernel
theorem dX6_readItem_105 : decode cX6_readItem 105 = .ok (.istore 4, 2) := by decide +kernel
theorem dX6_readItem_107 : decode cX6_readItem 107 = .ok (.aload_n 0, 1) := by decide +kernel
theorem dX6_readItem_108 : decode cX6_readItem 108 = .ok (.getfield 102, 3) := by decide +kernel
theorem dX6_readItem_111 : decode cX6_readItem 111 = .ok (.iconst (-1), 1) := by decide +kernel
theorem dX6_readItem_112 : decode cX6_readItem 112 = .ok (.if_icmp .ne 102, 3) := by decide +kernel
theorem dX6_readItem_115 : decode cX6_readItem 115 = .ok (.iload 4, 2) := by decide +kernel
theorem dX6_readItem_117 : decode cX6_readItem 117 = .ok (.iconst (-1), 1) := by decide +kernel
theorem dX6_readItem_118 : decode cX6_readItem 118 = .ok (.if_icmp .ne 96, 3) := by decide +kernel
theorem dX6_readItem_121 : decode cX6_readItem 121 = .ok (.aload_n 0, 1) := by decide +kernel
theorem dX6_readItem_122 : decode cX6_readItem 122 = .ok (.iload_n 1, 1) := by decide +kernel
theorem dX6_readItem_123 : decode cX6_readItem 123 = .ok (.invokevirtual 144, 3) := by decide +kernel
theorem dX6_readItem_126 : decode cX6_readItem 126 = .ok (.goto 88, 3) := by decide +kernel
theorem dX6_readItem_129 : decode cX6_readItem 129 = .ok (.iload_n 3, 1) := by decide +kernel
theorem dX6_readItem_130 : decode cX6_readItem 130 = .ok (.iconst 1, 1) := by decide +kernel
theorem dX6_readItem_131 : decode cX6_readItem 131 = .ok (.if_icmp .gt 12, 3) := by decide +kernel
theorem dX6_readItem_134 : decode cX6_readItem 134 = .ok (.aload_n 0, 1) := by decide +kernel
theorem dX6_readItem_135 : decode cX6_readItem 135 = .ok (.invokevirtual 126, 3) := by decide +kernel
theorem dX6_readItem_138 : decode cX6_readItem 138 = .ok (.bipush 40, 2) := by decide +kernel
theorem dX6_readItem_140 : decode cX6_readItem 140 = .ok (.if_icmp .ne 74, 3) := by decide +kernel
theorem dX6_readItem_143 : decode cX6_readItem 143 = .ok (.iload_n 3, 1) := by decide +kernel
theorem dX6_readItem_144 : decode cX6_readItem 144 = .ok (.iconst 1, 1) := by decide +kernel
theorem dX6_readItem_145 : decode cX6_readItem 145 = .ok (.if_icmp .ne 7, 3) := by decide +kernel
theorem dX6_readItem_148 : decode cX6_readItem 148 = .ok (.iconst 2, 1) := by decide +kernel
theorem dX6_readItem_149 : decode cX6_readItem 149 = .ok (.goto 4, 3) := by decide +kernel
theorem dX6_readItem_152 : decode cX6_readItem 152 = .ok (.iload_n 3, 1) := by decide +kernel
theorem dX6_readItem_153 : decode cX6_readItem 153 = .ok (.istore_n 3, 1) := by decide +kernel
theorem dX6_readItem_154 : decode cX6_readItem 154 = .ok (.aload_n 0, 1) := by decide +kernel
theorem dX6_readItem_155 : decode cX6_readItem 155 = .ok (.bipush 40, 2) := by decide +kernel
theorem dX6_readItem_157 : decode cX6_readItem 157 = .ok (.invokevirtual 195, 3) := by decide +kernel
theorem dX6_readItem_160 : decode cX6_readItem 160 = .ok (.aload_n 0, 1) := by decide +kernel
theorem dX6_readItem_161 : decode cX6_readItem 161 = .ok (.invokevirtual 130, 3) := by decide +kernel
theorem dX6_readItem_164 : decode cX6_readItem 164 = .ok (.aload_n 0, 1) := by decide +kernel
theorem dX6_readItem_165 : decode cX6_readItem 165 = .ok (.getfield 99, 3) := by decide +kernel
theorem dX6_readItem_168 : decode cX6_readItem 168 = .ok (.istore 5, 2) := by decide +kernel
theorem dX6_readItem_170 : decode cX6_readItem 170 = .ok (.aload_n 0, 1) := by decide +kernel
theorem dX6_readItem_171 : decode cX6_readItem 171 = .ok (.invokevirtual 198, 3) := by decide +kernel
theorem dX6_readItem_174 : decode cX6_readItem 174 = .ok (.istore 4, 2) := by decide +kernel
theorem dX6_readItem_176 : decode cX6_readItem 176 = .ok (.aload_n 0, 1) := by decide +kernel
theorem dX6_readItem_177 : decode cX6_readItem 177 = .ok (.getfield 102, 3) := by decide +kernel
theorem dX6_readItem_180 : decode cX6_readItem 180 = .ok (.iconst (-1), 1) := by decide +kernel
theorem dX6_readItem_181 : decode cX6_readItem 181 = .ok (.if_icmp .ne 27, 3) := by decide +kernel
theorem dX6_readItem_184 : decode cX6_readItem 184 = .ok (.iload_n 3, 1) := by decide +kernel
theorem dX6_readItem_185 : decode cX6_readItem 185 = .ok (.iconst 3, 1) := by decide +kernel
theorem dX6_readItem_186 : decode cX6_readItem 186 = .ok (.if_icmp .ne 22, 3) := by decide +kernel
theorem dX6_readItem_189 : decode cX6_readItem 189 = .ok (.aload_n 0, 1) := by decide +kernel
theorem dX6_readItem_190 : decode cX6_readItem 190 = .ok (.getfield 22, 3) := by decide +kernel
theorem dX6_readItem_193 : decode cX6_readItem 193 = .ok (.iload 4, 2) := by decide +kernel
theorem dX6_readItem_195 : decode cX6_readItem 195 = .ok (.iaload, 1) := by decide +kernel
theorem dX6_readItem_196 : decode cX6_readItem 196 = .ok (.invokestatic 201, 3) := by decide +kernel
theorem dX6_readItem_199 : decode cX6_readItem 199 = .ok (.ifCond .ne 9, 3) := by decide +kernel
theorem dX6_readItem_202 : decode cX6_readItem 202 = .ok (.aload_n 0, 1) := by decide +kernel
theorem dX6_readItem_203 : decode cX6_readItem 203 = .ok (.iload 5, 2) := by decide +kernel
theorem dX6_readItem_205 : decode cX6_readItem 205 = .ok (.invokevirtual 144, 3) := by decide +kernel
theorem dX6_readItem_208 : decode cX6_readItem 208 = .ok (.aload_n 0, 1) := by decide +kernel
theorem dX6_readItem_209 : decode cX6_readItem 209 = .ok (.bipush 41, 2) := by decide +kernel
theorem dX6_readItem_211 : decode cX6_readItem 211 = .ok (.invokevirtual 195, 3) := by decide +kernel
theorem dX6_readItem_214 : decode cX6_readItem 214 = .ok (.aload_n 0, 1) := by decide +kernel
theorem dX6_readItem_215 : decode cX6_readItem 215 = .ok (.getfield 102, 3) := by decide +kernel
theorem dX6_readItem_218 : decode cX6_readItem 218 = .ok (.iconst (-1), 1) := by decide +kernel
theorem dX6_readItem_219 : decode cX6_readItem 219 = .ok (.if_icmp .eq 4, 3) := by decide +kernel
theorem dX6_readItem_222 : decode cX6_readItem 222 = .ok (.return_, 1) := by decide +kernel
theorem dX6_readItem_223 : decode cX6_readItem 223 = .ok (.aload_n 0, 1) := by decide +kernel
theorem dX6_readItem_224 : decode cX6_readItem 224 = .ok (.getfield 38, 3) := by decide +kernel
theorem dX6_readItem_227 : decode cX6_readItem 227 = .ok (.bipush 16, 2) := by decide +kernel
theorem dX6_readItem_229 : decode cX6_readItem 229 = .ok (.aload_n 0, 1) := by decide +kernel
theorem dX6_readItem_230 : decode cX6_readItem 230 = .ok (.getfield 189, 3) := by decide +kernel
theorem dX6_readItem_233 : decode cX6_readItem 233 = .ok (.imul, 1) := by decide +kernel
theorem dX6_readItem_234 : decode cX6_readItem 234 = .ok (.iload_n 2, 1) := by decide +kernel
theorem dX6_readItem_235 : decode cX6_readItem 235 = .ok (.iadd, 1) := by decide +kernel
theorem dX6_readItem_236 : decode cX6_readItem 236 = .ok (.iload_n 3, 1) := by decide +kernel
theorem dX6_readItem_237 : decode cX6_readItem 237 = .ok (.iastore, 1) := by decide +kernel
theorem dX6_readItem_238 : decode cX6_readItem 238 = .ok (.aload_n 0, 1) := by decide +kernel
theorem dX6_readItem_239 : decode cX6_readItem 239 = .ok (.getfield 41, 3) := by decide +kernel
theorem dX6_readItem_242 : decode cX6_readItem 242 = .ok (.bipush 16, 2) := by decide +kernel
theorem dX6_readItem_244 : decode cX6_readItem 244 = .ok (.aload_n 0, 1) := by decide +kernel
theorem dX6_readItem_245 : decode cX6_readItem 245 = .ok (.getfield 189, 3) := by decide +kernel
theorem dX6_readItem_248 : decode cX6_readItem 248 = .ok (.imul, 1) := by decide +kernel
theorem dX6_readItem_249 : decode cX6_readItem 249 = .ok (.iload_n 2, 1) := by decide +kernel
theorem dX6_readItem_250 : decode cX6_readItem 250 = .ok (.iadd, 1) := by decide +kernel
theorem dX6_readItem_251 : decode cX6_readItem 251 = .ok (.iload 4, 2) := by decide +kernel
theorem dX6_readItem_253 : decode cX6_readItem 253 = .ok (.iastore, 1) := by decide +kernel
theorem dX6_readItem_254 : decode cX6_readItem 254 = .ok (.aload_n 0, 1) := by decide +kernel
theorem dX6_readItem_255 : decode cX6_readItem 255 = .ok (.getfield 44, 3) := by decide +kernel
theorem dX6_readItem_258 : decode cX6_readItem 258 = .ok (.bipush 16, 2) := by decide +kernel
theorem dX6_readItem_260 : decode cX6_readItem 260 = .ok (.aload_n 0, 1) := by decide +kernel
theorem dX6_readItem_261 : decode cX6_readItem 261 = .ok (.getfield 189, 3) := by decide +kernel
theorem dX6_readItem_264 : decode cX6_readItem 264 = .ok (.imul, 1) := by decide +kernel
theorem dX6_readItem_265 : decode cX6_readItem 265 = .ok (.iload_n 2, 1) := by decide +kernel
theorem dX6_readItem_266 : decode cX6_readItem 266 = .ok (.iadd, 1) := by decide +kernel
theorem dX6_readItem_267 : decode cX6_readItem 267 = .ok (.iload_n 1, 1) := by decide +kernel
theorem dX6_readItem_268 : decode cX6_readItem 268 = .ok (.iastore, 1) := by decide +kernel
theorem dX6_readItem_269 : decode cX6_readItem 269 = .ok (.aload_n 0, 1) := by decide +kernel
theorem dX6_readItem_270 : decode cX6_readItem 270 = .ok (.getfield 35, 3) := by decide +kernel
theorem dX6_readItem_273 : decode cX6_readItem 273 = .ok (.iconst 4, 1) := by decide +kernel
theorem dX6_readItem_274 : decode cX6_readItem 274 = .ok (.aload_n 0, 1) := by decide +kernel
theorem dX6_readItem_275 : decode cX6_readItem 275 = .ok (.getfield 189, 3) := by decide +kernel
theorem dX6_readItem_278 : decode cX6_readItem 278 = .ok (.imul, 1) := by decide +kernel
theorem dX6_readItem_279 : decode cX6_readItem 279 = .ok (.dup2, 1) := by decide +kernel
theorem dX6_readItem_280 : decode cX6_readItem 280 = .ok (.iaload, 1) := by decide +kernel
theorem dX6_readItem_281 : decode cX6_readItem 281 = .ok (.iconst 1, 1) := by decide +kernel
theorem dX6_readItem_282 : decode cX6_readItem 282 = .ok (.iadd, 1) := by decide +kernel
theorem dX6_readItem_283 : decode cX6_readItem 283 = .ok (.iastore, 1) := by decide +kernel
theorem dX6_readItem_284 : decode cX6_readItem 284 = .ok (.return_, 1) := by decide +kernel
theorem dX6_isBy_0 : decode cX6_isBy 0 = .ok (.iconst 0, 1) := by decide +kernel
theorem dX6_isBy_1 : decode cX6_isBy 1 = .ok (.istore_n 2, 1) := by decide +kernel
theorem dX6_isBy_2 : decode cX6_isBy 2 = .ok (.iconst 0, 1) := by decide +kernel
theorem dX6_isBy_3 : decode cX6_isBy 3 = .ok (.istore_n 3, 1) := by decide +kernel
theorem dX6_isBy_4 : decode cX6_isBy 4 = .ok (.iload_n 3, 1) := by decide +kernel
theorem dX6_isBy_5 : decode cX6_isBy 5 = .ok (.aload_n 0, 1) := by decide +kernel
theorem dX6_isBy_6 : decode cX6_isBy 6 = .ok (.getfield 35, 3) := by decide +kernel
theorem dX6_isBy_9 : decode cX6_isBy 9 = .ok (.iconst 4, 1) := by decide +kernel
theorem dX6_isBy_10 : decode cX6_isBy 10 = .ok (.aload_n 0, 1) := by decide +kernel
theorem dX6_isBy_11 : decode cX6_isBy 11 = .ok (.getfield 189, 3) := by decide +kernel
theorem dX6_isBy_14 : decode cX6_isBy 14 = .ok (.imul, 1) := by decide +kernel
theorem dX6_isBy_15 : decode cX6_isBy 15 = .ok (.iconst 1, 1) := by decide +kernel
theorem dX6_isBy_16 : decode cX6_isBy 16 = .ok (.iadd, 1) := by decide +kernel
theorem dX6_isBy_17 : decode cX6_isBy 17 = .ok (.iaload, 1) := by decide +kernel
theorem dX6_isBy_18 : decode cX6_isBy 18 = .ok (.if_icmp .ge 37, 3) := by decide +kernel
theorem dX6_isBy_21 : decode cX6_isBy 21 = .ok (.iload_n 2, 1) := by decide +kernel
theorem dX6_isBy_22 : decode cX6_isBy 22 = .ok (.ifCond .ne 21, 3) := by decide +kernel
theorem dX6_isBy_25 : decode cX6_isBy 25 = .ok (.aload_n 0, 1) := by decide +kernel
theorem dX6_isBy_26 : decode cX6_isBy 26 = .ok (.getfield 47, 3) := by decide +kernel
theorem dX6_isBy_29 : decode cX6_isBy 29 = .ok (.bipush 8, 2) := by decide +kernel
theorem dX6_isBy_31 : decode cX6_isBy 31 = .ok (.aload_n 0, 1) := by decide +kernel
theorem dX6_isBy_32 : decode cX6_isBy 32 = .ok (.getfield 189, 3) := by decide +kernel
theorem dX6_isBy_35 : decode cX6_isBy 35 = .ok (.imul, 1) := by decide +kernel
theorem dX6_isBy_36 : decode cX6_isBy 36 = .ok (.iload_n 3, 1) := by decide +kernel
theorem dX6_isBy_37 : decode cX6_isBy 37 = .ok (.iadd, 1) := by decide +kernel
theorem dX6_isBy_38 : decode cX6_isBy 38 = .ok (.iaload, 1) := by decide +kernel
theorem dX6_isBy_39 : decode cX6_isBy 39 = .ok (.iload_n 1, 1) := by decide +kernel
theorem dX6_isBy_40 : decode cX6_isBy 40 = .ok (.if_icmp .ne 7, 3) := by decide +kernel
theorem dX6_isBy_43 : decode cX6_isBy 43 = .ok (.iconst 1, 1) := by decide +kernel
theorem dX6_isBy_44 : decode cX6_isBy 44 = .ok (.goto 4, 3) := by decide +kernel
theorem dX6_isBy_47 : decode cX6_isBy 47 = .ok (.iconst 0, 1) := by decide +kernel
theorem dX6_isBy_48 : decode cX6_isBy 48 = .ok (.istore_n 2, 1) := by decide +kernel
theorem dX6_isBy_49 : decode cX6_isBy 49 = .ok (.iinc 3 1, 3) := by decide +kernel
theorem dX6_isBy_52 : decode cX6_isBy 52 = .ok (.goto (-48), 3) := by decide +kernel
theorem dX6_isBy_55 : decode cX6_isBy 55 = .ok (.iload_n 2, 1) := by decide +kernel
theorem dX6_isBy_56 : decode cX6_isBy 56 = .ok (.ireturn, 1) := by decide +kernel
theorem dX6_readBy_0 : decode cX6_readBy 0 = .ok (.aload_n 0, 1) := by decide +kernel
theorem dX6_readBy_1 : decode cX6_readBy 1 = .ok (.invokevirtual 130, 3) := by decide +kernel
theorem dX6_readBy_4 : decode cX6_readBy 4 = .ok (.aload_n 0, 1) := by decide +kernel
theorem dX6_readBy_5 : decode cX6_readBy 5 = .ok (.getfield 99, 3) := by decide +kernel
theorem dX6_readBy_8 : decode cX6_readBy 8 = .ok (.istore_n 1, 1) := by decide +kernel
theorem dX6_readBy_9 : decode cX6_readBy 9 = .ok (.aload_n 0, 1) := by decide +kernel
theorem dX6_readBy_10 : decode cX6_readBy 10 = .ok (.getfield 35, 3) := by decide +kernel
theorem dX6_readBy_13 : decode cX6_readBy 13 = .ok (.iconst 4, 1) := by decide +kernel
theorem dX6_readBy_14 : decode cX6_readBy 14 = .ok (.aload_n 0, 1) := by decide +kernel
theorem dX6_readBy_15 : decode cX6_readBy 15 = .ok (.getfield 189, 3) := by decide +kernel
theorem dX6_readBy_18 : decode cX6_readBy 18 = .ok (.imul, 1) := by decide +kernel
theorem dX6_readBy_19 : decode cX6_readBy 19 = .ok (.iconst 1, 1) := by decide +kernel
theorem dX6_readBy_20 : decode cX6_readBy 20 = .ok (.iadd, 1) := by decide +kernel
theorem dX6_readBy_21 : decode cX6_readBy 21 = .ok (.iaload, 1) := by decide +kernel
theorem dX6_readBy_22 : decode cX6_readBy 22 = .ok (.bipush 8, 2) := by decide +kernel
theorem dX6_readBy_24 : decode cX6_readBy 24 = .ok (.if_icmp .ne 8, 3) := by decide +kernel
theorem dX6_readBy_27 : decode cX6_readBy 27 = .ok (.aload_n 0, 1) := by decide +kernel
theorem dX6_readBy_28 : decode cX6_readBy 28 = .ok (.iload_n 1, 1) := by decide +kernel
theorem dX6_readBy_29 : decode cX6_readBy 29 = .ok (.invokevirtual 144, 3) := by decide +kernel
theorem dX6_readBy_32 : decode cX6_readBy 32 = .ok (.aload_n 0, 1) := by decide +kernel
theorem dX6_readBy_33 : decode cX6_readBy 33 = .ok (.invokevirtual 198, 3) := by decide +kernel
theorem dX6_readBy_36 : decode cX6_readBy 36 = .ok (.istore_n 2, 1) := by decide +kernel
theorem dX6_readBy_37 : decode cX6_readBy 37 = .ok (.aload_n 0, 1) := by decide +kernel
theorem dX6_readBy_38 : decode cX6_readBy 38 = .ok (.getfield 102, 3) := by decide +kernel
theorem dX6_readBy_41 : decode cX6_readBy 41 = .ok (.iconst (-1), 1) := by decide +kernel
theorem dX6_readBy_42 : decode cX6_readBy 42 = .ok (.if_icmp .ne 16, 3) := by decide +kernel
theorem dX6_readBy_45 : decode cX6_readBy 45 = .ok (.aload_n 0, 1) := by decide +kernel
theorem dX6_readBy_46 : decode cX6_readBy 46 = .ok (.iload_n 2, 1) := by decide +kernel
theorem dX6_readBy_47 : decode cX6_readBy 47 = .ok (.invokevirtual 204, 3) := by decide +kernel
theorem dX6_readBy_50 : decode cX6_readBy 50 = .ok (.ifCond .eq 8, 3) := by decide +kernel
theorem dX6_readBy_53 : decode cX6_readBy 53 = .ok (.aload_n 0, 1) := by decide +kernel
theorem dX6_readBy_54 : decode cX6_readBy 54 = .ok (.iload_n 1, 1) := by decide +kernel
theorem dX6_readBy_55 : decode cX6_readBy 55 = .ok (.invokevirtual 144, 3) := by decide +kernel
theorem dX6_readBy_58 : decode cX6_readBy 58 = .ok (.aload_n 0, 1) := by decide +kernel
theorem dX6_readBy_59 : decode cX6_readBy 59 = .ok (.getfield 102, 3) := by decide +kernel
theorem dX6_readBy_62 : decode cX6_readBy 62 = .ok (.iconst (-1), 1) := by decide +kernel
theorem dX6_readBy_63 : decode cX6_readBy 63 = .ok (.if_icmp .eq 4, 3) := by decide +kernel
theorem dX6_readBy_66 : decode cX6_readBy 66 = .ok (.return_, 1) := by decide +kernel
theorem dX6_readBy_67 : decode cX6_readBy 67 = .ok (.aload_n 0, 1) := by decide +kernel
theorem dX6_readBy_68 : decode cX6_readBy 68 = .ok (.getfield 47, 3) := by decide +kernel
theorem dX6_readBy_71 : decode cX6_readBy 71 = .ok (.bipush 8, 2) := by decide +kernel
theorem dX6_readBy_73 : decode cX6_readBy 73 = .ok (.aload_n 0, 1) := by decide +kernel
theorem dX6_readBy_74 : decode cX6_readBy 74 = .ok (.getfield 189, 3) := by decide +kernel
theorem dX6_readBy_77 : decode cX6_readBy 77 = .ok (.imul, 1) := by decide +kernel
theorem dX6_readBy_78 : decode cX6_readBy 78 = .ok (.aload_n 0, 1) := by decide +kernel
theorem dX6_readBy_79 : decode cX6_readBy 79 = .ok (.getfield 35, 3) := by decide +kernel
theorem dX6_readBy_82 : decode cX6_readBy 82 = .ok (.iconst 4, 1) := by decide +kernel
theorem dX6_readBy_83 : decode cX6_readBy 83 = .ok (.aload_n 0, 1) := by decide +kernel
theorem dX6_readBy_84 : decode cX6_readBy 84 = .ok (.getfield 189, 3) := by decide +kernel
theorem dX6_readBy_87 : decode cX6_readBy 87 = .ok (.imul, 1) := by decide +kernel
theorem dX6_readBy_88 : decode cX6_readBy 88 = .ok (.iconst 1, 1) := by decide +kernel
theorem dX6_readBy_89 : decode cX6_readBy 89 = .ok (.iadd, 1) := by decide +kernel
theorem dX6_readBy_90 : decode cX6_readBy 90 = .ok (.iaload, 1) := by decide +kernel
theorem dX6_readBy_91 : decode cX6_readBy 91 = .ok (.iadd, 1) := by decide +kernel
theorem dX6_readBy_92 : decode cX6_readBy 92 = .ok (.iload_n 2, 1) := by decide +kernel
theorem dX6_readBy_93 : decode cX6_readBy 93 = .ok (.iastore, 1) := by decide +kernel
theorem dX6_readBy_94 : decode cX6_readBy 94 = .ok (.aload_n 0, 1) := by decide +kernel
theorem dX6_readBy_95 : decode cX6_readBy 95 = .ok (.getfield 35, 3) := by decide +kernel
theorem dX6_readBy_98 : decode cX6_readBy 98 = .ok (.iconst 4, 1) := by decide +kernel
theorem dX6_readBy_99 : decode cX6_readBy 99 = .ok (.aload_n 0, 1) := by decide +kernel
theorem dX6_readBy_100 : decode cX6_readBy 100 = .ok (.getfield 189, 3) := by decide +kernel
theorem dX6_readBy_103 : decode cX6_readBy 103 = .ok (.imul, 1) := by decide +kernel
theorem dX6_readBy_104 : decode cX6_readBy 104 = .ok (.iconst 1, 1) := by decide +kernel
theorem dX6_readBy_105 : decode cX6_readBy 105 = .ok (.iadd, 1) := by decide +kernel
theorem dX6_readBy_106 : decode cX6_readBy 106 = .ok (.dup2, 1) := by decide +kernel
theorem dX6_readBy_107 : decode cX6_readBy 107 = .ok (.iaload, 1) := by decide +kernel
theorem dX6_readBy_108 : decode cX6_readBy 108 = .ok (.iconst 1, 1) := by decide +kernel
theorem dX6_readBy_109 : decode cX6_readBy 109 = .ok (.iadd, 1) := by decide +kernel
theorem dX6_readBy_110 : decode cX6_readBy 110 = .ok (.iastore, 1) := by decide +kernel
theorem dX6_readBy_111 : decode cX6_readBy 111 = .ok (.return_, 1) := by decide +kernel
theorem dX6_addStep_0 : decode cX6_addStep 0 = .ok (.aload_n 0, 1) := by decide +kernel
theorem dX6_addStep_1 : decode cX6_addStep 1 = .ok (.getfield 35, 3) := by decide +kernel
theorem dX6_addStep_4 : decode cX6_addStep 4 = .ok (.iconst 4, 1) := by decide +kernel
theorem dX6_addStep_5 : decode cX6_addStep 5 = .ok (.aload_n 0, 1) := by decide +kernel
theorem dX6_addStep_6 : decode cX6_addStep 6 = .ok (.getfield 189, 3) := by decide +kernel
theorem dX6_addStep_9 : decode cX6_addStep 9 = .ok (.imul, 1) := by decide +kernel
theorem dX6_addStep_10 : decode cX6_addStep 10 = .ok (.iconst 2, 1) := by decide +kernel
theorem dX6_addStep_11 : decode cX6_addStep 11 = .ok (.iadd, 1) := by decide +kernel
theorem dX6_addStep_12 : decode cX6_addStep 12 = .ok (.iaload, 1) := by decide +kernel
theorem dX6_addStep_13 : decode cX6_addStep 13 = .ok (.bipush 64, 2) := by decide +kernel
theorem dX6_addStep_15 : decode cX6_addStep 15 = .ok (.if_icmp .ne 8, 3) := by decide +kernel
theorem dX6_addStep_18 : decode cX6_addStep 18 = .ok (.aload_n 0, 1) := by decide +kernel
theorem dX6_addStep_19 : decode cX6_addStep 19 = .ok (.iload_n 1, 1) := by decide +kernel
theorem dX6_addStep_20 : decode cX6_addStep 20 = .ok (.invokevirtual 144, 3) := by decide +kernel
theorem dX6_addStep_23 : decode cX6_addStep 23 = .ok (.aload_n 0, 1) := by decide +kernel
theorem dX6_addStep_24 : decode cX6_addStep 24 = .ok (.getfield 102, 3) := by decide +kernel
theorem dX6_addStep_27 : decode cX6_addStep 27 = .ok (.iconst (-1), 1) := by decide +kernel
theorem dX6_addStep_28 : decode cX6_addStep 28 = .ok (.if_icmp .eq 4, 3) := by decide +kernel
theorem dX6_addStep_31 : decode cX6_addStep 31 = .ok (.return_, 1) := by decide +kernel
theorem dX6_addStep_32 : decode cX6_addStep 32 = .ok (.bipush 64, 2) := by decide +kernel
theorem dX6_addStep_34 : decode cX6_addStep 34 = .ok (.aload_n 0, 1) := by decide +kernel
theorem dX6_addStep_35 : decode cX6_addStep 35 = .ok (.getfield 189, 3) := by decide +kernel
theorem dX6_addStep_38 : decode cX6_addStep 38 = .ok (.imul, 1) := by decide +kernel
theorem dX6_addStep_39 : decode cX6_addStep 39 = .ok (.aload_n 0, 1) := by decide +kernel
theorem dX6_addStep_40 : decode cX6_addStep 40 = .ok (.getfield 35, 3) := by decide +kernel
theorem dX6_addStep_43 : decode cX6_addStep 43 = .ok (.iconst 4, 1) := by decide +kernel
theorem dX6_addStep_44 : decode cX6_addStep 44 = .ok (.aload_n 0, 1) := by decide +kernel
theorem dX6_addStep_45 : decode cX6_addStep 45 = .ok (.getfield 189, 3) := by decide +kernel
theorem dX6_addStep_48 : decode cX6_addStep 48 = .ok (.imul, 1) := by decide +kernel
theorem dX6_addStep_49 : decode cX6_addStep 49 = .ok (.iconst 2, 1) := by decide +kernel
theorem dX6_addStep_50 : decode cX6_addStep 50 = .ok (.iadd, 1) := by decide +kernel
theorem dX6_addStep_51 : decode cX6_addStep 51 = .ok (.iaload, 1) := by decide +kernel
theorem dX6_addStep_52 : decode cX6_addStep 52 = .ok (.iadd, 1) := by decide +kernel
theorem dX6_addStep_53 : decode cX6_addStep 53 = .ok (.istore 7, 2) := by decide +kernel
theorem dX6_addStep_55 : decode cX6_addStep 55 = .ok (.aload_n 0, 1) := by decide +kernel
theorem dX6_addStep_56 : decode cX6_addStep 56 = .ok (.getfield 50, 3) := by decide +kernel
theorem dX6_addStep_59 : decode cX6_addStep 59 = .ok (.iload 7, 2) := by decide +kernel
theorem dX6_addStep_61 : decode cX6_addStep 61 = .ok (.iload_n 2, 1) := by decide +kernel
theorem dX6_addStep_62 : decode cX6_addStep 62 = .ok (.iastore, 1) := by decide +kernel
theorem dX6_addStep_63 : decode cX6_addStep 63 = .ok (.aload_n 0, 1) := by decide +kernel
theorem dX6_addStep_64 : decode cX6_addStep 64 = .ok (.getfield 53, 3) := by decide +kernel
theorem dX6_addStep_67 : decode cX6_addStep 67 = .ok (.iload 7, 2) := by decide +kernel
theorem dX6_addStep_69 : decode cX6_addStep 69 = .ok (.iload_n 3, 1) := by decide +kernel
theorem dX6_addStep_70 : decode cX6_addStep 70 = .ok (.iastore, 1) := by decide +kernel
theorem dX6_addStep_71 : decode cX6_addStep 71 = .ok (.aload_n 0, 1) := by decide +kernel
theorem dX6_addStep_72 : decode cX6_addStep 72 = .ok (.getfield 56, 3) := by decide +kernel
theorem dX6_addStep_75 : decode cX6_addStep 75 = .ok (.iload 7, 2) := by decide +kernel
theorem dX6_addStep_77 : decode cX6_addStep 77 = .ok (.iload 4, 2) := by decide +kernel
theorem dX6_addStep_79 : decode cX6_addStep 79 = .ok (.iastore, 1) := by decide +kernel
theorem dX6_addStep_80 : decode cX6_addStep 80 = .ok (.aload_n 0, 1) := by decide +kernel
theorem dX6_addStep_81 : decode cX6_addStep 81 = .ok (.getfield 59, 3) := by decide +kernel
theorem dX6_addStep_84 : decode cX6_addStep 84 = .ok (.iload 7, 2) := by decide +kernel
theorem dX6_addStep_86 : decode cX6_addStep 86 = .ok (.iload 5, 2) := by decide +kernel
theorem dX6_addStep_88 : decode cX6_addStep 88 = .ok (.iastore, 1) := by decide +kernel
theorem dX6_addStep_89 : decode cX6_addStep 89 = .ok (.aload_n 0, 1) := by decide +kernel
theorem dX6_addStep_90 : decode cX6_addStep 90 = .ok (.getfield 62, 3) := by decide +kernel
theorem dX6_addStep_93 : decode cX6_addStep 93 = .ok (.iload 7, 2) := by decide +kernel
theorem dX6_addStep_95 : decode cX6_addStep 95 = .ok (.iload 6, 2) := by decide +kernel
theorem dX6_addStep_97 : decode cX6_addStep 97 = .ok (.iastore, 1) := by decide +kernel
theorem dX6_addStep_98 : decode cX6_addStep 98 = .ok (.aload_n 0, 1) := by decide +kernel
theorem dX6_addStep_99 : decode cX6_addStep 99 = .ok (.getfield 35, 3) := by decide +kernel
theorem dX6_addStep_102 : decode cX6_addStep 102 = .ok (.iconst 4, 1) := by decide +kernel
theorem dX6_addStep_103 : decode cX6_addStep 103 = .ok (.aload_n 0, 1) := by decide +kernel
theorem dX6_addStep_104 : decode cX6_addStep 104 = .ok (.getfield 189, 3) := by decide +kernel
theorem dX6_addStep_107 : decode cX6_addStep 107 = .ok (.imul, 1) := by decide +kernel
theorem dX6_addStep_108 : decode cX6_addStep 108 = .ok (.iconst 2, 1) := by decide +kernel
theorem dX6_addStep_109 : decode cX6_addStep 109 = .ok (.iadd, 1) := by decide +kernel
theorem dX6_addStep_110 : decode cX6_addStep 110 = .ok (.dup2, 1) := by decide +kernel
theorem dX6_addStep_111 : decode cX6_addStep 111 = .ok (.iaload, 1) := by decide +kernel
theorem dX6_addStep_112 : decode cX6_addStep 112 = .ok (.iconst 1, 1) := by decide +kernel
theorem dX6_addStep_113 : decode cX6_addStep 113 = .ok (.iadd, 1) := by decide +kernel
theorem dX6_addStep_114 : decode cX6_addStep 114 = .ok (.iastore, 1) := by decide +kernel
theorem dX6_addStep_115 : decode cX6_addStep 115 = .ok (.return_, 1) := by decide +kernel
theorem dX6_push_0 : decode cX6_push 0 = .ok (.aload_n 0, 1) := by decide +kernel
theorem dX6_push_1 : decode cX6_push 1 = .ok (.getfield 84, 3) := by decide +kernel
theorem dX6_push_4 : decode cX6_push 4 = .ok (.aload_n 0, 1) := by decide +kernel
theorem dX6_push_5 : decode cX6_push 5 = .ok (.getfield 207, 3) := by decide +kernel
theorem dX6_push_8 : decode cX6_push 8 = .ok (.iload_n 1, 1) := by decide +kernel
theorem dX6_push_9 : decode cX6_push 9 = .ok (.iastore, 1) := by decide +kernel
theorem dX6_push_10 : decode cX6_push 10 = .ok (.aload_n 0, 1) := by decide +kernel
theorem dX6_push_11 : decode cX6_push 11 = .ok (.getfield 87, 3) := by decide +kernel
theorem dX6_push_14 : decode cX6_push 14 = .ok (.aload_n 0, 1) := by decide +kernel
theorem dX6_push_15 : decode cX6_push 15 = .ok (.getfield 207, 3) := by decide +kernel
theorem dX6_push_18 : decode cX6_push 18 = .ok (.iload_n 2, 1) := by decide +kernel
theorem dX6_push_19 : decode cX6_push 19 = .ok (.iastore, 1) := by decide +kernel
theorem dX6_push_20 : decode cX6_push 20 = .ok (.aload_n 0, 1) := by decide +kernel
theorem dX6_push_21 : decode cX6_push 21 = .ok (.dup, 1) := by decide +kernel
theorem dX6_push_22 : decode cX6_push 22 = .ok (.getfield 207, 3) := by decide +kernel
theorem dX6_push_25 : decode cX6_push 25 = .ok (.iconst 1, 1) := by decide +kernel
theorem dX6_push_26 : decode cX6_push 26 = .ok (.iadd, 1) := by decide +kernel
theorem dX6_push_27 : decode cX6_push 27 = .ok (.putfield 207, 3) := by decide +kernel
theorem dX6_push_30 : decode cX6_push 30 = .ok (.return_, 1) := by decide +kernel
theorem dX6_joins_0 : decode cX6_joins 0 = .ok (.aload_n 0, 1) := by decide +kernel
theorem dX6_joins_1 : decode cX6_joins 1 = .ok (.getfield 207, 3) := by decide +kernel
theorem dX6_joins_4 : decode cX6_joins 4 = .ok (.ifCond .le 78, 3) := by decide +kernel
theorem dX6_joins_7 : decode cX6_joins 7 = .ok (.aload_n 0, 1) := by decide +kernel
theorem dX6_joins_8 : decode cX6_joins 8 = .ok (.getfield 84, 3) := by decide +kernel
theorem dX6_joins_11 : decode cX6_joins 11 = .ok (.aload_n 0, 1) := by decide +kernel
theorem dX6_joins_12 : decode cX6_joins 12 = .ok (.getfield 207, 3) := by decide +kernel
theorem dX6_joins_15 : decode cX6_joins 15 = .ok (.iconst 1, 1) := by decide +kernel
theorem dX6_joins_16 : decode cX6_joins 16 = .ok (.isub, 1) := by decide +kernel
theorem dX6_joins_17 : decode cX6_joins 17 = .ok (.iaload, 1) := by decide +kernel
theorem dX6_joins_18 : decode cX6_joins 18 = .ok (.iload_n 1, 1) := by decide +kernel
theorem dX6_joins_19 : decode cX6_joins 19 = .ok (.if_icmp .ne 63, 3) := by decide +kernel
theorem dX6_joins_22 : decode cX6_joins 22 = .ok (.aload_n 0, 1) := by decide +kernel
theorem dX6_joins_23 : decode cX6_joins 23 = .ok (.getfield 102, 3) := by decide +kernel
theorem dX6_joins_26 : decode cX6_joins 26 = .ok (.iconst (-1), 1) := by decide +kernel
theorem dX6_joins_27 : decode cX6_joins 27 = .ok (.if_icmp .ne 55, 3) := by decide +kernel
theorem dX6_joins_30 : decode cX6_joins 30 = .ok (.aload_n 0, 1) := by decide +kernel
theorem dX6_joins_31 : decode cX6_joins 31 = .ok (.dup, 1) := by decide +kernel
theorem dX6_joins_32 : decode cX6_joins 32 = .ok (.getfield 207, 3) := by decide +kernel
theorem dX6_joins_35 : decode cX6_joins 35 = .ok (.iconst 1, 1) := by decide +kernel
theorem dX6_joins_36 : decode cX6_joins 36 = .ok (.isub, 1) := by decide +kernel
theorem dX6_joins_37 : decode cX6_joins 37 = .ok (.putfield 207, 3) := by decide +kernel
theorem dX6_joins_40 : decode cX6_joins 40 = .ok (.aload_n 0, 1) := by decide +kernel
theorem dX6_joins_41 : decode cX6_joins 41 = .ok (.dup, 1) := by decide +kernel
theorem dX6_joins_42 : decode cX6_joins 42 = .ok (.getfield 210, 3) := by decide +kernel
theorem dX6_joins_45 : decode cX6_joins 45 = .ok (.iload_n 1, 1) := by decide +kernel
theorem dX6_joins_46 : decode cX6_joins 46 = .ok (.iconst 1, 1) := by decide +kernel
theorem dX6_joins_47 : decode cX6_joins 47 = .ok (.if_icmp .ne 7, 3) := by decide +kernel
theorem dX6_joins_50 : decode cX6_joins 50 = .ok (.iconst 1, 1) := by decide +kernel
theorem dX6_joins_51 : decode cX6_joins 51 = .ok (.goto 4, 3) := by decide +kernel
theorem dX6_joins_54 : decode cX6_joins 54 = .ok (.iconst 0, 1) := by decide +kernel
theorem dX6_joins_55 : decode cX6_joins 55 = .ok (.isub, 1) := by decide +kernel
theorem dX6_joins_56 : decode cX6_joins 56 = .ok (.putfield 210, 3) := by decide +kernel
theorem dX6_joins_59 : decode cX6_joins 59 = .ok (.aload_n 0, 1) := by decide +kernel
theorem dX6_joins_60 : decode cX6_joins 60 = .ok (.aload_n 0, 1) := by decide +kernel
theorem dX6_joins_61 : decode cX6_joins 61 = .ok (.getfield 87, 3) := by decide +kernel
theorem dX6_joins_64 : decode cX6_joins 64 = .ok (.aload_n 0, 1) := by decide +kernel
theorem dX6_joins_65 : decode cX6_joins 65 = .ok (.getfield 207, 3) := by decide +kernel
theorem dX6_joins_68 : decode cX6_joins 68 = .ok (.iaload, 1) := by decide +kernel
theorem dX6_joins_69 : decode cX6_joins 69 = .ok (.iload_n 1, 1) := by decide +kernel
theorem dX6_joins_70 : decode cX6_joins 70 = .ok (.iconst 4, 1) := by decide +kernel
theorem dX6_joins_71 : decode cX6_joins 71 = .ok (.iadd, 1) := by decide +kernel
theorem dX6_joins_72 : decode cX6_joins 72 = .ok (.iconst (-1), 1) := by decide +kernel
theorem dX6_joins_73 : decode cX6_joins 73 = .ok (.iconst (-1), 1) := by decide +kernel
theorem dX6_joins_74 : decode cX6_joins 74 = .ok (.iconst (-1), 1) := by decide +kernel
theorem dX6_joins_75 : decode cX6_joins 75 = .ok (.iconst 0, 1) := by decide +kernel
theorem dX6_joins_76 : decode cX6_joins 76 = .ok (.invokevirtual 213, 3) := by decide +kernel
theorem dX6_joins_79 : decode cX6_joins 79 = .ok (.goto (-79), 3) := by decide +kernel
theorem dX6_joins_82 : decode cX6_joins 82 = .ok (.return_, 1) := by decide +kernel
theorem dX6_readTest_0 : decode cX6_readTest 0 = .ok (.aload_n 0, 1) := by decide +kernel
theorem dX6_readTest_1 : decode cX6_readTest 1 = .ok (.getfield 102, 3) := by decide +kernel
theorem dX6_readTest_4 : decode cX6_readTest 4 = .ok (.iconst (-1), 1) := by decide +kernel
theorem dX6_readTest_5 : decode cX6_readTest 5 = .ok (.if_icmp .ne 85, 3) := by decide +kernel
theorem dX6_readTest_8 : decode cX6_readTest 8 = .ok (.aload_n 0, 1) := by decide +kernel
theorem dX6_readTest_9 : decode cX6_readTest 9 = .ok (.invokevirtual 130, 3) := by decide +kernel
theorem dX6_readTest_12 : decode cX6_readTest 12 = .ok (.aload_n 0, 1) := by decide +kernel
theorem dX6_readTest_13 : decode cX6_readTest 13 = .ok (.getfield 99, 3) := by decide +kernel
theorem dX6_readTest_16 : decode cX6_readTest 16 = .ok (.istore_n 1, 1) := by decide +kernel
theorem dX6_readTest_17 : decode cX6_readTest 17 = .ok (.aload_n 0, 1) := by decide +kernel
theorem dX6_readTest_18 : decode cX6_readTest 18 = .ok (.ldc2_w 160, 3) := by decide +kernel
theorem dX6_readTest_21 : decode cX6_readTest 21 = .ok (.invokevirtual 192, 3) := by decide +kernel
theorem dX6_readTest_24 : decode cX6_readTest 24 = .ok (.ifCond .eq 7, 3) := by decide +kernel
theorem dX6_readTest_27 : decode cX6_readTest 27 = .ok (.iconst 1, 1) := by decide +kernel
theorem dX6_readTest_28 : decode cX6_readTest 28 = .ok (.goto 17, 3) := by decide +kernel
theorem dX6_readTest_31 : decode cX6_readTest 31 = .ok (.aload_n 0, 1) := by decide +kernel
theorem dX6_readTest_32 : decode cX6_readTest 32 = .ok (.bipush 40, 2) := by decide +kernel
theorem dX6_readTest_34 : decode cX6_readTest 34 = .ok (.invokevirtual 141, 3) := by decide +kernel
theorem dX6_readTest_37 : decode cX6_readTest 37 = .ok (.ifCond .eq 7, 3) := by decide +kernel
theorem dX6_readTest_40 : decode cX6_readTest 40 = .ok (.iconst 0, 1) := by decide +kernel
theorem dX6_readTest_41 : decode cX6_readTest 41 = .ok (.goto 4, 3) := by decide +kernel
theorem dX6_readTest_44 : decode cX6_readTest 44 = .ok (.iconst (-1), 1) := by decide +kernel
theorem dX6_readTest_45 : decode cX6_readTest 45 = .ok (.istore_n 2, 1) := by decide +kernel
theorem dX6_readTest_46 : decode cX6_readTest 46 = .ok (.iload_n 2, 1) := by decide +kernel
theorem dX6_readTest_47 : decode cX6_readTest 47 = .ok (.iconst (-1), 1) := by decide +kernel
theorem dX6_readTest_48 : decode cX6_readTest 48 = .ok (.if_icmp .ne 9, 3) := by decide +kernel
theorem dX6_readTest_51 : decode cX6_readTest 51 = .ok (.aload_n 0, 1) := by decide +kernel
theorem dX6_readTest_52 : decode cX6_readTest 52 = .ok (.iload_n 1, 1) := by decide +kernel
theorem dX6_readTest_53 : decode cX6_readTest 53 = .ok (.invokevirtual 217, 3) := by decide +kernel
theorem dX6_readTest_56 : decode cX6_readTest 56 = .ok (.return_, 1) := by decide +kernel
theorem dX6_readTest_57 : decode cX6_readTest 57 = .ok (.aload_n 0, 1) := by decide +kernel
theorem dX6_readTest_58 : decode cX6_readTest 58 = .ok (.getfield 210, 3) := by decide +kernel
theorem dX6_readTest_61 : decode cX6_readTest 61 = .ok (.bipush 32, 2) := by decide +kernel
theorem dX6_readTest_63 : decode cX6_readTest 63 = .ok (.if_icmp .ne 8, 3) := by decide +kernel
theorem dX6_readTest_66 : decode cX6_readTest 66 = .ok (.aload_n 0, 1) := by decide +kernel
theorem dX6_readTest_67 : decode cX6_readTest 67 = .ok (.iload_n 1, 1) := by decide +kernel
theorem dX6_readTest_68 : decode cX6_readTest 68 = .ok (.invokevirtual 144, 3) := by decide +kernel
theorem dX6_readTest_71 : decode cX6_readTest 71 = .ok (.aload_n 0, 1) := by decide +kernel
theorem dX6_readTest_72 : decode cX6_readTest 72 = .ok (.dup, 1) := by decide +kernel
theorem dX6_readTest_73 : decode cX6_readTest 73 = .ok (.getfield 210, 3) := by decide +kernel
theorem dX6_readTest_76 : decode cX6_readTest 76 = .ok (.iconst 1, 1) := by decide +kernel
theorem dX6_readTest_77 : decode cX6_readTest 77 = .ok (.iadd, 1) := by decide +kernel
theorem dX6_readTest_78 : decode cX6_readTest 78 = .ok (.putfield 210, 3) := by decide +kernel
theorem dX6_readTest_81 : decode cX6_readTest 81 = .ok (.aload_n 0, 1) := by decide +kernel
theorem dX6_readTest_82 : decode cX6_readTest 82 = .ok (.iload_n 2, 1) := by decide +kernel
theorem dX6_readTest_83 : decode cX6_readTest 83 = .ok (.iload_n 1, 1) := by decide +kernel
theorem dX6_readTest_84 : decode cX6_readTest 84 = .ok (.invokevirtual 220, 3) := by decide +kernel
theorem dX6_readTest_87 : decode cX6_readTest 87 = .ok (.goto (-87), 3) := by decide +kernel
theorem dX6_readTest_90 : decode cX6_readTest 90 = .ok (.return_, 1) := by decide +kernel
theorem dX6_readCondition_0 : decode cX6_readCondition 0 = .ok (.aload_n 0, 1) := by decide +kernel
theorem dX6_readCondition_1 : decode cX6_readCondition 1 = .ok (.iconst 0, 1) := by decide +kernel
theorem dX6_readCondition_2 : decode cX6_readCondition 2 = .ok (.putfield 207, 3) := by decide +kernel
theorem dX6_readCondition_5 : decode cX6_readCondition 5 = .ok (.aload_n 0, 1) := by decide +kernel
theorem dX6_readCondition_6 : decode cX6_readCondition 6 = .ok (.iconst 0, 1) := by decide +kernel
theorem dX6_readCondition_7 : decode cX6_readCondition 7 = .ok (.putfield 210, 3) := by decide +kernel
theorem dX6_readCondition_10 : decode cX6_readCondition 10 = .ok (.aload_n 0, 1) := by decide +kernel
theorem dX6_readCondition_11 : decode cX6_readCondition 11 = .ok (.invokevirtual 224, 3) := by decide +kernel
theorem dX6_readCondition_14 : decode cX6_readCondition 14 = .ok (.aload_n 0, 1) := by decide +kernel
theorem dX6_readCondition_15 : decode cX6_readCondition 15 = .ok (.getfield 102, 3) := by decide +kernel
theorem dX6_readCondition_18 : decode cX6_readCondition 18 = .ok (.iconst (-1), 1) := by decide +kernel
theorem dX6_readCondition_19 : decode cX6_readCondition 19 = .ok (.if_icmp .ne 145, 3) := by decide +kernel
theorem dX6_readCondition_22 : decode cX6_readCondition 22 = .ok (.aload_n 0, 1) := by decide +kernel
theorem dX6_readCondition_23 : decode cX6_readCondition 23 = .ok (.iconst 1, 1) := by decide +kernel
theorem dX6_readCondition_24 : decode cX6_readCondition 24 = .ok (.invokevirtual 227, 3) := by decide +kernel
theorem dX6_readCondition_27 : decode cX6_readCondition 27 = .ok (.aload_n 0, 1) := by decide +kernel
theorem dX6_readCondition_28 : decode cX6_readCondition 28 = .ok (.iconst 2, 1) := by decide +kernel
theorem dX6_readCondition_29 : decode cX6_readCondition 29 = .ok (.invokevirtual 227, 3) := by decide +kernel
theorem dX6_readCondition_32 : decode cX6_readCondition 32 = .ok (.aload_n 0, 1) := by decide +kernel
theorem dX6_readCondition_33 : decode cX6_readCondition 33 = .ok (.getfield 102, 3) := by decide +kernel
theorem dX6_readCondition_36 : decode cX6_readCondition 36 = .ok (.iconst (-1), 1) := by decide +kernel
theorem dX6_readCondition_37 : decode cX6_readCondition 37 = .ok (.if_icmp .eq 4, 3) := by decide +kernel
theorem dX6_readCondition_40 : decode cX6_readCondition 40 = .ok (.return_, 1) := by decide +kernel
theorem dX6_readCondition_41 : decode cX6_readCondition 41 = .ok (.aload_n 0, 1) := by decide +kernel
theorem dX6_readCondition_42 : decode cX6_readCondition 42 = .ok (.ldc2_w 156, 3) := by decide +kernel
theorem dX6_readCondition_45 : decode cX6_readCondition 45 = .ok (.invokevirtual 137, 3) := by decide +kernel
theorem dX6_readCondition_48 : decode cX6_readCondition 48 = .ok (.ifCond .eq 29, 3) := by decide +kernel
theorem dX6_readCondition_51 : decode cX6_readCondition 51 = .ok (.aload_n 0, 1) := by decide +kernel
theorem dX6_readCondition_52 : decode cX6_readCondition 52 = .ok (.iconst 2, 1) := by decide +kernel
theorem dX6_readCondition_53 : decode cX6_readCondition 53 = .ok (.aload_n 0, 1) := by decide +kernel
theorem dX6_readCondition_54 : decode cX6_readCondition 54 = .ok (.getfield 99, 3) := by decide +kernel
theorem dX6_readCondition_57 : decode cX6_readCondition 57 = .ok (.invokevirtual 220, 3) := by decide +kernel
theorem dX6_readCondition_60 : decode cX6_readCondition 60 = .ok (.aload_n 0, 1) := by decide +kernel
theorem dX6_readCondition_61 : decode cX6_readCondition 61 = .ok (.dup, 1) := by decide +kernel
theorem dX6_readCondition_62 : decode cX6_readCondition 62 = .ok (.getfield 99, 3) := by decide +kernel
theorem dX6_readCondition_65 : decode cX6_readCondition 65 = .ok (.iconst 3, 1) := by decide +kernel
theorem dX6_readCondition_66 : decode cX6_readCondition 66 = .ok (.iadd, 1) := by decide +kernel
theorem dX6_readCondition_67 : decode cX6_readCondition 67 = .ok (.putfield 99, 3) := by decide +kernel
theorem dX6_readCondition_70 : decode cX6_readCondition 70 = .ok (.aload_n 0, 1) := by decide +kernel
theorem dX6_readCondition_71 : decode cX6_readCondition 71 = .ok (.invokevirtual 224, 3) := by decide +kernel
theorem dX6_readCondition_74 : decode cX6_readCondition 74 = .ok (.goto (-60), 3) := by decide +kernel
theorem dX6_readCondition_77 : decode cX6_readCondition 77 = .ok (.aload_n 0, 1) := by decide +kernel
theorem dX6_readCondition_78 : decode cX6_readCondition 78 = .ok (.iconst 3, 1) := by decide +kernel
theorem dX6_readCondition_79 : decode cX6_readCondition 79 = .ok (.invokevirtual 227, 3) := by decide +kernel
theorem dX6_readCondition_82 : decode cX6_readCondition 82 = .ok (.aload_n 0, 1) := by decide +kernel
theorem dX6_readCondition_83 : decode cX6_readCondition 83 = .ok (.getfield 102, 3) := by decide +kernel
theorem dX6_readCondition_86 : decode cX6_readCondition 86 = .ok (.iconst (-1), 1) := by decide +kernel
theorem dX6_readCondition_87 : decode cX6_readCondition 87 = .ok (.if_icmp .eq 4, 3) := by decide +kernel
theorem dX6_readCondition_90 : decode cX6_readCondition 90 = .ok (.return_, 1) := by decide +kernel
theorem dX6_readCondition_91 : decode cX6_readCondition 91 = .ok (.aload_n 0, 1) := by decide +kernel
theorem dX6_readCondition_92 : decode cX6_readCondition 92 = .ok (.ldc2_w 158, 3) := by decide +kernel
theorem dX6_readCondition_95 : decode cX6_readCondition 95 = .ok (.invokevirtual 137, 3) := by decide +kernel
theorem dX6_readCondition_98 : decode cX6_readCondition 98 = .ok (.ifCond .eq 29, 3) := by decide +kernel
theorem dX6_readCondition_101 : decode cX6_readCondition 101 = .ok (.aload_n 0, 1) := by decide +kernel
theorem dX6_readCondition_102 : decode cX6_readCondition 102 = .ok (.iconst 3, 1) := by decide +kernel
theorem dX6_readCondition_103 : decode cX6_readCondition 103 = .ok (.aload_n 0, 1) := by decide +kernel
theorem dX6_readCondition_104 : decode cX6_readCondition 104 = .ok (.getfield 99, 3) := by decide +kernel
theorem dX6_readCondition_107 : decode cX6_readCondition 107 = .ok (.invokevirtual 220, 3) := by decide +kernel
theorem dX6_readCondition_110 : decode cX6_readCondition 110 = .ok (.aload_n 0, 1) := by decide +kernel
theorem dX6_readCondition_111 : decode cX6_readCondition 111 = .ok (.dup, 1) := by decide +kernel
theorem dX6_readCondition_112 : decode cX6_readCondition 112 = .ok (.getfield 99, 3) := by decide +kernel
theorem dX6_readCondition_115 : decode cX6_readCondition 115 = .ok (.iconst 2, 1) := by decide +kernel
theorem dX6_readCondition_116 : decode cX6_readCondition 116 = .ok (.iadd, 1) := by decide +kernel
theorem dX6_readCondition_117 : decode cX6_readCondition 117 = .ok (.putfield 99, 3) := by decide +kernel
theorem dX6_readCondition_120 : decode cX6_readCondition 120 = .ok (.aload_n 0, 1) := by decide +kernel
theorem dX6_readCondition_121 : decode cX6_readCondition 121 = .ok (.invokevirtual 224, 3) := by decide +kernel
theorem dX6_readCondition_124 : decode cX6_readCondition 124 = .ok (.goto (-110), 3) := by decide +kernel
theorem dX6_readCondition_127 : decode cX6_readCondition 127 = .ok (.aload_n 0, 1) := by decide +kernel
theorem dX6_readCondition_128 : decode cX6_readCondition 128 = .ok (.getfield 207, 3) := by decide +kernel
theorem dX6_readCondition_131 : decode cX6_readCondition 131 = .ok (.ifCond .ne 4, 3) := by decide +kernel
theorem dX6_readCondition_134 : decode cX6_readCondition 134 = .ok (.return_, 1) := by decide +kernel
theorem dX6_readCondition_135 : decode cX6_readCondition 135 = .ok (.aload_n 0, 1) := by decide +kernel
theorem dX6_readCondition_136 : decode cX6_readCondition 136 = .ok (.bipush 41, 2) := by decide +kernel
theorem dX6_readCondition_138 : decode cX6_readCondition 138 = .ok (.invokevirtual 195, 3) := by decide +kernel
theorem dX6_readCondition_141 : decode cX6_readCondition 141 = .ok (.aload_n 0, 1) := by decide +kernel
theorem dX6_readCondition_142 : decode cX6_readCondition 142 = .ok (.dup, 1) := by decide +kernel
theorem dX6_readCondition_143 : decode cX6_readCondition 143 = .ok (.getfield 207, 3) := by decide +kernel
theorem dX6_readCondition_146 : decode cX6_readCondition 146 = .ok (.iconst 1, 1) := by decide +kernel
theorem dX6_readCondition_147 : decode cX6_readCondition 147 = .ok (.isub, 1) := by decide +kernel
theorem dX6_readCondition_148 : decode cX6_readCondition 148 = .ok (.putfield 207, 3) := by decide +kernel
theorem dX6_readCondition_151 : decode cX6_readCondition 151 = .ok (.aload_n 0, 1) := by decide +kernel
theorem dX6_readCondition_152 : decode cX6_readCondition 152 = .ok (.dup, 1) := by decide +kernel
theorem dX6_readCondition_153 : decode cX6_readCondition 153 = .ok (.getfield 210, 3) := by decide +kernel
theorem dX6_readCondition_156 : decode cX6_readCondition 156 = .ok (.iconst 1, 1) := by decide +kernel
theorem dX6_readCondition_157 : decode cX6_readCondition 157 = .ok (.isub, 1) := by decide +kernel
theorem dX6_readCondition_158 : decode cX6_readCondition 158 = .ok (.putfield 210, 3) := by decide +kernel
theorem dX6_readCondition_161 : decode cX6_readCondition 161 = .ok (.goto (-147), 3) := by decide +kernel
theorem dX6_readCondition_164 : decode cX6_readCondition 164 = .ok (.return_, 1) := by decide +kernel
theorem dX6_readAsked_0 : decode cX6_readAsked 0 = .ok (.aload_n 0, 1) := by decide +kernel
theorem dX6_readAsked_1 : decode cX6_readAsked 1 = .ok (.invokevirtual 198, 3) := by decide +kernel
theorem dX6_readAsked_4 : decode cX6_readAsked 4 = .ok (.istore_n 2, 1) := by decide +kernel
theorem dX6_readAsked_5 : decode cX6_readAsked 5 = .ok (.aload_n 0, 1) := by decide +kernel
theorem dX6_readAsked_6 : decode cX6_readAsked 6 = .ok (.getfield 102, 3) := by decide +kernel
theorem dX6_readAsked_9 : decode cX6_readAsked 9 = .ok (.iconst (-1), 1) := by decide +kernel
theorem dX6_readAsked_10 : decode cX6_readAsked 10 = .ok (.if_icmp .eq 4, 3) := by decide +kernel
theorem dX6_readAsked_13 : decode cX6_readAsked 13 = .ok (.return_, 1) := by decide +kernel
theorem dX6_readAsked_14 : decode cX6_readAsked 14 = .ok (.aload_n 0, 1) := by decide +kernel
theorem dX6_readAsked_15 : decode cX6_readAsked 15 = .ok (.ldc2_w 162, 3) := by decide +kernel
theorem dX6_readAsked_18 : decode cX6_readAsked 18 = .ok (.invokevirtual 192, 3) := by decide +kernel
theorem dX6_readAsked_21 : decode cX6_readAsked 21 = .ok (.ifCond .eq 48, 3) := by decide +kernel
theorem dX6_readAsked_24 : decode cX6_readAsked 24 = .ok (.aload_n 0, 1) := by decide +kernel
theorem dX6_readAsked_25 : decode cX6_readAsked 25 = .ok (.ldc2_w 160, 3) := by decide +kernel
theorem dX6_readAsked_28 : decode cX6_readAsked 28 = .ok (.invokevirtual 192, 3) := by decide +kernel
theorem dX6_readAsked_31 : decode cX6_readAsked 31 = .ok (.istore_n 3, 1) := by decide +kernel
theorem dX6_readAsked_32 : decode cX6_readAsked 32 = .ok (.aload_n 0, 1) := by decide +kernel
theorem dX6_readAsked_33 : decode cX6_readAsked 33 = .ok (.ldc2_w 164, 3) := by decide +kernel
theorem dX6_readAsked_36 : decode cX6_readAsked 36 = .ok (.invokevirtual 192, 3) := by decide +kernel
theorem dX6_readAsked_39 : decode cX6_readAsked 39 = .ok (.ifCond .ne 11, 3) := by decide +kernel
theorem dX6_readAsked_42 : decode cX6_readAsked 42 = .ok (.aload_n 0, 1) := by decide +kernel
theorem dX6_readAsked_43 : decode cX6_readAsked 43 = .ok (.aload_n 0, 1) := by decide +kernel
theorem dX6_readAsked_44 : decode cX6_readAsked 44 = .ok (.getfield 99, 3) := by decide +kernel
theorem dX6_readAsked_47 : decode cX6_readAsked 47 = .ok (.invokevirtual 144, 3) := by decide +kernel
theorem dX6_readAsked_50 : decode cX6_readAsked 50 = .ok (.aload_n 0, 1) := by decide +kernel
theorem dX6_readAsked_51 : decode cX6_readAsked 51 = .ok (.iload_n 1, 1) := by decide +kernel
theorem dX6_readAsked_52 : decode cX6_readAsked 52 = .ok (.iload_n 3, 1) := by decide +kernel
theorem dX6_readAsked_53 : decode cX6_readAsked 53 = .ok (.ifCond .eq 7, 3) := by decide +kernel
theorem dX6_readAsked_56 : decode cX6_readAsked 56 = .ok (.iconst 1, 1) := by decide +kernel
theorem dX6_readAsked_57 : decode cX6_readAsked 57 = .ok (.goto 4, 3) := by decide +kernel
theorem dX6_readAsked_60 : decode cX6_readAsked 60 = .ok (.iconst 0, 1) := by decide +kernel
theorem dX6_readAsked_61 : decode cX6_readAsked 61 = .ok (.iload_n 2, 1) := by decide +kernel
theorem dX6_readAsked_62 : decode cX6_readAsked 62 = .ok (.iconst (-1), 1) := by decide +kernel
theorem dX6_readAsked_63 : decode cX6_readAsked 63 = .ok (.iconst (-1), 1) := by decide +kernel
theorem dX6_readAsked_64 : decode cX6_readAsked 64 = .ok (.iconst 0, 1) := by decide +kernel
theorem dX6_readAsked_65 : decode cX6_readAsked 65 = .ok (.invokevirtual 213, 3) := by decide +kernel
theorem dX6_readAsked_68 : decode cX6_readAsked 68 = .ok (.return_, 1) := by decide +kernel
theorem dX6_readAsked_69 : decode cX6_readAsked 69 = .ok (.aload_n 0, 1) := by decide +kernel
theorem dX6_readAsked_70 : decode cX6_readAsked 70 = .ok (.getfield 35, 3) := by decide +kernel
theorem dX6_readAsked_73 : decode cX6_readAsked 73 = .ok (.iconst 4, 1) := by decide +kernel
theorem dX6_readAsked_74 : decode cX6_readAsked 74 = .ok (.aload_n 0, 1) := by decide +kernel
theorem dX6_readAsked_75 : decode cX6_readAsked 75 = .ok (.getfield 189, 3) := by decide +kernel
theorem dX6_readAsked_78 : decode cX6_readAsked 78 = .ok (.imul, 1) := by decide +kernel
theorem dX6_readAsked_79 : decode cX6_readAsked 79 = .ok (.iconst 3, 1) := by decide +kernel
theorem dX6_readAsked_80 : decode cX6_readAsked 80 = .ok (.iadd, 1) := by decide +kernel
theorem dX6_readAsked_81 : decode cX6_readAsked 81 = .ok (.iaload, 1) := by decide +kernel
theorem dX6_readAsked_82 : decode cX6_readAsked 82 = .ok (.istore_n 3, 1) := by decide +kernel
theorem dX6_readAsked_83 : decode cX6_readAsked 83 = .ok (.aload_n 0, 1) := by decide +kernel
theorem dX6_readAsked_84 : decode cX6_readAsked 84 = .ok (.ldc2_w 166, 3) := by decide +kernel
theorem dX6_readAsked_87 : decode cX6_readAsked 87 = .ok (.invokevirtual 192, 3) := by decide +kernel
theorem dX6_readAsked_90 : decode cX6_readAsked 90 = .ok (.ifCond .eq 80, 3) := by decide +kernel
theorem dX6_readAsked_93 : decode cX6_readAsked 93 = .ok (.aload_n 0, 1) := by decide +kernel
theorem dX6_readAsked_94 : decode cX6_readAsked 94 = .ok (.bipush 40, 2) := by decide +kernel
theorem dX6_readAsked_96 : decode cX6_readAsked 96 = .ok (.invokevirtual 195, 3) := by decide +kernel
theorem dX6_readAsked_99 : decode cX6_readAsked 99 = .ok (.aload_n 0, 1) := by decide +kernel
theorem dX6_readAsked_100 : decode cX6_readAsked 100 = .ok (.getfield 102, 3) := by decide +kernel
theorem dX6_readAsked_103 : decode cX6_readAsked 103 = .ok (.iconst (-1), 1) := by decide +kernel
theorem dX6_readAsked_104 : decode cX6_readAsked 104 = .ok (.if_icmp .ne 13, 3) := by decide +kernel
theorem dX6_readAsked_107 : decode cX6_readAsked 107 = .ok (.aload_n 0, 1) := by decide +kernel
theorem dX6_readAsked_108 : decode cX6_readAsked 108 = .ok (.aload_n 0, 1) := by decide +kernel
theorem dX6_readAsked_109 : decode cX6_readAsked 109 = .ok (.getfield 22, 3) := by decide +kernel
theorem dX6_readAsked_112 : decode cX6_readAsked 112 = .ok (.iload_n 2, 1) := by decide +kernel
theorem dX6_readAsked_113 : decode cX6_readAsked 113 = .ok (.iaload, 1) := by decide +kernel
theorem dX6_readAsked_114 : decode cX6_readAsked 114 = .ok (.invokevirtual 230, 3) := by decide +kernel
theorem dX6_readAsked_117 : decode cX6_readAsked 117 = .ok (.aload_n 0, 1) := by decide +kernel
theorem dX6_readAsked_118 : decode cX6_readAsked 118 = .ok (.bipush 44, 2) := by decide +kernel
theorem dX6_readAsked_120 : decode cX6_readAsked 120 = .ok (.invokevirtual 141, 3) := by decide +kernel
theorem dX6_readAsked_123 : decode cX6_readAsked 123 = .ok (.ifCond .eq 16, 3) := by decide +kernel
theorem dX6_readAsked_126 : decode cX6_readAsked 126 = .ok (.aload_n 0, 1) := by decide +kernel
theorem dX6_readAsked_127 : decode cX6_readAsked 127 = .ok (.aload_n 0, 1) := by decide +kernel
theorem dX6_readAsked_128 : decode cX6_readAsked 128 = .ok (.getfield 22, 3) := by decide +kernel
theorem dX6_readAsked_131 : decode cX6_readAsked 131 = .ok (.iload_n 2, 1) := by decide +kernel
theorem dX6_readAsked_132 : decode cX6_readAsked 132 = .ok (.iaload, 1) := by decide +kernel
theorem dX6_readAsked_133 : decode cX6_readAsked 133 = .ok (.invokevirtual 230, 3) := by decide +kernel
theorem dX6_readAsked_136 : decode cX6_readAsked 136 = .ok (.goto (-19), 3) := by decide +kernel
theorem dX6_readAsked_139 : decode cX6_readAsked 139 = .ok (.aload_n 0, 1) := by decide +kernel
theorem dX6_readAsked_140 : decode cX6_readAsked 140 = .ok (.bipush 41, 2) := by decide +kernel
theorem dX6_readAsked_142 : decode cX6_readAsked 142 = .ok (.invokevirtual 195, 3) := by decide +kernel
theorem dX6_readAsked_145 : decode cX6_readAsked 145 = .ok (.aload_n 0, 1) := by decide +kernel
theorem dX6_readAsked_146 : decode cX6_readAsked 146 = .ok (.iload_n 1, 1) := by decide +kernel
theorem dX6_readAsked_147 : decode cX6_readAsked 147 = .ok (.iconst 2, 1) := by decide +kernel
theorem dX6_readAsked_148 : decode cX6_readAsked 148 = .ok (.iload_n 2, 1) := by decide +kernel
theorem dX6_readAsked_149 : decode cX6_readAsked 149 = .ok (.iconst (-1), 1) := by decide +kernel
theorem dX6_readAsked_150 : decode cX6_readAsked 150 = .ok (.iload_n 3, 1) := by decide +kernel
theorem dX6_readAsked_151 : decode cX6_readAsked 151 = .ok (.aload_n 0, 1) := by decide +kernel
theorem dX6_readAsked_152 : decode cX6_readAsked 152 = .ok (.getfield 35, 3) := by decide +kernel
theorem dX6_readAsked_155 : decode cX6_readAsked 155 = .ok (.iconst 4, 1) := by decide +kernel
theorem dX6_readAsked_156 : decode cX6_readAsked 156 = .ok (.aload_n 0, 1) := by decide +kernel
theorem dX6_readAsked_157 : decode cX6_readAsked 157 = .ok (.getfield 189, 3) := by decide +kernel
theorem dX6_readAsked_160 : decode cX6_readAsked 160 = .ok (.imul, 1) := by decide +kernel
theorem dX6_readAsked_161 : decode cX6_readAsked 161 = .ok (.iconst 3, 1) := by decide +kernel
theorem dX6_readAsked_162 : decode cX6_readAsked 162 = .ok (.iadd, 1) := by decide +kernel
theorem dX6_readAsked_163 : decode cX6_readAsked 163 = .ok (.iaload, 1) := by decide +kernel
theorem dX6_readAsked_164 : decode cX6_readAsked 164 = .ok (.iload_n 3, 1) := by decide +kernel
theorem dX6_readAsked_165 : decode cX6_readAsked 165 = .ok (.isub, 1) := by decide +kernel
theorem dX6_readAsked_166 : decode cX6_readAsked 166 = .ok (.invokevirtual 213, 3) := by decide +kernel
theorem dX6_readAsked_169 : decode cX6_readAsked 169 = .ok (.return_, 1) := by decide +kernel
theorem dX6_readAsked_170 : decode cX6_readAsked 170 = .ok (.aload_n 0, 1) := by decide +kernel
theorem dX6_readAsked_171 : decode cX6_readAsked 171 = .ok (.invokevirtual 233, 3) := by decide +kernel
theorem dX6_readAsked_174 : decode cX6_readAsked 174 = .ok (.istore 4, 2) := by decide +kernel
theorem dX6_readAsked_176 : decode cX6_readAsked 176 = .ok (.aload_n 0, 1) := by decide +kernel
theorem dX6_readAsked_177 : decode cX6_readAsked 177 = .ok (.getfield 102, 3) := by decide +kernel
theorem dX6_readAsked_180 : decode cX6_readAsked 180 = .ok (.iconst (-1), 1) := by decide +kernel
theorem dX6_readAsked_181 : decode cX6_readAsked 181 = .ok (.if_icmp .eq 4, 3) := by decide +kernel
theorem dX6_readAsked_184 : decode cX6_readAsked 184 = .ok (.return_, 1) := by decide +kernel
theorem dX6_readAsked_185 : decode cX6_readAsked 185 = .ok (.aload_n 0, 1) := by decide +kernel
theorem dX6_readAsked_186 : decode cX6_readAsked 186 = .ok (.invokevirtual 130, 3) := by decide +kernel
theorem dX6_readAsked_189 : decode cX6_readAsked 189 = .ok (.aload_n 0, 1) := by decide +kernel
theorem dX6_readAsked_190 : decode cX6_readAsked 190 = .ok (.aload_n 0, 1) := by decide +kernel
theorem dX6_readAsked_191 : decode cX6_readAsked 191 = .ok (.getfield 99, 3) := by decide +kernel
theorem dX6_readAsked_194 : decode cX6_readAsked 194 = .ok (.invokevirtual 118, 3) := by decide +kernel
theorem dX6_readAsked_197 : decode cX6_readAsked 197 = .ok (.ifCond .le 105, 3) := by decide +kernel
theorem dX6_readAsked_200 : decode cX6_readAsked 200 = .ok (.aload_n 0, 1) := by decide +kernel
theorem dX6_readAsked_201 : decode cX6_readAsked 201 = .ok (.ldc2_w 168, 3) := by decide +kernel
theorem dX6_readAsked_204 : decode cX6_readAsked 204 = .ok (.invokevirtual 137, 3) := by decide +kernel
theorem dX6_readAsked_207 : decode cX6_readAsked 207 = .ok (.ifCond .ne 95, 3) := by decide +kernel
theorem dX6_readAsked_210 : decode cX6_readAsked 210 = .ok (.aload_n 0, 1) := by decide +kernel
theorem dX6_readAsked_211 : decode cX6_readAsked 211 = .ok (.ldc2_w 170, 3) := by decide +kernel
theorem dX6_readAsked_214 : decode cX6_readAsked 214 = .ok (.invokevirtual 137, 3) := by decide +kernel
theorem dX6_readAsked_217 : decode cX6_readAsked 217 = .ok (.ifCond .ne 85, 3) := by decide +kernel
theorem dX6_readAsked_220 : decode cX6_readAsked 220 = .ok (.aload_n 0, 1) := by decide +kernel
theorem dX6_readAsked_221 : decode cX6_readAsked 221 = .ok (.getfield 99, 3) := by decide +kernel
theorem dX6_readAsked_224 : decode cX6_readAsked 224 = .ok (.istore 5, 2) := by decide +kernel
theorem dX6_readAsked_226 : decode cX6_readAsked 226 = .ok (.aload_n 0, 1) := by decide +kernel
theorem dX6_readAsked_227 : decode cX6_readAsked 227 = .ok (.invokevirtual 198, 3) := by decide +kernel
theorem dX6_readAsked_230 : decode cX6_readAsked 230 = .ok (.istore 6, 2) := by decide +kernel
theorem dX6_readAsked_232 : decode cX6_readAsked 232 = .ok (.aload_n 0, 1) := by decide +kernel
theorem dX6_readAsked_233 : decode cX6_readAsked 233 = .ok (.getfield 102, 3) := by decide +kernel
theorem dX6_readAsked_236 : decode cX6_readAsked 236 = .ok (.iconst (-1), 1) := by decide +kernel
theorem dX6_readAsked_237 : decode cX6_readAsked 237 = .ok (.if_icmp .ne 50, 3) := by decide +kernel
theorem dX6_readAsked_240 : decode cX6_readAsked 240 = .ok (.aload_n 0, 1) := by decide +kernel
theorem dX6_readAsked_241 : decode cX6_readAsked 241 = .ok (.getfield 22, 3) := by decide +kernel
theorem dX6_readAsked_244 : decode cX6_readAsked 244 = .ok (.iload_n 2, 1) := by decide +kernel
theorem dX6_readAsked_245 : decode cX6_readAsked 245 = .ok (.iaload, 1) := by decide +kernel
theorem dX6_readAsked_246 : decode cX6_readAsked 246 = .ok (.aload_n 0, 1) := by decide +kernel
theorem dX6_readAsked_247 : decode cX6_readAsked 247 = .ok (.getfield 22, 3) := by decide +kernel
theorem dX6_readAsked_250 : decode cX6_readAsked 250 = .ok (.iload 6, 2) := by decide +kernel
theorem dX6_readAsked_252 : decode cX6_readAsked 252 = .ok (.iaload, 1) := by decide +kernel
theorem dX6_readAsked_253 : decode cX6_readAsked 253 = .ok (.if_icmp .eq 34, 3) := by decide +kernel
theorem dX6_readAsked_256 : decode cX6_readAsked 256 = .ok (.aload_n 0, 1) := by decide +kernel
theorem dX6_readAsked_257 : decode cX6_readAsked 257 = .ok (.getfield 22, 3) := by decide +kernel
theorem dX6_readAsked_260 : decode cX6_readAsked 260 = .ok (.iload_n 2, 1) := by decide +kernel
theorem dX6_readAsked_261 : decode cX6_readAsked 261 = .ok (.iaload, 1) := by decide +kernel
theorem dX6_readAsked_262 : decode cX6_readAsked 262 = .ok (.invokestatic 201, 3) := by decide +kernel
theorem dX6_readAsked_265 : decode cX6_readAsked 265 = .ok (.ifCond .eq 16, 3) := by decide +kernel
theorem dX6_readAsked_268 : decode cX6_readAsked 268 = .ok (.aload_n 0, 1) := by decide +kernel
theorem dX6_readAsked_269 : decode cX6_readAsked 269 = .ok (.getfield 22, 3) := by decide +kernel
theorem dX6_readAsked_272 : decode cX6_readAsked 272 = .ok (.iload 6, 2) := by decide +kernel
theorem dX6_readAsked_274 : decode cX6_readAsked 274 = .ok (.iaload, 1) := by decide +kernel
theorem dX6_readAsked_275 : decode cX6_readAsked 275 = .ok (.invokestatic 201, 3) := by decide +kernel
theorem dX6_readAsked_278 : decode cX6_readAsked 278 = .ok (.ifCond .ne 9, 3) := by decide +kernel
theorem dX6_readAsked_281 : decode cX6_readAsked 281 = .ok (.aload_n 0, 1) := by decide +kernel
theorem dX6_readAsked_282 : decode cX6_readAsked 282 = .ok (.iload 5, 2) := by decide +kernel
theorem dX6_readAsked_284 : decode cX6_readAsked 284 = .ok (.invokevirtual 144, 3) := by decide +kernel
theorem dX6_readAsked_287 : decode cX6_readAsked 287 = .ok (.aload_n 0, 1) := by decide +kernel
theorem dX6_readAsked_288 : decode cX6_readAsked 288 = .ok (.iload_n 1, 1) := by decide +kernel
theorem dX6_readAsked_289 : decode cX6_readAsked 289 = .ok (.iconst 4, 1) := by decide +kernel
theorem dX6_readAsked_290 : decode cX6_readAsked 290 = .ok (.iload_n 2, 1) := by decide +kernel
theorem dX6_readAsked_291 : decode cX6_readAsked 291 = .ok (.iload 4, 2) := by decide +kernel
theorem dX6_readAsked_293 : decode cX6_readAsked 293 = .ok (.iload 6, 2) := by decide +kernel
theorem dX6_readAsked_295 : decode cX6_readAsked 295 = .ok (.iconst 0, 1) := by decide +kernel
theorem dX6_readAsked_296 : decode cX6_readAsked 296 = .ok (.invokevirtual 213, 3) := by decide +kernel
theorem dX6_readAsked_299 : decode cX6_readAsked 299 = .ok (.goto 24, 3) := by decide +kernel
theorem dX6_readAsked_302 : decode cX6_readAsked 302 = .ok (.aload_n 0, 1) := by decide +kernel
theorem dX6_readAsked_303 : decode cX6_readAsked 303 = .ok (.aload_n 0, 1) := by decide +kernel
theorem dX6_readAsked_304 : decode cX6_readAsked 304 = .ok (.getfield 22, 3) := by decide +kernel
theorem dX6_readAsked_307 : decode cX6_readAsked 307 = .ok (.iload_n 2, 1) := by decide +kernel
theorem dX6_readAsked_308 : decode cX6_readAsked 308 = .ok (.iaload, 1) := by decide +kernel
theorem dX6_readAsked_309 : decode cX6_readAsked 309 = .ok (.invokevirtual 230, 3) := by decide +kernel
theorem dX6_readAsked_312 : decode cX6_readAsked 312 = .ok (.aload_n 0, 1) := by decide +kernel
theorem dX6_readAsked_313 : decode cX6_readAsked 313 = .ok (.iload_n 1, 1) := by decide +kernel
theorem dX6_readAsked_314 : decode cX6_readAsked 314 = .ok (.iconst 3, 1) := by decide +kernel
theorem dX6_readAsked_315 : decode cX6_readAsked 315 = .ok (.iload_n 2, 1) := by decide +kernel
theorem dX6_readAsked_316 : decode cX6_readAsked 316 = .ok (.iload 4, 2) := by decide +kernel
theorem dX6_readAsked_318 : decode cX6_readAsked 318 = .ok (.iload_n 3, 1) := by decide +kernel
theorem dX6_readAsked_319 : decode cX6_readAsked 319 = .ok (.iconst 1, 1) := by decide +kernel
theorem dX6_readAsked_320 : decode cX6_readAsked 320 = .ok (.invokevirtual 213, 3) := by decide +kernel
theorem dX6_readAsked_323 : decode cX6_readAsked 323 = .ok (.return_, 1) := by decide +kernel
theorem dX6_operator_0 : decode cX6_operator 0 = .ok (.aload_n 0, 1) := by decide +kernel
theorem dX6_operator_1 : decode cX6_operator 1 = .ok (.invokevirtual 130, 3) := by decide +kernel
theorem dX6_operator_4 : decode cX6_operator 4 = .ok (.aload_n 0, 1) := by decide +kernel
theorem dX6_operator_5 : decode cX6_operator 5 = .ok (.invokevirtual 126, 3) := by decide +kernel
theorem dX6_operator_8 : decode cX6_operator 8 = .ok (.istore_n 1, 1) := by decide +kernel
theorem dX6_operator_9 : decode cX6_operator 9 = .ok (.iload_n 1, 1) := by decide +kernel
theorem dX6_operator_10 : decode cX6_operator 10 = .ok (.bipush 61, 2) := by decide +kernel
theorem dX6_operator_12 : decode cX6_operator 12 = .ok (.if_icmp .eq 23, 3) := by decide +kernel
theorem dX6_operator_15 : decode cX6_operator 15 = .ok (.iload_n 1, 1) := by decide +kernel
theorem dX6_operator_16 : decode cX6_operator 16 = .ok (.bipush 60, 2) := by decide +kernel
theorem dX6_operator_18 : decode cX6_operator 18 = .ok (.if_icmp .eq 17, 3) := by decide +kernel
theorem dX6_operator_21 : decode cX6_operator 21 = .ok (.iload_n 1, 1) := by decide +kernel
theorem dX6_operator_22 : decode cX6_operator 22 = .ok (.bipush 62, 2) := by decide +kernel
theorem dX6_operator_24 : decode cX6_operator 24 = .ok (.if_icmp .eq 11, 3) := by decide +kernel
theorem dX6_operator_27 : decode cX6_operator 27 = .ok (.aload_n 0, 1) := by decide +kernel
theorem dX6_operator_28 : decode cX6_operator 28 = .ok (.aload_n 0, 1) := by decide +kernel
theorem dX6_operator_29 : decode cX6_operator 29 = .ok (.getfield 99, 3) := by decide +kernel
theorem dX6_operator_32 : decode cX6_operator 32 = .ok (.invokevirtual 144, 3) := by decide +kernel
theorem dX6_operator_35 : decode cX6_operator 35 = .ok (.aload_n 0, 1) := by decide +kernel
theorem dX6_operator_36 : decode cX6_operator 36 = .ok (.getfield 102, 3) := by decide +kernel
theorem dX6_operator_39 : decode cX6_operator 39 = .ok (.iconst (-1), 1) := by decide +kernel
theorem dX6_operator_40 : decode cX6_operator 40 = .ok (.if_icmp .eq 5, 3) := by decide +kernel
theorem dX6_operator_43 : decode cX6_operator 43 = .ok (.iconst (-1), 1) := by decide +kernel
theorem dX6_operator_44 : decode cX6_operator 44 = .ok (.ireturn, 1) := by decide +kernel
theorem dX6_operator_45 : decode cX6_operator 45 = .ok (.aload_n 0, 1) := by decide +kernel
theorem dX6_operator_46 : decode cX6_operator 46 = .ok (.dup, 1) := by decide +kernel
theorem dX6_operator_47 : decode cX6_operator 47 = .ok (.getfield 99, 3) := by decide +kernel
theorem dX6_operator_50 : decode cX6_operator 50 = .ok (.iconst 1, 1) := by decide +kernel
theorem dX6_operator_51 : decode cX6_operator 51 = .ok (.iadd, 1) := by decide +kernel
theorem dX6_operator_52 : decode cX6_operator 52 = .ok (.putfield 99, 3) := by decide +kernel
theorem dX6_operator_55 : decode cX6_operator 55 = .ok (.iload_n 1, 1) := by decide +kernel
theorem dX6_operator_56 : decode cX6_operator 56 = .ok (.bipush 61, 2) := by decide +kernel
theorem dX6_operator_58 : decode cX6_operator 58 = .ok (.if_icmp .ne 7, 3) := by decide +kernel
theorem dX6_operator_61 : decode cX6_operator 61 = .ok (.iconst (-1), 1) := by decide +kernel
theorem dX6_operator_62 : decode cX6_operator 62 = .ok (.goto 7, 3) := by decide +kernel
theorem dX6_operator_65 : decode cX6_operator 65 = .ok (.aload_n 0, 1) := by decide +kernel
theorem dX6_operator_66 : decode cX6_operator 66 = .ok (.invokevirtual 126, 3) := by decide +kernel
theorem dX6_operator_69 : decode cX6_operator 69 = .ok (.istore_n 2, 1) := by decide +kernel
theorem dX6_operator_70 : decode cX6_operator 70 = .ok (.iload_n 2, 1) := by decide +kernel
theorem dX6_operator_71 : decode cX6_operator 71 = .ok (.bipush 61, 2) := by decide +kernel
theorem dX6_operator_73 : decode cX6_operator 73 = .ok (.if_icmp .eq 15, 3) := by decide +kernel
theorem dX6_operator_76 : decode cX6_operator 76 = .ok (.iload_n 1, 1) := by decide +kernel
theorem dX6_operator_77 : decode cX6_operator 77 = .ok (.bipush 60, 2) := by decide +kernel
theorem dX6_operator_79 : decode cX6_operator 79 = .ok (.if_icmp .ne 13, 3) := by decide +kernel
theorem dX6_operator_82 : decode cX6_operator 82 = .ok (.iload_n 2, 1) := by decide +kernel
theorem dX6_operator_83 : decode cX6_operator 83 = .ok (.bipush 62, 2) := by decide +kernel
theorem dX6_operator_85 : decode cX6_operator 85 = .ok (.if_icmp .ne 7, 3) := by decide +kernel
theorem dX6_operator_88 : decode cX6_operator 88 = .ok (.iconst 1, 1) := by decide +kernel
theorem dX6_operator_89 : decode cX6_operator 89 = .ok (.goto 4, 3) := by decide +kernel
theorem dX6_operator_92 : decode cX6_operator 92 = .ok (.iconst 0, 1) := by decide +kernel
theorem dX6_operator_93 : decode cX6_operator 93 = .ok (.istore_n 3, 1) := by decide +kernel
theorem dX6_operator_94 : decode cX6_operator 94 = .ok (.aload_n 0, 1) := by decide +kernel
theorem dX6_operator_95 : decode cX6_operator 95 = .ok (.dup, 1) := by decide +kernel
theorem dX6_operator_96 : decode cX6_operator 96 = .ok (.getfield 99, 3) := by decide +kernel
theorem dX6_operator_99 : decode cX6_operator 99 = .ok (.iload_n 3, 1) := by decide +kernel
theorem dX6_operator_100 : decode cX6_operator 100 = .ok (.ifCond .eq 7, 3) := by decide +kernel
theorem dX6_operator_103 : decode cX6_operator 103 = .ok (.iconst 1, 1) := by decide +kernel
theorem dX6_operator_104 : decode cX6_operator 104 = .ok (.goto 4, 3) := by decide +kernel
theorem dX6_operator_107 : decode cX6_operator 107 = .ok (.iconst 0, 1) := by decide +kernel
theorem dX6_operator_108 : decode cX6_operator 108 = .ok (.iadd, 1) := by decide +kernel
theorem dX6_operator_109 : decode cX6_operator 109 = .ok (.putfield 99, 3) := by decide +kernel
theorem dX6_operator_112 : decode cX6_operator 112 = .ok (.iload_n 1, 1) := by decide +kernel
theorem dX6_operator_113 : decode cX6_operator 113 = .ok (.bipush 61, 2) := by decide +kernel
theorem dX6_operator_115 : decode cX6_operator 115 = .ok (.if_icmp .ne 7, 3) := by decide +kernel
theorem dX6_operator_118 : decode cX6_operator 118 = .ok (.iconst 0, 1) := by decide +kernel
theorem dX6_operator_119 : decode cX6_operator 119 = .ok (.goto 40, 3) := by decide +kernel
theorem dX6_operator_122 : decode cX6_operator 122 = .ok (.iload_n 1, 1) := by decide +kernel
theorem dX6_operator_123 : decode cX6_operator 123 = .ok (.bipush 60, 2) := by decide +kernel
theorem dX6_operator_125 : decode cX6_operator 125 = .ok (.if_icmp .ne 25, 3) := by decide +kernel
theorem dX6_operator_128 : decode cX6_operator 128 = .ok (.iload_n 2, 1) := by decide +kernel
theorem dX6_operator_129 : decode cX6_operator 129 = .ok (.bipush 62, 2) := by decide +kernel
theorem dX6_operator_131 : decode cX6_operator 131 = .ok (.if_icmp .ne 7, 3) := by decide +kernel
theorem dX6_operator_134 : decode cX6_operator 134 = .ok (.iconst 1, 1) := by decide +kernel
theorem dX6_operator_135 : decode cX6_operator 135 = .ok (.goto 24, 3) := by decide +kernel
theorem dX6_operator_138 : decode cX6_operator 138 = .ok (.iload_n 3, 1) := by decide +kernel
theorem dX6_operator_139 : decode cX6_operator 139 = .ok (.ifCond .eq 7, 3) := by decide +kernel
theorem dX6_operator_142 : decode cX6_operator 142 = .ok (.iconst 3, 1) := by decide +kernel
theorem dX6_operator_143 : decode cX6_operator 143 = .ok (.goto 16, 3) := by decide +kernel
theorem dX6_operator_146 : decode cX6_operator 146 = .ok (.iconst 2, 1) := by decide +kernel
theorem dX6_operator_147 : decode cX6_operator 147 = .ok (.goto 12, 3) := by decide +kernel
theorem dX6_operator_150 : decode cX6_operator 150 = .ok (.iload_n 3, 1) := by decide +kernel
theorem dX6_operator_151 : decode cX6_operator 151 = .ok (.ifCond .eq 7, 3) := by decide +kernel
theorem dX6_operator_154 : decode cX6_operator 154 = .ok (.iconst 5, 1) := by decide +kernel
theorem dX6_operator_155 : decode cX6_operator 155 = .ok (.goto 4, 3) := by decide +kernel
theorem dX6_operator_158 : decode cX6_operator 158 = .ok (.iconst 4, 1) := by decide +kernel
theorem dX6_operator_159 : decode cX6_operator 159 = .ok (.ireturn, 1) := by decide +kernel
theorem dX6_readLiteral_0 : decode cX6_readLiteral 0 = .ok (.aload_n 0, 1) := by decide +kernel
theorem dX6_readLiteral_1 : decode cX6_readLiteral 1 = .ok (.invokevirtual 130, 3) := by decide +kernel
theorem dX6_readLiteral_4 : decode cX6_readLiteral 4 = .ok (.aload_n 0, 1) := by decide +kernel
theorem dX6_readLiteral_5 : decode cX6_readLiteral 5 = .ok (.getfield 99, 3) := by decide +kernel
theorem dX6_readLiteral_8 : decode cX6_readLiteral 8 = .ok (.istore_n 2, 1) := by decide +kernel
theorem dX6_readLiteral_9 : decode cX6_readLiteral 9 = .ok (.bipush 64, 2) := by decide +kernel
theorem dX6_readLiteral_11 : decode cX6_readLiteral 11 = .ok (.aload_n 0, 1) := by decide +kernel
theorem dX6_readLiteral_12 : decode cX6_readLiteral 12 = .ok (.getfield 189, 3) := by decide +kernel
theorem dX6_readLiteral_15 : decode cX6_readLiteral 15 = .ok (.imul, 1) := by decide +kernel
theorem dX6_readLiteral_16 : decode cX6_readLiteral 16 = .ok (.aload_n 0, 1) := by decide +kernel
theorem dX6_readLiteral_17 : decode cX6_readLiteral 17 = .ok (.getfield 35, 3) := by decide +kernel
theorem dX6_readLiteral_20 : decode cX6_readLiteral 20 = .ok (.iconst 4, 1) := by decide +kernel
theorem dX6_readLiteral_21 : decode cX6_readLiteral 21 = .ok (.aload_n 0, 1) := by decide +kernel
theorem dX6_readLiteral_22 : decode cX6_readLiteral 22 = .ok (.getfield 189, 3) := by decide +kernel
theorem dX6_readLiteral_25 : decode cX6_readLiteral 25 = .ok (.imul, 1) := by decide +kernel
theorem dX6_readLiteral_26 : decode cX6_readLiteral 26 = .ok (.iconst 3, 1) := by decide +kernel
theorem dX6_readLiteral_27 : decode cX6_readLiteral 27 = .ok (.iadd, 1) := by decide +kernel
theorem dX6_readLiteral_28 : decode cX6_readLiteral 28 = .ok (.iaload, 1) := by decide +kernel
theorem dX6_readLiteral_29 : decode cX6_readLiteral 29 = .ok (.iadd, 1) := by decide +kernel
theorem dX6_readLiteral_30 : decode cX6_readLiteral 30 = .ok (.istore_n 3, 1) := by decide +kernel
theorem dX6_readLiteral_31 : decode cX6_readLiteral 31 = .ok (.iconst 2, 1) := by decide +kernel
theorem dX6_readLiteral_32 : decode cX6_readLiteral 32 = .ok (.istore 4, 2) := by decide +kernel
theorem dX6_readLiteral_34 : decode cX6_readLiteral 34 = .ok (.lconst 0, 1) := by decide +kernel
theorem dX6_readLiteral_35 : decode cX6_readLiteral 35 = .ok (.lstore 5, 2) := by decide +kernel
theorem dX6_readLiteral_37 : decode cX6_readLiteral 37 = .ok (.aload_n 0, 1) := by decide +kernel
theorem dX6_readLiteral_38 : decode cX6_readLiteral 38 = .ok (.getfield 77, 3) := by decide +kernel
theorem dX6_readLiteral_41 : decode cX6_readLiteral 41 = .ok (.aload_n 0, 1) := by decide +kernel
theorem dX6_readLiteral_42 : decode cX6_readLiteral 42 = .ok (.getfield 189, 3) := by decide +kernel
theorem dX6_readLiteral_45 : decode cX6_readLiteral 45 = .ok (.iaload, 1) := by decide +kernel
theorem dX6_readLiteral_46 : decode cX6_readLiteral 46 = .ok (.istore 7, 2) := by decide +kernel
theorem dX6_readLiteral_48 : decode cX6_readLiteral 48 = .ok (.aload_n 0, 1) := by decide +kernel
theorem dX6_readLiteral_49 : decode cX6_readLiteral 49 = .ok (.ldc2_w 168, 3) := by decide +kernel
theorem dX6_readLiteral_52 : decode cX6_readLiteral 52 = .ok (.invokevirtual 192, 3) := by decide +kernel
theorem dX6_readLiteral_55 : decode cX6_readLiteral 55 = .ok (.ifCond .eq 12, 3) := by decide +kernel
theorem dX6_readLiteral_58 : decode cX6_readLiteral 58 = .ok (.iconst 0, 1) := by decide +kernel
theorem dX6_readLiteral_59 : decode cX6_readLiteral 59 = .ok (.istore 4, 2) := by decide +kernel
theorem dX6_readLiteral_61 : decode cX6_readLiteral 61 = .ok (.lconst 1, 1) := by decide +kernel
theorem dX6_readLiteral_62 : decode cX6_readLiteral 62 = .ok (.lstore 5, 2) := by decide +kernel
theorem dX6_readLiteral_64 : decode cX6_readLiteral 64 = .ok (.goto 44, 3) := by decide +kernel
theorem dX6_readLiteral_67 : decode cX6_readLiteral 67 = .ok (.aload_n 0, 1) := by decide +kernel
theorem dX6_readLiteral_68 : decode cX6_readLiteral 68 = .ok (.ldc2_w 170, 3) := by decide +kernel
theorem dX6_readLiteral_71 : decode cX6_readLiteral 71 = .ok (.invokevirtual 192, 3) := by decide +kernel
theorem dX6_readLiteral_74 : decode cX6_readLiteral 74 = .ok (.ifCond .eq 9, 3) := by decide +kernel
theorem dX6_readLiteral_77 : decode cX6_readLiteral 77 = .ok (.iconst 0, 1) := by decide +kernel
theorem dX6_readLiteral_78 : decode cX6_readLiteral 78 = .ok (.istore 4, 2) := by decide +kernel
theorem dX6_readLiteral_80 : decode cX6_readLiteral 80 = .ok (.goto 28, 3) := by decide +kernel
theorem dX6_readLiteral_83 : decode cX6_readLiteral 83 = .ok (.aload_n 0, 1) := by decide +kernel
theorem dX6_readLiteral_84 : decode cX6_readLiteral 84 = .ok (.invokevirtual 126, 3) := by decide +kernel
theorem dX6_readLiteral_87 : decode cX6_readLiteral 87 = .ok (.bipush 39, 2) := by decide +kernel
theorem dX6_readLiteral_89 : decode cX6_readLiteral 89 = .ok (.if_icmp .ne 13, 3) := by decide +kernel
theorem dX6_readLiteral_92 : decode cX6_readLiteral 92 = .ok (.iconst 3, 1) := by decide +kernel
theorem dX6_readLiteral_93 : decode cX6_readLiteral 93 = .ok (.istore 4, 2) := by decide +kernel
theorem dX6_readLiteral_95 : decode cX6_readLiteral 95 = .ok (.aload_n 0, 1) := by decide +kernel
theorem dX6_readLiteral_96 : decode cX6_readLiteral 96 = .ok (.invokevirtual 236, 3) := by decide +kernel
theorem dX6_readLiteral_99 : decode cX6_readLiteral 99 = .ok (.goto 9, 3) := by decide +kernel
theorem dX6_readLiteral_102 : decode cX6_readLiteral 102 = .ok (.aload_n 0, 1) := by decide +kernel
theorem dX6_readLiteral_103 : decode cX6_readLiteral 103 = .ok (.invokevirtual 239, 3) := by decide +kernel
theorem dX6_readLiteral_106 : decode cX6_readLiteral 106 = .ok (.lstore 5, 2) := by decide +kernel
theorem dX6_readLiteral_108 : decode cX6_readLiteral 108 = .ok (.aload_n 0, 1) := by decide +kernel
theorem dX6_readLiteral_109 : decode cX6_readLiteral 109 = .ok (.getfield 102, 3) := by decide +kernel
theorem dX6_readLiteral_112 : decode cX6_readLiteral 112 = .ok (.iconst (-1), 1) := by decide +kernel
theorem dX6_readLiteral_113 : decode cX6_readLiteral 113 = .ok (.if_icmp .eq 4, 3) := by decide +kernel
theorem dX6_readLiteral_116 : decode cX6_readLiteral 116 = .ok (.return_, 1) := by decide +kernel
theorem dX6_readLiteral_117 : decode cX6_readLiteral 117 = .ok (.iload 4, 2) := by decide +kernel
theorem dX6_readLiteral_119 : decode cX6_readLiteral 119 = .ok (.iload_n 1, 1) := by decide +kernel
theorem dX6_readLiteral_120 : decode cX6_readLiteral 120 = .ok (.if_icmp .eq 14, 3) := by decide +kernel
theorem dX6_readLiteral_123 : decode cX6_readLiteral 123 = .ok (.iload 4, 2) := by decide +kernel
theorem dX6_readLiteral_125 : decode cX6_readLiteral 125 = .ok (.iconst 2, 1) := by decide +kernel
theorem dX6_readLiteral_126 : decode cX6_readLiteral 126 = .ok (.if_icmp .ne 26, 3) := by decide +kernel
theorem dX6_readLiteral_129 : decode cX6_readLiteral 129 = .ok (.iload_n 1, 1) := by decide +kernel
theorem dX6_readLiteral_130 : decode cX6_readLiteral 130 = .ok (.iconst 1, 1) := by decide +kernel
theorem dX6_readLiteral_131 : decode cX6_readLiteral 131 = .ok (.if_icmp .ne 21, 3) := by decide +kernel
theorem dX6_readLiteral_134 : decode cX6_readLiteral 134 = .ok (.aload_n 0, 1) := by decide +kernel
theorem dX6_readLiteral_135 : decode cX6_readLiteral 135 = .ok (.getfield 35, 3) := by decide +kernel
theorem dX6_readLiteral_138 : decode cX6_readLiteral 138 = .ok (.iconst 4, 1) := by decide +kernel
theorem dX6_readLiteral_139 : decode cX6_readLiteral 139 = .ok (.aload_n 0, 1) := by decide +kernel
theorem dX6_readLiteral_140 : decode cX6_readLiteral 140 = .ok (.getfield 189, 3) := by decide +kernel
theorem dX6_readLiteral_143 : decode cX6_readLiteral 143 = .ok (.imul, 1) := by decide +kernel
theorem dX6_readLiteral_144 : decode cX6_readLiteral 144 = .ok (.iconst 3, 1) := by decide +kernel
theorem dX6_readLiteral_145 : decode cX6_readLiteral 145 = .ok (.iadd, 1) := by decide +kernel
theorem dX6_readLiteral_146 : decode cX6_readLiteral 146 = .ok (.iaload, 1) := by decide +kernel
theorem dX6_readLiteral_147 : decode cX6_readLiteral 147 = .ok (.bipush 64, 2) := by decide +kernel
theorem dX6_readLiteral_149 : decode cX6_readLiteral 149 = .ok (.if_icmp .ne 9, 3) := by decide +kernel
theorem dX6_readLiteral_152 : decode cX6_readLiteral 152 = .ok (.aload_n 0, 1) := by decide +kernel
theorem dX6_readLiteral_153 : decode cX6_readLiteral 153 = .ok (.iload_n 2, 1) := by decide +kernel
theorem dX6_readLiteral_154 : decode cX6_readLiteral 154 = .ok (.invokevirtual 144, 3) := by decide +kernel
theorem dX6_readLiteral_157 : decode cX6_readLiteral 157 = .ok (.return_, 1) := by decide +kernel
theorem dX6_readLiteral_158 : decode cX6_readLiteral 158 = .ok (.aload_n 0, 1) := by decide +kernel
theorem dX6_readLiteral_159 : decode cX6_readLiteral 159 = .ok (.getfield 65, 3) := by decide +kernel
theorem dX6_readLiteral_162 : decode cX6_readLiteral 162 = .ok (.iload_n 3, 1) := by decide +kernel
theorem dX6_readLiteral_163 : decode cX6_readLiteral 163 = .ok (.iload 4, 2) := by decide +kernel
theorem dX6_readLiteral_165 : decode cX6_readLiteral 165 = .ok (.iastore, 1) := by decide +kernel
theorem dX6_readLiteral_166 : decode cX6_readLiteral 166 = .ok (.aload_n 0, 1) := by decide +kernel
theorem dX6_readLiteral_167 : decode cX6_readLiteral 167 = .ok (.getfield 80, 3) := by decide +kernel
theorem dX6_readLiteral_170 : decode cX6_readLiteral 170 = .ok (.iload_n 3, 1) := by decide +kernel
theorem dX6_readLiteral_171 : decode cX6_readLiteral 171 = .ok (.lload 5, 2) := by decide +kernel
theorem dX6_readLiteral_173 : decode cX6_readLiteral 173 = .ok (.lastore, 1) := by decide +kernel
theorem dX6_readLiteral_174 : decode cX6_readLiteral 174 = .ok (.aload_n 0, 1) := by decide +kernel
theorem dX6_readLiteral_175 : decode cX6_readLiteral 175 = .ok (.getfield 68, 3) := by decide +kernel
theorem dX6_readLiteral_178 : decode cX6_readLiteral 178 = .ok (.iload_n 3, 1) := by decide +kernel
theorem dX6_readLiteral_179 : decode cX6_readLiteral 179 = .ok (.iload 7, 2) := by decide +kernel
theorem dX6_readLiteral_181 : decode cX6_readLiteral 181 = .ok (.iastore, 1) := by decide +kernel
theorem dX6_readLiteral_182 : decode cX6_readLiteral 182 = .ok (.aload_n 0, 1) := by decide +kernel
theorem dX6_readLiteral_183 : decode cX6_readLiteral 183 = .ok (.getfield 71, 3) := by decide +kernel
theorem dX6_readLiteral_186 : decode cX6_readLiteral 186 = .ok (.iload_n 3, 1) := by decide +kernel
theorem dX6_readLiteral_187 : decode cX6_readLiteral 187 = .ok (.aload_n 0, 1) := by decide +kernel
theorem dX6_readLiteral_188 : decode cX6_readLiteral 188 = .ok (.getfield 77, 3) := by decide +kernel
theorem dX6_readLiteral_191 : decode cX6_readLiteral 191 = .ok (.aload_n 0, 1) := by decide +kernel
theorem dX6_readLiteral_192 : decode cX6_readLiteral 192 = .ok (.getfield 189, 3) := by decide +kernel
theorem dX6_readLiteral_195 : decode cX6_readLiteral 195 = .ok (.iaload, 1) := by decide +kernel
theorem dX6_readLiteral_196 : decode cX6_readLiteral 196 = .ok (.iload 7, 2) := by decide +kernel
theorem dX6_readLiteral_198 : decode cX6_readLiteral 198 = .ok (.isub, 1) := by decide +kernel
theorem dX6_readLiteral_199 : decode cX6_readLiteral 199 = .ok (.iastore, 1) := by decide +kernel
theorem dX6_readLiteral_200 : decode cX6_readLiteral 200 = .ok (.aload_n 0, 1) := by decide +kernel
theorem dX6_readLiteral_201 : decode cX6_readLiteral 201 = .ok (.getfield 35, 3) := by decide +kernel
theorem dX6_readLiteral_204 : decode cX6_readLiteral 204 = .ok (.iconst 4, 1) := by decide +kernel
theorem dX6_readLiteral_205 : decode cX6_readLiteral 205 = .ok (.aload_n 0, 1) := by decide +kernel
theorem dX6_readLiteral_206 : decode cX6_readLiteral 206 = .ok (.getfield 189, 3) := by decide +kernel
theorem dX6_readLiteral_209 : decode cX6_readLiteral 209 = .ok (.imul, 1) := by decide +kernel
theorem dX6_readLiteral_210 : decode cX6_readLiteral 210 = .ok (.iconst 3, 1) := by decide +kernel
theorem dX6_readLiteral_211 : decode cX6_readLiteral 211 = .ok (.iadd, 1) := by decide +kernel
theorem dX6_readLiteral_212 : decode cX6_readLiteral 212 = .ok (.dup2, 1) := by decide +kernel
theorem dX6_readLiteral_213 : decode cX6_readLiteral 213 = .ok (.iaload, 1) := by decide +kernel
theorem dX6_readLiteral_214 : decode cX6_readLiteral 214 = .ok (.iconst 1, 1) := by decide +kernel
theorem dX6_readLiteral_215 : decode cX6_readLiteral 215 = .ok (.iadd, 1) := by decide +kernel
theorem dX6_readLiteral_216 : decode cX6_readLiteral 216 = .ok (.iastore, 1) := by decide +kernel
theorem dX6_readLiteral_217 : decode cX6_readLiteral 217 = .ok (.return_, 1) := by decide +kernel
theorem dX6_readNumber_0 : decode cX6_readNumber 0 = .ok (.aload_n 0, 1) := by decide +kernel
theorem dX6_readNumber_1 : decode cX6_readNumber 1 = .ok (.getfield 99, 3) := by decide +kernel
theorem dX6_readNumber_4 : decode cX6_readNumber 4 = .ok (.istore_n 1, 1) := by decide +kernel
theorem dX6_readNumber_5 : decode cX6_readNumber 5 = .ok (.aload_n 0, 1) := by decide +kernel
theorem dX6_readNumber_6 : decode cX6_readNumber 6 = .ok (.invokevirtual 126, 3) := by decide +kernel
theorem dX6_readNumber_9 : decode cX6_readNumber 9 = .ok (.bipush 45, 2) := by decide +kernel
theorem dX6_readNumber_11 : decode cX6_readNumber 11 = .ok (.if_icmp .ne 7, 3) := by decide +kernel
theorem dX6_readNumber_14 : decode cX6_readNumber 14 = .ok (.iconst 1, 1) := by decide +kernel
theorem dX6_readNumber_15 : decode cX6_readNumber 15 = .ok (.goto 4, 3) := by decide +kernel
theorem dX6_readNumber_18 : decode cX6_readNumber 18 = .ok (.iconst 0, 1) := by decide +kernel
theorem dX6_readNumber_19 : decode cX6_readNumber 19 = .ok (.istore_n 2, 1) := by decide +kernel
theorem dX6_readNumber_20 : decode cX6_readNumber 20 = .ok (.iload_n 2, 1) := by decide +kernel
theorem dX6_readNumber_21 : decode cX6_readNumber 21 = .ok (.ifCond .eq 13, 3) := by decide +kernel
theorem dX6_readNumber_24 : decode cX6_readNumber 24 = .ok (.aload_n 0, 1) := by decide +kernel
theorem dX6_readNumber_25 : decode cX6_readNumber 25 = .ok (.dup, 1) := by decide +kernel
theorem dX6_readNumber_26 : decode cX6_readNumber 26 = .ok (.getfield 99, 3) := by decide +kernel
theorem dX6_readNumber_29 : decode cX6_readNumber 29 = .ok (.iconst 1, 1) := by decide +kernel
theorem dX6_readNumber_30 : decode cX6_readNumber 30 = .ok (.iadd, 1) := by decide +kernel
theorem dX6_readNumber_31 : decode cX6_readNumber 31 = .ok (.putfield 99, 3) := by decide +kernel
theorem dX6_readNumber_34 : decode cX6_readNumber 34 = .ok (.aload_n 0, 1) := by decide +kernel
theorem dX6_readNumber_35 : decode cX6_readNumber 35 = .ok (.invokevirtual 126, 3) := by decide +kernel
theorem dX6_readNumber_38 : decode cX6_readNumber 38 = .ok (.invokestatic 109, 3) := by decide +kernel
theorem dX6_readNumber_41 : decode cX6_readNumber 41 = .ok (.ifCond .ne 28, 3) := by decide +kernel
theorem dX6_readNumber_44 : decode cX6_readNumber 44 = .ok (.aload_n 0, 1) := by decide +kernel
theorem dX6_readNumber_45 : decode cX6_readNumber 45 = .ok (.aload_n 0, 1) := by decide +kernel
theorem dX6_readNumber_46 : decode cX6_readNumber 46 = .ok (.getfield 99, 3) := by decide +kernel
theorem dX6_readNumber_49 : decode cX6_readNumber 49 = .ok (.aload_n 0, 1) := by decide +kernel
theorem dX6_readNumber_50 : decode cX6_readNumber 50 = .ok (.getfield 96, 3) := by decide +kernel
theorem dX6_readNumber_53 : decode cX6_readNumber 53 = .ok (.if_icmp .ne 10, 3) := by decide +kernel
theorem dX6_readNumber_56 : decode cX6_readNumber 56 = .ok (.aload_n 0, 1) := by decide +kernel
theorem dX6_readNumber_57 : decode cX6_readNumber 57 = .ok (.getfield 96, 3) := by decide +kernel
theorem dX6_readNumber_60 : decode cX6_readNumber 60 = .ok (.goto 4, 3) := by decide +kernel
theorem dX6_readNumber_63 : decode cX6_readNumber 63 = .ok (.iload_n 1, 1) := by decide +kernel
theorem dX6_readNumber_64 : decode cX6_readNumber 64 = .ok (.invokevirtual 144, 3) := by decide +kernel
theorem dX6_readNumber_67 : decode cX6_readNumber 67 = .ok (.lconst 0, 1) := by decide +kernel
theorem dX6_readNumber_68 : decode cX6_readNumber 68 = .ok (.lreturn, 1) := by decide +kernel
theorem dX6_readNumber_69 : decode cX6_readNumber 69 = .ok (.aload_n 0, 1) := by decide +kernel
theorem dX6_readNumber_70 : decode cX6_readNumber 70 = .ok (.invokevirtual 126, 3) := by decide +kernel
theorem dX6_readNumber_73 : decode cX6_readNumber 73 = .ok (.bipush 48, 2) := by decide +kernel
theorem dX6_readNumber_75 : decode cX6_readNumber 75 = .ok (.if_icmp .ne 7, 3) := by decide +kernel
theorem dX6_readNumber_78 : decode cX6_readNumber 78 = .ok (.iconst 1, 1) := by decide +kernel
theorem dX6_readNumber_79 : decode cX6_readNumber 79 = .ok (.goto 4, 3) := by decide +kernel
theorem dX6_readNumber_82 : decode cX6_readNumber 82 = .ok (.iconst 0, 1) := by decide +kernel
theorem dX6_readNumber_83 : decode cX6_readNumber 83 = .ok (.istore_n 3, 1) := by decide +kernel
theorem dX6_readNumber_84 : decode cX6_readNumber 84 = .ok (.aload_n 0, 1) := by decide +kernel
theorem dX6_readNumber_85 : decode cX6_readNumber 85 = .ok (.getfield 99, 3) := by decide +kernel
theorem dX6_readNumber_88 : decode cX6_readNumber 88 = .ok (.istore 4, 2) := by decide +kernel
theorem dX6_readNumber_90 : decode cX6_readNumber 90 = .ok (.lconst 0, 1) := by decide +kernel
theorem dX6_readNumber_91 : decode cX6_readNumber 91 = .ok (.lstore 5, 2) := by decide +kernel
theorem dX6_readNumber_93 : decode cX6_readNumber 93 = .ok (.iconst 0, 1) := by decide +kernel
theorem dX6_readNumber_94 : decode cX6_readNumber 94 = .ok (.istore 7, 2) := by decide +kernel
theorem dX6_readNumber_96 : decode cX6_readNumber 96 = .ok (.aload_n 0, 1) := by decide +kernel
theorem dX6_readNumber_97 : decode cX6_readNumber 97 = .ok (.invokevirtual 126, 3) := by decide +kernel
theorem dX6_readNumber_100 : decode cX6_readNumber 100 = .ok (.invokestatic 109, 3) := by decide +kernel
theorem dX6_readNumber_103 : decode cX6_readNumber 103 = .ok (.ifCond .eq 66, 3) := by decide +kernel
theorem dX6_readNumber_106 : decode cX6_readNumber 106 = .ok (.aload_n 0, 1) := by decide +kernel
theorem dX6_readNumber_107 : decode cX6_readNumber 107 = .ok (.invokevirtual 126, 3) := by decide +kernel
theorem dX6_readNumber_110 : decode cX6_readNumber 110 = .ok (.bipush 48, 2) := by decide +kernel
theorem dX6_readNumber_112 : decode cX6_readNumber 112 = .ok (.isub, 1) := by decide +kernel
theorem dX6_readNumber_113 : decode cX6_readNumber 113 = .ok (.istore 8, 2) := by decide +kernel
theorem dX6_readNumber_115 : decode cX6_readNumber 115 = .ok (.iload 7, 2) := by decide +kernel
theorem dX6_readNumber_117 : decode cX6_readNumber 117 = .ok (.ifCond .ne 20, 3) := by decide +kernel
theorem dX6_readNumber_120 : decode cX6_readNumber 120 = .ok (.lload 5, 2) := by decide +kernel
theorem dX6_readNumber_122 : decode cX6_readNumber 122 = .ok (.ldc2_w 243, 3) := by decide +kernel
theorem dX6_readNumber_125 : decode cX6_readNumber 125 = .ok (.iload 8, 2) := by decide +kernel
theorem dX6_readNumber_127 : decode cX6_readNumber 127 = .ok (.i2l, 1) := by decide +kernel
theorem dX6_readNumber_128 : decode cX6_readNumber 128 = .ok (.ladd, 1) := by decide +kernel
theorem dX6_readNumber_129 : decode cX6_readNumber 129 = .ok (.ldc2_w 245, 3) := by decide +kernel
theorem dX6_readNumber_132 : decode cX6_readNumber 132 = .ok (.ldiv, 1) := by decide +kernel
theorem dX6_readNumber_133 : decode cX6_readNumber 133 = .ok (.lcmp, 1) := by decide +kernel
theorem dX6_readNumber_134 : decode cX6_readNumber 134 = .ok (.ifCond .ge 7, 3) := by decide +kernel
theorem dX6_readNumber_137 : decode cX6_readNumber 137 = .ok (.iconst 1, 1) := by decide +kernel
theorem dX6_readNumber_138 : decode cX6_readNumber 138 = .ok (.goto 4, 3) := by decide +kernel
theorem dX6_readNumber_141 : decode cX6_readNumber 141 = .ok (.iconst 0, 1) := by decide +kernel
theorem dX6_readNumber_142 : decode cX6_readNumber 142 = .ok (.istore 7, 2) := by decide +kernel
theorem dX6_readNumber_144 : decode cX6_readNumber 144 = .ok (.ldc2_w 245, 3) := by decide +kernel
theorem dX6_readNumber_147 : decode cX6_readNumber 147 = .ok (.lload 5, 2) := by decide +kernel
theorem dX6_readNumber_149 : decode cX6_readNumber 149 = .ok (.lmul, 1) := by decide +kernel
theorem dX6_readNumber_150 : decode cX6_readNumber 150 = .ok (.iload 8, 2) := by decide +kernel
theorem dX6_readNumber_152 : decode cX6_readNumber 152 = .ok (.i2l, 1) := by decide +kernel
theorem dX6_readNumber_153 : decode cX6_readNumber 153 = .ok (.lsub, 1) := by decide +kernel
theorem dX6_readNumber_154 : decode cX6_readNumber 154 = .ok (.lstore 5, 2) := by decide +kernel
theorem dX6_readNumber_156 : decode cX6_readNumber 156 = .ok (.aload_n 0, 1) := by decide +kernel
theorem dX6_readNumber_157 : decode cX6_readNumber 157 = .ok (.dup, 1) := by decide +kernel
theorem dX6_readNumber_158 : decode cX6_readNumber 158 = .ok (.getfield 99, 3) := by decide +kernel
theorem dX6_readNumber_161 : decode cX6_readNumber 161 = .ok (.iconst 1, 1) := by decide +kernel
theorem dX6_readNumber_162 : decode cX6_readNumber 162 = .ok (.iadd, 1) := by decide +kernel
theorem dX6_readNumber_163 : decode cX6_readNumber 163 = .ok (.putfield 99, 3) := by decide +kernel
theorem dX6_readNumber_166 : decode cX6_readNumber 166 = .ok (.goto (-70), 3) := by decide +kernel
theorem dX6_readNumber_169 : decode cX6_readNumber 169 = .ok (.iload 7, 2) := by decide +kernel
theorem dX6_readNumber_171 : decode cX6_readNumber 171 = .ok (.ifCond .ne 35, 3) := by decide +kernel
theorem dX6_readNumber_174 : decode cX6_readNumber 174 = .ok (.iload_n 3, 1) := by decide +kernel
theorem dX6_readNumber_175 : decode cX6_readNumber 175 = .ok (.ifCond .eq 18, 3) := by decide +kernel
theorem dX6_readNumber_178 : decode cX6_readNumber 178 = .ok (.iload_n 2, 1) := by decide +kernel
theorem dX6_readNumber_179 : decode cX6_readNumber 179 = .ok (.ifCond .ne 27, 3) := by decide +kernel
theorem dX6_readNumber_182 : decode cX6_readNumber 182 = .ok (.aload_n 0, 1) := by decide +kernel
theorem dX6_readNumber_183 : decode cX6_readNumber 183 = .ok (.getfield 99, 3) := by decide +kernel
theorem dX6_readNumber_186 : decode cX6_readNumber 186 = .ok (.iload 4, 2) := by decide +kernel
theorem dX6_readNumber_188 : decode cX6_readNumber 188 = .ok (.iconst 1, 1) := by decide +kernel
theorem dX6_readNumber_189 : decode cX6_readNumber 189 = .ok (.iadd, 1) := by decide +kernel
theorem dX6_readNumber_190 : decode cX6_readNumber 190 = .ok (.if_icmp .gt 16, 3) := by decide +kernel
theorem dX6_readNumber_193 : decode cX6_readNumber 193 = .ok (.iload_n 2, 1) := by decide +kernel
theorem dX6_readNumber_194 : decode cX6_readNumber 194 = .ok (.ifCond .ne 17, 3) := by decide +kernel
theorem dX6_readNumber_197 : decode cX6_readNumber 197 = .ok (.lload 5, 2) := by decide +kernel
theorem dX6_readNumber_199 : decode cX6_readNumber 199 = .ok (.ldc2_w 243, 3) := by decide +kernel
theorem dX6_readNumber_202 : decode cX6_readNumber 202 = .ok (.lcmp, 1) := by decide +kernel
theorem dX6_readNumber_203 : decode cX6_readNumber 203 = .ok (.ifCond .ne 8, 3) := by decide +kernel
theorem dX6_readNumber_206 : decode cX6_readNumber 206 = .ok (.aload_n 0, 1) := by decide +kernel
theorem dX6_readNumber_207 : decode cX6_readNumber 207 = .ok (.iload_n 1, 1) := by decide +kernel
theorem dX6_readNumber_208 : decode cX6_readNumber 208 = .ok (.invokevirtual 144, 3) := by decide +kernel
theorem dX6_readNumber_211 : decode cX6_readNumber 211 = .ok (.iload_n 2, 1) := by decide +kernel
theorem dX6_readNumber_212 : decode cX6_readNumber 212 = .ok (.ifCond .eq 8, 3) := by decide +kernel
theorem dX6_readNumber_215 : decode cX6_readNumber 215 = .ok (.lload 5, 2) := by decide +kernel
theorem dX6_readNumber_217 : decode cX6_readNumber 217 = .ok (.goto 6, 3) := by decide +kernel
theorem dX6_readNumber_220 : decode cX6_readNumber 220 = .ok (.lload 5, 2) := by decide +kernel
theorem dX6_readNumber_222 : decode cX6_readNumber 222 = .ok (.lneg, 1) := by decide +kernel
theorem dX6_readNumber_223 : decode cX6_readNumber 223 = .ok (.lreturn, 1) := by decide +kernel
theorem dX6_say_0 : decode cX6_say 0 = .ok (.aload_n 0, 1) := by decide +kernel
theorem dX6_say_1 : decode cX6_say 1 = .ok (.getfield 74, 3) := by decide +kernel
theorem dX6_say_4 : decode cX6_say 4 = .ok (.sipush 2000, 3) := by decide +kernel
theorem dX6_say_7 : decode cX6_say 7 = .ok (.aload_n 0, 1) := by decide +kernel
theorem dX6_say_8 : decode cX6_say 8 = .ok (.getfield 189, 3) := by decide +kernel
theorem dX6_say_11 : decode cX6_say 11 = .ok (.imul, 1) := by decide +kernel
theorem dX6_say_12 : decode cX6_say 12 = .ok (.aload_n 0, 1) := by decide +kernel
theorem dX6_say_13 : decode cX6_say 13 = .ok (.getfield 77, 3) := by decide +kernel
theorem dX6_say_16 : decode cX6_say 16 = .ok (.aload_n 0, 1) := by decide +kernel
theorem dX6_say_17 : decode cX6_say 17 = .ok (.getfield 189, 3) := by decide +kernel
theorem dX6_say_20 : decode cX6_say 20 = .ok (.iaload, 1) := by decide +kernel
theorem dX6_say_21 : decode cX6_say 21 = .ok (.iadd, 1) := by decide +kernel
theorem dX6_say_22 : decode cX6_say 22 = .ok (.iload_n 1, 1) := by decide +kernel
theorem dX6_say_23 : decode cX6_say 23 = .ok (.iastore, 1) := by decide +kernel
theorem dX6_say_24 : decode cX6_say 24 = .ok (.aload_n 0, 1) := by decide +kernel
theorem dX6_say_25 : decode cX6_say 25 = .ok (.getfield 77, 3) := by decide +kernel
theorem dX6_say_28 : decode cX6_say 28 = .ok (.aload_n 0, 1) := by decide +kernel
theorem dX6_say_29 : decode cX6_say 29 = .ok (.getfield 189, 3) := by decide +kernel
theorem dX6_say_32 : decode cX6_say 32 = .ok (.dup2, 1) := by decide +kernel
theorem dX6_say_33 : decode cX6_say 33 = .ok (.iaload, 1) := by decide +kernel
theorem dX6_say_34 : decode cX6_say 34 = .ok (.iconst 1, 1) := by decide +kernel
theorem dX6_say_35 : decode cX6_say 35 = .ok (.iadd, 1) := by decide +kernel
theorem dX6_say_36 : decode cX6_say 36 = .ok (.iastore, 1) := by decide +kernel
theorem dX6_say_37 : decode cX6_say 37 = .ok (.return_, 1) := by decide +kernel
theorem dX6_readText_0 : decode cX6_readText 0 = .ok (.aload_n 0, 1) := by decide +kernel
theorem dX6_readText_1 : decode cX6_readText 1 = .ok (.dup, 1) := by decide +kernel
theorem dX6_readText_2 : decode cX6_readText 2 = .ok (.getfield 99, 3) := by decide +kernel
theorem dX6_readText_5 : decode cX6_readText 5 = .ok (.iconst 1, 1) := by decide +kernel
theorem dX6_readText_6 : decode cX6_readText 6 = .ok (.iadd, 1) := by decide +kernel
theorem dX6_readText_7 : decode cX6_readText 7 = .ok (.putfield 99, 3) := by decide +kernel
theorem dX6_readText_10 : decode cX6_readText 10 = .ok (.iconst 0, 1) := by decide +kernel
theorem dX6_readText_11 : decode cX6_readText 11 = .ok (.istore_n 1, 1) := by decide +kernel
theorem dX6_readText_12 : decode cX6_readText 12 = .ok (.aload_n 0, 1) := by decide +kernel
theorem dX6_readText_13 : decode cX6_readText 13 = .ok (.getfield 102, 3) := by decide +kernel
theorem dX6_readText_16 : decode cX6_readText 16 = .ok (.iconst (-1), 1) := by decide +kernel
theorem dX6_readText_17 : decode cX6_readText 17 = .ok (.if_icmp .ne 85, 3) := by decide +kernel
theorem dX6_readText_20 : decode cX6_readText 20 = .ok (.aload_n 0, 1) := by decide +kernel
theorem dX6_readText_21 : decode cX6_readText 21 = .ok (.invokevirtual 126, 3) := by decide +kernel
theorem dX6_readText_24 : decode cX6_readText 24 = .ok (.bipush 39, 2) := by decide +kernel
theorem dX6_readText_26 : decode cX6_readText 26 = .ok (.if_icmp .eq 76, 3) := by decide +kernel
theorem dX6_readText_29 : decode cX6_readText 29 = .ok (.aload_n 0, 1) := by decide +kernel
theorem dX6_readText_30 : decode cX6_readText 30 = .ok (.invokevirtual 126, 3) := by decide +kernel
theorem dX6_readText_33 : decode cX6_readText 33 = .ok (.istore_n 2, 1) := by decide +kernel
theorem dX6_readText_34 : decode cX6_readText 34 = .ok (.iload_n 2, 1) := by decide +kernel
theorem dX6_readText_35 : decode cX6_readText 35 = .ok (.bipush 32, 2) := by decide +kernel
theorem dX6_readText_37 : decode cX6_readText 37 = .ok (.if_icmp .lt 16, 3) := by decide +kernel
theorem dX6_readText_40 : decode cX6_readText 40 = .ok (.iload_n 2, 1) := by decide +kernel
theorem dX6_readText_41 : decode cX6_readText 41 = .ok (.bipush 126, 2) := by decide +kernel
theorem dX6_readText_43 : decode cX6_readText 43 = .ok (.if_icmp .gt 10, 3) := by decide +kernel
theorem dX6_readText_46 : decode cX6_readText 46 = .ok (.iload_n 1, 1) := by decide +kernel
theorem dX6_readText_47 : decode cX6_readText 47 = .ok (.sipush 255, 3) := by decide +kernel
theorem dX6_readText_50 : decode cX6_readText 50 = .ok (.if_icmp .ne 12, 3) := by decide +kernel
theorem dX6_readText_53 : decode cX6_readText 53 = .ok (.aload_n 0, 1) := by decide +kernel
theorem dX6_readText_54 : decode cX6_readText 54 = .ok (.aload_n 0, 1) := by decide +kernel
theorem dX6_readText_55 : decode cX6_readText 55 = .ok (.getfield 99, 3) := by decide +kernel
theorem dX6_readText_58 : decode cX6_readText 58 = .ok (.invokevirtual 144, 3) := by decide +kernel
theorem dX6_readText_61 : decode cX6_readText 61 = .ok (.return_, 1) := by decide +kernel
theorem dX6_readText_62 : decode cX6_readText 62 = .ok (.aload_n 0, 1) := by decide +kernel
theorem dX6_readText_63 : decode cX6_readText 63 = .ok (.getfield 99, 3) := by decide +kernel
theorem dX6_readText_66 : decode cX6_readText 66 = .ok (.istore_n 3, 1) := by decide +kernel
theorem dX6_readText_67 : decode cX6_readText 67 = .ok (.aload_n 0, 1) := by decide +kernel
theorem dX6_readText_68 : decode cX6_readText 68 = .ok (.dup, 1) := by decide +kernel
theorem dX6_readText_69 : decode cX6_readText 69 = .ok (.getfield 99, 3) := by decide +kernel
theorem dX6_readText_72 : decode cX6_readText 72 = .ok (.iconst 1, 1) := by decide +kernel
theorem dX6_readText_73 : decode cX6_readText 73 = .ok (.iadd, 1) := by decide +kernel
theorem dX6_readText_74 : decode cX6_readText 74 = .ok (.putfield 99, 3) := by decide +kernel
theorem dX6_readText_77 : decode cX6_readText 77 = .ok (.aload_n 0, 1) := by decide +kernel
theorem dX6_readText_78 : decode cX6_readText 78 = .ok (.iload_n 2, 1) := by decide +kernel
theorem dX6_readText_79 : decode cX6_readText 79 = .ok (.bipush 92, 2) := by decide +kernel
theorem dX6_readText_81 : decode cX6_readText 81 = .ok (.if_icmp .ne 11, 3) := by decide +kernel
theorem dX6_readText_84 : decode cX6_readText 84 = .ok (.aload_n 0, 1) := by decide +kernel
theorem dX6_readText_85 : decode cX6_readText 85 = .ok (.iload_n 3, 1) := by decide +kernel
theorem dX6_readText_86 : decode cX6_readText 86 = .ok (.invokevirtual 247, 3) := by decide +kernel
theorem dX6_readText_89 : decode cX6_readText 89 = .ok (.goto 4, 3) := by decide +kernel
theorem dX6_readText_92 : decode cX6_readText 92 = .ok (.iload_n 2, 1) := by decide +kernel
theorem dX6_readText_93 : decode cX6_readText 93 = .ok (.invokevirtual 250, 3) := by decide +kernel
theorem dX6_readText_96 : decode cX6_readText 96 = .ok (.iinc 1 1, 3) := by decide +kernel
theorem dX6_readText_99 : decode cX6_readText 99 = .ok (.goto (-87), 3) := by decide +kernel
theorem dX6_readText_102 : decode cX6_readText 102 = .ok (.aload_n 0, 1) := by decide +kernel
theorem dX6_readText_103 : decode cX6_readText 103 = .ok (.dup, 1) := by decide +kernel
theorem dX6_readText_104 : decode cX6_readText 104 = .ok (.getfield 99, 3) := by decide +kernel
theorem dX6_readText_107 : decode cX6_readText 107 = .ok (.iconst 1, 1) := by decide +kernel
theorem dX6_readText_108 : decode cX6_readText 108 = .ok (.iadd, 1) := by decide +kernel
theorem dX6_readText_109 : decode cX6_readText 109 = .ok (.putfield 99, 3) := by decide +kernel
theorem dX6_readText_112 : decode cX6_readText 112 = .ok (.return_, 1) := by decide +kernel
theorem dX6_behind_0 : decode cX6_behind 0 = .ok (.aload_n 0, 1) := by decide +kernel
theorem dX6_behind_1 : decode cX6_behind 1 = .ok (.invokevirtual 126, 3) := by decide +kernel
theorem dX6_behind_4 : decode cX6_behind 4 = .ok (.istore_n 2, 1) := by decide +kernel
theorem dX6_behind_5 : decode cX6_behind 5 = .ok (.aload_n 0, 1) := by decide +kernel
theorem dX6_behind_6 : decode cX6_behind 6 = .ok (.dup, 1) := by decide +kernel
theorem dX6_behind_7 : decode cX6_behind 7 = .ok (.getfield 99, 3) := by decide +kernel
theorem dX6_behind_10 : decode cX6_behind 10 = .ok (.iconst 1, 1) := by decide +kernel
theorem dX6_behind_11 : decode cX6_behind 11 = .ok (.iadd, 1) := by decide +kernel
theorem dX6_behind_12 : decode cX6_behind 12 = .ok (.putfield 99, 3) := by decide +kernel
theorem dX6_behind_15 : decode cX6_behind 15 = .ok (.iload_n 2, 1) := by decide +kernel
theorem dX6_behind_16 : decode cX6_behind 16 = .ok (.bipush 39, 2) := by decide +kernel
theorem dX6_behind_18 : decode cX6_behind 18 = .ok (.if_icmp .eq 9, 3) := by decide +kernel
theorem dX6_behind_21 : decode cX6_behind 21 = .ok (.iload_n 2, 1) := by decide +kernel
theorem dX6_behind_22 : decode cX6_behind 22 = .ok (.bipush 92, 2) := by decide +kernel
theorem dX6_behind_24 : decode cX6_behind 24 = .ok (.if_icmp .ne 5, 3) := by decide +kernel
theorem dX6_behind_27 : decode cX6_behind 27 = .ok (.iload_n 2, 1) := by decide +kernel
theorem dX6_behind_28 : decode cX6_behind 28 = .ok (.ireturn, 1) := by decide +kernel
theorem dX6_behind_29 : decode cX6_behind 29 = .ok (.iload_n 2, 1) := by decide +kernel
theorem dX6_behind_30 : decode cX6_behind 30 = .ok (.bipush 120, 2) := by decide +kernel
theorem dX6_behind_32 : decode cX6_behind 32 = .ok (.if_icmp .eq 22, 3) := by decide +kernel
theorem dX6_behind_35 : decode cX6_behind 35 = .ok (.aload_n 0, 1) := by decide +kernel
theorem dX6_behind_36 : decode cX6_behind 36 = .ok (.iload_n 2, 1) := by decide +kernel
theorem dX6_behind_37 : decode cX6_behind 37 = .ok (.iconst (-1), 1) := by decide +kernel
theorem dX6_behind_38 : decode cX6_behind 38 = .ok (.if_icmp .ne 10, 3) := by decide +kernel
theorem dX6_behind_41 : decode cX6_behind 41 = .ok (.aload_n 0, 1) := by decide +kernel
theorem dX6_behind_42 : decode cX6_behind 42 = .ok (.getfield 96, 3) := by decide +kernel
theorem dX6_behind_45 : decode cX6_behind 45 = .ok (.goto 4, 3) := by decide +kernel
theorem dX6_behind_48 : decode cX6_behind 48 = .ok (.iload_n 1, 1) := by decide +kernel
theorem dX6_behind_49 : decode cX6_behind 49 = .ok (.invokevirtual 144, 3) := by decide +kernel
theorem dX6_behind_52 : decode cX6_behind 52 = .ok (.iconst 0, 1) := by decide +kernel
theorem dX6_behind_53 : decode cX6_behind 53 = .ok (.ireturn, 1) := by decide +kernel
theorem dX6_behind_54 : decode cX6_behind 54 = .ok (.iconst 0, 1) := by decide +kernel
theorem dX6_behind_55 : decode cX6_behind 55 = .ok (.istore_n 3, 1) := by decide +kernel
theorem dX6_behind_56 : decode cX6_behind 56 = .ok (.iconst 0, 1) := by decide +kernel
theorem dX6_behind_57 : decode cX6_behind 57 = .ok (.istore 4, 2) := by decide +kernel
theorem dX6_behind_59 : decode cX6_behind 59 = .ok (.iload 4, 2) := by decide +kernel
theorem dX6_behind_61 : decode cX6_behind 61 = .ok (.iconst 2, 1) := by decide +kernel
theorem dX6_behind_62 : decode cX6_behind 62 = .ok (.if_icmp .ge 109, 3) := by decide +kernel
theorem dX6_behind_65 : decode cX6_behind 65 = .ok (.aload_n 0, 1) := by decide +kernel
theorem dX6_behind_66 : decode cX6_behind 66 = .ok (.getfield 102, 3) := by decide +kernel
theorem dX6_behind_69 : decode cX6_behind 69 = .ok (.iconst (-1), 1) := by decide +kernel
theorem dX6_behind_70 : decode cX6_behind 70 = .ok (.if_icmp .ne 101, 3) := by decide +kernel
theorem dX6_behind_73 : decode cX6_behind 73 = .ok (.aload_n 0, 1) := by decide +kernel
theorem dX6_behind_74 : decode cX6_behind 74 = .ok (.invokevirtual 126, 3) := by decide +kernel
theorem dX6_behind_77 : decode cX6_behind 77 = .ok (.istore 5, 2) := by decide +kernel
theorem dX6_behind_79 : decode cX6_behind 79 = .ok (.iload 5, 2) := by decide +kernel
theorem dX6_behind_81 : decode cX6_behind 81 = .ok (.invokestatic 109, 3) := by decide +kernel
theorem dX6_behind_84 : decode cX6_behind 84 = .ok (.ifCond .eq 11, 3) := by decide +kernel
theorem dX6_behind_87 : decode cX6_behind 87 = .ok (.iload 5, 2) := by decide +kernel
theorem dX6_behind_89 : decode cX6_behind 89 = .ok (.bipush 48, 2) := by decide +kernel
theorem dX6_behind_91 : decode cX6_behind 91 = .ok (.isub, 1) := by decide +kernel
theorem dX6_behind_92 : decode cX6_behind 92 = .ok (.goto 29, 3) := by decide +kernel
theorem dX6_behind_95 : decode cX6_behind 95 = .ok (.iload 5, 2) := by decide +kernel
theorem dX6_behind_97 : decode cX6_behind 97 = .ok (.bipush 97, 2) := by decide +kernel
theorem dX6_behind_99 : decode cX6_behind 99 = .ok (.if_icmp .lt 21, 3) := by decide +kernel
theorem dX6_behind_102 : decode cX6_behind 102 = .ok (.iload 5, 2) := by decide +kernel
theorem dX6_behind_104 : decode cX6_behind 104 = .ok (.bipush 102, 2) := by decide +kernel
theorem dX6_behind_106 : decode cX6_behind 106 = .ok (.if_icmp .gt 14, 3) := by decide +kernel
theorem dX6_behind_109 : decode cX6_behind 109 = .ok (.iload 5, 2) := by decide +kernel
theorem dX6_behind_111 : decode cX6_behind 111 = .ok (.bipush 97, 2) := by decide +kernel
theorem dX6_behind_113 : decode cX6_behind 113 = .ok (.isub, 1) := by decide +kernel
theorem dX6_behind_114 : decode cX6_behind 114 = .ok (.bipush 10, 2) := by decide +kernel
theorem dX6_behind_116 : decode cX6_behind 116 = .ok (.iadd, 1) := by decide +kernel
theorem dX6_behind_117 : decode cX6_behind 117 = .ok (.goto 4, 3) := by decide +kernel
theorem dX6_behind_120 : decode cX6_behind 120 = .ok (.iconst (-1), 1) := by decide +kernel
theorem dX6_behind_121 : decode cX6_behind 121 = .ok (.istore 6, 2) := by decide +kernel
theorem dX6_behind_123 : decode cX6_behind 123 = .ok (.iload 6, 2) := by decide +kernel
theorem dX6_behind_125 : decode cX6_behind 125 = .ok (.iconst (-1), 1) := by decide +kernel
theorem dX6_behind_126 : decode cX6_behind 126 = .ok (.if_icmp .ne 21, 3) := by decide +kernel
theorem dX6_behind_129 : decode cX6_behind 129 = .ok (.aload_n 0, 1) := by decide +kernel
theorem dX6_behind_130 : decode cX6_behind 130 = .ok (.iload 5, 2) := by decide +kernel
theorem dX6_behind_132 : decode cX6_behind 132 = .ok (.iconst (-1), 1) := by decide +kernel
theorem dX6_behind_133 : decode cX6_behind 133 = .ok (.if_icmp .ne 10, 3) := by decide +kernel
theorem dX6_behind_136 : decode cX6_behind 136 = .ok (.aload_n 0, 1) := by decide +kernel
theorem dX6_behind_137 : decode cX6_behind 137 = .ok (.getfield 96, 3) := by decide +kernel
theorem dX6_behind_140 : decode cX6_behind 140 = .ok (.goto 4, 3) := by decide +kernel
theorem dX6_behind_143 : decode cX6_behind 143 = .ok (.iload_n 1, 1) := by decide +kernel
theorem dX6_behind_144 : decode cX6_behind 144 = .ok (.invokevirtual 144, 3) := by decide +kernel
theorem dX6_behind_147 : decode cX6_behind 147 = .ok (.bipush 16, 2) := by decide +kernel
theorem dX6_behind_149 : decode cX6_behind 149 = .ok (.iload_n 3, 1) := by decide +kernel
theorem dX6_behind_150 : decode cX6_behind 150 = .ok (.imul, 1) := by decide +kernel
theorem dX6_behind_151 : decode cX6_behind 151 = .ok (.iload 6, 2) := by decide +kernel
theorem dX6_behind_153 : decode cX6_behind 153 = .ok (.iadd, 1) := by decide +kernel
theorem dX6_behind_154 : decode cX6_behind 154 = .ok (.istore_n 3, 1) := by decide +kernel
theorem dX6_behind_155 : decode cX6_behind 155 = .ok (.aload_n 0, 1) := by decide +kernel
theorem dX6_behind_156 : decode cX6_behind 156 = .ok (.dup, 1) := by decide +kernel
theorem dX6_behind_157 : decode cX6_behind 157 = .ok (.getfield 99, 3) := by decide +kernel
theorem dX6_behind_160 : decode cX6_behind 160 = .ok (.iconst 1, 1) := by decide +kernel
theorem dX6_behind_161 : decode cX6_behind 161 = .ok (.iadd, 1) := by decide +kernel
theorem dX6_behind_162 : decode cX6_behind 162 = .ok (.putfield 99, 3) := by decide +kernel
theorem dX6_behind_165 : decode cX6_behind 165 = .ok (.iinc 4 1, 3) := by decide +kernel
theorem dX6_behind_168 : decode cX6_behind 168 = .ok (.goto (-109), 3) := by decide +kernel
theorem dX6_behind_171 : decode cX6_behind 171 = .ok (.iload_n 3, 1) := by decide +kernel
theorem dX6_behind_172 : decode cX6_behind 172 = .ok (.ireturn, 1) := by decide +kernel
theorem dX6_collects_0 : decode cX6_collects 0 = .ok (.aload_n 0, 1) := by decide +kernel
theorem dX6_collects_1 : decode cX6_collects 1 = .ok (.getfield 35, 3) := by decide +kernel
theorem dX6_collects_4 : decode cX6_collects 4 = .ok (.iconst 4, 1) := by decide +kernel
theorem dX6_collects_5 : decode cX6_collects 5 = .ok (.iload_n 1, 1) := by decide +kernel
theorem dX6_collects_6 : decode cX6_collects 6 = .ok (.imul, 1) := by decide +kernel
theorem dX6_collects_7 : decode cX6_collects 7 = .ok (.iconst 1, 1) := by decide +kernel
theorem dX6_collects_8 : decode cX6_collects 8 = .ok (.iadd, 1) := by decide +kernel
theorem dX6_collects_9 : decode cX6_collects 9 = .ok (.iaload, 1) := by decide +kernel
theorem dX6_collects_10 : decode cX6_collects 10 = .ok (.ifCond .le 7, 3) := by decide +kernel
theorem dX6_collects_13 : decode cX6_collects 13 = .ok (.iconst 1, 1) := by decide +kernel
theorem dX6_collects_14 : decode cX6_collects 14 = .ok (.goto 4, 3) := by decide +kernel
theorem dX6_collects_17 : decode cX6_collects 17 = .ok (.iconst 0, 1) := by decide +kernel
theorem dX6_collects_18 : decode cX6_collects 18 = .ok (.istore_n 2, 1) := by decide +kernel
theorem dX6_collects_19 : decode cX6_collects 19 = .ok (.iconst 0, 1) := by decide +kernel
theorem dX6_collects_20 : decode cX6_collects 20 = .ok (.istore_n 3, 1) := by decide +kernel
theorem dX6_collects_21 : decode cX6_collects 21 = .ok (.iload_n 3, 1) := by decide +kernel
theorem dX6_collects_22 : decode cX6_collects 22 = .ok (.aload_n 0, 1) := by decide +kernel
theorem dX6_collects_23 : decode cX6_collects 23 = .ok (.getfield 35, 3) := by decide +kernel
theorem dX6_collects_26 : decode cX6_collects 26 = .ok (.iconst 4, 1) := by decide +kernel
theorem dX6_collects_27 : decode cX6_collects 27 = .ok (.iload_n 1, 1) := by decide +kernel
theorem dX6_collects_28 : decode cX6_collects 28 = .ok (.imul, 1) := by decide +kernel
theorem dX6_collects_29 : decode cX6_collects 29 = .ok (.iaload, 1) := by decide +kernel
theorem dX6_collects_30 : decode cX6_collects 30 = .ok (.if_icmp .ge 33, 3) := by decide +kernel
theorem dX6_collects_33 : decode cX6_collects 33 = .ok (.iload_n 2, 1) := by decide +kernel
theorem dX6_collects_34 : decode cX6_collects 34 = .ok (.ifCond .ne 17, 3) := by decide +kernel
theorem dX6_collects_37 : decode cX6_collects 37 = .ok (.aload_n 0, 1) := by decide +kernel
theorem dX6_collects_38 : decode cX6_collects 38 = .ok (.getfield 38, 3) := by decide +kernel
theorem dX6_collects_41 : decode cX6_collects 41 = .ok (.bipush 16, 2) := by decide +kernel
theorem dX6_collects_43 : decode cX6_collects 43 = .ok (.iload_n 1, 1) := by decide +kernel
theorem dX6_collects_44 : decode cX6_collects 44 = .ok (.imul, 1) := by decide +kernel
theorem dX6_collects_45 : decode cX6_collects 45 = .ok (.iload_n 3, 1) := by decide +kernel
theorem dX6_collects_46 : decode cX6_collects 46 = .ok (.iadd, 1) := by decide +kernel
theorem dX6_collects_47 : decode cX6_collects 47 = .ok (.iaload, 1) := by decide +kernel
theorem dX6_collects_48 : decode cX6_collects 48 = .ok (.ifCond .le 7, 3) := by decide +kernel
theorem dX6_collects_51 : decode cX6_collects 51 = .ok (.iconst 1, 1) := by decide +kernel
theorem dX6_collects_52 : decode cX6_collects 52 = .ok (.goto 4, 3) := by decide +kernel
theorem dX6_collects_55 : decode cX6_collects 55 = .ok (.iconst 0, 1) := by decide +kernel
theorem dX6_collects_56 : decode cX6_collects 56 = .ok (.istore_n 2, 1) := by decide +kernel
theorem dX6_collects_57 : decode cX6_collects 57 = .ok (.iinc 3 1, 3) := by decide +kernel
theorem dX6_collects_60 : decode cX6_collects 60 = .ok (.goto (-39), 3) := by decide +kernel
theorem dX6_collects_63 : decode cX6_collects 63 = .ok (.iload_n 2, 1) := by decide +kernel
theorem dX6_collects_64 : decode cX6_collects 64 = .ok (.ireturn, 1) := by decide +kernel
theorem dX6_query_0 : decode cX6_query 0 = .ok (.aload_n 0, 1) := by decide +kernel
theorem dX6_query_1 : decode cX6_query 1 = .ok (.iconst 0, 1) := by decide +kernel
theorem dX6_query_2 : decode cX6_query 2 = .ok (.putfield 90, 3) := by decide +kernel
theorem dX6_query_5 : decode cX6_query 5 = .ok (.aload_n 0, 1) := by decide +kernel
theorem dX6_query_6 : decode cX6_query 6 = .ok (.iload_n 1, 1) := by decide +kernel
theorem dX6_query_7 : decode cX6_query 7 = .ok (.invokevirtual 115, 3) := by decide +kernel
theorem dX6_query_10 : decode cX6_query 10 = .ok (.ifCond .ne 6, 3) := by decide +kernel
theorem dX6_query_13 : decode cX6_query 13 = .ok (.bipush (-2), 2) := by decide +kernel
theorem dX6_query_15 : decode cX6_query 15 = .ok (.ireturn, 1) := by decide +kernel
theorem dX6_query_16 : decode cX6_query 16 = .ok (.aload_n 0, 1) := by decide +kernel
theorem dX6_query_17 : decode cX6_query 17 = .ok (.aload_n 0, 1) := by decide +kernel
theorem dX6_query_18 : decode cX6_query 18 = .ok (.getfield 31, 3) := by decide +kernel
theorem dX6_query_21 : decode cX6_query 21 = .ok (.ifCond .ne 7, 3) := by decide +kernel
theorem dX6_query_24 : decode cX6_query 24 = .ok (.iconst 1, 1) := by decide +kernel
theorem dX6_query_25 : decode cX6_query 25 = .ok (.goto 4, 3) := by decide +kernel
theorem dX6_query_28 : decode cX6_query 28 = .ok (.iconst 0, 1) := by decide +kernel
theorem dX6_query_29 : decode cX6_query 29 = .ok (.putfield 189, 3) := by decide +kernel
theorem dX6_query_32 : decode cX6_query 32 = .ok (.iconst 0, 1) := by decide +kernel
theorem dX6_query_33 : decode cX6_query 33 = .ok (.istore_n 2, 1) := by decide +kernel
theorem dX6_query_34 : decode cX6_query 34 = .ok (.iload_n 2, 1) := by decide +kernel
theorem dX6_query_35 : decode cX6_query 35 = .ok (.iconst 4, 1) := by decide +kernel
theorem dX6_query_36 : decode cX6_query 36 = .ok (.if_icmp .ge 23, 3) := by decide +kernel
theorem dX6_query_39 : decode cX6_query 39 = .ok (.aload_n 0, 1) := by decide +kernel
theorem dX6_query_40 : decode cX6_query 40 = .ok (.getfield 35, 3) := by decide +kernel
theorem dX6_query_43 : decode cX6_query 43 = .ok (.iconst 4, 1) := by decide +kernel
theorem dX6_query_44 : decode cX6_query 44 = .ok (.aload_n 0, 1) := by decide +kernel
theorem dX6_query_45 : decode cX6_query 45 = .ok (.getfield 189, 3) := by decide +kernel
theorem dX6_query_48 : decode cX6_query 48 = .ok (.imul, 1) := by decide +kernel
theorem dX6_query_49 : decode cX6_query 49 = .ok (.iload_n 2, 1) := by decide +kernel
theorem dX6_query_50 : decode cX6_query 50 = .ok (.iadd, 1) := by decide +kernel
theorem dX6_query_51 : decode cX6_query 51 = .ok (.iconst 0, 1) := by decide +kernel
theorem dX6_query_52 : decode cX6_query 52 = .ok (.iastore, 1) := by decide +kernel
theorem dX6_query_53 : decode cX6_query 53 = .ok (.iinc 2 1, 3) := by decide +kernel
theorem dX6_query_56 : decode cX6_query 56 = .ok (.goto (-22), 3) := by decide +kernel
theorem dX6_query_59 : decode cX6_query 59 = .ok (.aload_n 0, 1) := by decide +kernel
theorem dX6_query_60 : decode cX6_query 60 = .ok (.getfield 77, 3) := by decide +kernel
theorem dX6_query_63 : decode cX6_query 63 = .ok (.aload_n 0, 1) := by decide +kernel
theorem dX6_query_64 : decode cX6_query 64 = .ok (.getfield 189, 3) := by decide +kernel
theorem dX6_query_67 : decode cX6_query 67 = .ok (.iconst 0, 1) := by decide +kernel
theorem dX6_query_68 : decode cX6_query 68 = .ok (.iastore, 1) := by decide +kernel
theorem dX6_query_69 : decode cX6_query 69 = .ok (.aload_n 0, 1) := by decide +kernel
theorem dX6_query_70 : decode cX6_query 70 = .ok (.ldc2_w 148, 3) := by decide +kernel
theorem dX6_query_73 : decode cX6_query 73 = .ok (.invokevirtual 192, 3) := by decide +kernel
theorem dX6_query_76 : decode cX6_query 76 = .ok (.ifCond .ne 11, 3) := by decide +kernel
theorem dX6_query_79 : decode cX6_query 79 = .ok (.aload_n 0, 1) := by decide +kernel
theorem dX6_query_80 : decode cX6_query 80 = .ok (.aload_n 0, 1) := by decide +kernel
theorem dX6_query_81 : decode cX6_query 81 = .ok (.getfield 99, 3) := by decide +kernel
theorem dX6_query_84 : decode cX6_query 84 = .ok (.invokevirtual 144, 3) := by decide +kernel
theorem dX6_query_87 : decode cX6_query 87 = .ok (.aload_n 0, 1) := by decide +kernel
theorem dX6_query_88 : decode cX6_query 88 = .ok (.getfield 102, 3) := by decide +kernel
theorem dX6_query_91 : decode cX6_query 91 = .ok (.iconst (-1), 1) := by decide +kernel
theorem dX6_query_92 : decode cX6_query 92 = .ok (.if_icmp .ne 7, 3) := by decide +kernel
theorem dX6_query_95 : decode cX6_query 95 = .ok (.aload_n 0, 1) := by decide +kernel
theorem dX6_query_96 : decode cX6_query 96 = .ok (.invokevirtual 253, 3) := by decide +kernel
theorem dX6_query_99 : decode cX6_query 99 = .ok (.aload_n 0, 1) := by decide +kernel
theorem dX6_query_100 : decode cX6_query 100 = .ok (.bipush 44, 2) := by decide +kernel
theorem dX6_query_102 : decode cX6_query 102 = .ok (.invokevirtual 141, 3) := by decide +kernel
theorem dX6_query_105 : decode cX6_query 105 = .ok (.ifCond .eq 10, 3) := by decide +kernel
theorem dX6_query_108 : decode cX6_query 108 = .ok (.aload_n 0, 1) := by decide +kernel
theorem dX6_query_109 : decode cX6_query 109 = .ok (.invokevirtual 253, 3) := by decide +kernel
theorem dX6_query_112 : decode cX6_query 112 = .ok (.goto (-13), 3) := by decide +kernel
theorem dX6_query_115 : decode cX6_query 115 = .ok (.aload_n 0, 1) := by decide +kernel
theorem dX6_query_116 : decode cX6_query 116 = .ok (.ldc2_w 150, 3) := by decide +kernel
theorem dX6_query_119 : decode cX6_query 119 = .ok (.invokevirtual 192, 3) := by decide +kernel
theorem dX6_query_122 : decode cX6_query 122 = .ok (.ifCond .eq 7, 3) := by decide +kernel
theorem dX6_query_125 : decode cX6_query 125 = .ok (.aload_n 0, 1) := by decide +kernel
theorem dX6_query_126 : decode cX6_query 126 = .ok (.invokevirtual 256, 3) := by decide +kernel
theorem dX6_query_129 : decode cX6_query 129 = .ok (.aload_n 0, 1) := by decide +kernel
theorem dX6_query_130 : decode cX6_query 130 = .ok (.ldc2_w 152, 3) := by decide +kernel
theorem dX6_query_133 : decode cX6_query 133 = .ok (.invokevirtual 192, 3) := by decide +kernel
theorem dX6_query_136 : decode cX6_query 136 = .ok (.ifCond .eq 49, 3) := by decide +kernel
theorem dX6_query_139 : decode cX6_query 139 = .ok (.aload_n 0, 1) := by decide +kernel
theorem dX6_query_140 : decode cX6_query 140 = .ok (.ldc2_w 154, 3) := by decide +kernel
theorem dX6_query_143 : decode cX6_query 143 = .ok (.invokevirtual 192, 3) := by decide +kernel
theorem dX6_query_146 : decode cX6_query 146 = .ok (.ifCond .ne 11, 3) := by decide +kernel
theorem dX6_query_149 : decode cX6_query 149 = .ok (.aload_n 0, 1) := by decide +kernel
theorem dX6_query_150 : decode cX6_query 150 = .ok (.aload_n 0, 1) := by decide +kernel
theorem dX6_query_151 : decode cX6_query 151 = .ok (.getfield 99, 3) := by decide +kernel
theorem dX6_query_154 : decode cX6_query 154 = .ok (.invokevirtual 144, 3) := by decide +kernel
theorem dX6_query_157 : decode cX6_query 157 = .ok (.aload_n 0, 1) := by decide +kernel
theorem dX6_query_158 : decode cX6_query 158 = .ok (.getfield 102, 3) := by decide +kernel
theorem dX6_query_161 : decode cX6_query 161 = .ok (.iconst (-1), 1) := by decide +kernel
theorem dX6_query_162 : decode cX6_query 162 = .ok (.if_icmp .ne 7, 3) := by decide +kernel
theorem dX6_query_165 : decode cX6_query 165 = .ok (.aload_n 0, 1) := by decide +kernel
theorem dX6_query_166 : decode cX6_query 166 = .ok (.invokevirtual 259, 3) := by decide +kernel
theorem dX6_query_169 : decode cX6_query 169 = .ok (.aload_n 0, 1) := by decide +kernel
theorem dX6_query_170 : decode cX6_query 170 = .ok (.bipush 44, 2) := by decide +kernel
theorem dX6_query_172 : decode cX6_query 172 = .ok (.invokevirtual 141, 3) := by decide +kernel
theorem dX6_query_175 : decode cX6_query 175 = .ok (.ifCond .eq 10, 3) := by decide +kernel
theorem dX6_query_178 : decode cX6_query 178 = .ok (.aload_n 0, 1) := by decide +kernel
theorem dX6_query_179 : decode cX6_query 179 = .ok (.invokevirtual 259, 3) := by decide +kernel
theorem dX6_query_182 : decode cX6_query 182 = .ok (.goto (-13), 3) := by decide +kernel
theorem dX6_query_185 : decode cX6_query 185 = .ok (.aload_n 0, 1) := by decide +kernel
theorem dX6_query_186 : decode cX6_query 186 = .ok (.invokevirtual 130, 3) := by decide +kernel
theorem dX6_query_189 : decode cX6_query 189 = .ok (.aload_n 0, 1) := by decide +kernel
theorem dX6_query_190 : decode cX6_query 190 = .ok (.getfield 102, 3) := by decide +kernel
theorem dX6_query_193 : decode cX6_query 193 = .ok (.iconst (-1), 1) := by decide +kernel
theorem dX6_query_194 : decode cX6_query 194 = .ok (.if_icmp .ne 22, 3) := by decide +kernel
theorem dX6_query_197 : decode cX6_query 197 = .ok (.aload_n 0, 1) := by decide +kernel
theorem dX6_query_198 : decode cX6_query 198 = .ok (.getfield 99, 3) := by decide +kernel
theorem dX6_query_201 : decode cX6_query 201 = .ok (.aload_n 0, 1) := by decide +kernel
theorem dX6_query_202 : decode cX6_query 202 = .ok (.getfield 96, 3) := by decide +kernel
theorem dX6_query_205 : decode cX6_query 205 = .ok (.if_icmp .ge 11, 3) := by decide +kernel
theorem dX6_query_208 : decode cX6_query 208 = .ok (.aload_n 0, 1) := by decide +kernel
theorem dX6_query_209 : decode cX6_query 209 = .ok (.aload_n 0, 1) := by decide +kernel
theorem dX6_query_210 : decode cX6_query 210 = .ok (.getfield 99, 3) := by decide +kernel
theorem dX6_query_213 : decode cX6_query 213 = .ok (.invokevirtual 144, 3) := by decide +kernel
theorem dX6_query_216 : decode cX6_query 216 = .ok (.aload_n 0, 1) := by decide +kernel
theorem dX6_query_217 : decode cX6_query 217 = .ok (.getfield 102, 3) := by decide +kernel
theorem dX6_query_220 : decode cX6_query 220 = .ok (.iconst (-1), 1) := by decide +kernel
theorem dX6_query_221 : decode cX6_query 221 = .ok (.if_icmp .ne 18, 3) := by decide +kernel
theorem dX6_query_224 : decode cX6_query 224 = .ok (.aload_n 0, 1) := by decide +kernel
theorem dX6_query_225 : decode cX6_query 225 = .ok (.aload_n 0, 1) := by decide +kernel
theorem dX6_query_226 : decode cX6_query 226 = .ok (.getfield 189, 3) := by decide +kernel
theorem dX6_query_229 : decode cX6_query 229 = .ok (.invokevirtual 262, 3) := by decide +kernel
theorem dX6_query_232 : decode cX6_query 232 = .ok (.ifCond .eq 7, 3) := by decide +kernel
theorem dX6_query_235 : decode cX6_query 235 = .ok (.iconst 1, 1) := by decide +kernel
theorem dX6_query_236 : decode cX6_query 236 = .ok (.goto 4, 3) := by decide +kernel
theorem dX6_query_239 : decode cX6_query 239 = .ok (.iconst 0, 1) := by decide +kernel
theorem dX6_query_240 : decode cX6_query 240 = .ok (.istore_n 2, 1) := by decide +kernel
theorem dX6_query_241 : decode cX6_query 241 = .ok (.iconst 0, 1) := by decide +kernel
theorem dX6_query_242 : decode cX6_query 242 = .ok (.istore_n 3, 1) := by decide +kernel
theorem dX6_query_243 : decode cX6_query 243 = .ok (.iload_n 3, 1) := by decide +kernel
theorem dX6_query_244 : decode cX6_query 244 = .ok (.aload_n 0, 1) := by decide +kernel
theorem dX6_query_245 : decode cX6_query 245 = .ok (.getfield 35, 3) := by decide +kernel
theorem dX6_query_248 : decode cX6_query 248 = .ok (.iconst 4, 1) := by decide +kernel
theorem dX6_query_249 : decode cX6_query 249 = .ok (.aload_n 0, 1) := by decide +kernel
theorem dX6_query_250 : decode cX6_query 250 = .ok (.getfield 189, 3) := by decide +kernel
theorem dX6_query_253 : decode cX6_query 253 = .ok (.imul, 1) := by decide +kernel
theorem dX6_query_254 : decode cX6_query 254 = .ok (.iaload, 1) := by decide +kernel
theorem dX6_query_255 : decode cX6_query 255 = .ok (.if_icmp .ge 69, 3) := by decide +kernel
theorem dX6_query_258 : decode cX6_query 258 = .ok (.iload_n 2, 1) := by decide +kernel
theorem dX6_query_259 : decode cX6_query 259 = .ok (.ifCond .eq 65, 3) := by decide +kernel
theorem dX6_query_262 : decode cX6_query 262 = .ok (.aload_n 0, 1) := by decide +kernel
theorem dX6_query_263 : decode cX6_query 263 = .ok (.getfield 38, 3) := by decide +kernel
theorem dX6_query_266 : decode cX6_query 266 = .ok (.bipush 16, 2) := by decide +kernel
theorem dX6_query_268 : decode cX6_query 268 = .ok (.aload_n 0, 1) := by decide +kernel
theorem dX6_query_269 : decode cX6_query 269 = .ok (.getfield 189, 3) := by decide +kernel
theorem dX6_query_272 : decode cX6_query 272 = .ok (.imul, 1) := by decide +kernel
theorem dX6_query_273 : decode cX6_query 273 = .ok (.iload_n 3, 1) := by decide +kernel
theorem dX6_query_274 : decode cX6_query 274 = .ok (.iadd, 1) := by decide +kernel
theorem dX6_query_275 : decode cX6_query 275 = .ok (.iaload, 1) := by decide +kernel
theorem dX6_query_276 : decode cX6_query 276 = .ok (.ifCond .ne 42, 3) := by decide +kernel
theorem dX6_query_279 : decode cX6_query 279 = .ok (.aload_n 0, 1) := by decide +kernel
theorem dX6_query_280 : decode cX6_query 280 = .ok (.aload_n 0, 1) := by decide +kernel
theorem dX6_query_281 : decode cX6_query 281 = .ok (.getfield 41, 3) := by decide +kernel
theorem dX6_query_284 : decode cX6_query 284 = .ok (.bipush 16, 2) := by decide +kernel
theorem dX6_query_286 : decode cX6_query 286 = .ok (.aload_n 0, 1) := by decide +kernel
theorem dX6_query_287 : decode cX6_query 287 = .ok (.getfield 189, 3) := by decide +kernel
theorem dX6_query_290 : decode cX6_query 290 = .ok (.imul, 1) := by decide +kernel
theorem dX6_query_291 : decode cX6_query 291 = .ok (.iload_n 3, 1) := by decide +kernel
theorem dX6_query_292 : decode cX6_query 292 = .ok (.iadd, 1) := by decide +kernel
theorem dX6_query_293 : decode cX6_query 293 = .ok (.iaload, 1) := by decide +kernel
theorem dX6_query_294 : decode cX6_query 294 = .ok (.invokevirtual 204, 3) := by decide +kernel
theorem dX6_query_297 : decode cX6_query 297 = .ok (.ifCond .ne 21, 3) := by decide +kernel
theorem dX6_query_300 : decode cX6_query 300 = .ok (.aload_n 0, 1) := by decide +kernel
theorem dX6_query_301 : decode cX6_query 301 = .ok (.aload_n 0, 1) := by decide +kernel
theorem dX6_query_302 : decode cX6_query 302 = .ok (.getfield 44, 3) := by decide +kernel
theorem dX6_query_305 : decode cX6_query 305 = .ok (.bipush 16, 2) := by decide +kernel
theorem dX6_query_307 : decode cX6_query 307 = .ok (.aload_n 0, 1) := by decide +kernel
theorem dX6_query_308 : decode cX6_query 308 = .ok (.getfield 189, 3) := by decide +kernel
theorem dX6_query_311 : decode cX6_query 311 = .ok (.imul, 1) := by decide +kernel
theorem dX6_query_312 : decode cX6_query 312 = .ok (.iload_n 3, 1) := by decide +kernel
theorem dX6_query_313 : decode cX6_query 313 = .ok (.iadd, 1) := by decide +kernel
theorem dX6_query_314 : decode cX6_query 314 = .ok (.iaload, 1) := by decide +kernel
theorem dX6_query_315 : decode cX6_query 315 = .ok (.invokevirtual 144, 3) := by decide +kernel
theorem dX6_query_318 : decode cX6_query 318 = .ok (.iinc 3 1, 3) := by decide +kernel
theorem dX6_query_321 : decode cX6_query 321 = .ok (.goto (-78), 3) := by decide +kernel
theorem dX6_query_324 : decode cX6_query 324 = .ok (.aload_n 0, 1) := by decide +kernel
theorem dX6_query_325 : decode cX6_query 325 = .ok (.getfield 102, 3) := by decide +kernel
theorem dX6_query_328 : decode cX6_query 328 = .ok (.iconst (-1), 1) := by decide +kernel
theorem dX6_query_329 : decode cX6_query 329 = .ok (.if_icmp .ne 11, 3) := by decide +kernel
theorem dX6_query_332 : decode cX6_query 332 = .ok (.aload_n 0, 1) := by decide +kernel
theorem dX6_query_333 : decode cX6_query 333 = .ok (.aload_n 0, 1) := by decide +kernel
theorem dX6_query_334 : decode cX6_query 334 = .ok (.getfield 189, 3) := by decide +kernel
theorem dX6_query_337 : decode cX6_query 337 = .ok (.putfield 31, 3) := by decide +kernel
theorem dX6_query_340 : decode cX6_query 340 = .ok (.aload_n 0, 1) := by decide +kernel
theorem dX6_query_341 : decode cX6_query 341 = .ok (.getfield 102, 3) := by decide +kernel
theorem dX6_query_344 : decode cX6_query 344 = .ok (.ireturn, 1) := by decide +kernel
theorem dX6_count_0 : decode cX6_count 0 = .ok (.aload_n 0, 1) := by decide +kernel
theorem dX6_count_1 : decode cX6_count 1 = .ok (.iconst 0, 1) := by decide +kernel
theorem dX6_count_2 : decode cX6_count 2 = .ok (.putfield 90, 3) := by decide +kernel
theorem dX6_count_5 : decode cX6_count 5 = .ok (.iload_n 1, 1) := by decide +kernel
theorem dX6_count_6 : decode cX6_count 6 = .ok (.ifCond .lt 8, 3) := by decide +kernel
theorem dX6_count_9 : decode cX6_count 9 = .ok (.iload_n 1, 1) := by decide +kernel
theorem dX6_count_10 : decode cX6_count 10 = .ok (.iconst 4, 1) := by decide +kernel
theorem dX6_count_11 : decode cX6_count 11 = .ok (.if_icmp .le 5, 3) := by decide +kernel
theorem dX6_count_14 : decode cX6_count 14 = .ok (.iconst (-1), 1) := by decide +kernel
theorem dX6_count_15 : decode cX6_count 15 = .ok (.ireturn, 1) := by decide +kernel
theorem dX6_count_16 : decode cX6_count 16 = .ok (.aload_n 0, 1) := by decide +kernel
theorem dX6_count_17 : decode cX6_count 17 = .ok (.getfield 31, 3) := by decide +kernel
theorem dX6_count_20 : decode cX6_count 20 = .ok (.iconst (-1), 1) := by decide +kernel
theorem dX6_count_21 : decode cX6_count 21 = .ok (.if_icmp .ne 7, 3) := by decide +kernel
theorem dX6_count_24 : decode cX6_count 24 = .ok (.iconst 0, 1) := by decide +kernel
theorem dX6_count_25 : decode cX6_count 25 = .ok (.goto 40, 3) := by decide +kernel
theorem dX6_count_28 : decode cX6_count 28 = .ok (.iload_n 1, 1) := by decide +kernel
theorem dX6_count_29 : decode cX6_count 29 = .ok (.iconst 4, 1) := by decide +kernel
theorem dX6_count_30 : decode cX6_count 30 = .ok (.if_icmp .ge 19, 3) := by decide +kernel
theorem dX6_count_33 : decode cX6_count 33 = .ok (.aload_n 0, 1) := by decide +kernel
theorem dX6_count_34 : decode cX6_count 34 = .ok (.getfield 35, 3) := by decide +kernel
theorem dX6_count_37 : decode cX6_count 37 = .ok (.iconst 4, 1) := by decide +kernel
theorem dX6_count_38 : decode cX6_count 38 = .ok (.aload_n 0, 1) := by decide +kernel
theorem dX6_count_39 : decode cX6_count 39 = .ok (.getfield 31, 3) := by decide +kernel
theorem dX6_count_42 : decode cX6_count 42 = .ok (.imul, 1) := by decide +kernel
theorem dX6_count_43 : decode cX6_count 43 = .ok (.iload_n 1, 1) := by decide +kernel
theorem dX6_count_44 : decode cX6_count 44 = .ok (.iadd, 1) := by decide +kernel
theorem dX6_count_45 : decode cX6_count 45 = .ok (.iaload, 1) := by decide +kernel
theorem dX6_count_46 : decode cX6_count 46 = .ok (.goto 19, 3) := by decide +kernel
theorem dX6_count_49 : decode cX6_count 49 = .ok (.aload_n 0, 1) := by decide +kernel
theorem dX6_count_50 : decode cX6_count 50 = .ok (.aload_n 0, 1) := by decide +kernel
theorem dX6_count_51 : decode cX6_count 51 = .ok (.getfield 31, 3) := by decide +kernel
theorem dX6_count_54 : decode cX6_count 54 = .ok (.invokevirtual 262, 3) := by decide +kernel
theorem dX6_count_57 : decode cX6_count 57 = .ok (.ifCond .eq 7, 3) := by decide +kernel
theorem dX6_count_60 : decode cX6_count 60 = .ok (.iconst 1, 1) := by decide +kernel
theorem dX6_count_61 : decode cX6_count 61 = .ok (.goto 4, 3) := by decide +kernel
theorem dX6_count_64 : decode cX6_count 64 = .ok (.iconst 0, 1) := by decide +kernel
theorem dX6_count_65 : decode cX6_count 65 = .ok (.ireturn, 1) := by decide +kernel
theorem dX6_has_0 : decode cX6_has 0 = .ok (.aload_n 0, 1) := by decide +kernel
theorem dX6_has_1 : decode cX6_has 1 = .ok (.getfield 31, 3) := by decide +kernel
theorem dX6_has_4 : decode cX6_has 4 = .ok (.iconst (-1), 1) := by decide +kernel
theorem dX6_has_5 : decode cX6_has 5 = .ok (.if_icmp .eq 28, 3) := by decide +kernel
theorem dX6_has_8 : decode cX6_has 8 = .ok (.iload_n 1, 1) := by decide +kernel
theorem dX6_has_9 : decode cX6_has 9 = .ok (.ifCond .lt 24, 3) := by decide +kernel
theorem dX6_has_12 : decode cX6_has 12 = .ok (.iload_n 1, 1) := by decide +kernel
theorem dX6_has_13 : decode cX6_has 13 = .ok (.aload_n 0, 1) := by decide +kernel
theorem dX6_has_14 : decode cX6_has 14 = .ok (.getfield 35, 3) := by decide +kernel
theorem dX6_has_17 : decode cX6_has 17 = .ok (.iconst 4, 1) := by decide +kernel
theorem dX6_has_18 : decode cX6_has 18 = .ok (.aload_n 0, 1) := by decide +kernel
theorem dX6_has_19 : decode cX6_has 19 = .ok (.getfield 31, 3) := by decide +kernel
theorem dX6_has_22 : decode cX6_has 22 = .ok (.imul, 1) := by decide +kernel
theorem dX6_has_23 : decode cX6_has 23 = .ok (.iload_n 2, 1) := by decide +kernel
theorem dX6_has_24 : decode cX6_has 24 = .ok (.iadd, 1) := by decide +kernel
theorem dX6_has_25 : decode cX6_has 25 = .ok (.iaload, 1) := by decide +kernel
theorem dX6_has_26 : decode cX6_has 26 = .ok (.if_icmp .ge 7, 3) := by decide +kernel
theorem dX6_has_29 : decode cX6_has 29 = .ok (.iconst 1, 1) := by decide +kernel
theorem dX6_has_30 : decode cX6_has 30 = .ok (.goto 4, 3) := by decide +kernel
theorem dX6_has_33 : decode cX6_has 33 = .ok (.iconst 0, 1) := by decide +kernel
theorem dX6_has_34 : decode cX6_has 34 = .ok (.ireturn, 1) := by decide +kernel
theorem dX6_item_0 : decode cX6_item 0 = .ok (.aload_n 0, 1) := by decide +kernel
theorem dX6_item_1 : decode cX6_item 1 = .ok (.iconst 0, 1) := by decide +kernel
theorem dX6_item_2 : decode cX6_item 2 = .ok (.putfield 90, 3) := by decide +kernel
theorem dX6_item_5 : decode cX6_item 5 = .ok (.aload_n 0, 1) := by decide +kernel
theorem dX6_item_6 : decode cX6_item 6 = .ok (.iload_n 1, 1) := by decide +kernel
theorem dX6_item_7 : decode cX6_item 7 = .ok (.iconst 0, 1) := by decide +kernel
theorem dX6_item_8 : decode cX6_item 8 = .ok (.invokevirtual 265, 3) := by decide +kernel
theorem dX6_item_11 : decode cX6_item 11 = .ok (.ifCond .ne 5, 3) := by decide +kernel
theorem dX6_item_14 : decode cX6_item 14 = .ok (.iconst (-1), 1) := by decide +kernel
theorem dX6_item_15 : decode cX6_item 15 = .ok (.ireturn, 1) := by decide +kernel
theorem dX6_item_16 : decode cX6_item 16 = .ok (.iload_n 2, 1) := by decide +kernel
theorem dX6_item_17 : decode cX6_item 17 = .ok (.ifCond .ne 20, 3) := by decide +kernel
theorem dX6_item_20 : decode cX6_item 20 = .ok (.aload_n 0, 1) := by decide +kernel
theorem dX6_item_21 : decode cX6_item 21 = .ok (.getfield 38, 3) := by decide +kernel
theorem dX6_item_24 : decode cX6_item 24 = .ok (.bipush 16, 2) := by decide +kernel
theorem dX6_item_26 : decode cX6_item 26 = .ok (.aload_n 0, 1) := by decide +kernel
theorem dX6_item_27 : decode cX6_item 27 = .ok (.getfield 31, 3) := by decide +kernel
theorem dX6_item_30 : decode cX6_item 30 = .ok (.imul, 1) := by decide +kernel
theorem dX6_item_31 : decode cX6_item 31 = .ok (.iload_n 1, 1) := by decide +kernel
theorem dX6_item_32 : decode cX6_item 32 = .ok (.iadd, 1) := by decide +kernel
theorem dX6_item_33 : decode cX6_item 33 = .ok (.iaload, 1) := by decide +kernel
theorem dX6_item_34 : decode cX6_item 34 = .ok (.goto 26, 3) := by decide +kernel
theorem dX6_item_37 : decode cX6_item 37 = .ok (.iload_n 2, 1) := by decide +kernel
theorem dX6_item_38 : decode cX6_item 38 = .ok (.iconst 1, 1) := by decide +kernel
theorem dX6_item_39 : decode cX6_item 39 = .ok (.if_icmp .ne 20, 3) := by decide +kernel
theorem dX6_item_42 : decode cX6_item 42 = .ok (.aload_n 0, 1) := by decide +kernel
theorem dX6_item_43 : decode cX6_item 43 = .ok (.getfield 41, 3) := by decide +kernel
theorem dX6_item_46 : decode cX6_item 46 = .ok (.bipush 16, 2) := by decide +kernel
theorem dX6_item_48 : decode cX6_item 48 = .ok (.aload_n 0, 1) := by decide +kernel
theorem dX6_item_49 : decode cX6_item 49 = .ok (.getfield 31, 3) := by decide +kernel
theorem dX6_item_52 : decode cX6_item 52 = .ok (.imul, 1) := by decide +kernel
theorem dX6_item_53 : decode cX6_item 53 = .ok (.iload_n 1, 1) := by decide +kernel
theorem dX6_item_54 : decode cX6_item 54 = .ok (.iadd, 1) := by decide +kernel
theorem dX6_item_55 : decode cX6_item 55 = .ok (.iaload, 1) := by decide +kernel
theorem dX6_item_56 : decode cX6_item 56 = .ok (.goto 4, 3) := by decide +kernel
theorem dX6_item_59 : decode cX6_item 59 = .ok (.iconst (-1), 1) := by decide +kernel
theorem dX6_item_60 : decode cX6_item 60 = .ok (.ireturn, 1) := by decide +kernel
theorem dX6_by_0 : decode cX6_by 0 = .ok (.aload_n 0, 1) := by decide +kernel
theorem dX6_by_1 : decode cX6_by 1 = .ok (.iconst 0, 1) := by decide +kernel
theorem dX6_by_2 : decode cX6_by 2 = .ok (.putfield 90, 3) := by decide +kernel
theorem dX6_by_5 : decode cX6_by 5 = .ok (.aload_n 0, 1) := by decide +kernel
theorem dX6_by_6 : decode cX6_by 6 = .ok (.iload_n 1, 1) := by decide +kernel
theorem dX6_by_7 : decode cX6_by 7 = .ok (.iconst 1, 1) := by decide +kernel
theorem dX6_by_8 : decode cX6_by 8 = .ok (.invokevirtual 265, 3) := by decide +kernel
theorem dX6_by_11 : decode cX6_by 11 = .ok (.ifCond .eq 20, 3) := by decide +kernel
theorem dX6_by_14 : decode cX6_by 14 = .ok (.aload_n 0, 1) := by decide +kernel
theorem dX6_by_15 : decode cX6_by 15 = .ok (.getfield 47, 3) := by decide +kernel
theorem dX6_by_18 : decode cX6_by 18 = .ok (.bipush 8, 2) := by decide +kernel
theorem dX6_by_20 : decode cX6_by 20 = .ok (.aload_n 0, 1) := by decide +kernel
theorem dX6_by_21 : decode cX6_by 21 = .ok (.getfield 31, 3) := by decide +kernel
theorem dX6_by_24 : decode cX6_by 24 = .ok (.imul, 1) := by decide +kernel
theorem dX6_by_25 : decode cX6_by 25 = .ok (.iload_n 1, 1) := by decide +kernel
theorem dX6_by_26 : decode cX6_by 26 = .ok (.iadd, 1) := by decide +kernel
theorem dX6_by_27 : decode cX6_by 27 = .ok (.iaload, 1) := by decide +kernel
theorem dX6_by_28 : decode cX6_by 28 = .ok (.goto 4, 3) := by decide +kernel
theorem dX6_by_31 : decode cX6_by 31 = .ok (.iconst (-1), 1) := by decide +kernel
theorem dX6_by_32 : decode cX6_by 32 = .ok (.ireturn, 1) := by decide +kernel
theorem dX6_step_0 : decode cX6_step 0 = .ok (.aload_n 0, 1) := by decide +kernel
theorem dX6_step_1 : decode cX6_step 1 = .ok (.iconst 0, 1) := by decide +kernel
theorem dX6_step_2 : decode cX6_step 2 = .ok (.putfield 90, 3) := by decide +kernel
theorem dX6_step_5 : decode cX6_step 5 = .ok (.aload_n 0, 1) := by decide +kernel
theorem dX6_step_6 : decode cX6_step 6 = .ok (.iload_n 1, 1) := by decide +kernel
theorem dX6_step_7 : decode cX6_step 7 = .ok (.iconst 2, 1) := by decide +kernel
theorem dX6_step_8 : decode cX6_step 8 = .ok (.invokevirtual 265, 3) := by decide +kernel
theorem dX6_step_11 : decode cX6_step 11 = .ok (.ifCond .ne 5, 3) := by decide +kernel
theorem dX6_step_14 : decode cX6_step 14 = .ok (.iconst (-1), 1) := by decide +kernel
theorem dX6_step_15 : decode cX6_step 15 = .ok (.ireturn, 1) := by decide +kernel
theorem dX6_step_16 : decode cX6_step 16 = .ok (.bipush 64, 2) := by decide +kernel
theorem dX6_step_18 : decode cX6_step 18 = .ok (.aload_n 0, 1) := by decide +kernel
theorem dX6_step_19 : decode cX6_step 19 = .ok (.getfield 31, 3) := by decide +kernel
theorem dX6_step_22 : decode cX6_step 22 = .ok (.imul, 1) := by decide +kernel
theorem dX6_step_23 : decode cX6_step 23 = .ok (.iload_n 1, 1) := by decide +kernel
theorem dX6_step_24 : decode cX6_step 24 = .ok (.iadd, 1) := by decide +kernel
theorem dX6_step_25 : decode cX6_step 25 = .ok (.istore_n 3, 1) := by decide +kernel
theorem dX6_step_26 : decode cX6_step 26 = .ok (.iload_n 2, 1) := by decide +kernel
theorem dX6_step_27 : decode cX6_step 27 = .ok (.ifCond .ne 12, 3) := by decide +kernel
theorem dX6_step_30 : decode cX6_step 30 = .ok (.aload_n 0, 1) := by decide +kernel
theorem dX6_step_31 : decode cX6_step 31 = .ok (.getfield 50, 3) := by decide +kernel
theorem dX6_step_34 : decode cX6_step 34 = .ok (.iload_n 3, 1) := by decide +kernel
theorem dX6_step_35 : decode cX6_step 35 = .ok (.iaload, 1) := by decide +kernel
theorem dX6_step_36 : decode cX6_step 36 = .ok (.goto 60, 3) := by decide +kernel
theorem dX6_step_39 : decode cX6_step 39 = .ok (.iload_n 2, 1) := by decide +kernel
theorem dX6_step_40 : decode cX6_step 40 = .ok (.iconst 1, 1) := by decide +kernel
theorem dX6_step_41 : decode cX6_step 41 = .ok (.if_icmp .ne 12, 3) := by decide +kernel
theorem dX6_step_44 : decode cX6_step 44 = .ok (.aload_n 0, 1) := by decide +kernel
theorem dX6_step_45 : decode cX6_step 45 = .ok (.getfield 53, 3) := by decide +kernel
theorem dX6_step_48 : decode cX6_step 48 = .ok (.iload_n 3, 1) := by decide +kernel
theorem dX6_step_49 : decode cX6_step 49 = .ok (.iaload, 1) := by decide +kernel
theorem dX6_step_50 : decode cX6_step 50 = .ok (.goto 46, 3) := by decide +kernel
theorem dX6_step_53 : decode cX6_step 53 = .ok (.iload_n 2, 1) := by decide +kernel
theorem dX6_step_54 : decode cX6_step 54 = .ok (.iconst 2, 1) := by decide +kernel
theorem dX6_step_55 : decode cX6_step 55 = .ok (.if_icmp .ne 12, 3) := by decide +kernel
theorem dX6_step_58 : decode cX6_step 58 = .ok (.aload_n 0, 1) := by decide +kernel
theorem dX6_step_59 : decode cX6_step 59 = .ok (.getfield 56, 3) := by decide +kernel
theorem dX6_step_62 : decode cX6_step 62 = .ok (.iload_n 3, 1) := by decide +kernel
theorem dX6_step_63 : decode cX6_step 63 = .ok (.iaload, 1) := by decide +kernel
theorem dX6_step_64 : decode cX6_step 64 = .ok (.goto 32, 3) := by decide +kernel
theorem dX6_step_67 : decode cX6_step 67 = .ok (.iload_n 2, 1) := by decide +kernel
theorem dX6_step_68 : decode cX6_step 68 = .ok (.iconst 3, 1) := by decide +kernel
theorem dX6_step_69 : decode cX6_step 69 = .ok (.if_icmp .ne 12, 3) := by decide +kernel
theorem dX6_step_72 : decode cX6_step 72 = .ok (.aload_n 0, 1) := by decide +kernel
theorem dX6_step_73 : decode cX6_step 73 = .ok (.getfield 59, 3) := by decide +kernel
theorem dX6_step_76 : decode cX6_step 76 = .ok (.iload_n 3, 1) := by decide +kernel
theorem dX6_step_77 : decode cX6_step 77 = .ok (.iaload, 1) := by decide +kernel
theorem dX6_step_78 : decode cX6_step 78 = .ok (.goto 18, 3) := by decide +kernel
theorem dX6_step_81 : decode cX6_step 81 = .ok (.iload_n 2, 1) := by decide +kernel
theorem dX6_step_82 : decode cX6_step 82 = .ok (.iconst 4, 1) := by decide +kernel
theorem dX6_step_83 : decode cX6_step 83 = .ok (.if_icmp .ne 12, 3) := by decide +kernel
theorem dX6_step_86 : decode cX6_step 86 = .ok (.aload_n 0, 1) := by decide +kernel
theorem dX6_step_87 : decode cX6_step 87 = .ok (.getfield 62, 3) := by decide +kernel
theorem dX6_step_90 : decode cX6_step 90 = .ok (.iload_n 3, 1) := by decide +kernel
theorem dX6_step_91 : decode cX6_step 91 = .ok (.iaload, 1) := by decide +kernel
theorem dX6_step_92 : decode cX6_step 92 = .ok (.goto 4, 3) := by decide +kernel
theorem dX6_step_95 : decode cX6_step 95 = .ok (.iconst (-1), 1) := by decide +kernel
theorem dX6_step_96 : decode cX6_step 96 = .ok (.ireturn, 1) := by decide +kernel
theorem dX6_literal_0 : decode cX6_literal 0 = .ok (.aload_n 0, 1) := by decide +kernel
theorem dX6_literal_1 : decode cX6_literal 1 = .ok (.iconst 0, 1) := by decide +kernel
theorem dX6_literal_2 : decode cX6_literal 2 = .ok (.putfield 90, 3) := by decide +kernel
theorem dX6_literal_5 : decode cX6_literal 5 = .ok (.aload_n 0, 1) := by decide +kernel
theorem dX6_literal_6 : decode cX6_literal 6 = .ok (.iload_n 1, 1) := by decide +kernel
theorem dX6_literal_7 : decode cX6_literal 7 = .ok (.iconst 3, 1) := by decide +kernel
theorem dX6_literal_8 : decode cX6_literal 8 = .ok (.invokevirtual 265, 3) := by decide +kernel
theorem dX6_literal_11 : decode cX6_literal 11 = .ok (.ifCond .eq 20, 3) := by decide +kernel
theorem dX6_literal_14 : decode cX6_literal 14 = .ok (.aload_n 0, 1) := by decide +kernel
theorem dX6_literal_15 : decode cX6_literal 15 = .ok (.getfield 65, 3) := by decide +kernel
theorem dX6_literal_18 : decode cX6_literal 18 = .ok (.bipush 64, 2) := by decide +kernel
theorem dX6_literal_20 : decode cX6_literal 20 = .ok (.aload_n 0, 1) := by decide +kernel
theorem dX6_literal_21 : decode cX6_literal 21 = .ok (.getfield 31, 3) := by decide +kernel
theorem dX6_literal_24 : decode cX6_literal 24 = .ok (.imul, 1) := by decide +kernel
theorem dX6_literal_25 : decode cX6_literal 25 = .ok (.iload_n 1, 1) := by decide +kernel
theorem dX6_literal_26 : decode cX6_literal 26 = .ok (.iadd, 1) := by decide +kernel
theorem dX6_literal_27 : decode cX6_literal 27 = .ok (.iaload, 1) := by decide +kernel
theorem dX6_literal_28 : decode cX6_literal 28 = .ok (.goto 4, 3) := by decide +kernel
theorem dX6_literal_31 : decode cX6_literal 31 = .ok (.iconst (-1), 1) := by decide +kernel
theorem dX6_literal_32 : decode cX6_literal 32 = .ok (.ireturn, 1) := by decide +kernel
theorem dX6_number_0 : decode cX6_number 0 = .ok (.aload_n 0, 1) := by decide +kernel
theorem dX6_number_1 : decode cX6_number 1 = .ok (.iconst 0, 1) := by decide +kernel
theorem dX6_number_2 : decode cX6_number 2 = .ok (.putfield 90, 3) := by decide +kernel
theorem dX6_number_5 : decode cX6_number 5 = .ok (.aload_n 0, 1) := by decide +kernel
theorem dX6_number_6 : decode cX6_number 6 = .ok (.iload_n 1, 1) := by decide +kernel
theorem dX6_number_7 : decode cX6_number 7 = .ok (.iconst 3, 1) := by decide +kernel
theorem dX6_number_8 : decode cX6_number 8 = .ok (.invokevirtual 265, 3) := by decide +kernel
theorem dX6_number_11 : decode cX6_number 11 = .ok (.ifCond .eq 20, 3) := by decide +kernel
theorem dX6_number_14 : decode cX6_number 14 = .ok (.aload_n 0, 1) := by decide +kernel
theorem dX6_number_15 : decode cX6_number 15 = .ok (.getfield 80, 3) := by decide +kernel
theorem dX6_number_18 : decode cX6_number 18 = .ok (.bipush 64, 2) := by decide +kernel
theorem dX6_number_20 : decode cX6_number 20 = .ok (.aload_n 0, 1) := by decide +kernel
theorem dX6_number_21 : decode cX6_number 21 = .ok (.getfield 31, 3) := by decide +kernel
theorem dX6_number_24 : decode cX6_number 24 = .ok (.imul, 1) := by decide +kernel
theorem dX6_number_25 : decode cX6_number 25 = .ok (.iload_n 1, 1) := by decide +kernel
theorem dX6_number_26 : decode cX6_number 26 = .ok (.iadd, 1) := by decide +kernel
theorem dX6_number_27 : decode cX6_number 27 = .ok (.laload, 1) := by decide +kernel
theorem dX6_number_28 : decode cX6_number 28 = .ok (.goto 4, 3) := by decide +kernel
theorem dX6_number_31 : decode cX6_number 31 = .ok (.lconst 0, 1) := by decide +kernel
theorem dX6_number_32 : decode cX6_number 32 = .ok (.lreturn, 1) := by decide +kernel
theorem dX6_sizeOf_0 : decode cX6_sizeOf 0 = .ok (.aload_n 0, 1) := by decide +kernel
theorem dX6_sizeOf_1 : decode cX6_sizeOf 1 = .ok (.iload_n 1, 1) := by decide +kernel
theorem dX6_sizeOf_2 : decode cX6_sizeOf 2 = .ok (.iconst 3, 1) := by decide +kernel
theorem dX6_sizeOf_3 : decode cX6_sizeOf 3 = .ok (.invokevirtual 265, 3) := by decide +kernel
theorem dX6_sizeOf_6 : decode cX6_sizeOf 6 = .ok (.ifCond .eq 38, 3) := by decide +kernel
theorem dX6_sizeOf_9 : decode cX6_sizeOf 9 = .ok (.aload_n 0, 1) := by decide +kernel
theorem dX6_sizeOf_10 : decode cX6_sizeOf 10 = .ok (.getfield 65, 3) := by decide +kernel
theorem dX6_sizeOf_13 : decode cX6_sizeOf 13 = .ok (.bipush 64, 2) := by decide +kernel
theorem dX6_sizeOf_15 : decode cX6_sizeOf 15 = .ok (.aload_n 0, 1) := by decide +kernel
theorem dX6_sizeOf_16 : decode cX6_sizeOf 16 = .ok (.getfield 31, 3) := by decide +kernel
theorem dX6_sizeOf_19 : decode cX6_sizeOf 19 = .ok (.imul, 1) := by decide +kernel
theorem dX6_sizeOf_20 : decode cX6_sizeOf 20 = .ok (.iload_n 1, 1) := by decide +kernel
theorem dX6_sizeOf_21 : decode cX6_sizeOf 21 = .ok (.iadd, 1) := by decide +kernel
theorem dX6_sizeOf_22 : decode cX6_sizeOf 22 = .ok (.iaload, 1) := by decide +kernel
theorem dX6_sizeOf_23 : decode cX6_sizeOf 23 = .ok (.iconst 3, 1) := by decide +kernel
theorem dX6_sizeOf_24 : decode cX6_sizeOf 24 = .ok (.if_icmp .ne 20, 3) := by decide +kernel
theorem dX6_sizeOf_27 : decode cX6_sizeOf 27 = .ok (.aload_n 0, 1) := by decide +kernel
theorem dX6_sizeOf_28 : decode cX6_sizeOf 28 = .ok (.getfield 71, 3) := by decide +kernel
theorem dX6_sizeOf_31 : decode cX6_sizeOf 31 = .ok (.bipush 64, 2) := by decide +kernel
theorem dX6_sizeOf_33 : decode cX6_sizeOf 33 = .ok (.aload_n 0, 1) := by decide +kernel
theorem dX6_sizeOf_34 : decode cX6_sizeOf 34 = .ok (.getfield 31, 3) := by decide +kernel
theorem dX6_sizeOf_37 : decode cX6_sizeOf 37 = .ok (.imul, 1) := by decide +kernel
theorem dX6_sizeOf_38 : decode cX6_sizeOf 38 = .ok (.iload_n 1, 1) := by decide +kernel
theorem dX6_sizeOf_39 : decode cX6_sizeOf 39 = .ok (.iadd, 1) := by decide +kernel
theorem dX6_sizeOf_40 : decode cX6_sizeOf 40 = .ok (.iaload, 1) := by decide +kernel
theorem dX6_sizeOf_41 : decode cX6_sizeOf 41 = .ok (.goto 4, 3) := by decide +kernel
theorem dX6_sizeOf_44 : decode cX6_sizeOf 44 = .ok (.iconst (-1), 1) := by decide +kernel
theorem dX6_sizeOf_45 : decode cX6_sizeOf 45 = .ok (.ireturn, 1) := by decide +kernel
theorem dX6_length_0 : decode cX6_length 0 = .ok (.aload_n 0, 1) := by decide +kernel
theorem dX6_length_1 : decode cX6_length 1 = .ok (.iconst 0, 1) := by decide +kernel
theorem dX6_length_2 : decode cX6_length 2 = .ok (.putfield 90, 3) := by decide +kernel
theorem dX6_length_5 : decode cX6_length 5 = .ok (.aload_n 0, 1) := by decide +kernel
theorem dX6_length_6 : decode cX6_length 6 = .ok (.iload_n 1, 1) := by decide +kernel
theorem dX6_length_7 : decode cX6_length 7 = .ok (.invokevirtual 269, 3) := by decide +kernel
theorem dX6_length_10 : decode cX6_length 10 = .ok (.ireturn, 1) := by decide +kernel
theorem dX6_byteOf_0 : decode cX6_byteOf 0 = .ok (.aload_n 0, 1) := by decide +kernel
theorem dX6_byteOf_1 : decode cX6_byteOf 1 = .ok (.iconst 0, 1) := by decide +kernel
theorem dX6_byteOf_2 : decode cX6_byteOf 2 = .ok (.putfield 90, 3) := by decide +kernel
theorem dX6_byteOf_5 : decode cX6_byteOf 5 = .ok (.iload_n 2, 1) := by decide +kernel
theorem dX6_byteOf_6 : decode cX6_byteOf 6 = .ok (.ifCond .lt 12, 3) := by decide +kernel
theorem dX6_byteOf_9 : decode cX6_byteOf 9 = .ok (.iload_n 2, 1) := by decide +kernel
theorem dX6_byteOf_10 : decode cX6_byteOf 10 = .ok (.aload_n 0, 1) := by decide +kernel
theorem dX6_byteOf_11 : decode cX6_byteOf 11 = .ok (.iload_n 1, 1) := by decide +kernel
theorem dX6_byteOf_12 : decode cX6_byteOf 12 = .ok (.invokevirtual 269, 3) := by decide +kernel
theorem dX6_byteOf_15 : decode cX6_byteOf 15 = .ok (.if_icmp .lt 7, 3) := by decide +kernel
theorem dX6_byteOf_18 : decode cX6_byteOf 18 = .ok (.iconst (-1), 1) := by decide +kernel
theorem dX6_byteOf_19 : decode cX6_byteOf 19 = .ok (.goto 33, 3) := by decide +kernel
theorem dX6_byteOf_22 : decode cX6_byteOf 22 = .ok (.aload_n 0, 1) := by decide +kernel
theorem dX6_byteOf_23 : decode cX6_byteOf 23 = .ok (.getfield 74, 3) := by decide +kernel
theorem dX6_byteOf_26 : decode cX6_byteOf 26 = .ok (.sipush 2000, 3) := by decide +kernel
theorem dX6_byteOf_29 : decode cX6_byteOf 29 = .ok (.aload_n 0, 1) := by decide +kernel
theorem dX6_byteOf_30 : decode cX6_byteOf 30 = .ok (.getfield 31, 3) := by decide +kernel
theorem dX6_byteOf_33 : decode cX6_byteOf 33 = .ok (.imul, 1) := by decide +kernel
theorem dX6_byteOf_34 : decode cX6_byteOf 34 = .ok (.aload_n 0, 1) := by decide +kernel
theorem dX6_byteOf_35 : decode cX6_byteOf 35 = .ok (.getfield 68, 3) := by decide +kernel
theorem dX6_byteOf_38 : decode cX6_byteOf 38 = .ok (.bipush 64, 2) := by decide +kernel
theorem dX6_byteOf_40 : decode cX6_byteOf 40 = .ok (.aload_n 0, 1) := by decide +kernel
theorem dX6_byteOf_41 : decode cX6_byteOf 41 = .ok (.getfield 31, 3) := by decide +kernel
theorem dX6_byteOf_44 : decode cX6_byteOf 44 = .ok (.imul, 1) := by decide +kernel
theorem dX6_byteOf_45 : decode cX6_byteOf 45 = .ok (.iload_n 1, 1) := by decide +kernel
theorem dX6_byteOf_46 : decode cX6_byteOf 46 = .ok (.iadd, 1) := by decide +kernel
theorem dX6_byteOf_47 : decode cX6_byteOf 47 = .ok (.iaload, 1) := by decide +kernel
theorem dX6_byteOf_48 : decode cX6_byteOf 48 = .ok (.iadd, 1) := by decide +kernel
theorem dX6_byteOf_49 : decode cX6_byteOf 49 = .ok (.iload_n 2, 1) := by decide +kernel
theorem dX6_byteOf_50 : decode cX6_byteOf 50 = .ok (.iadd, 1) := by decide +kernel
theorem dX6_byteOf_51 : decode cX6_byteOf 51 = .ok (.iaload, 1) := by decide +kernel
theorem dX6_byteOf_52 : decode cX6_byteOf 52 = .ok (.ireturn, 1) := by decide +kernel
theorem dJ0_length_8abf5_0 : decode cJ0_length_8abf5 0 = .ok (.aload_n 0, 1) := by decide +kernel
theorem dJ0_length_8abf5_1 : decode cJ0_length_8abf5 1 = .ok (.getfield 9, 3) := by decide +kernel
theorem dJ0_length_8abf5_4 : decode cJ0_length_8abf5 4 = .ok (.arraylength, 1) := by decide +kernel
theorem dJ0_length_8abf5_5 : decode cJ0_length_8abf5 5 = .ok (.aload_n 0, 1) := by decide +kernel
theorem dJ0_length_8abf5_6 : decode cJ0_length_8abf5 6 = .ok (.invokevirtual 335, 3) := by decide +kernel
theorem dJ0_length_8abf5_9 : decode cJ0_length_8abf5 9 = .ok (.ishr, 1) := by decide +kernel
theorem dJ0_length_8abf5_10 : decode cJ0_length_8abf5 10 = .ok (.ireturn, 1) := by decide +kernel
theorem dJ0_charAt_5068e_0 : decode cJ0_charAt_5068e 0 = .ok (.aload_n 0, 1) := by decide +kernel
theorem dJ0_charAt_5068e_1 : decode cJ0_charAt_5068e 1 = .ok (.invokevirtual 492, 3) := by decide +kernel
theorem dJ0_charAt_5068e_4 : decode cJ0_charAt_5068e 4 = .ok (.ifCond .eq 12, 3) := by decide +kernel
theorem dJ0_charAt_5068e_7 : decode cJ0_charAt_5068e 7 = .ok (.aload_n 0, 1) := by decide +kernel
theorem dJ0_charAt_5068e_8 : decode cJ0_charAt_5068e 8 = .ok (.getfield 9, 3) := by decide +kernel
theorem dJ0_charAt_5068e_11 : decode cJ0_charAt_5068e 11 = .ok (.iload_n 1, 1) := by decide +kernel
theorem dJ0_charAt_5068e_12 : decode cJ0_charAt_5068e 12 = .ok (.invokestatic 495, 3) := by decide +kernel
theorem dJ0_charAt_5068e_15 : decode cJ0_charAt_5068e 15 = .ok (.ireturn, 1) := by decide +kernel
theorem dJ0_charAt_5068e_16 : decode cJ0_charAt_5068e 16 = .ok (.aload_n 0, 1) := by decide +kernel
theorem dJ0_charAt_5068e_17 : decode cJ0_charAt_5068e 17 = .ok (.getfield 9, 3) := by decide +kernel
theorem dJ0_charAt_5068e_20 : decode cJ0_charAt_5068e 20 = .ok (.iload_n 1, 1) := by decide +kernel
theorem dJ0_charAt_5068e_21 : decode cJ0_charAt_5068e 21 = .ok (.invokestatic 498, 3) := by decide +kernel
theorem dJ0_charAt_5068e_24 : decode cJ0_charAt_5068e 24 = .ok (.ireturn, 1) := by decide +kernel
theorem dJ0_coder_7d493_0 : decode cJ0_coder_7d493 0 = .ok (.getstatic 38, 3) := by decide +kernel
theorem dJ0_coder_7d493_3 : decode cJ0_coder_7d493 3 = .ok (.ifCond .eq 10, 3) := by decide +kernel
theorem dJ0_coder_7d493_6 : decode cJ0_coder_7d493 6 = .ok (.aload_n 0, 1) := by decide +kernel
theorem dJ0_coder_7d493_7 : decode cJ0_coder_7d493 7 = .ok (.getfield 15, 3) := by decide +kernel
theorem dJ0_coder_7d493_10 : decode cJ0_coder_7d493 10 = .ok (.goto 4, 3) := by decide +kernel
theorem dJ0_coder_7d493_13 : decode cJ0_coder_7d493 13 = .ok (.iconst 1, 1) := by decide +kernel
theorem dJ0_coder_7d493_14 : decode cJ0_coder_7d493 14 = .ok (.ireturn, 1) := by decide +kernel
theorem dJ0_isLatin1_aae02_0 : decode cJ0_isLatin1_aae02 0 = .ok (.getstatic 38, 3) := by decide +kernel
theorem dJ0_isLatin1_aae02_3 : decode cJ0_isLatin1_aae02 3 = .ok (.ifCond .eq 14, 3) := by decide +kernel
theorem dJ0_isLatin1_aae02_6 : decode cJ0_isLatin1_aae02 6 = .ok (.aload_n 0, 1) := by decide +kernel
theorem dJ0_isLatin1_aae02_7 : decode cJ0_isLatin1_aae02 7 = .ok (.getfield 15, 3) := by decide +kernel
theorem dJ0_isLatin1_aae02_10 : decode cJ0_isLatin1_aae02 10 = .ok (.ifCond .ne 7, 3) := by decide +kernel
theorem dJ0_isLatin1_aae02_13 : decode cJ0_isLatin1_aae02 13 = .ok (.iconst 1, 1) := by decide +kernel
theorem dJ0_isLatin1_aae02_14 : decode cJ0_isLatin1_aae02 14 = .ok (.goto 4, 3) := by decide +kernel
theorem dJ0_isLatin1_aae02_17 : decode cJ0_isLatin1_aae02 17 = .ok (.iconst 0, 1) := by decide +kernel
theorem dJ0_isLatin1_aae02_18 : decode cJ0_isLatin1_aae02 18 = .ok (.ireturn, 1) := by decide +kernel
theorem dJ0_checkIndex_df160_0 : decode cJ0_checkIndex_df160 0 = .ok (.iload_n 0, 1) := by decide +kernel
theorem dJ0_checkIndex_df160_1 : decode cJ0_checkIndex_df160 1 = .ok (.iload_n 1, 1) := by decide +kernel
theorem dJ0_checkIndex_df160_2 : decode cJ0_checkIndex_df160 2 = .ok (.getstatic 1053, 3) := by decide +kernel
theorem dJ0_checkIndex_df160_5 : decode cJ0_checkIndex_df160 5 = .ok (.invokestatic 1059, 3) := by decide +kernel
theorem dJ0_checkIndex_df160_8 : decode cJ0_checkIndex_df160 8 = .ok (.pop, 1) := by decide +kernel
theorem dJ0_checkIndex_df160_9 : decode cJ0_checkIndex_df160 9 = .ok (.return_, 1) := by decide +kernel
theorem dJ1_charAt_3b067_0 : decode cJ1_charAt_3b067 0 = .ok (.iload_n 1, 1) := by decide +kernel
theorem dJ1_charAt_3b067_1 : decode cJ1_charAt_3b067 1 = .ok (.aload_n 0, 1) := by decide +kernel
theorem dJ1_charAt_3b067_2 : decode cJ1_charAt_3b067 2 = .ok (.arraylength, 1) := by decide +kernel
theorem dJ1_charAt_3b067_3 : decode cJ1_charAt_3b067 3 = .ok (.invokestatic 9, 3) := by decide +kernel
theorem dJ1_charAt_3b067_6 : decode cJ1_charAt_3b067 6 = .ok (.aload_n 0, 1) := by decide +kernel
theorem dJ1_charAt_3b067_7 : decode cJ1_charAt_3b067 7 = .ok (.iload_n 1, 1) := by decide +kernel
theorem dJ1_charAt_3b067_8 : decode cJ1_charAt_3b067 8 = .ok (.baload, 1) := by decide +kernel
theorem dJ1_charAt_3b067_9 : decode cJ1_charAt_3b067 9 = .ok (.sipush 255, 3) := by decide +kernel
theorem dJ1_charAt_3b067_12 : decode cJ1_charAt_3b067 12 = .ok (.iand, 1) := by decide +kernel
theorem dJ1_charAt_3b067_13 : decode cJ1_charAt_3b067 13 = .ok (.i2c, 1) := by decide +kernel
theorem dJ1_charAt_3b067_14 : decode cJ1_charAt_3b067 14 = .ok (.ireturn, 1) := by decide +kernel
theorem dJ2_getChar_3b067_0 : decode cJ2_getChar_3b067 0 = .ok (.getstatic 44, 3) := by decide +kernel
theorem dJ2_getChar_3b067_3 : decode cJ2_getChar_3b067 3 = .ok (.ifCond .ne 25, 3) := by decide +kernel
theorem dJ2_getChar_3b067_6 : decode cJ2_getChar_3b067 6 = .ok (.iload_n 1, 1) := by decide +kernel
theorem dJ2_getChar_3b067_7 : decode cJ2_getChar_3b067 7 = .ok (.ifCond .lt 11, 3) := by decide +kernel
theorem dJ2_getChar_3b067_10 : decode cJ2_getChar_3b067 10 = .ok (.iload_n 1, 1) := by decide +kernel
theorem dJ2_getChar_3b067_11 : decode cJ2_getChar_3b067 11 = .ok (.aload_n 0, 1) := by decide +kernel
theorem dJ2_getChar_3b067_12 : decode cJ2_getChar_3b067 12 = .ok (.invokestatic 48, 3) := by decide +kernel
theorem dJ2_getChar_3b067_15 : decode cJ2_getChar_3b067 15 = .ok (.if_icmp .lt 13, 3) := by decide +kernel
theorem dJ2_getChar_3b067_18 : decode cJ2_getChar_3b067 18 = .ok (.new 52, 3) := by decide +kernel
theorem dJ2_getChar_3b067_21 : decode cJ2_getChar_3b067 21 = .ok (.dup, 1) := by decide +kernel
theorem dJ2_getChar_3b067_22 : decode cJ2_getChar_3b067 22 = .ok (.ldc 54, 2) := by decide +kernel
theorem dJ2_getChar_3b067_24 : decode cJ2_getChar_3b067 24 = .ok (.invokespecial 56, 3) := by decide +kernel
theorem dJ2_getChar_3b067_27 : decode cJ2_getChar_3b067 27 = .ok (.athrow, 1) := by decide +kernel
theorem dJ2_getChar_3b067_28 : decode cJ2_getChar_3b067 28 = .ok (.iload_n 1, 1) := by decide +kernel
theorem dJ2_getChar_3b067_29 : decode cJ2_getChar_3b067 29 = .ok (.iconst 1, 1) := by decide +kernel
theorem dJ2_getChar_3b067_30 : decode cJ2_getChar_3b067 30 = .ok (.ishl, 1) := by decide +kernel
theorem dJ2_getChar_3b067_31 : decode cJ2_getChar_3b067 31 = .ok (.istore_n 1, 1) := by decide +kernel
theorem dJ2_getChar_3b067_32 : decode cJ2_getChar_3b067 32 = .ok (.aload_n 0, 1) := by decide +kernel
theorem dJ2_getChar_3b067_33 : decode cJ2_getChar_3b067 33 = .ok (.iload_n 1, 1) := by decide +kernel
theorem dJ2_getChar_3b067_34 : decode cJ2_getChar_3b067 34 = .ok (.iinc 1 1, 3) := by decide +kernel
theorem dJ2_getChar_3b067_37 : decode cJ2_getChar_3b067 37 = .ok (.baload, 1) := by decide +kernel
theorem dJ2_getChar_3b067_38 : decode cJ2_getChar_3b067 38 = .ok (.sipush 255, 3) := by decide +kernel
theorem dJ2_getChar_3b067_41 : decode cJ2_getChar_3b067 41 = .ok (.iand, 1) := by decide +kernel
theorem dJ2_getChar_3b067_42 : decode cJ2_getChar_3b067 42 = .ok (.getstatic 59, 3) := by decide +kernel
theorem dJ2_getChar_3b067_45 : decode cJ2_getChar_3b067 45 = .ok (.ishl, 1) := by decide +kernel
theorem dJ2_getChar_3b067_46 : decode cJ2_getChar_3b067 46 = .ok (.aload_n 0, 1) := by decide +kernel
theorem dJ2_getChar_3b067_47 : decode cJ2_getChar_3b067 47 = .ok (.iload_n 1, 1) := by decide +kernel
theorem dJ2_getChar_3b067_48 : decode cJ2_getChar_3b067 48 = .ok (.baload, 1) := by decide +kernel
theorem dJ2_getChar_3b067_49 : decode cJ2_getChar_3b067 49 = .ok (.sipush 255, 3) := by decide +kernel
theorem dJ2_getChar_3b067_52 : decode cJ2_getChar_3b067 52 = .ok (.iand, 1) := by decide +kernel
theorem dJ2_getChar_3b067_53 : decode cJ2_getChar_3b067 53 = .ok (.getstatic 63, 3) := by decide +kernel
theorem dJ2_getChar_3b067_56 : decode cJ2_getChar_3b067 56 = .ok (.ishl, 1) := by decide +kernel
theorem dJ2_getChar_3b067_57 : decode cJ2_getChar_3b067 57 = .ok (.ior, 1) := by decide +kernel
theorem dJ2_getChar_3b067_58 : decode cJ2_getChar_3b067 58 = .ok (.i2c, 1) := by decide +kernel
theorem dJ2_getChar_3b067_59 : decode cJ2_getChar_3b067 59 = .ok (.ireturn, 1) := by decide +kernel
theorem dJ2_length_9d52b_0 : decode cJ2_length_9d52b 0 = .ok (.aload_n 0, 1) := by decide +kernel
theorem dJ2_length_9d52b_1 : decode cJ2_length_9d52b 1 = .ok (.arraylength, 1) := by decide +kernel
theorem dJ2_length_9d52b_2 : decode cJ2_length_9d52b 2 = .ok (.iconst 1, 1) := by decide +kernel
theorem dJ2_length_9d52b_3 : decode cJ2_length_9d52b 3 = .ok (.ishr, 1) := by decide +kernel
theorem dJ2_length_9d52b_4 : decode cJ2_length_9d52b 4 = .ok (.ireturn, 1) := by decide +kernel
theorem dJ2_charAt_3b067_0 : decode cJ2_charAt_3b067 0 = .ok (.iload_n 1, 1) := by decide +kernel
theorem dJ2_charAt_3b067_1 : decode cJ2_charAt_3b067 1 = .ok (.aload_n 0, 1) := by decide +kernel
theorem dJ2_charAt_3b067_2 : decode cJ2_charAt_3b067 2 = .ok (.invokestatic 67, 3) := by decide +kernel
theorem dJ2_charAt_3b067_5 : decode cJ2_charAt_3b067 5 = .ok (.aload_n 0, 1) := by decide +kernel
theorem dJ2_charAt_3b067_6 : decode cJ2_charAt_3b067 6 = .ok (.iload_n 1, 1) := by decide +kernel
theorem dJ2_charAt_3b067_7 : decode cJ2_charAt_3b067 7 = .ok (.invokestatic 71, 3) := by decide +kernel
theorem dJ2_charAt_3b067_10 : decode cJ2_charAt_3b067 10 = .ok (.ireturn, 1) := by decide +kernel
theorem dJ2_checkIndex_2214a_0 : decode cJ2_checkIndex_2214a 0 = .ok (.iload_n 0, 1) := by decide +kernel
theorem dJ2_checkIndex_2214a_1 : decode cJ2_checkIndex_2214a 1 = .ok (.aload_n 1, 1) := by decide +kernel
theorem dJ2_checkIndex_2214a_2 : decode cJ2_checkIndex_2214a 2 = .ok (.invokestatic 48, 3) := by decide +kernel
theorem dJ2_checkIndex_2214a_5 : decode cJ2_checkIndex_2214a 5 = .ok (.invokestatic 414, 3) := by decide +kernel
theorem dJ2_checkIndex_2214a_8 : decode cJ2_checkIndex_2214a 8 = .ok (.return_, 1) := by decide +kernel
theorem dJ3_checkIndex_8e157_0 : decode cJ3_checkIndex_8e157 0 = .ok (.iload_n 0, 1) := by decide +kernel
theorem dJ3_checkIndex_8e157_1 : decode cJ3_checkIndex_8e157 1 = .ok (.ifCond .lt 8, 3) := by decide +kernel
theorem dJ3_checkIndex_8e157_4 : decode cJ3_checkIndex_8e157 4 = .ok (.iload_n 0, 1) := by decide +kernel
theorem dJ3_checkIndex_8e157_5 : decode cJ3_checkIndex_8e157 5 = .ok (.iload_n 1, 1) := by decide +kernel
theorem dJ3_checkIndex_8e157_6 : decode cJ3_checkIndex_8e157 6 = .ok (.if_icmp .lt 10, 3) := by decide +kernel
theorem dJ3_checkIndex_8e157_9 : decode cJ3_checkIndex_8e157 9 = .ok (.aload_n 2, 1) := by decide +kernel
theorem dJ3_checkIndex_8e157_10 : decode cJ3_checkIndex_8e157 10 = .ok (.iload_n 0, 1) := by decide +kernel
theorem dJ3_checkIndex_8e157_11 : decode cJ3_checkIndex_8e157 11 = .ok (.iload_n 1, 1) := by decide +kernel
theorem dJ3_checkIndex_8e157_12 : decode cJ3_checkIndex_8e157 12 = .ok (.invokestatic 95, 3) := by decide +kernel
theorem dJ3_checkIndex_8e157_15 : decode cJ3_checkIndex_8e157 15 = .ok (.athrow, 1) := by decide +kernel
theorem dJ3_checkIndex_8e157_16 : decode cJ3_checkIndex_8e157 16 = .ok (.iload_n 0, 1) := by decide +kernel
theorem dJ3_checkIndex_8e157_17 : decode cJ3_checkIndex_8e157 17 = .ok (.ireturn, 1) := by decide +kernel
theorem dL_law_0 : decode cL_law 0 = .ok (.new 7, 3) := by decide +kernel
theorem dL_law_3 : decode cL_law 3 = .ok (.dup, 1) := by decide +kernel
theorem dL_law_4 : decode cL_law 4 = .ok (.invokespecial 9, 3) := by decide +kernel
theorem dL_law_7 : decode cL_law 7 = .ok (.astore_n 1, 1) := by decide +kernel
theorem dL_law_8 : decode cL_law 8 = .ok (.new 10, 3) := by decide +kernel
theorem dL_law_11 : decode cL_law 11 = .ok (.dup, 1) := by decide +kernel
theorem dL_law_12 : decode cL_law 12 = .ok (.invokespecial 12, 3) := by decide +kernel
theorem dL_law_15 : decode cL_law 15 = .ok (.astore_n 2, 1) := by decide +kernel
theorem dL_law_16 : decode cL_law 16 = .ok (.iconst 0, 1) := by decide +kernel
theorem dL_law_17 : decode cL_law 17 = .ok (.istore_n 3, 1) := by decide +kernel
theorem dL_law_18 : decode cL_law 18 = .ok (.iload_n 3, 1) := by decide +kernel
theorem dL_law_19 : decode cL_law 19 = .ok (.aload_n 0, 1) := by decide +kernel
theorem dL_law_20 : decode cL_law 20 = .ok (.arraylength, 1) := by decide +kernel
theorem dL_law_21 : decode cL_law 21 = .ok (.bipush 6, 2) := by decide +kernel
theorem dL_law_23 : decode cL_law 23 = .ok (.isub, 1) := by decide +kernel
theorem dL_law_24 : decode cL_law 24 = .ok (.if_icmp .gt 428, 3) := by decide +kernel
theorem dL_law_27 : decode cL_law 27 = .ok (.aload_n 0, 1) := by decide +kernel
theorem dL_law_28 : decode cL_law 28 = .ok (.iload_n 3, 1) := by decide +kernel
theorem dL_law_29 : decode cL_law 29 = .ok (.iaload, 1) := by decide +kernel
theorem dL_law_30 : decode cL_law 30 = .ok (.bipush 15, 2) := by decide +kernel
theorem dL_law_32 : decode cL_law 32 = .ok (.iand, 1) := by decide +kernel
theorem dL_law_33 : decode cL_law 33 = .ok (.tableswitch 413 0 10 #[59, 122, 175, 198, 221, 254, 277, 310, 333, 357, 380], 59) := by decide +kernel
theorem dL_law_92 : decode cL_law 92 = .ok (.aload_n 1, 1) := by decide +kernel
theorem dL_law_93 : decode cL_law 93 = .ok (.aload_n 0, 1) := by decide +kernel
theorem dL_law_94 : decode cL_law 94 = .ok (.iload_n 3, 1) := by decide +kernel
theorem dL_law_95 : decode cL_law 95 = .ok (.iconst 1, 1) := by decide +kernel
theorem dL_law_96 : decode cL_law 96 = .ok (.iadd, 1) := by decide +kernel
theorem dL_law_97 : decode cL_law 97 = .ok (.iaload, 1) := by decide +kernel
theorem dL_law_98 : decode cL_law 98 = .ok (.aload_n 0, 1) := by decide +kernel
theorem dL_law_99 : decode cL_law 99 = .ok (.iload_n 3, 1) := by decide +kernel
theorem dL_law_100 : decode cL_law 100 = .ok (.iconst 2, 1) := by decide +kernel
theorem dL_law_101 : decode cL_law 101 = .ok (.iadd, 1) := by decide +kernel
theorem dL_law_102 : decode cL_law 102 = .ok (.iaload, 1) := by decide +kernel
theorem dL_law_103 : decode cL_law 103 = .ok (.aload_n 0, 1) := by decide +kernel
theorem dL_law_104 : decode cL_law 104 = .ok (.iload_n 3, 1) := by decide +kernel
theorem dL_law_105 : decode cL_law 105 = .ok (.iconst 3, 1) := by decide +kernel
theorem dL_law_106 : decode cL_law 106 = .ok (.iadd, 1) := by decide +kernel
theorem dL_law_107 : decode cL_law 107 = .ok (.iaload, 1) := by decide +kernel
theorem dL_law_108 : decode cL_law 108 = .ok (.aload_n 0, 1) := by decide +kernel
theorem dL_law_109 : decode cL_law 109 = .ok (.iload_n 3, 1) := by decide +kernel
theorem dL_law_110 : decode cL_law 110 = .ok (.iconst 4, 1) := by decide +kernel
theorem dL_law_111 : decode cL_law 111 = .ok (.iadd, 1) := by decide +kernel
theorem dL_law_112 : decode cL_law 112 = .ok (.iaload, 1) := by decide +kernel
theorem dL_law_113 : decode cL_law 113 = .ok (.aload_n 0, 1) := by decide +kernel
theorem dL_law_114 : decode cL_law 114 = .ok (.iload_n 3, 1) := by decide +kernel
theorem dL_law_115 : decode cL_law 115 = .ok (.iconst 5, 1) := by decide +kernel
theorem dL_law_116 : decode cL_law 116 = .ok (.iadd, 1) := by decide +kernel
theorem dL_law_117 : decode cL_law 117 = .ok (.iaload, 1) := by decide +kernel
theorem dL_law_118 : decode cL_law 118 = .ok (.invokevirtual 13, 3) := by decide +kernel
theorem dL_law_121 : decode cL_law 121 = .ok (.aload_n 2, 1) := by decide +kernel
theorem dL_law_122 : decode cL_law 122 = .ok (.aload_n 0, 1) := by decide +kernel
theorem dL_law_123 : decode cL_law 123 = .ok (.iload_n 3, 1) := by decide +kernel
theorem dL_law_124 : decode cL_law 124 = .ok (.iconst 1, 1) := by decide +kernel
theorem dL_law_125 : decode cL_law 125 = .ok (.iadd, 1) := by decide +kernel
theorem dL_law_126 : decode cL_law 126 = .ok (.iaload, 1) := by decide +kernel
theorem dL_law_127 : decode cL_law 127 = .ok (.aload_n 0, 1) := by decide +kernel
theorem dL_law_128 : decode cL_law 128 = .ok (.iload_n 3, 1) := by decide +kernel
theorem dL_law_129 : decode cL_law 129 = .ok (.iconst 2, 1) := by decide +kernel
theorem dL_law_130 : decode cL_law 130 = .ok (.iadd, 1) := by decide +kernel
theorem dL_law_131 : decode cL_law 131 = .ok (.iaload, 1) := by decide +kernel
theorem dL_law_132 : decode cL_law 132 = .ok (.aload_n 0, 1) := by decide +kernel
theorem dL_law_133 : decode cL_law 133 = .ok (.iload_n 3, 1) := by decide +kernel
theorem dL_law_134 : decode cL_law 134 = .ok (.iconst 3, 1) := by decide +kernel
theorem dL_law_135 : decode cL_law 135 = .ok (.iadd, 1) := by decide +kernel
theorem dL_law_136 : decode cL_law 136 = .ok (.iaload, 1) := by decide +kernel
theorem dL_law_137 : decode cL_law 137 = .ok (.aload_n 0, 1) := by decide +kernel
theorem dL_law_138 : decode cL_law 138 = .ok (.iload_n 3, 1) := by decide +kernel
theorem dL_law_139 : decode cL_law 139 = .ok (.iconst 4, 1) := by decide +kernel
theorem dL_law_140 : decode cL_law 140 = .ok (.iadd, 1) := by decide +kernel
theorem dL_law_141 : decode cL_law 141 = .ok (.iaload, 1) := by decide +kernel
theorem dL_law_142 : decode cL_law 142 = .ok (.aload_n 0, 1) := by decide +kernel
theorem dL_law_143 : decode cL_law 143 = .ok (.iload_n 3, 1) := by decide +kernel
theorem dL_law_144 : decode cL_law 144 = .ok (.iconst 5, 1) := by decide +kernel
theorem dL_law_145 : decode cL_law 145 = .ok (.iadd, 1) := by decide +kernel
theorem dL_law_146 : decode cL_law 146 = .ok (.iaload, 1) := by decide +kernel
theorem dL_law_147 : decode cL_law 147 = .ok (.invokevirtual 17, 3) := by decide +kernel
theorem dL_law_150 : decode cL_law 150 = .ok (.if_icmp .eq 296, 3) := by decide +kernel
theorem dL_law_153 : decode cL_law 153 = .ok (.iconst 0, 1) := by decide +kernel
theorem dL_law_154 : decode cL_law 154 = .ok (.ireturn, 1) := by decide +kernel
theorem dL_law_155 : decode cL_law 155 = .ok (.aload_n 1, 1) := by decide +kernel
theorem dL_law_156 : decode cL_law 156 = .ok (.aload_n 0, 1) := by decide +kernel
theorem dL_law_157 : decode cL_law 157 = .ok (.iload_n 3, 1) := by decide +kernel
theorem dL_law_158 : decode cL_law 158 = .ok (.iconst 1, 1) := by decide +kernel
theorem dL_law_159 : decode cL_law 159 = .ok (.iadd, 1) := by decide +kernel
theorem dL_law_160 : decode cL_law 160 = .ok (.iaload, 1) := by decide +kernel
theorem dL_law_161 : decode cL_law 161 = .ok (.aload_n 0, 1) := by decide +kernel
theorem dL_law_162 : decode cL_law 162 = .ok (.iload_n 3, 1) := by decide +kernel
theorem dL_law_163 : decode cL_law 163 = .ok (.iconst 2, 1) := by decide +kernel
theorem dL_law_164 : decode cL_law 164 = .ok (.iadd, 1) := by decide +kernel
theorem dL_law_165 : decode cL_law 165 = .ok (.iaload, 1) := by decide +kernel
theorem dL_law_166 : decode cL_law 166 = .ok (.aload_n 0, 1) := by decide +kernel
theorem dL_law_167 : decode cL_law 167 = .ok (.iload_n 3, 1) := by decide +kernel
theorem dL_law_168 : decode cL_law 168 = .ok (.iconst 3, 1) := by decide +kernel
theorem dL_law_169 : decode cL_law 169 = .ok (.iadd, 1) := by decide +kernel
theorem dL_law_170 : decode cL_law 170 = .ok (.iaload, 1) := by decide +kernel
theorem dL_law_171 : decode cL_law 171 = .ok (.aload_n 0, 1) := by decide +kernel
theorem dL_law_172 : decode cL_law 172 = .ok (.iload_n 3, 1) := by decide +kernel
theorem dL_law_173 : decode cL_law 173 = .ok (.iconst 4, 1) := by decide +kernel
theorem dL_law_174 : decode cL_law 174 = .ok (.iadd, 1) := by decide +kernel
theorem dL_law_175 : decode cL_law 175 = .ok (.iaload, 1) := by decide +kernel
theorem dL_law_176 : decode cL_law 176 = .ok (.invokevirtual 18, 3) := by decide +kernel
theorem dL_law_179 : decode cL_law 179 = .ok (.aload_n 2, 1) := by decide +kernel
theorem dL_law_180 : decode cL_law 180 = .ok (.aload_n 0, 1) := by decide +kernel
theorem dL_law_181 : decode cL_law 181 = .ok (.iload_n 3, 1) := by decide +kernel
theorem dL_law_182 : decode cL_law 182 = .ok (.iconst 1, 1) := by decide +kernel
theorem dL_law_183 : decode cL_law 183 = .ok (.iadd, 1) := by decide +kernel
theorem dL_law_184 : decode cL_law 184 = .ok (.iaload, 1) := by decide +kernel
theorem dL_law_185 : decode cL_law 185 = .ok (.aload_n 0, 1) := by decide +kernel
theorem dL_law_186 : decode cL_law 186 = .ok (.iload_n 3, 1) := by decide +kernel
theorem dL_law_187 : decode cL_law 187 = .ok (.iconst 2, 1) := by decide +kernel
theorem dL_law_188 : decode cL_law 188 = .ok (.iadd, 1) := by decide +kernel
theorem dL_law_189 : decode cL_law 189 = .ok (.iaload, 1) := by decide +kernel
theorem dL_law_190 : decode cL_law 190 = .ok (.aload_n 0, 1) := by decide +kernel
theorem dL_law_191 : decode cL_law 191 = .ok (.iload_n 3, 1) := by decide +kernel
theorem dL_law_192 : decode cL_law 192 = .ok (.iconst 3, 1) := by decide +kernel
theorem dL_law_193 : decode cL_law 193 = .ok (.iadd, 1) := by decide +kernel
theorem dL_law_194 : decode cL_law 194 = .ok (.iaload, 1) := by decide +kernel
theorem dL_law_195 : decode cL_law 195 = .ok (.aload_n 0, 1) := by decide +kernel
theorem dL_law_196 : decode cL_law 196 = .ok (.iload_n 3, 1) := by decide +kernel
theorem dL_law_197 : decode cL_law 197 = .ok (.iconst 4, 1) := by decide +kernel
theorem dL_law_198 : decode cL_law 198 = .ok (.iadd, 1) := by decide +kernel
theorem dL_law_199 : decode cL_law 199 = .ok (.iaload, 1) := by decide +kernel
theorem dL_law_200 : decode cL_law 200 = .ok (.invokevirtual 22, 3) := by decide +kernel
theorem dL_law_203 : decode cL_law 203 = .ok (.if_icmp .eq 243, 3) := by decide +kernel
theorem dL_law_206 : decode cL_law 206 = .ok (.iconst 0, 1) := by decide +kernel
theorem dL_law_207 : decode cL_law 207 = .ok (.ireturn, 1) := by decide +kernel
theorem dL_law_208 : decode cL_law 208 = .ok (.aload_n 1, 1) := by decide +kernel
theorem dL_law_209 : decode cL_law 209 = .ok (.aload_n 0, 1) := by decide +kernel
theorem dL_law_210 : decode cL_law 210 = .ok (.iload_n 3, 1) := by decide +kernel
theorem dL_law_211 : decode cL_law 211 = .ok (.iconst 1, 1) := by decide +kernel
theorem dL_law_212 : decode cL_law 212 = .ok (.iadd, 1) := by decide +kernel
theorem dL_law_213 : decode cL_law 213 = .ok (.iaload, 1) := by decide +kernel
theorem dL_law_214 : decode cL_law 214 = .ok (.invokevirtual 23, 3) := by decide +kernel
theorem dL_law_217 : decode cL_law 217 = .ok (.aload_n 2, 1) := by decide +kernel
theorem dL_law_218 : decode cL_law 218 = .ok (.aload_n 0, 1) := by decide +kernel
theorem dL_law_219 : decode cL_law 219 = .ok (.iload_n 3, 1) := by decide +kernel
theorem dL_law_220 : decode cL_law 220 = .ok (.iconst 1, 1) := by decide +kernel
theorem dL_law_221 : decode cL_law 221 = .ok (.iadd, 1) := by decide +kernel
theorem dL_law_222 : decode cL_law 222 = .ok (.iaload, 1) := by decide +kernel
theorem dL_law_223 : decode cL_law 223 = .ok (.invokevirtual 27, 3) := by decide +kernel
theorem dL_law_226 : decode cL_law 226 = .ok (.if_icmp .eq 220, 3) := by decide +kernel
theorem dL_law_229 : decode cL_law 229 = .ok (.iconst 0, 1) := by decide +kernel
theorem dL_law_230 : decode cL_law 230 = .ok (.ireturn, 1) := by decide +kernel
theorem dL_law_231 : decode cL_law 231 = .ok (.aload_n 1, 1) := by decide +kernel
theorem dL_law_232 : decode cL_law 232 = .ok (.aload_n 0, 1) := by decide +kernel
theorem dL_law_233 : decode cL_law 233 = .ok (.iload_n 3, 1) := by decide +kernel
theorem dL_law_234 : decode cL_law 234 = .ok (.iconst 1, 1) := by decide +kernel
theorem dL_law_235 : decode cL_law 235 = .ok (.iadd, 1) := by decide +kernel
theorem dL_law_236 : decode cL_law 236 = .ok (.iaload, 1) := by decide +kernel
theorem dL_law_237 : decode cL_law 237 = .ok (.invokevirtual 28, 3) := by decide +kernel
theorem dL_law_240 : decode cL_law 240 = .ok (.aload_n 2, 1) := by decide +kernel
theorem dL_law_241 : decode cL_law 241 = .ok (.aload_n 0, 1) := by decide +kernel
theorem dL_law_242 : decode cL_law 242 = .ok (.iload_n 3, 1) := by decide +kernel
theorem dL_law_243 : decode cL_law 243 = .ok (.iconst 1, 1) := by decide +kernel
theorem dL_law_244 : decode cL_law 244 = .ok (.iadd, 1) := by decide +kernel
theorem dL_law_245 : decode cL_law 245 = .ok (.iaload, 1) := by decide +kernel
theorem dL_law_246 : decode cL_law 246 = .ok (.invokevirtual 31, 3) := by decide +kernel
theorem dL_law_249 : decode cL_law 249 = .ok (.if_icmp .eq 197, 3) := by decide +kernel
theorem dL_law_252 : decode cL_law 252 = .ok (.iconst 0, 1) := by decide +kernel
theorem dL_law_253 : decode cL_law 253 = .ok (.ireturn, 1) := by decide +kernel
theorem dL_law_254 : decode cL_law 254 = .ok (.aload_n 1, 1) := by decide +kernel
theorem dL_law_255 : decode cL_law 255 = .ok (.aload_n 0, 1) := by decide +kernel
theorem dL_law_256 : decode cL_law 256 = .ok (.iload_n 3, 1) := by decide +kernel
theorem dL_law_257 : decode cL_law 257 = .ok (.iconst 1, 1) := by decide +kernel
theorem dL_law_258 : decode cL_law 258 = .ok (.iadd, 1) := by decide +kernel
theorem dL_law_259 : decode cL_law 259 = .ok (.iaload, 1) := by decide +kernel
theorem dL_law_260 : decode cL_law 260 = .ok (.aload_n 0, 1) := by decide +kernel
theorem dL_law_261 : decode cL_law 261 = .ok (.iload_n 3, 1) := by decide +kernel
theorem dL_law_262 : decode cL_law 262 = .ok (.iconst 2, 1) := by decide +kernel
theorem dL_law_263 : decode cL_law 263 = .ok (.iadd, 1) := by decide +kernel
theorem dL_law_264 : decode cL_law 264 = .ok (.iaload, 1) := by decide +kernel
theorem dL_law_265 : decode cL_law 265 = .ok (.invokevirtual 32, 3) := by decide +kernel
theorem dL_law_268 : decode cL_law 268 = .ok (.aload_n 2, 1) := by decide +kernel
theorem dL_law_269 : decode cL_law 269 = .ok (.aload_n 0, 1) := by decide +kernel
theorem dL_law_270 : decode cL_law 270 = .ok (.iload_n 3, 1) := by decide +kernel
theorem dL_law_271 : decode cL_law 271 = .ok (.iconst 1, 1) := by decide +kernel
theorem dL_law_272 : decode cL_law 272 = .ok (.iadd, 1) := by decide +kernel
theorem dL_law_273 : decode cL_law 273 = .ok (.iaload, 1) := by decide +kernel
theorem dL_law_274 : decode cL_law 274 = .ok (.aload_n 0, 1) := by decide +kernel
theorem dL_law_275 : decode cL_law 275 = .ok (.iload_n 3, 1) := by decide +kernel
theorem dL_law_276 : decode cL_law 276 = .ok (.iconst 2, 1) := by decide +kernel
theorem dL_law_277 : decode cL_law 277 = .ok (.iadd, 1) := by decide +kernel
theorem dL_law_278 : decode cL_law 278 = .ok (.iaload, 1) := by decide +kernel
theorem dL_law_279 : decode cL_law 279 = .ok (.invokevirtual 36, 3) := by decide +kernel
theorem dL_law_282 : decode cL_law 282 = .ok (.if_icmp .eq 164, 3) := by decide +kernel
theorem dL_law_285 : decode cL_law 285 = .ok (.iconst 0, 1) := by decide +kernel
theorem dL_law_286 : decode cL_law 286 = .ok (.ireturn, 1) := by decide +kernel
theorem dL_law_287 : decode cL_law 287 = .ok (.aload_n 1, 1) := by decide +kernel
theorem dL_law_288 : decode cL_law 288 = .ok (.aload_n 0, 1) := by decide +kernel
theorem dL_law_289 : decode cL_law 289 = .ok (.iload_n 3, 1) := by decide +kernel
theorem dL_law_290 : decode cL_law 290 = .ok (.iconst 1, 1) := by decide +kernel
theorem dL_law_291 : decode cL_law 291 = .ok (.iadd, 1) := by decide +kernel
theorem dL_law_292 : decode cL_law 292 = .ok (.iaload, 1) := by decide +kernel
theorem dL_law_293 : decode cL_law 293 = .ok (.invokevirtual 37, 3) := by decide +kernel
theorem dL_law_296 : decode cL_law 296 = .ok (.aload_n 2, 1) := by decide +kernel
theorem dL_law_297 : decode cL_law 297 = .ok (.aload_n 0, 1) := by decide +kernel
theorem dL_law_298 : decode cL_law 298 = .ok (.iload_n 3, 1) := by decide +kernel
theorem dL_law_299 : decode cL_law 299 = .ok (.iconst 1, 1) := by decide +kernel
theorem dL_law_300 : decode cL_law 300 = .ok (.iadd, 1) := by decide +kernel
theorem dL_law_301 : decode cL_law 301 = .ok (.iaload, 1) := by decide +kernel
theorem dL_law_302 : decode cL_law 302 = .ok (.invokevirtual 40, 3) := by decide +kernel
theorem dL_law_305 : decode cL_law 305 = .ok (.if_icmp .eq 141, 3) := by decide +kernel
theorem dL_law_308 : decode cL_law 308 = .ok (.iconst 0, 1) := by decide +kernel
theorem dL_law_309 : decode cL_law 309 = .ok (.ireturn, 1) := by decide +kernel
theorem dL_law_310 : decode cL_law 310 = .ok (.aload_n 1, 1) := by decide +kernel
theorem dL_law_311 : decode cL_law 311 = .ok (.aload_n 0, 1) := by decide +kernel
theorem dL_law_312 : decode cL_law 312 = .ok (.iload_n 3, 1) := by decide +kernel
theorem dL_law_313 : decode cL_law 313 = .ok (.iconst 1, 1) := by decide +kernel
theorem dL_law_314 : decode cL_law 314 = .ok (.iadd, 1) := by decide +kernel
theorem dL_law_315 : decode cL_law 315 = .ok (.iaload, 1) := by decide +kernel
theorem dL_law_316 : decode cL_law 316 = .ok (.aload_n 0, 1) := by decide +kernel
theorem dL_law_317 : decode cL_law 317 = .ok (.iload_n 3, 1) := by decide +kernel
theorem dL_law_318 : decode cL_law 318 = .ok (.iconst 2, 1) := by decide +kernel
theorem dL_law_319 : decode cL_law 319 = .ok (.iadd, 1) := by decide +kernel
theorem dL_law_320 : decode cL_law 320 = .ok (.iaload, 1) := by decide +kernel
theorem dL_law_321 : decode cL_law 321 = .ok (.invokevirtual 41, 3) := by decide +kernel
theorem dL_law_324 : decode cL_law 324 = .ok (.aload_n 2, 1) := by decide +kernel
theorem dL_law_325 : decode cL_law 325 = .ok (.aload_n 0, 1) := by decide +kernel
theorem dL_law_326 : decode cL_law 326 = .ok (.iload_n 3, 1) := by decide +kernel
theorem dL_law_327 : decode cL_law 327 = .ok (.iconst 1, 1) := by decide +kernel
theorem dL_law_328 : decode cL_law 328 = .ok (.iadd, 1) := by decide +kernel
theorem dL_law_329 : decode cL_law 329 = .ok (.iaload, 1) := by decide +kernel
theorem dL_law_330 : decode cL_law 330 = .ok (.aload_n 0, 1) := by decide +kernel
theorem dL_law_331 : decode cL_law 331 = .ok (.iload_n 3, 1) := by decide +kernel
theorem dL_law_332 : decode cL_law 332 = .ok (.iconst 2, 1) := by decide +kernel
theorem dL_law_333 : decode cL_law 333 = .ok (.iadd, 1) := by decide +kernel
theorem dL_law_334 : decode cL_law 334 = .ok (.iaload, 1) := by decide +kernel
theorem dL_law_335 : decode cL_law 335 = .ok (.invokevirtual 44, 3) := by decide +kernel
theorem dL_law_338 : decode cL_law 338 = .ok (.if_icmp .eq 108, 3) := by decide +kernel
theorem dL_law_341 : decode cL_law 341 = .ok (.iconst 0, 1) := by decide +kernel
theorem dL_law_342 : decode cL_law 342 = .ok (.ireturn, 1) := by decide +kernel
theorem dL_law_343 : decode cL_law 343 = .ok (.aload_n 1, 1) := by decide +kernel
theorem dL_law_344 : decode cL_law 344 = .ok (.aload_n 0, 1) := by decide +kernel
theorem dL_law_345 : decode cL_law 345 = .ok (.iload_n 3, 1) := by decide +kernel
theorem dL_law_346 : decode cL_law 346 = .ok (.iconst 1, 1) := by decide +kernel
theorem dL_law_347 : decode cL_law 347 = .ok (.iadd, 1) := by decide +kernel
theorem dL_law_348 : decode cL_law 348 = .ok (.iaload, 1) := by decide +kernel
theorem dL_law_349 : decode cL_law 349 = .ok (.invokevirtual 45, 3) := by decide +kernel
theorem dL_law_352 : decode cL_law 352 = .ok (.aload_n 2, 1) := by decide +kernel
theorem dL_law_353 : decode cL_law 353 = .ok (.aload_n 0, 1) := by decide +kernel
theorem dL_law_354 : decode cL_law 354 = .ok (.iload_n 3, 1) := by decide +kernel
theorem dL_law_355 : decode cL_law 355 = .ok (.iconst 1, 1) := by decide +kernel
theorem dL_law_356 : decode cL_law 356 = .ok (.iadd, 1) := by decide +kernel
theorem dL_law_357 : decode cL_law 357 = .ok (.iaload, 1) := by decide +kernel
theorem dL_law_358 : decode cL_law 358 = .ok (.invokevirtual 48, 3) := by decide +kernel
theorem dL_law_361 : decode cL_law 361 = .ok (.if_icmp .eq 85, 3) := by decide +kernel
theorem dL_law_364 : decode cL_law 364 = .ok (.iconst 0, 1) := by decide +kernel
theorem dL_law_365 : decode cL_law 365 = .ok (.ireturn, 1) := by decide +kernel
theorem dL_law_366 : decode cL_law 366 = .ok (.aload_n 1, 1) := by decide +kernel
theorem dL_law_367 : decode cL_law 367 = .ok (.aload_n 0, 1) := by decide +kernel
theorem dL_law_368 : decode cL_law 368 = .ok (.iload_n 3, 1) := by decide +kernel
theorem dL_law_369 : decode cL_law 369 = .ok (.iconst 1, 1) := by decide +kernel
theorem dL_law_370 : decode cL_law 370 = .ok (.iadd, 1) := by decide +kernel
theorem dL_law_371 : decode cL_law 371 = .ok (.iaload, 1) := by decide +kernel
theorem dL_law_372 : decode cL_law 372 = .ok (.invokevirtual 49, 3) := by decide +kernel
theorem dL_law_375 : decode cL_law 375 = .ok (.aload_n 2, 1) := by decide +kernel
theorem dL_law_376 : decode cL_law 376 = .ok (.aload_n 0, 1) := by decide +kernel
theorem dL_law_377 : decode cL_law 377 = .ok (.iload_n 3, 1) := by decide +kernel
theorem dL_law_378 : decode cL_law 378 = .ok (.iconst 1, 1) := by decide +kernel
theorem dL_law_379 : decode cL_law 379 = .ok (.iadd, 1) := by decide +kernel
theorem dL_law_380 : decode cL_law 380 = .ok (.iaload, 1) := by decide +kernel
theorem dL_law_381 : decode cL_law 381 = .ok (.invokevirtual 53, 3) := by decide +kernel
theorem dL_law_384 : decode cL_law 384 = .ok (.lcmp, 1) := by decide +kernel
theorem dL_law_385 : decode cL_law 385 = .ok (.ifCond .eq 61, 3) := by decide +kernel
theorem dL_law_388 : decode cL_law 388 = .ok (.iconst 0, 1) := by decide +kernel
theorem dL_law_389 : decode cL_law 389 = .ok (.ireturn, 1) := by decide +kernel
theorem dL_law_390 : decode cL_law 390 = .ok (.aload_n 1, 1) := by decide +kernel
theorem dL_law_391 : decode cL_law 391 = .ok (.aload_n 0, 1) := by decide +kernel
theorem dL_law_392 : decode cL_law 392 = .ok (.iload_n 3, 1) := by decide +kernel
theorem dL_law_393 : decode cL_law 393 = .ok (.iconst 1, 1) := by decide +kernel
theorem dL_law_394 : decode cL_law 394 = .ok (.iadd, 1) := by decide +kernel
theorem dL_law_395 : decode cL_law 395 = .ok (.iaload, 1) := by decide +kernel
theorem dL_law_396 : decode cL_law 396 = .ok (.invokevirtual 54, 3) := by decide +kernel
theorem dL_law_399 : decode cL_law 399 = .ok (.aload_n 2, 1) := by decide +kernel
theorem dL_law_400 : decode cL_law 400 = .ok (.aload_n 0, 1) := by decide +kernel
theorem dL_law_401 : decode cL_law 401 = .ok (.iload_n 3, 1) := by decide +kernel
theorem dL_law_402 : decode cL_law 402 = .ok (.iconst 1, 1) := by decide +kernel
theorem dL_law_403 : decode cL_law 403 = .ok (.iadd, 1) := by decide +kernel
theorem dL_law_404 : decode cL_law 404 = .ok (.iaload, 1) := by decide +kernel
theorem dL_law_405 : decode cL_law 405 = .ok (.invokevirtual 57, 3) := by decide +kernel
theorem dL_law_408 : decode cL_law 408 = .ok (.if_icmp .eq 38, 3) := by decide +kernel
theorem dL_law_411 : decode cL_law 411 = .ok (.iconst 0, 1) := by decide +kernel
theorem dL_law_412 : decode cL_law 412 = .ok (.ireturn, 1) := by decide +kernel
theorem dL_law_413 : decode cL_law 413 = .ok (.aload_n 1, 1) := by decide +kernel
theorem dL_law_414 : decode cL_law 414 = .ok (.aload_n 0, 1) := by decide +kernel
theorem dL_law_415 : decode cL_law 415 = .ok (.iload_n 3, 1) := by decide +kernel
theorem dL_law_416 : decode cL_law 416 = .ok (.iconst 1, 1) := by decide +kernel
theorem dL_law_417 : decode cL_law 417 = .ok (.iadd, 1) := by decide +kernel
theorem dL_law_418 : decode cL_law 418 = .ok (.iaload, 1) := by decide +kernel
theorem dL_law_419 : decode cL_law 419 = .ok (.aload_n 0, 1) := by decide +kernel
theorem dL_law_420 : decode cL_law 420 = .ok (.iload_n 3, 1) := by decide +kernel
theorem dL_law_421 : decode cL_law 421 = .ok (.iconst 2, 1) := by decide +kernel
theorem dL_law_422 : decode cL_law 422 = .ok (.iadd, 1) := by decide +kernel
theorem dL_law_423 : decode cL_law 423 = .ok (.iaload, 1) := by decide +kernel
theorem dL_law_424 : decode cL_law 424 = .ok (.invokevirtual 58, 3) := by decide +kernel
theorem dL_law_427 : decode cL_law 427 = .ok (.aload_n 2, 1) := by decide +kernel
theorem dL_law_428 : decode cL_law 428 = .ok (.aload_n 0, 1) := by decide +kernel
theorem dL_law_429 : decode cL_law 429 = .ok (.iload_n 3, 1) := by decide +kernel
theorem dL_law_430 : decode cL_law 430 = .ok (.iconst 1, 1) := by decide +kernel
theorem dL_law_431 : decode cL_law 431 = .ok (.iadd, 1) := by decide +kernel
theorem dL_law_432 : decode cL_law 432 = .ok (.iaload, 1) := by decide +kernel
theorem dL_law_433 : decode cL_law 433 = .ok (.aload_n 0, 1) := by decide +kernel
theorem dL_law_434 : decode cL_law 434 = .ok (.iload_n 3, 1) := by decide +kernel
theorem dL_law_435 : decode cL_law 435 = .ok (.iconst 2, 1) := by decide +kernel
theorem dL_law_436 : decode cL_law 436 = .ok (.iadd, 1) := by decide +kernel
theorem dL_law_437 : decode cL_law 437 = .ok (.iaload, 1) := by decide +kernel
theorem dL_law_438 : decode cL_law 438 = .ok (.invokevirtual 61, 3) := by decide +kernel
theorem dL_law_441 : decode cL_law 441 = .ok (.if_icmp .eq 5, 3) := by decide +kernel
theorem dL_law_444 : decode cL_law 444 = .ok (.iconst 0, 1) := by decide +kernel
theorem dL_law_445 : decode cL_law 445 = .ok (.ireturn, 1) := by decide +kernel
theorem dL_law_446 : decode cL_law 446 = .ok (.iinc 3 6, 3) := by decide +kernel
theorem dL_law_449 : decode cL_law 449 = .ok (.goto (-431), 3) := by decide +kernel
theorem dL_law_452 : decode cL_law 452 = .ok (.iconst 1, 1) := by decide +kernel
theorem dL_law_453 : decode cL_law 453 = .ok (.ireturn, 1) := by decide +kernel
abbrev vwCl : List vw_C := [(RX0, TX0, 9), (RX1, TX1, 13), (RX2, TX2, 7), (RX3, TX3, 7), (RX4, TX4, 2), (RX5, TX5, 4), (RX6, TX6, 35)]
end
section
/-! the rows below are this claim's own layer over the kit: one list of words for all methods, one form of contract, one row a kind of step -/
def GW : List Cond := lw_tbl.filter goodWord
theorem gw_of {w : Cond} (h : w ∈ lw_tbl) (g : goodWord w = true) : w ∈ GW := List.mem_filter.mpr ⟨h, g⟩
theorem gw_good {w : Cond} (h : w ∈ GW) : w ∈ GW ∧ ((w.onTables && w.keeps) = true ∨ ∃ ty, w = .arrayClass ty) := ⟨h, good_of_word (List.mem_filter.mp h).2⟩
theorem gw_in {ws : List Cond} (h : ∀ w ∈ ws, w ∈ GW) : GoodIn GW ws := fun w hw => gw_good (h w hw)
theorem gw_cons {w : Cond} (h : w ∈ GW) : ∀ x ∈ w :: GW, x ∈ GW := fun x hx => (List.mem_cons.mp hx).elim (fun e => e ▸ h) id
/-- what a run of calls keeps: tables of classes (dC, dI), the array types, the lowest address of its own cells, the text's two addresses -/
abbrev EnvT : Type := va_G × (ClassId × ClassId × ClassId) × Nat × Nat × Nat
abbrev eG (E : EnvT) : va_G := E.1
abbrev eI (E : EnvT) : ClassId := E.2.1.1
abbrev eL (E : EnvT) : ClassId := E.2.1.2.1
abbrev eZ (E : EnvT) : ClassId := E.2.1.2.2
abbrev eLo (E : EnvT) : Nat := E.2.2.1
abbrev tyE (E : EnvT) : List (ClassId × FieldType) := [(E.2.1.1, .int), (E.2.1.2.1, .long), (E.2.1.2.2, .boolean)]
def sT : String := "select where group by and or not is null in true false count sum min max "
def sB : List Int32 := [115, 101, 108, 101, 99, 116, 32, 119, 104, 101, 114, 101, 32, 103, 114, 111, 117, 112, 32, 98, 121, 32, 97, 110, 100, 32, 111, 114, 32, 110, 111, 116, 32, 105, 115, 32, 110, 117, 108, 108, 32, 105, 110, 32, 116, 114, 117, 101, 32, 102, 97, 108, 115, 101, 32, 99, 111, 117, 110, 116, 32, 115, 117, 109, 32, 109, 105, 110, 32, 109, 97, 120, 32]
def isNest : Cond → Bool
  | .fieldLinkNest .. => true
  | .methodLinkNest .. => true
  | _ => false
def nestWs : List Cond := lw_tbl.filter isNest
theorem nest_of {w : Cond} (h : w ∈ lw_tbl) (g : isNest w = true) : w ∈ nestWs := List.mem_filter.mpr ⟨h, g⟩
/-- what holds outside the cells: links to nest mates' members, the text of the words, two statics -/
def EN (E : EnvT) (U : State) : Prop := (∀ w ∈ nestWs, va_Nw w U) ∧ vk_R RX2 54 sT E.2.2.2.1 U ∧ vk_S 1 [73] [sB] (fun _ => E.2.2.2.1) (fun _ => E.2.2.2.2) (fun q => E.2.2.1 ≤ q) U U.heap ∧ va_Z "java/lang/String" "COMPACT_STRINGS" "Z" (.int 1) (fun q => E.2.2.1 ≤ q) U U.heap ∧ va_Zq "jdk/internal/util/Preconditions" "SIOOBE_FORMATTER" "Ljava/util/function/BiFunction;" (fun q => E.2.2.1 ≤ q) U U.heap
theorem nest_cases {w : Cond} (h : isNest w = true) : (∃ a i b n d g, w = .fieldLinkNest a i b n d g) ∨ ∃ a i x g, w = .methodLinkNest a i x g := by
  cases w <;> first | exact Or.inl ⟨_, _, _, _, _, _, rfl⟩ | exact Or.inr ⟨_, _, _, _, rfl⟩ | (simp [isNest] at h; done)
theorem nest_warm {w : Cond} (h : isNest w = true) {s U : State} (hW : s.WarmedH U.vm) (hZ : va_Nw w s) : va_Nw w U := by
  rcases nest_cases h with ⟨a, i, b, n, d, g, rfl⟩ | ⟨a, i, x, g, rfl⟩
  · exact va_Nw.warmF hW hZ
  · exact va_Nw.warmM hW hZ
theorem nest_same {w : Cond} (h : isNest w = true) {s U : State} (hv : s.vm = U.vm) (hZ : va_Nw w s) : va_Nw w U := by
  rcases nest_cases h with ⟨a, i, b, n, d, g, rfl⟩ | ⟨a, i, x, g, rfl⟩
  · exact va_Nw.same rfl hv hZ
  · exact va_Nw.same rfl hv hZ
theorem nest_use {w : Cond} (h : isNest w = true) {A : Array Value} {U : State} (hZ : va_Nw w U) : w.before A U = true := by
  rcases nest_cases h with ⟨a, i, b, n, d, g, rfl⟩ | ⟨a, i, x, g, rfl⟩
  · exact va_Nw.use rfl hZ
  · exact va_Nw.use rfl hZ
theorem EN.call {E : EnvT} {U : State} {g : JFrame} {mk : MethodId} {a : Array Value} (h : EN E U) : EN E (U.calling g mk a) := by
  obtain ⟨h1, h2, h3, h4, h5⟩ := h
  exact ⟨fun w hw => nest_same (List.mem_filter.mp hw).2 (s := U) (U := U.calling g mk a) rfl (h1 w hw), vk_R.same (u := U) (U := U.calling g mk a) rfl h2, vk_S.moved (u := U) (U := U.calling g mk a) (Vm.Alike.refl U.vm) h3, va_Z.moved (u := U) (U := U.calling g mk a) (Vm.Alike.refl U.vm) h4, va_Zq.moved (u := U) (U := U.calling g mk a) (Vm.Alike.refl U.vm) h5⟩
theorem EN.move {E : EnvT} {s U : State} (h : EN E s) (hW : s.WarmedH U.vm) (hq : ∀ a : Nat, a < s.heap.size → ¬ E.2.2.1 ≤ a → U.heap[a]? = s.heap[a]?) : EN E U := by
  obtain ⟨h1, h2, h3, h4, h5⟩ := h
  exact ⟨fun w hw => nest_warm (List.mem_filter.mp hw).2 hW (h1 w hw), vk_R.warm hW h2, vk_S.kept (vk_S.moved hW.alike h3) hq, va_Z.kept (va_Z.moved hW.alike h4) hq, va_Zq.kept (va_Zq.moved hW.alike h5) hq⟩
/-- a method's start: the cells ws alone, all of them the run's own -/
def PreW (E : EnvT) (ws : va_W) (sz : Nat) (U : State) : Prop := U.heap.size = sz ∧ va_P E.1 vwCl ws U.heap ∧ va_K E.1 vwCl (tyE E) U ∧ va_D (fun q => E.2.2.1 ≤ q) ws ∧ E.2.2.1 ≤ sz ∧ EN E U
def PostW (E : EnvT) (A : Nat → Prop) (ws : va_W) (t : State) : Prop := va_P E.1 vwCl ws t.heap ∧ va_D A ws
abbrev QcI (E : EnvT) (A : Nat → Prop) (w1 : va_W) (r : Int32) : Array Value → State → Outcome → State → Prop := va_Qi (fun (r' : Int32) (_ : Unit) => r' = r) (fun _ t => PostW E A w1 t) A
abbrev QcL (E : EnvT) (A : Nat → Prop) (w1 : va_W) (r : Int64) : Array Value → State → Outcome → State → Prop := va_Ql (fun (r' : Int64) (_ : Unit) => r' = r) (fun _ t => PostW E A w1 t) A
abbrev QcV (E : EnvT) (A : Nat → Prop) (w1 : va_W) : Array Value → State → Outcome → State → Prop := va_Qv (fun (_ : Unit) => True) (fun _ t => PostW E A w1 t) A
/-- contracts: from the cells w0 the method returns (r), and they are w1 -/
def CI (l : Launch) (y : MethodName) (cw : Cond) (rm : Room) (E : EnvT) (av : List Value) (w0 : va_W) (r : Int32) (w1 : va_W) : Prop := ∀ sz : Nat, Met l y (cw :: GW) rm (va_Pc av (PreW E w0 sz)) (QcI E (va_A w0 sz) w1 r) 0 0 (va_A w0 sz)
def CL (l : Launch) (y : MethodName) (cw : Cond) (rm : Room) (E : EnvT) (av : List Value) (w0 : va_W) (r : Int64) (w1 : va_W) : Prop := ∀ sz : Nat, Met l y (cw :: GW) rm (va_Pc av (PreW E w0 sz)) (QcL E (va_A w0 sz) w1 r) 0 0 (va_A w0 sz)
def CV (l : Launch) (y : MethodName) (cw : Cond) (rm : Room) (E : EnvT) (av : List Value) (w0 : va_W) (w1 : va_W) : Prop := ∀ sz : Nat, Met l y (cw :: GW) rm (va_Pc av (PreW E w0 sz)) (QcV E (va_A w0 sz) w1) 0 0 (va_A w0 sz)
/-- within a method -/
def MC (p : Program) (s : State) (m : MethodId) (args : Array Value) (meth : Method) (c : Code) (E : EnvT) (A : Nat → Prop) (cc : ByteArray) (nL : Nat) (own : String) (ret : Option FieldType) : Prop :=
  p.tables.exec = Jvm.exec ∧ c.code = cc ∧ c.maxLocals = nL ∧ s.vm.findClass own = some m.cls ∧ (∀ w ∈ GW, w.before args s = true) ∧ meth.sig.returnType = ret ∧ meth.locks = false ∧ EN E s ∧ va_K E.1 vwCl (tyE E) s ∧ (∀ q, s.heap.size ≤ q → A q) ∧ (∀ q, A q → E.2.2.1 ≤ q)
def WS (E : EnvT) (A : Nat → Prop) (s : State) (ws : va_W) (H : Heap) (locs : List Loc) : Prop := va_P E.1 vwCl ws H ∧ va_D A ws ∧ va_S A s.heap H locs
theorem met_start {l : Launch} {y : MethodName} {cc : ByteArray} {nL : Nat} {ret : Option FieldType} {rm : Room} {E : EnvT} {av : List Value} {w0 : va_W} {sz mc ms : Nat} {Qc : Array Value → State → Outcome → State → Prop} {free : Nat → Prop} (lv : List (Nat × Value)) {own : String} (hy : plainName y.cls = true) (ho : y.cls = own) (hlv : lv_args 0 av = lv) (hn : (lg_sl av).length ≤ nL) (hf : free = va_A w0 sz)
    (body : ∀ (p : Program) (e : Env) (s : State) (m : MethodId) (below : List Frame) (meth : Method) (c : Code) (ls : Array Slot), MC p s m av.toArray meth c E free cc nL own ret → s.methodNamed? y = some m → s.vm.method? m = some meth → WS E free s w0 s.heap [] → lv_has ls nL lv → W p l e rm s m av.toArray below meth c s.heap [] 0 0 (MQ below Qc av.toArray s mc ms free) (F0 m 0 ls [])) :
    Met l y (Cond.code y cc nL ret :: GW) rm (va_Pc av (PreW E w0 sz)) Qc mc ms free := by
  refine Met.ofW (cc := cc) (maxL := nL) (ret := ret) hy rfl ?_
  intro p e s m args below meth c s₁ B hml hv
  obtain ⟨rfl, hsz, hP, hK, hD0, hlo, hE⟩ := hv
  have hts := atoms_spec (ws := Cond.code y cc nL ret :: GW) B.pre
  subst hsz
  subst hf
  subst ho
  have hl := lv_entry av (n := nL) hn
  rw [lg_entry_eq]
  generalize (lg_sl av ++ List.replicate (nL - (lg_sl av).length) Slot.unset).toArray = ls at hl ⊢
  rw [hlv] at hl
  refine body p e s m below meth c ls ⟨B.exec, B.bytes, hml, findClass_of_methodNamed B.named, fun w h => hts w (List.mem_cons_of_mem _ h), B.returns, B.notSynchronized, hE, hK, fun q h => Or.inr h, ?_⟩ B.named B.method ⟨hP, hD0.self, va_S.rf⟩ hl
  intro q h
  rcases h with ⟨k, e, h⟩ | h
  · exact hD0.2 k (q, e) h
  · exact Nat.le_trans hlo h
section ROWS
variable {p : Program} {l : Launch} {e : Env} {R : Room} {s : State} {m : MethodId} {args : Array Value} {below : List Frame} {meth : Method} {c : Code} {H : Heap} {locs : List Loc} {cells slots : Nat} {Q : State → Prop}
variable {cc : ByteArray} {pc : Nat} {ls : Array Slot} {rest : List Value} {E : EnvT} {A : Nat → Prop} {a nL : Nat} {own : String} {ret : Option FieldType} {ws : va_W}
theorem rg (C : MC p s m args meth c E A cc nL own ret) (hw : WS E A s ws H locs) {Cn : String} {T : u_T} {N ci index : Nat} (hin : ∀ w ∈ u_ws Cn T N, w ∈ GW) (q0 : Nat) {fs : List Value} (he : ws[q0]? = some (a, .inr (ci, fs))) (hc : vwCl[ci]? = some (Cn, T, N)) (k : Nat) (hk : k < N) (hlink : Cond.fieldLink own index (T k).1 (T k).2.1 (T k).2.2.1 ∈ GW) {v : Value} (hv : fs[k]? = some v) (hdg : decode cc pc = .ok (.getfield index, 3))
    (kk : W p l e R s m args below meth c H locs cells slots Q (F0 m (pc + 3) ls (v :: rest))) : W p l e R s m args below meth c H locs cells slots Q (F0 m pc ls (.ref a :: rest)) := by
  obtain ⟨hx, hb, hml, hown, hts, hr, hlk, hE, hK, hA, hlo⟩ := C
  exact va_get (D := E.1) hx hb hts hin hown hK hw.1 q0 he hc k hk (hts _ hlink) (fun _ h9 => h9) hv hdg kk
theorem rgN (C : MC p s m args meth c E A cc nL own ret) (hw : WS E A s ws H locs) {Cn host : String} {T : u_T} {N ci index : Nat} (hin : ∀ w ∈ u_ws Cn T N, w ∈ GW) (q0 : Nat) {fs : List Value} (he : ws[q0]? = some (a, .inr (ci, fs))) (hc : vwCl[ci]? = some (Cn, T, N)) (k : Nat) (hk : k < N) (hlink : Cond.fieldLinkNest own index (T k).1 (T k).2.1 (T k).2.2.1 host ∈ nestWs) {v : Value} (hv : fs[k]? = some v) (hdg : decode cc pc = .ok (.getfield index, 3))
    (kk : W p l e R s m args below meth c H locs cells slots Q (F0 m (pc + 3) ls (v :: rest))) : W p l e R s m args below meth c H locs cells slots Q (F0 m pc ls (.ref a :: rest)) := by
  obtain ⟨hx, hb, hml, hown, hts, hr, hlk, hE, hK, hA, hlo⟩ := C
  exact va_getN (D := E.1) hx hb hts hin hown hK hw.1 q0 he hc k hk (nest_use rfl (hE.1 _ hlink)) (fun _ h9 => h9) hv hdg kk
theorem rp (C : MC p s m args meth c E A cc nL own ret) (hw : WS E A s ws H locs) {Cn : String} {T : u_T} {N ci index : Nat} (hin : ∀ w ∈ u_ws Cn T N, w ∈ GW) (ty0 : Nat → FieldType) (hty : ∀ k, k < N → parseFieldDescriptor (T k).2.2.1 = some (ty0 k)) (hnm : ∀ a, a < N → ∀ b, b < N → a ≠ b → (T a).2.1 ≠ (T b).2.1) (q0 : Nat) {fs : List Value} (he : ws[q0]? = some (a, .inr (ci, fs))) (hc : vwCl[ci]? = some (Cn, T, N)) (k : Nat) (hk : k < N) (hlink : Cond.fieldLink own index (T k).1 (T k).2.1 (T k).2.2.1 ∈ GW) (hfin : (T k).2.2.2 = false) {ty : FieldType} {v : Value} (hd : parseFieldDescriptor (T k).2.2.1 = some ty) (hn : narrow ty v = v) (hfit : fits ty v = true) (hl : k < fs.length) {ws' : va_W} (hset : ws.set q0 (a, .inr (ci, fs.set k v)) = ws') (hdg : decode cc pc = .ok (.putfield index, 3))
    (kk : ∀ (H1 : Heap) (locs1 : List Loc), WS E A s ws' H1 locs1 → W p l e R s m args below meth c H1 locs1 cells slots Q (F0 m (pc + 3) ls rest)) : W p l e R s m args below meth c H locs cells slots Q (F0 m pc ls (v :: .ref a :: rest)) := by
  obtain ⟨hx, hb, hml, hown, hts, hr, hlk, hE, hK, hA, hlo⟩ := C
  subst hset
  exact va_put (D := E.1) hx hb hts hin ty0 hty hnm hown hK hw.1 hw.2.1 hw.2.2 q0 he hc k hk (hts _ hlink) (fun _ h9 => h9) hfin hd hn hfit hl hdg (fun H1 l1 h1 h2 h3 => kk H1 l1 ⟨h1, h2, h3⟩)
theorem ra_i (C : MC p s m args meth c E A cc nL own ret) (hw : WS E A s ws H locs) (q0 : Nat) {n : Nat} {f : Nat → Int32} (he : ws[q0]? = some (a, .inl (E.2.1.1, n, .inl f))) {i : Int32} (hin : vp_in i n) (hdg : decode cc pc = .ok (.iaload, 1))
    (kk : W p l e R s m args below meth c H locs cells slots Q (F0 m (pc + 1) ls (.int (f i.toNatClampNeg) :: rest))) : W p l e R s m args below meth c H locs cells slots Q (F0 m pc ls (.int i :: .ref a :: rest)) := by
  obtain ⟨hx, hb, hml, hown, hts, hr, hlk, hE, hK, hA, hlo⟩ := C
  exact va_iald hx hb hK hw.1 q0 0 he rfl hin hdg kk
theorem ra_l (C : MC p s m args meth c E A cc nL own ret) (hw : WS E A s ws H locs) (q0 : Nat) {n : Nat} {f : Nat → Int64} (he : ws[q0]? = some (a, .inl (E.2.1.2.1, n, .inr (.inl f)))) {i : Int32} (hin : vp_in i n) (hdg : decode cc pc = .ok (.laload, 1))
    (kk : W p l e R s m args below meth c H locs cells slots Q (F0 m (pc + 1) ls (.long (f i.toNatClampNeg) :: rest))) : W p l e R s m args below meth c H locs cells slots Q (F0 m pc ls (.int i :: .ref a :: rest)) := by
  obtain ⟨hx, hb, hml, hown, hts, hr, hlk, hE, hK, hA, hlo⟩ := C
  exact va_lald hx hb hK hw.1 q0 1 he rfl hin hdg kk
theorem ra_z (C : MC p s m args meth c E A cc nL own ret) (hw : WS E A s ws H locs) (q0 : Nat) {n : Nat} {f : Nat → Int32} (he : ws[q0]? = some (a, .inl (E.2.1.2.2, n, .inl f))) {i : Int32} (hin : vp_in i n) (hdg : decode cc pc = .ok (.baload, 1))
    (kk : W p l e R s m args below meth c H locs cells slots Q (F0 m (pc + 1) ls (.int (f i.toNatClampNeg) :: rest))) : W p l e R s m args below meth c H locs cells slots Q (F0 m pc ls (.int i :: .ref a :: rest)) := by
  obtain ⟨hx, hb, hml, hown, hts, hr, hlk, hE, hK, hA, hlo⟩ := C
  exact va_zald hx hb hK hw.1 q0 2 he rfl hin hdg kk
theorem rs_i (C : MC p s m args meth c E A cc nL own ret) (hw : WS E A s ws H locs) (q0 : Nat) {n : Nat} {f : Nat → Int32} (he : ws[q0]? = some (a, .inl (E.2.1.1, n, .inl f))) {i x : Int32} (hin : vp_in i n) {ws' : va_W} (hset : ws.set q0 (a, .inl (E.2.1.1, n, .inl (upd f i.toNatClampNeg x))) = ws') (hdg : decode cc pc = .ok (.iastore, 1))
    (kk : ∀ (H1 : Heap) (locs1 : List Loc), WS E A s ws' H1 locs1 → W p l e R s m args below meth c H1 locs1 cells slots Q (F0 m (pc + 1) ls rest)) : W p l e R s m args below meth c H locs cells slots Q (F0 m pc ls (.int x :: .int i :: .ref a :: rest)) := by
  obtain ⟨hx, hb, hml, hown, hts, hr, hlk, hE, hK, hA, hlo⟩ := C
  subst hset
  exact va_iast hx hb hK hw.1 hw.2.1 hw.2.2 q0 0 he rfl hin hdg (fun H1 l1 h1 h2 h3 => kk H1 l1 ⟨h1, h2, h3⟩)
theorem rs_l (C : MC p s m args meth c E A cc nL own ret) (hw : WS E A s ws H locs) (q0 : Nat) {n : Nat} {f : Nat → Int64} (he : ws[q0]? = some (a, .inl (E.2.1.2.1, n, .inr (.inl f)))) {i : Int32} {x : Int64} (hin : vp_in i n) {ws' : va_W} (hset : ws.set q0 (a, .inl (E.2.1.2.1, n, .inr (.inl (vp_updL f i.toNatClampNeg x)))) = ws') (hdg : decode cc pc = .ok (.lastore, 1))
    (kk : ∀ (H1 : Heap) (locs1 : List Loc), WS E A s ws' H1 locs1 → W p l e R s m args below meth c H1 locs1 cells slots Q (F0 m (pc + 1) ls rest)) : W p l e R s m args below meth c H locs cells slots Q (F0 m pc ls (.long x :: .int i :: .ref a :: rest)) := by
  obtain ⟨hx, hb, hml, hown, hts, hr, hlk, hE, hK, hA, hlo⟩ := C
  subst hset
  exact va_last hx hb hK hw.1 hw.2.1 hw.2.2 q0 1 he rfl hin hdg (fun H1 l1 h1 h2 h3 => kk H1 l1 ⟨h1, h2, h3⟩)
theorem rs_z (C : MC p s m args meth c E A cc nL own ret) (hw : WS E A s ws H locs) (q0 : Nat) {n : Nat} {f : Nat → Int32} (he : ws[q0]? = some (a, .inl (E.2.1.2.2, n, .inl f))) {i x : Int32} (hin : vp_in i n) {ws' : va_W} (hset : ws.set q0 (a, .inl (E.2.1.2.2, n, .inl (upd f i.toNatClampNeg (vp_nar .boolean x)))) = ws') (hdg : decode cc pc = .ok (.bastore, 1))
    (kk : ∀ (H1 : Heap) (locs1 : List Loc), WS E A s ws' H1 locs1 → W p l e R s m args below meth c H1 locs1 cells slots Q (F0 m (pc + 1) ls rest)) : W p l e R s m args below meth c H locs cells slots Q (F0 m pc ls (.int x :: .int i :: .ref a :: rest)) := by
  obtain ⟨hx, hb, hml, hown, hts, hr, hlk, hE, hK, hA, hlo⟩ := C
  subst hset
  exact va_zast hx hb hK hw.1 hw.2.1 hw.2.2 q0 2 he rfl hin hdg (fun H1 l1 h1 h2 h3 => kk H1 l1 ⟨h1, h2, h3⟩)
theorem rc2 (C : MC p s m args meth c E A cc nL own ret) {index : Nat} {v : Int64} (hl : Cond.constantLong own index v ∈ GW) (hdg : decode cc pc = .ok (.ldc2_w index, 3)) (k : W p l e R s m args below meth c H locs cells slots Q (F0 m (pc + 3) ls (.long v :: rest))) : W p l e R s m args below meth c H locs cells slots Q (F0 m pc ls rest) := by
  obtain ⟨hx, hb, hml, hown, hts, hr, hlk, hE, hK, hA, hlo⟩ := C
  exact lv_ldc2 hx hb hown (hts _ hl) hdg k
/-- returns -/
theorem rt_i (C : MC p s m args meth c E A cc nL own (some .int)) (hw : WS E A s ws H locs) {r : Int32} (hdg : decode cc pc = .ok (.ireturn, 1)) : W p l e R s m args below meth c H locs cells slots (MQ below (QcI E A ws r) args s cells slots A) (F0 m pc ls [.int r]) := by
  obtain ⟨hx, hb, hml, hown, hts, hr, hlk, hE, hK, hA, hlo⟩ := C
  exact W.iret (v := r) hx hb hr (fun t ht hW => ⟨⟨r, (), rfl, rfl, by rw [ht]; exact hw.1, hw.2.1⟩, hw.2.2.F ht⟩) hw.2.2.2.2 hdg hlk
theorem nar_b {v : Int32} (h : v = 0 ∨ v = 1) : narrow .boolean (.int v) = .int v := by
  rcases h with rfl | rfl <;> rfl
theorem rt_z (C : MC p s m args meth c E A cc nL own (some .boolean)) (hw : WS E A s ws H locs) {r : Int32} (hz : r = 0 ∨ r = 1) (hdg : decode cc pc = .ok (.ireturn, 1)) : W p l e R s m args below meth c H locs cells slots (MQ below (QcI E A ws r) args s cells slots A) (F0 m pc ls [.int r]) := by
  obtain ⟨hx, hb, hml, hown, hts, hr, hlk, hE, hK, hA, hlo⟩ := C
  exact W.zret (v := r) hx hb hr (nar_b hz) (fun t ht hW => ⟨⟨r, (), rfl, rfl, by rw [ht]; exact hw.1, hw.2.1⟩, hw.2.2.F ht⟩) hw.2.2.2.2 hdg hlk
theorem rt_l (C : MC p s m args meth c E A cc nL own (some .long)) (hw : WS E A s ws H locs) {r : Int64} (hdg : decode cc pc = .ok (.lreturn, 1)) : W p l e R s m args below meth c H locs cells slots (MQ below (QcL E A ws r) args s cells slots A) (F0 m pc ls [.long r]) := by
  obtain ⟨hx, hb, hml, hown, hts, hr, hlk, hE, hK, hA, hlo⟩ := C
  exact W.lret (v := r) hx hb hr (fun t ht hW => ⟨⟨r, (), rfl, rfl, by rw [ht]; exact hw.1, hw.2.1⟩, hw.2.2.F ht⟩) hw.2.2.2.2 hdg hlk
theorem rt_v (C : MC p s m args meth c E A cc nL own none) (hw : WS E A s ws H locs) (hdg : decode cc pc = .ok (.return_, 1)) : W p l e R s m args below meth c H locs cells slots (MQ below (QcV E A ws) args s cells slots A) (F0 m pc ls []) := by
  obtain ⟨hx, hb, hml, hown, hts, hr, hlk, hE, hK, hA, hlo⟩ := C
  exact W.vret hx hb hr (fun t ht hW => ⟨⟨(), rfl, trivial, by rw [ht]; exact hw.1, hw.2.1⟩, hw.2.2.F ht⟩) hw.2.2.2.2 hdg hlk
/-- a call's cells among the caller's: the callee's wc, which become w1; all together wn behind it -/
def Jn (ws wc w1 wn : va_W) : Prop := ∃ isC isR is : List Nat, isC.map (fun i => ws[i]?) = wc.map some ∧ va_nd isC = true ∧ isR.map (fun i => ws[i]?) = (isR.filterMap (fun i => ws[i]?)).map some ∧ va_nd isR = true ∧ (∀ i ∈ isR, i ∉ isC) ∧ is.map (fun i => (isR.filterMap (fun i => ws[i]?) ++ w1)[i]?) = wn.map some ∧ va_nd is = true
theorem fm_of {α β : Type} {f : α → Option β} {is : List α} {w : List β} (h : is.map f = w.map some) : is.filterMap f = w := by
  induction is generalizing w with
  | nil =>
    cases w with
    | nil => rfl
    | cons b w => cases h
  | cons a is ih =>
    cases w with
    | nil => cases h
    | cons b w =>
      simp only [List.map_cons, List.cons.injEq] at h
      rw [List.filterMap_cons, h.1, ih h.2]
theorem nd_range' : ∀ (n k : Nat), va_nd (List.range' k n) = true := by
  intro n
  induction n with
  | zero => intro k; rfl
  | succ n ih =>
    intro k
    rw [List.range'_succ, va_nd, ih (k + 1), Bool.and_true, decide_eq_true_eq]
    intro h
    rw [List.mem_range'_1] at h
    omega
theorem nd_range (n : Nat) : va_nd (List.range n) = true := by rw [List.range_eq_range']; exact nd_range' n 0
theorem map_range {α : Type} (w : List α) : (List.range w.length).map (fun i => w[i]?) = w.map some := by
  apply List.ext_getElem
  · simp
  · intro i h1 h2
    simp at h1 h2
    simp [h1]
theorem Jn.all (ws w1 : va_W) : Jn ws ws w1 w1 := ⟨List.range ws.length, [], List.range w1.length, map_range ws, nd_range _, rfl, rfl, (fun _ h => by cases h), map_range w1, nd_range _⟩
theorem Jn.none (ws : va_W) : Jn ws [] [] ws := by
  refine ⟨[], List.range ws.length, List.range ws.length, rfl, rfl, ?_, nd_range _, (fun _ _ h => by cases h), ?_, nd_range _⟩
  · rw [fm_of (map_range ws)]; exact map_range ws
  · rw [fm_of (map_range ws), List.append_nil]; exact map_range ws
theorem ws_join (C : MC p s m args meth c E A cc nL own ret) (hw : WS E A s ws H locs) {wc w1 wn : va_W} (J : Jn ws wc w1 wn) {H1 : Heap} {locs1 : List Loc} (hk : ∀ q : Nat, q < H.size → ¬ va_A wc H.size q → H1[q]? = H[q]?) (hP1 : va_P E.1 vwCl w1 H1) (hD1 : va_D (va_A wc H.size) w1) (hS1 : va_S A s.heap H1 locs1) : WS E A s wn H1 locs1 := by
  obtain ⟨hx, hb, hml, hown, hts, hr, hlk, hE, hK, hA, hlo⟩ := C
  obtain ⟨isC, isR, is, j1, j2, j3, j4, j5, j6, j7⟩ := J
  obtain ⟨hP, hD⟩ := va_join hw.1 hw.2.1 isC isR j1 j3 j4 j5 hk (va_free hw.2.1 hw.2.2 hA isC j1) hP1 hD1
  exact ⟨hP.sub is (fm_of j6), hD.sub is j7 j6, hS1⟩
theorem jn_free (C : MC p s m args meth c E A cc nL own ret) (hw : WS E A s ws H locs) {wc w1 wn : va_W} (J : Jn ws wc w1 wn) : ∀ q, va_A wc H.size q → A q := by
  obtain ⟨hx, hb, hml, hown, hts, hr, hlk, hE, hK, hA, hlo⟩ := C
  obtain ⟨isC, isR, is, j1, j2, j3, j4, j5, j6, j7⟩ := J
  exact va_free hw.2.1 hw.2.2 hA isC j1
theorem pre_call (C : MC p s m args meth c E A cc nL own ret) (hw : WS E A s ws H locs) {wc w1 wn : va_W} (J : Jn ws wc w1 wn) (av : List Value) : ∀ U : State, U.heap = H → s.WarmedH U.vm → va_Pc av (PreW E wc H.size) av.toArray U := by
  obtain ⟨hx, hb, hml, hown, hts, hr, hlk, hE, hK, hA, hlo⟩ := C
  obtain ⟨isC, isR, is, j1, j2, j3, j4, j5, j6, j7⟩ := J
  intro U hU hW
  refine ⟨rfl, by rw [hU], by rw [hU]; exact hw.1.sub isC (fm_of j1), va_K.moved hW.alike hK, (hw.2.1.sub isC j2 j1).weaken (fun _ q _ h => hlo q.1 h), Nat.le_trans (hlo _ (hA _ (Nat.le_refl _))) hw.2.2.1, hE.move hW (fun a ha h => ?_)⟩
  rw [hU]
  exact hw.2.2.2.1 a ha (fun z => h (hlo a z))
theorem pre_blind {wc : va_W} {sz : Nat} {av : List Value} : FrameBlind (va_Pc av (PreW E wc sz)) := by
  intro a U g mk q
  obtain ⟨q0, q1, qP, qK, qD, ql, qE⟩ := q
  exact ⟨q0, q1, qP, va_K.moved (u := U) (U := U.calling g mk a) (Vm.Alike.refl U.vm) qK, qD, ql, qE.call⟩
/-- a call's words: own index: the link in the caller's pool; Cn: the receiver's -/
def CWV (own : String) (index : Nat) (Cn : String) (y : MethodName) (bytes : ByteArray) (maxL : Nat) (rt : Option FieldType) (n : Nat) : Prop := (∀ w ∈ wsV own index Cn y (Cond.code y bytes maxL rt :: GW), w ∈ GW) ∧ (y.cls = Cn ∧ y.cls ≠ "java/lang/invoke/MethodHandle" ∧ y.cls ≠ "java/lang/invoke/VarHandle" ∧ (parseMethodDescriptor y.desc).map (fun d => d.parameters.length) = some n)
theorem cwv {Cn : String} {y : MethodName} {bytes : ByteArray} {maxL index n : Nat} {rt : Option FieldType} (h1 : Cond.methodLink own index y ∈ GW) (h2 : Cond.instanceMethod y ∈ GW) (h3 : Cond.selects Cn y y ∈ GW) (h4 : Cond.initialized Cn ∈ GW) (h5 : Cond.code y bytes maxL rt ∈ GW) (hd : y.cls = Cn ∧ y.cls ≠ "java/lang/invoke/MethodHandle" ∧ y.cls ≠ "java/lang/invoke/VarHandle" ∧ (parseMethodDescriptor y.desc).map (fun d => d.parameters.length) = some n) : CWV own index Cn y bytes maxL rt n := by
  refine ⟨fun w hw => ?_, hd⟩
  rcases List.mem_append.mp hw with hw | hw
  · simp only [List.mem_cons, List.not_mem_nil, or_false] at hw
    rcases hw with rfl | rfl | rfl | rfl <;> assumption
  · exact gw_cons h5 w hw
def CWS (own : String) (index : Nat) (y : MethodName) (bytes : ByteArray) (maxL : Nat) (rt : Option FieldType) (n : Nat) : Prop := (∀ w ∈ wsS own index y (Cond.code y bytes maxL rt :: GW), w ∈ GW) ∧ (y.cls = own ∧ y.cls ≠ "java/lang/invoke/MethodHandle" ∧ y.cls ≠ "java/lang/invoke/VarHandle" ∧ (parseMethodDescriptor y.desc).map (fun d => d.parameters.length) = some n)
theorem cws {y : MethodName} {bytes : ByteArray} {maxL index n : Nat} {rt : Option FieldType} (h1 : Cond.methodLink own index y ∈ GW) (h2 : Cond.static y ∈ GW) (h4 : Cond.initialized own ∈ GW) (h5 : Cond.code y bytes maxL rt ∈ GW) (hd : y.cls = own ∧ y.cls ≠ "java/lang/invoke/MethodHandle" ∧ y.cls ≠ "java/lang/invoke/VarHandle" ∧ (parseMethodDescriptor y.desc).map (fun d => d.parameters.length) = some n) : CWS own index y bytes maxL rt n := by
  refine ⟨fun w hw => ?_, hd⟩
  rcases List.mem_append.mp hw with hw | hw
  · simp only [List.mem_cons, List.not_mem_nil, or_false] at hw
    rcases hw with rfl | rfl | rfl <;> assumption
  · exact gw_cons h5 w hw
def CWN (own : String) (index : Nat) (y : MethodName) (host : String) (bytes : ByteArray) (maxL : Nat) (rt : Option FieldType) (n : Nat) : Prop := Cond.methodLinkNest own index y host ∈ nestWs ∧ Cond.static y ∈ GW ∧ Cond.initialized y.cls ∈ GW ∧ Cond.code y bytes maxL rt ∈ GW ∧ (y.cls ≠ "java/lang/invoke/MethodHandle" ∧ y.cls ≠ "java/lang/invoke/VarHandle" ∧ (parseMethodDescriptor y.desc).map (fun d => d.parameters.length) = some n)
variable {y : MethodName} {bytes : ByteArray} {maxL index n b ci q0 : Nat} {rt : Option FieldType} {rm : Room} {Cn : String} {As st : List Value} {wc w1 wn : va_W} {fs : List Value} {cn : vw_C}
theorem cI_V (C : MC p s m args meth c E A cc nL own ret) (hw : WS E A s ws H locs) {r : Int32} (hM : CI l y (Cond.code y bytes maxL rt) rm E (.ref b :: As) wc r w1) (cw : CWV own index cn.1 y bytes maxL rt n) (hR : rm.frames + 1 ≤ R.frames ∧ 8 + (maxL + 11) + rm.locals ≤ R.locals) (hz : rm.cells = 0 ∧ rm.slots = 0) (hci : vwCl[ci]? = some cn) (hbb : ws[q0]? = some (b, .inr (ci, fs))) (J : Jn ws wc w1 wn) (hn : As.length = n) (hls : ls.size = nL) (hst : st = As.reverse ++ .ref b :: rest) (hrm : (rest.map fun v => v.category).sum ≤ 8) (hdg : decode cc pc = .ok (.invokevirtual index, 3)) (hc : cells ≤ R.cells ∧ slots ≤ R.slots)
    (kk : ∀ (H1 : Heap) (locs1 : List Loc), WS E A s wn H1 locs1 → W p l e R s m args below meth c H1 locs1 cells slots Q (F0 m (pc + 3) ls (.int r :: rest))) : W p l e R s m args below meth c H locs cells slots Q (F0 m pc ls st) := by
  have C' := C
  obtain ⟨hx, hb, hml, hown, hts, hr, hlk, hE, hK, hA, hlo⟩ := C
  have hF := jn_free C' hw J
  refine va_calli (va_runV (As := As) (rest := rest) ⟨hx, hb, hml, hown, hts⟩ (hM H.size) (cwV n hts (gw_in cw.1) rfl hz.1 hz.2 cw.2 hR) ⟨pre_blind, va_recv hK hw.1 hci hbb, pre_call C' hw J _⟩ rfl hn hls hst (lv_room hrm) hdg hc) hw.2.2 (fun q _ h => hF q h) hF (fun r1 u t H1 locs1 ht hvm hp hB hz1 hk1 hS => ?_)
  subst hp
  obtain ⟨hP1, hD1⟩ := hB
  rw [ht] at hP1
  exact kk H1 locs1 (ws_join C' hw J hk1 hP1 hD1 hS)
theorem cL_V (C : MC p s m args meth c E A cc nL own ret) (hw : WS E A s ws H locs) {r : Int64} (hM : CL l y (Cond.code y bytes maxL rt) rm E (.ref b :: As) wc r w1) (cw : CWV own index cn.1 y bytes maxL rt n) (hR : rm.frames + 1 ≤ R.frames ∧ 8 + (maxL + 11) + rm.locals ≤ R.locals) (hz : rm.cells = 0 ∧ rm.slots = 0) (hci : vwCl[ci]? = some cn) (hbb : ws[q0]? = some (b, .inr (ci, fs))) (J : Jn ws wc w1 wn) (hn : As.length = n) (hls : ls.size = nL) (hst : st = As.reverse ++ .ref b :: rest) (hrm : (rest.map fun v => v.category).sum ≤ 8) (hdg : decode cc pc = .ok (.invokevirtual index, 3)) (hc : cells ≤ R.cells ∧ slots ≤ R.slots)
    (kk : ∀ (H1 : Heap) (locs1 : List Loc), WS E A s wn H1 locs1 → W p l e R s m args below meth c H1 locs1 cells slots Q (F0 m (pc + 3) ls (.long r :: rest))) : W p l e R s m args below meth c H locs cells slots Q (F0 m pc ls st) := by
  have C' := C
  obtain ⟨hx, hb, hml, hown, hts, hr, hlk, hE, hK, hA, hlo⟩ := C
  have hF := jn_free C' hw J
  refine va_calll (va_runV (As := As) (rest := rest) ⟨hx, hb, hml, hown, hts⟩ (hM H.size) (cwV n hts (gw_in cw.1) rfl hz.1 hz.2 cw.2 hR) ⟨pre_blind, va_recv hK hw.1 hci hbb, pre_call C' hw J _⟩ rfl hn hls hst (lv_room hrm) hdg hc) hw.2.2 (fun q _ h => hF q h) hF (fun r1 u t H1 locs1 ht hvm hp hB hz1 hk1 hS => ?_)
  subst hp
  obtain ⟨hP1, hD1⟩ := hB
  rw [ht] at hP1
  exact kk H1 locs1 (ws_join C' hw J hk1 hP1 hD1 hS)
theorem cV_V (C : MC p s m args meth c E A cc nL own ret) (hw : WS E A s ws H locs) (hM : CV l y (Cond.code y bytes maxL rt) rm E (.ref b :: As) wc w1) (cw : CWV own index cn.1 y bytes maxL rt n) (hR : rm.frames + 1 ≤ R.frames ∧ 8 + (maxL + 11) + rm.locals ≤ R.locals) (hz : rm.cells = 0 ∧ rm.slots = 0) (hci : vwCl[ci]? = some cn) (hbb : ws[q0]? = some (b, .inr (ci, fs))) (J : Jn ws wc w1 wn) (hn : As.length = n) (hls : ls.size = nL) (hst : st = As.reverse ++ .ref b :: rest) (hrm : (rest.map fun v => v.category).sum ≤ 8) (hdg : decode cc pc = .ok (.invokevirtual index, 3)) (hc : cells ≤ R.cells ∧ slots ≤ R.slots)
    (kk : ∀ (H1 : Heap) (locs1 : List Loc), WS E A s wn H1 locs1 → W p l e R s m args below meth c H1 locs1 cells slots Q (F0 m (pc + 3) ls rest)) : W p l e R s m args below meth c H locs cells slots Q (F0 m pc ls st) := by
  have C' := C
  obtain ⟨hx, hb, hml, hown, hts, hr, hlk, hE, hK, hA, hlo⟩ := C
  have hF := jn_free C' hw J
  refine va_callv (va_runV (As := As) (rest := rest) ⟨hx, hb, hml, hown, hts⟩ (hM H.size) (cwV n hts (gw_in cw.1) rfl hz.1 hz.2 cw.2 hR) ⟨pre_blind, va_recv hK hw.1 hci hbb, pre_call C' hw J _⟩ rfl hn hls hst (lv_room hrm) hdg hc) hw.2.2 (fun q _ h => hF q h) hF (fun u t H1 locs1 ht hvm hp hB hz1 hk1 hS => ?_)
  obtain ⟨hP1, hD1⟩ := hB
  rw [ht] at hP1
  exact kk H1 locs1 (ws_join C' hw J hk1 hP1 hD1 hS)
theorem cI_S (C : MC p s m args meth c E A cc nL own ret) (hw : WS E A s ws H locs) {r : Int32} (hM : CI l y (Cond.code y bytes maxL rt) rm E As wc r w1) (cw : CWS own index y bytes maxL rt n) (hR : rm.frames + 1 ≤ R.frames ∧ 8 + (maxL + 11) + rm.locals ≤ R.locals) (hz : rm.cells = 0 ∧ rm.slots = 0) (J : Jn ws wc w1 wn) (hn : As.length = n) (hls : ls.size = nL) (hst : st = As.reverse ++ rest) (hrm : (rest.map fun v => v.category).sum ≤ 8) (hdg : decode cc pc = .ok (.invokestatic index, 3)) (hc : cells ≤ R.cells ∧ slots ≤ R.slots)
    (kk : ∀ (H1 : Heap) (locs1 : List Loc), WS E A s wn H1 locs1 → W p l e R s m args below meth c H1 locs1 cells slots Q (F0 m (pc + 3) ls (.int r :: rest))) : W p l e R s m args below meth c H locs cells slots Q (F0 m pc ls st) := by
  have C' := C
  obtain ⟨hx, hb, hml, hown, hts, hr, hlk, hE, hK, hA, hlo⟩ := C
  have hF := jn_free C' hw J
  refine va_calli (va_runS (As := As) (rest := rest) ⟨hx, hb, hml, hown, hts⟩ (hM H.size) (cwS n hts (gw_in cw.1) rfl hz.1 hz.2 cw.2 hR) ⟨pre_blind, pre_call C' hw J _⟩ rfl hn hls hst (lv_room hrm) hdg hc) hw.2.2 (fun q _ h => hF q h) hF (fun r1 u t H1 locs1 ht hvm hp hB hz1 hk1 hS => ?_)
  subst hp
  obtain ⟨hP1, hD1⟩ := hB
  rw [ht] at hP1
  exact kk H1 locs1 (ws_join C' hw J hk1 hP1 hD1 hS)
theorem cI_N (C : MC p s m args meth c E A cc nL own ret) (hw : WS E A s ws H locs) {r : Int32} {host : String} (hM : CI l y (Cond.code y bytes maxL rt) rm E As wc r w1) (cw : CWN own index y host bytes maxL rt n) (hR : rm.frames + 1 ≤ R.frames ∧ 8 + (maxL + 11) + rm.locals ≤ R.locals) (hz : rm.cells = 0 ∧ rm.slots = 0) (J : Jn ws wc w1 wn) (hn : As.length = n) (hls : ls.size = nL) (hst : st = As.reverse ++ rest) (hrm : (rest.map fun v => v.category).sum ≤ 8) (hdg : decode cc pc = .ok (.invokestatic index, 3)) (hc : cells ≤ R.cells ∧ slots ≤ R.slots)
    (kk : ∀ (H1 : Heap) (locs1 : List Loc), WS E A s wn H1 locs1 → W p l e R s m args below meth c H1 locs1 cells slots Q (F0 m (pc + 3) ls (.int r :: rest))) : W p l e R s m args below meth c H locs cells slots Q (F0 m pc ls st) := by
  have C' := C
  obtain ⟨hx, hb, hml, hown, hts, hr, hlk, hE, hK, hA, hlo⟩ := C
  have hF := jn_free C' hw J
  obtain ⟨k1, k2, k3, k4, k5⟩ := cw
  refine va_calli (va_runSN (As := As) (rest := rest) ⟨hx, hb, hml, hown, hts⟩ (hM H.size) ⟨va_cnB n hts (gw_in (gw_cons k4)) rfl hz.1 hz.2 (hE.1 _ k1) (hts _ k3) k5 hR, hts _ k2, trivial⟩ ⟨pre_blind, pre_call C' hw J _⟩ rfl hn hls hst (lv_room hrm) hdg hc) hw.2.2 (fun q _ h => hF q h) hF (fun r1 u t H1 locs1 ht hvm hp hB hz1 hk1 hS => ?_)
  subst hp
  obtain ⟨hP1, hD1⟩ := hB
  rw [ht] at hP1
  exact kk H1 locs1 (ws_join C' hw J hk1 hP1 hD1 hS)
end ROWS

/-! combinators of the functions that say what the methods do -/
def ixB (i : Int32) (n : Nat) : Bool := decide (¬ (i < 0 ∨ n ≤ i.toNatClampNeg))
theorem ix_in {i : Int32} {n : Nat} (h : ixB i n = true) : vp_in i n := by
  unfold ixB at h
  show ¬ (i < 0 ∨ n ≤ i.toNatClampNeg)
  exact of_decide_eq_true h
def rd {α β : Type} (f : Nat → α) (n : Nat) (i : Int32) (k : α → Option β) : Option β := if ixB i n = true then k (f i.toNatClampNeg) else none
theorem rd_el {α β : Type} {f : Nat → α} {n : Nat} {i : Int32} {k : α → Option β} {r : β} (h : rd f n i k = some r) : ∃ v, f i.toNatClampNeg = v ∧ vp_in i n ∧ k v = some r := by
  unfold rd at h
  by_cases c : ixB i n = true
  · rw [if_pos c] at h
    exact ⟨_, rfl, ix_in c, h⟩
  · rw [if_neg c] at h
    cases h
def wr {β : Type} (f : Nat → Int32) (n : Nat) (i x : Int32) (k : (Nat → Int32) → Option β) : Option β := if ixB i n = true then k (upd f i.toNatClampNeg x) else none
theorem wr_el {β : Type} {f : Nat → Int32} {n : Nat} {i x : Int32} {k : (Nat → Int32) → Option β} {r : β} (h : wr f n i x k = some r) : ∃ g, upd f i.toNatClampNeg x = g ∧ vp_in i n ∧ k g = some r := by
  unfold wr at h
  by_cases c : ixB i n = true
  · rw [if_pos c] at h
    exact ⟨_, rfl, ix_in c, h⟩
  · rw [if_neg c] at h
    cases h
def wrZ {β : Type} (f : Nat → Int32) (n : Nat) (i x : Int32) (k : (Nat → Int32) → Option β) : Option β := if ixB i n = true then k (upd f i.toNatClampNeg (vp_nar .boolean x)) else none
theorem wrZ_el {β : Type} {f : Nat → Int32} {n : Nat} {i x : Int32} {k : (Nat → Int32) → Option β} {r : β} (h : wrZ f n i x k = some r) : ∃ g, upd f i.toNatClampNeg (vp_nar .boolean x) = g ∧ vp_in i n ∧ k g = some r := by
  unfold wrZ at h
  by_cases c : ixB i n = true
  · rw [if_pos c] at h
    exact ⟨_, rfl, ix_in c, h⟩
  · rw [if_neg c] at h
    cases h
def wrL {β : Type} (f : Nat → Int64) (n : Nat) (i : Int32) (x : Int64) (k : (Nat → Int64) → Option β) : Option β := if ixB i n = true then k (vp_updL f i.toNatClampNeg x) else none
theorem wrL_el {β : Type} {f : Nat → Int64} {n : Nat} {i : Int32} {x : Int64} {k : (Nat → Int64) → Option β} {r : β} (h : wrL f n i x k = some r) : ∃ g, vp_updL f i.toNatClampNeg x = g ∧ vp_in i n ∧ k g = some r := by
  unfold wrL at h
  by_cases c : ixB i n = true
  · rw [if_pos c] at h
    exact ⟨_, rfl, ix_in c, h⟩
  · rw [if_neg c] at h
    cases h
def on {α β : Type} (x : α) (k : α → Option β) : Option β := k x
theorem on_el {α β : Type} {x : α} {k : α → Option β} {r : β} (h : on x k = some r) : ∃ v, x = v ∧ k v = some r := ⟨x, rfl, h⟩
def gz {β : Type} (v : Int32) (k : Option β) : Option β := if v = 0 ∨ v = 1 then k else none
theorem gz_el {β : Type} {v : Int32} {k : Option β} {r : β} (h : gz v k = some r) : (v = 0 ∨ v = 1) ∧ k = some r := by
  unfold gz at h
  by_cases c : v = 0 ∨ v = 1
  · rw [if_pos c] at h
    exact ⟨c, h⟩
  · rw [if_neg c] at h
    cases h
theorem it_t {α : Type} {c : Prop} [Decidable c] {a b : Option α} {r : α} (h : c) (hf : (if c then a else b) = some r) : a = some r := by rwa [if_pos h] at hf
theorem it_f {α : Type} {c : Prop} [Decidable c] {a b : Option α} {r : α} (h : ¬ c) (hf : (if c then a else b) = some r) : b = some r := by rwa [if_neg h] at hf
def ob0 {β : Type} (f : Option Unit) (k : Option β) : Option β := match f with
  | none => none
  | some _ => k
theorem ob0_el {β : Type} {f : Option Unit} {k : Option β} {r : β} (h : ob0 f k = some r) : f = some () ∧ k = some r := by
  cases f with
  | none => cases h
  | some z => exact ⟨rfl, h⟩
def ob1 {A1 β : Type} (f : Option (A1)) (k : A1 → Option β) : Option β := match f with
  | none => none
  | some z => k z
theorem ob1_el {A1 β : Type} {f : Option (A1)} {k : A1 → Option β} {r : β} (h : ob1 f k = some r) : ∃ a1, f = some (a1) ∧ k a1 = some r := by
  cases f with
  | none => cases h
  | some z => exact ⟨z, rfl, h⟩
def ob2 {A1 B1 β : Type} (f : Option (A1 × B1)) (k : A1 → B1 → Option β) : Option β := match f with
  | none => none
  | some z => k z.1 z.2
theorem ob2_el {A1 B1 β : Type} {f : Option (A1 × B1)} {k : A1 → B1 → Option β} {r : β} (h : ob2 f k = some r) : ∃ a1 b1, f = some (a1, b1) ∧ k a1 b1 = some r := by
  cases f with
  | none => cases h
  | some z => exact ⟨z.1, z.2, rfl, h⟩
def ob3 {A1 B1 C1 β : Type} (f : Option (A1 × B1 × C1)) (k : A1 → B1 → C1 → Option β) : Option β := match f with
  | none => none
  | some z => k z.1 z.2.1 z.2.2
theorem ob3_el {A1 B1 C1 β : Type} {f : Option (A1 × B1 × C1)} {k : A1 → B1 → C1 → Option β} {r : β} (h : ob3 f k = some r) : ∃ a1 b1 c1, f = some (a1, b1, c1) ∧ k a1 b1 c1 = some r := by
  cases f with
  | none => cases h
  | some z => exact ⟨z.1, z.2.1, z.2.2, rfl, h⟩
def ob4 {A1 B1 C1 D1 β : Type} (f : Option (A1 × B1 × C1 × D1)) (k : A1 → B1 → C1 → D1 → Option β) : Option β := match f with
  | none => none
  | some z => k z.1 z.2.1 z.2.2.1 z.2.2.2
theorem ob4_el {A1 B1 C1 D1 β : Type} {f : Option (A1 × B1 × C1 × D1)} {k : A1 → B1 → C1 → D1 → Option β} {r : β} (h : ob4 f k = some r) : ∃ a1 b1 c1 d1, f = some (a1, b1, c1, d1) ∧ k a1 b1 c1 d1 = some r := by
  cases f with
  | none => cases h
  | some z => exact ⟨z.1, z.2.1, z.2.2.1, z.2.2.2, rfl, h⟩
def ob5 {A1 B1 C1 D1 E1 β : Type} (f : Option (A1 × B1 × C1 × D1 × E1)) (k : A1 → B1 → C1 → D1 → E1 → Option β) : Option β := match f with
  | none => none
  | some z => k z.1 z.2.1 z.2.2.1 z.2.2.2.1 z.2.2.2.2
theorem ob5_el {A1 B1 C1 D1 E1 β : Type} {f : Option (A1 × B1 × C1 × D1 × E1)} {k : A1 → B1 → C1 → D1 → E1 → Option β} {r : β} (h : ob5 f k = some r) : ∃ a1 b1 c1 d1 e1, f = some (a1, b1, c1, d1, e1) ∧ k a1 b1 c1 d1 e1 = some r := by
  cases f with
  | none => cases h
  | some z => exact ⟨z.1, z.2.1, z.2.2.1, z.2.2.2.1, z.2.2.2.2, rfl, h⟩
def ob6 {A1 B1 C1 D1 E1 F1 β : Type} (f : Option (A1 × B1 × C1 × D1 × E1 × F1)) (k : A1 → B1 → C1 → D1 → E1 → F1 → Option β) : Option β := match f with
  | none => none
  | some z => k z.1 z.2.1 z.2.2.1 z.2.2.2.1 z.2.2.2.2.1 z.2.2.2.2.2
theorem ob6_el {A1 B1 C1 D1 E1 F1 β : Type} {f : Option (A1 × B1 × C1 × D1 × E1 × F1)} {k : A1 → B1 → C1 → D1 → E1 → F1 → Option β} {r : β} (h : ob6 f k = some r) : ∃ a1 b1 c1 d1 e1 f1, f = some (a1, b1, c1, d1, e1, f1) ∧ k a1 b1 c1 d1 e1 f1 = some r := by
  cases f with
  | none => cases h
  | some z => exact ⟨z.1, z.2.1, z.2.2.1, z.2.2.2.1, z.2.2.2.2.1, z.2.2.2.2.2, rfl, h⟩
def ob7 {A1 B1 C1 D1 E1 F1 G1 β : Type} (f : Option (A1 × B1 × C1 × D1 × E1 × F1 × G1)) (k : A1 → B1 → C1 → D1 → E1 → F1 → G1 → Option β) : Option β := match f with
  | none => none
  | some z => k z.1 z.2.1 z.2.2.1 z.2.2.2.1 z.2.2.2.2.1 z.2.2.2.2.2.1 z.2.2.2.2.2.2
theorem ob7_el {A1 B1 C1 D1 E1 F1 G1 β : Type} {f : Option (A1 × B1 × C1 × D1 × E1 × F1 × G1)} {k : A1 → B1 → C1 → D1 → E1 → F1 → G1 → Option β} {r : β} (h : ob7 f k = some r) : ∃ a1 b1 c1 d1 e1 f1 g1, f = some (a1, b1, c1, d1, e1, f1, g1) ∧ k a1 b1 c1 d1 e1 f1 g1 = some r := by
  cases f with
  | none => cases h
  | some z => exact ⟨z.1, z.2.1, z.2.2.1, z.2.2.2.1, z.2.2.2.2.1, z.2.2.2.2.2.1, z.2.2.2.2.2.2, rfl, h⟩
def ob8 {A1 B1 C1 D1 E1 F1 G1 H1 β : Type} (f : Option (A1 × B1 × C1 × D1 × E1 × F1 × G1 × H1)) (k : A1 → B1 → C1 → D1 → E1 → F1 → G1 → H1 → Option β) : Option β := match f with
  | none => none
  | some z => k z.1 z.2.1 z.2.2.1 z.2.2.2.1 z.2.2.2.2.1 z.2.2.2.2.2.1 z.2.2.2.2.2.2.1 z.2.2.2.2.2.2.2
theorem ob8_el {A1 B1 C1 D1 E1 F1 G1 H1 β : Type} {f : Option (A1 × B1 × C1 × D1 × E1 × F1 × G1 × H1)} {k : A1 → B1 → C1 → D1 → E1 → F1 → G1 → H1 → Option β} {r : β} (h : ob8 f k = some r) : ∃ a1 b1 c1 d1 e1 f1 g1 h1, f = some (a1, b1, c1, d1, e1, f1, g1, h1) ∧ k a1 b1 c1 d1 e1 f1 g1 h1 = some r := by
  cases f with
  | none => cases h
  | some z => exact ⟨z.1, z.2.1, z.2.2.1, z.2.2.2.1, z.2.2.2.2.1, z.2.2.2.2.2.1, z.2.2.2.2.2.2.1, z.2.2.2.2.2.2.2, rfl, h⟩
def ob9 {A1 B1 C1 D1 E1 F1 G1 H1 I1 β : Type} (f : Option (A1 × B1 × C1 × D1 × E1 × F1 × G1 × H1 × I1)) (k : A1 → B1 → C1 → D1 → E1 → F1 → G1 → H1 → I1 → Option β) : Option β := match f with
  | none => none
  | some z => k z.1 z.2.1 z.2.2.1 z.2.2.2.1 z.2.2.2.2.1 z.2.2.2.2.2.1 z.2.2.2.2.2.2.1 z.2.2.2.2.2.2.2.1 z.2.2.2.2.2.2.2.2
theorem ob9_el {A1 B1 C1 D1 E1 F1 G1 H1 I1 β : Type} {f : Option (A1 × B1 × C1 × D1 × E1 × F1 × G1 × H1 × I1)} {k : A1 → B1 → C1 → D1 → E1 → F1 → G1 → H1 → I1 → Option β} {r : β} (h : ob9 f k = some r) : ∃ a1 b1 c1 d1 e1 f1 g1 h1 i1, f = some (a1, b1, c1, d1, e1, f1, g1, h1, i1) ∧ k a1 b1 c1 d1 e1 f1 g1 h1 i1 = some r := by
  cases f with
  | none => cases h
  | some z => exact ⟨z.1, z.2.1, z.2.2.1, z.2.2.2.1, z.2.2.2.2.1, z.2.2.2.2.2.1, z.2.2.2.2.2.2.1, z.2.2.2.2.2.2.2.1, z.2.2.2.2.2.2.2.2, rfl, h⟩
def ob10 {A1 B1 C1 D1 E1 F1 G1 H1 I1 J1 β : Type} (f : Option (A1 × B1 × C1 × D1 × E1 × F1 × G1 × H1 × I1 × J1)) (k : A1 → B1 → C1 → D1 → E1 → F1 → G1 → H1 → I1 → J1 → Option β) : Option β := match f with
  | none => none
  | some z => k z.1 z.2.1 z.2.2.1 z.2.2.2.1 z.2.2.2.2.1 z.2.2.2.2.2.1 z.2.2.2.2.2.2.1 z.2.2.2.2.2.2.2.1 z.2.2.2.2.2.2.2.2.1 z.2.2.2.2.2.2.2.2.2
theorem ob10_el {A1 B1 C1 D1 E1 F1 G1 H1 I1 J1 β : Type} {f : Option (A1 × B1 × C1 × D1 × E1 × F1 × G1 × H1 × I1 × J1)} {k : A1 → B1 → C1 → D1 → E1 → F1 → G1 → H1 → I1 → J1 → Option β} {r : β} (h : ob10 f k = some r) : ∃ a1 b1 c1 d1 e1 f1 g1 h1 i1 j1, f = some (a1, b1, c1, d1, e1, f1, g1, h1, i1, j1) ∧ k a1 b1 c1 d1 e1 f1 g1 h1 i1 j1 = some r := by
  cases f with
  | none => cases h
  | some z => exact ⟨z.1, z.2.1, z.2.2.1, z.2.2.2.1, z.2.2.2.2.1, z.2.2.2.2.2.1, z.2.2.2.2.2.2.1, z.2.2.2.2.2.2.2.1, z.2.2.2.2.2.2.2.2.1, z.2.2.2.2.2.2.2.2.2, rfl, h⟩
def ob11 {A1 B1 C1 D1 E1 F1 G1 H1 I1 J1 K1 β : Type} (f : Option (A1 × B1 × C1 × D1 × E1 × F1 × G1 × H1 × I1 × J1 × K1)) (k : A1 → B1 → C1 → D1 → E1 → F1 → G1 → H1 → I1 → J1 → K1 → Option β) : Option β := match f with
  | none => none
  | some z => k z.1 z.2.1 z.2.2.1 z.2.2.2.1 z.2.2.2.2.1 z.2.2.2.2.2.1 z.2.2.2.2.2.2.1 z.2.2.2.2.2.2.2.1 z.2.2.2.2.2.2.2.2.1 z.2.2.2.2.2.2.2.2.2.1 z.2.2.2.2.2.2.2.2.2.2
theorem ob11_el {A1 B1 C1 D1 E1 F1 G1 H1 I1 J1 K1 β : Type} {f : Option (A1 × B1 × C1 × D1 × E1 × F1 × G1 × H1 × I1 × J1 × K1)} {k : A1 → B1 → C1 → D1 → E1 → F1 → G1 → H1 → I1 → J1 → K1 → Option β} {r : β} (h : ob11 f k = some r) : ∃ a1 b1 c1 d1 e1 f1 g1 h1 i1 j1 k1, f = some (a1, b1, c1, d1, e1, f1, g1, h1, i1, j1, k1) ∧ k a1 b1 c1 d1 e1 f1 g1 h1 i1 j1 k1 = some r := by
  cases f with
  | none => cases h
  | some z => exact ⟨z.1, z.2.1, z.2.2.1, z.2.2.2.1, z.2.2.2.2.1, z.2.2.2.2.2.1, z.2.2.2.2.2.2.1, z.2.2.2.2.2.2.2.1, z.2.2.2.2.2.2.2.2.1, z.2.2.2.2.2.2.2.2.2.1, z.2.2.2.2.2.2.2.2.2.2, rfl, h⟩
def ob12 {A1 B1 C1 D1 E1 F1 G1 H1 I1 J1 K1 L1 β : Type} (f : Option (A1 × B1 × C1 × D1 × E1 × F1 × G1 × H1 × I1 × J1 × K1 × L1)) (k : A1 → B1 → C1 → D1 → E1 → F1 → G1 → H1 → I1 → J1 → K1 → L1 → Option β) : Option β := match f with
  | none => none
  | some z => k z.1 z.2.1 z.2.2.1 z.2.2.2.1 z.2.2.2.2.1 z.2.2.2.2.2.1 z.2.2.2.2.2.2.1 z.2.2.2.2.2.2.2.1 z.2.2.2.2.2.2.2.2.1 z.2.2.2.2.2.2.2.2.2.1 z.2.2.2.2.2.2.2.2.2.2.1 z.2.2.2.2.2.2.2.2.2.2.2
theorem ob12_el {A1 B1 C1 D1 E1 F1 G1 H1 I1 J1 K1 L1 β : Type} {f : Option (A1 × B1 × C1 × D1 × E1 × F1 × G1 × H1 × I1 × J1 × K1 × L1)} {k : A1 → B1 → C1 → D1 → E1 → F1 → G1 → H1 → I1 → J1 → K1 → L1 → Option β} {r : β} (h : ob12 f k = some r) : ∃ a1 b1 c1 d1 e1 f1 g1 h1 i1 j1 k1 l1, f = some (a1, b1, c1, d1, e1, f1, g1, h1, i1, j1, k1, l1) ∧ k a1 b1 c1 d1 e1 f1 g1 h1 i1 j1 k1 l1 = some r := by
  cases f with
  | none => cases h
  | some z => exact ⟨z.1, z.2.1, z.2.2.1, z.2.2.2.1, z.2.2.2.2.1, z.2.2.2.2.2.1, z.2.2.2.2.2.2.1, z.2.2.2.2.2.2.2.1, z.2.2.2.2.2.2.2.2.1, z.2.2.2.2.2.2.2.2.2.1, z.2.2.2.2.2.2.2.2.2.2.1, z.2.2.2.2.2.2.2.2.2.2.2, rfl, h⟩
def ob13 {A1 B1 C1 D1 E1 F1 G1 H1 I1 J1 K1 L1 M1 β : Type} (f : Option (A1 × B1 × C1 × D1 × E1 × F1 × G1 × H1 × I1 × J1 × K1 × L1 × M1)) (k : A1 → B1 → C1 → D1 → E1 → F1 → G1 → H1 → I1 → J1 → K1 → L1 → M1 → Option β) : Option β := match f with
  | none => none
  | some z => k z.1 z.2.1 z.2.2.1 z.2.2.2.1 z.2.2.2.2.1 z.2.2.2.2.2.1 z.2.2.2.2.2.2.1 z.2.2.2.2.2.2.2.1 z.2.2.2.2.2.2.2.2.1 z.2.2.2.2.2.2.2.2.2.1 z.2.2.2.2.2.2.2.2.2.2.1 z.2.2.2.2.2.2.2.2.2.2.2.1 z.2.2.2.2.2.2.2.2.2.2.2.2
theorem ob13_el {A1 B1 C1 D1 E1 F1 G1 H1 I1 J1 K1 L1 M1 β : Type} {f : Option (A1 × B1 × C1 × D1 × E1 × F1 × G1 × H1 × I1 × J1 × K1 × L1 × M1)} {k : A1 → B1 → C1 → D1 → E1 → F1 → G1 → H1 → I1 → J1 → K1 → L1 → M1 → Option β} {r : β} (h : ob13 f k = some r) : ∃ a1 b1 c1 d1 e1 f1 g1 h1 i1 j1 k1 l1 m1, f = some (a1, b1, c1, d1, e1, f1, g1, h1, i1, j1, k1, l1, m1) ∧ k a1 b1 c1 d1 e1 f1 g1 h1 i1 j1 k1 l1 m1 = some r := by
  cases f with
  | none => cases h
  | some z => exact ⟨z.1, z.2.1, z.2.2.1, z.2.2.2.1, z.2.2.2.2.1, z.2.2.2.2.2.1, z.2.2.2.2.2.2.1, z.2.2.2.2.2.2.2.1, z.2.2.2.2.2.2.2.2.1, z.2.2.2.2.2.2.2.2.2.1, z.2.2.2.2.2.2.2.2.2.2.1, z.2.2.2.2.2.2.2.2.2.2.2.1, z.2.2.2.2.2.2.2.2.2.2.2.2, rfl, h⟩
def ob14 {A1 B1 C1 D1 E1 F1 G1 H1 I1 J1 K1 L1 M1 N1 β : Type} (f : Option (A1 × B1 × C1 × D1 × E1 × F1 × G1 × H1 × I1 × J1 × K1 × L1 × M1 × N1)) (k : A1 → B1 → C1 → D1 → E1 → F1 → G1 → H1 → I1 → J1 → K1 → L1 → M1 → N1 → Option β) : Option β := match f with
  | none => none
  | some z => k z.1 z.2.1 z.2.2.1 z.2.2.2.1 z.2.2.2.2.1 z.2.2.2.2.2.1 z.2.2.2.2.2.2.1 z.2.2.2.2.2.2.2.1 z.2.2.2.2.2.2.2.2.1 z.2.2.2.2.2.2.2.2.2.1 z.2.2.2.2.2.2.2.2.2.2.1 z.2.2.2.2.2.2.2.2.2.2.2.1 z.2.2.2.2.2.2.2.2.2.2.2.2.1 z.2.2.2.2.2.2.2.2.2.2.2.2.2
theorem ob14_el {A1 B1 C1 D1 E1 F1 G1 H1 I1 J1 K1 L1 M1 N1 β : Type} {f : Option (A1 × B1 × C1 × D1 × E1 × F1 × G1 × H1 × I1 × J1 × K1 × L1 × M1 × N1)} {k : A1 → B1 → C1 → D1 → E1 → F1 → G1 → H1 → I1 → J1 → K1 → L1 → M1 → N1 → Option β} {r : β} (h : ob14 f k = some r) : ∃ a1 b1 c1 d1 e1 f1 g1 h1 i1 j1 k1 l1 m1 n1, f = some (a1, b1, c1, d1, e1, f1, g1, h1, i1, j1, k1, l1, m1, n1) ∧ k a1 b1 c1 d1 e1 f1 g1 h1 i1 j1 k1 l1 m1 n1 = some r := by
  cases f with
  | none => cases h
  | some z => exact ⟨z.1, z.2.1, z.2.2.1, z.2.2.2.1, z.2.2.2.2.1, z.2.2.2.2.2.1, z.2.2.2.2.2.2.1, z.2.2.2.2.2.2.2.1, z.2.2.2.2.2.2.2.2.1, z.2.2.2.2.2.2.2.2.2.1, z.2.2.2.2.2.2.2.2.2.2.1, z.2.2.2.2.2.2.2.2.2.2.2.1, z.2.2.2.2.2.2.2.2.2.2.2.2.1, z.2.2.2.2.2.2.2.2.2.2.2.2.2, rfl, h⟩
def ob15 {A1 B1 C1 D1 E1 F1 G1 H1 I1 J1 K1 L1 M1 N1 O1 β : Type} (f : Option (A1 × B1 × C1 × D1 × E1 × F1 × G1 × H1 × I1 × J1 × K1 × L1 × M1 × N1 × O1)) (k : A1 → B1 → C1 → D1 → E1 → F1 → G1 → H1 → I1 → J1 → K1 → L1 → M1 → N1 → O1 → Option β) : Option β := match f with
  | none => none
  | some z => k z.1 z.2.1 z.2.2.1 z.2.2.2.1 z.2.2.2.2.1 z.2.2.2.2.2.1 z.2.2.2.2.2.2.1 z.2.2.2.2.2.2.2.1 z.2.2.2.2.2.2.2.2.1 z.2.2.2.2.2.2.2.2.2.1 z.2.2.2.2.2.2.2.2.2.2.1 z.2.2.2.2.2.2.2.2.2.2.2.1 z.2.2.2.2.2.2.2.2.2.2.2.2.1 z.2.2.2.2.2.2.2.2.2.2.2.2.2.1 z.2.2.2.2.2.2.2.2.2.2.2.2.2.2
theorem ob15_el {A1 B1 C1 D1 E1 F1 G1 H1 I1 J1 K1 L1 M1 N1 O1 β : Type} {f : Option (A1 × B1 × C1 × D1 × E1 × F1 × G1 × H1 × I1 × J1 × K1 × L1 × M1 × N1 × O1)} {k : A1 → B1 → C1 → D1 → E1 → F1 → G1 → H1 → I1 → J1 → K1 → L1 → M1 → N1 → O1 → Option β} {r : β} (h : ob15 f k = some r) : ∃ a1 b1 c1 d1 e1 f1 g1 h1 i1 j1 k1 l1 m1 n1 o1, f = some (a1, b1, c1, d1, e1, f1, g1, h1, i1, j1, k1, l1, m1, n1, o1) ∧ k a1 b1 c1 d1 e1 f1 g1 h1 i1 j1 k1 l1 m1 n1 o1 = some r := by
  cases f with
  | none => cases h
  | some z => exact ⟨z.1, z.2.1, z.2.2.1, z.2.2.2.1, z.2.2.2.2.1, z.2.2.2.2.2.1, z.2.2.2.2.2.2.1, z.2.2.2.2.2.2.2.1, z.2.2.2.2.2.2.2.2.1, z.2.2.2.2.2.2.2.2.2.1, z.2.2.2.2.2.2.2.2.2.2.1, z.2.2.2.2.2.2.2.2.2.2.2.1, z.2.2.2.2.2.2.2.2.2.2.2.2.1, z.2.2.2.2.2.2.2.2.2.2.2.2.2.1, z.2.2.2.2.2.2.2.2.2.2.2.2.2.2, rfl, h⟩
def ob16 {A1 B1 C1 D1 E1 F1 G1 H1 I1 J1 K1 L1 M1 N1 O1 P1 β : Type} (f : Option (A1 × B1 × C1 × D1 × E1 × F1 × G1 × H1 × I1 × J1 × K1 × L1 × M1 × N1 × O1 × P1)) (k : A1 → B1 → C1 → D1 → E1 → F1 → G1 → H1 → I1 → J1 → K1 → L1 → M1 → N1 → O1 → P1 → Option β) : Option β := match f with
  | none => none
  | some z => k z.1 z.2.1 z.2.2.1 z.2.2.2.1 z.2.2.2.2.1 z.2.2.2.2.2.1 z.2.2.2.2.2.2.1 z.2.2.2.2.2.2.2.1 z.2.2.2.2.2.2.2.2.1 z.2.2.2.2.2.2.2.2.2.1 z.2.2.2.2.2.2.2.2.2.2.1 z.2.2.2.2.2.2.2.2.2.2.2.1 z.2.2.2.2.2.2.2.2.2.2.2.2.1 z.2.2.2.2.2.2.2.2.2.2.2.2.2.1 z.2.2.2.2.2.2.2.2.2.2.2.2.2.2.1 z.2.2.2.2.2.2.2.2.2.2.2.2.2.2.2
theorem ob16_el {A1 B1 C1 D1 E1 F1 G1 H1 I1 J1 K1 L1 M1 N1 O1 P1 β : Type} {f : Option (A1 × B1 × C1 × D1 × E1 × F1 × G1 × H1 × I1 × J1 × K1 × L1 × M1 × N1 × O1 × P1)} {k : A1 → B1 → C1 → D1 → E1 → F1 → G1 → H1 → I1 → J1 → K1 → L1 → M1 → N1 → O1 → P1 → Option β} {r : β} (h : ob16 f k = some r) : ∃ a1 b1 c1 d1 e1 f1 g1 h1 i1 j1 k1 l1 m1 n1 o1 p1, f = some (a1, b1, c1, d1, e1, f1, g1, h1, i1, j1, k1, l1, m1, n1, o1, p1) ∧ k a1 b1 c1 d1 e1 f1 g1 h1 i1 j1 k1 l1 m1 n1 o1 p1 = some r := by
  cases f with
  | none => cases h
  | some z => exact ⟨z.1, z.2.1, z.2.2.1, z.2.2.2.1, z.2.2.2.2.1, z.2.2.2.2.2.1, z.2.2.2.2.2.2.1, z.2.2.2.2.2.2.2.1, z.2.2.2.2.2.2.2.2.1, z.2.2.2.2.2.2.2.2.2.1, z.2.2.2.2.2.2.2.2.2.2.1, z.2.2.2.2.2.2.2.2.2.2.2.1, z.2.2.2.2.2.2.2.2.2.2.2.2.1, z.2.2.2.2.2.2.2.2.2.2.2.2.2.1, z.2.2.2.2.2.2.2.2.2.2.2.2.2.2.1, z.2.2.2.2.2.2.2.2.2.2.2.2.2.2.2, rfl, h⟩
def ob17 {A1 B1 C1 D1 E1 F1 G1 H1 I1 J1 K1 L1 M1 N1 O1 P1 Q1 β : Type} (f : Option (A1 × B1 × C1 × D1 × E1 × F1 × G1 × H1 × I1 × J1 × K1 × L1 × M1 × N1 × O1 × P1 × Q1)) (k : A1 → B1 → C1 → D1 → E1 → F1 → G1 → H1 → I1 → J1 → K1 → L1 → M1 → N1 → O1 → P1 → Q1 → Option β) : Option β := match f with
  | none => none
  | some z => k z.1 z.2.1 z.2.2.1 z.2.2.2.1 z.2.2.2.2.1 z.2.2.2.2.2.1 z.2.2.2.2.2.2.1 z.2.2.2.2.2.2.2.1 z.2.2.2.2.2.2.2.2.1 z.2.2.2.2.2.2.2.2.2.1 z.2.2.2.2.2.2.2.2.2.2.1 z.2.2.2.2.2.2.2.2.2.2.2.1 z.2.2.2.2.2.2.2.2.2.2.2.2.1 z.2.2.2.2.2.2.2.2.2.2.2.2.2.1 z.2.2.2.2.2.2.2.2.2.2.2.2.2.2.1 z.2.2.2.2.2.2.2.2.2.2.2.2.2.2.2.1 z.2.2.2.2.2.2.2.2.2.2.2.2.2.2.2.2
theorem ob17_el {A1 B1 C1 D1 E1 F1 G1 H1 I1 J1 K1 L1 M1 N1 O1 P1 Q1 β : Type} {f : Option (A1 × B1 × C1 × D1 × E1 × F1 × G1 × H1 × I1 × J1 × K1 × L1 × M1 × N1 × O1 × P1 × Q1)} {k : A1 → B1 → C1 → D1 → E1 → F1 → G1 → H1 → I1 → J1 → K1 → L1 → M1 → N1 → O1 → P1 → Q1 → Option β} {r : β} (h : ob17 f k = some r) : ∃ a1 b1 c1 d1 e1 f1 g1 h1 i1 j1 k1 l1 m1 n1 o1 p1 q1, f = some (a1, b1, c1, d1, e1, f1, g1, h1, i1, j1, k1, l1, m1, n1, o1, p1, q1) ∧ k a1 b1 c1 d1 e1 f1 g1 h1 i1 j1 k1 l1 m1 n1 o1 p1 q1 = some r := by
  cases f with
  | none => cases h
  | some z => exact ⟨z.1, z.2.1, z.2.2.1, z.2.2.2.1, z.2.2.2.2.1, z.2.2.2.2.2.1, z.2.2.2.2.2.2.1, z.2.2.2.2.2.2.2.1, z.2.2.2.2.2.2.2.2.1, z.2.2.2.2.2.2.2.2.2.1, z.2.2.2.2.2.2.2.2.2.2.1, z.2.2.2.2.2.2.2.2.2.2.2.1, z.2.2.2.2.2.2.2.2.2.2.2.2.1, z.2.2.2.2.2.2.2.2.2.2.2.2.2.1, z.2.2.2.2.2.2.2.2.2.2.2.2.2.2.1, z.2.2.2.2.2.2.2.2.2.2.2.2.2.2.2.1, z.2.2.2.2.2.2.2.2.2.2.2.2.2.2.2.2, rfl, h⟩
def ob18 {A1 B1 C1 D1 E1 F1 G1 H1 I1 J1 K1 L1 M1 N1 O1 P1 Q1 R1 β : Type} (f : Option (A1 × B1 × C1 × D1 × E1 × F1 × G1 × H1 × I1 × J1 × K1 × L1 × M1 × N1 × O1 × P1 × Q1 × R1)) (k : A1 → B1 → C1 → D1 → E1 → F1 → G1 → H1 → I1 → J1 → K1 → L1 → M1 → N1 → O1 → P1 → Q1 → R1 → Option β) : Option β := match f with
  | none => none
  | some z => k z.1 z.2.1 z.2.2.1 z.2.2.2.1 z.2.2.2.2.1 z.2.2.2.2.2.1 z.2.2.2.2.2.2.1 z.2.2.2.2.2.2.2.1 z.2.2.2.2.2.2.2.2.1 z.2.2.2.2.2.2.2.2.2.1 z.2.2.2.2.2.2.2.2.2.2.1 z.2.2.2.2.2.2.2.2.2.2.2.1 z.2.2.2.2.2.2.2.2.2.2.2.2.1 z.2.2.2.2.2.2.2.2.2.2.2.2.2.1 z.2.2.2.2.2.2.2.2.2.2.2.2.2.2.1 z.2.2.2.2.2.2.2.2.2.2.2.2.2.2.2.1 z.2.2.2.2.2.2.2.2.2.2.2.2.2.2.2.2.1 z.2.2.2.2.2.2.2.2.2.2.2.2.2.2.2.2.2
theorem ob18_el {A1 B1 C1 D1 E1 F1 G1 H1 I1 J1 K1 L1 M1 N1 O1 P1 Q1 R1 β : Type} {f : Option (A1 × B1 × C1 × D1 × E1 × F1 × G1 × H1 × I1 × J1 × K1 × L1 × M1 × N1 × O1 × P1 × Q1 × R1)} {k : A1 → B1 → C1 → D1 → E1 → F1 → G1 → H1 → I1 → J1 → K1 → L1 → M1 → N1 → O1 → P1 → Q1 → R1 → Option β} {r : β} (h : ob18 f k = some r) : ∃ a1 b1 c1 d1 e1 f1 g1 h1 i1 j1 k1 l1 m1 n1 o1 p1 q1 r1, f = some (a1, b1, c1, d1, e1, f1, g1, h1, i1, j1, k1, l1, m1, n1, o1, p1, q1, r1) ∧ k a1 b1 c1 d1 e1 f1 g1 h1 i1 j1 k1 l1 m1 n1 o1 p1 q1 r1 = some r := by
  cases f with
  | none => cases h
  | some z => exact ⟨z.1, z.2.1, z.2.2.1, z.2.2.2.1, z.2.2.2.2.1, z.2.2.2.2.2.1, z.2.2.2.2.2.2.1, z.2.2.2.2.2.2.2.1, z.2.2.2.2.2.2.2.2.1, z.2.2.2.2.2.2.2.2.2.1, z.2.2.2.2.2.2.2.2.2.2.1, z.2.2.2.2.2.2.2.2.2.2.2.1, z.2.2.2.2.2.2.2.2.2.2.2.2.1, z.2.2.2.2.2.2.2.2.2.2.2.2.2.1, z.2.2.2.2.2.2.2.2.2.2.2.2.2.2.1, z.2.2.2.2.2.2.2.2.2.2.2.2.2.2.2.1, z.2.2.2.2.2.2.2.2.2.2.2.2.2.2.2.2.1, z.2.2.2.2.2.2.2.2.2.2.2.2.2.2.2.2.2, rfl, h⟩
def ob19 {A1 B1 C1 D1 E1 F1 G1 H1 I1 J1 K1 L1 M1 N1 O1 P1 Q1 R1 S1 β : Type} (f : Option (A1 × B1 × C1 × D1 × E1 × F1 × G1 × H1 × I1 × J1 × K1 × L1 × M1 × N1 × O1 × P1 × Q1 × R1 × S1)) (k : A1 → B1 → C1 → D1 → E1 → F1 → G1 → H1 → I1 → J1 → K1 → L1 → M1 → N1 → O1 → P1 → Q1 → R1 → S1 → Option β) : Option β := match f with
  | none => none
  | some z => k z.1 z.2.1 z.2.2.1 z.2.2.2.1 z.2.2.2.2.1 z.2.2.2.2.2.1 z.2.2.2.2.2.2.1 z.2.2.2.2.2.2.2.1 z.2.2.2.2.2.2.2.2.1 z.2.2.2.2.2.2.2.2.2.1 z.2.2.2.2.2.2.2.2.2.2.1 z.2.2.2.2.2.2.2.2.2.2.2.1 z.2.2.2.2.2.2.2.2.2.2.2.2.1 z.2.2.2.2.2.2.2.2.2.2.2.2.2.1 z.2.2.2.2.2.2.2.2.2.2.2.2.2.2.1 z.2.2.2.2.2.2.2.2.2.2.2.2.2.2.2.1 z.2.2.2.2.2.2.2.2.2.2.2.2.2.2.2.2.1 z.2.2.2.2.2.2.2.2.2.2.2.2.2.2.2.2.2.1 z.2.2.2.2.2.2.2.2.2.2.2.2.2.2.2.2.2.2
theorem ob19_el {A1 B1 C1 D1 E1 F1 G1 H1 I1 J1 K1 L1 M1 N1 O1 P1 Q1 R1 S1 β : Type} {f : Option (A1 × B1 × C1 × D1 × E1 × F1 × G1 × H1 × I1 × J1 × K1 × L1 × M1 × N1 × O1 × P1 × Q1 × R1 × S1)} {k : A1 → B1 → C1 → D1 → E1 → F1 → G1 → H1 → I1 → J1 → K1 → L1 → M1 → N1 → O1 → P1 → Q1 → R1 → S1 → Option β} {r : β} (h : ob19 f k = some r) : ∃ a1 b1 c1 d1 e1 f1 g1 h1 i1 j1 k1 l1 m1 n1 o1 p1 q1 r1 s1, f = some (a1, b1, c1, d1, e1, f1, g1, h1, i1, j1, k1, l1, m1, n1, o1, p1, q1, r1, s1) ∧ k a1 b1 c1 d1 e1 f1 g1 h1 i1 j1 k1 l1 m1 n1 o1 p1 q1 r1 s1 = some r := by
  cases f with
  | none => cases h
  | some z => exact ⟨z.1, z.2.1, z.2.2.1, z.2.2.2.1, z.2.2.2.2.1, z.2.2.2.2.2.1, z.2.2.2.2.2.2.1, z.2.2.2.2.2.2.2.1, z.2.2.2.2.2.2.2.2.1, z.2.2.2.2.2.2.2.2.2.1, z.2.2.2.2.2.2.2.2.2.2.1, z.2.2.2.2.2.2.2.2.2.2.2.1, z.2.2.2.2.2.2.2.2.2.2.2.2.1, z.2.2.2.2.2.2.2.2.2.2.2.2.2.1, z.2.2.2.2.2.2.2.2.2.2.2.2.2.2.1, z.2.2.2.2.2.2.2.2.2.2.2.2.2.2.2.1, z.2.2.2.2.2.2.2.2.2.2.2.2.2.2.2.2.1, z.2.2.2.2.2.2.2.2.2.2.2.2.2.2.2.2.2.1, z.2.2.2.2.2.2.2.2.2.2.2.2.2.2.2.2.2.2, rfl, h⟩
def ob20 {A1 B1 C1 D1 E1 F1 G1 H1 I1 J1 K1 L1 M1 N1 O1 P1 Q1 R1 S1 T1 β : Type} (f : Option (A1 × B1 × C1 × D1 × E1 × F1 × G1 × H1 × I1 × J1 × K1 × L1 × M1 × N1 × O1 × P1 × Q1 × R1 × S1 × T1)) (k : A1 → B1 → C1 → D1 → E1 → F1 → G1 → H1 → I1 → J1 → K1 → L1 → M1 → N1 → O1 → P1 → Q1 → R1 → S1 → T1 → Option β) : Option β := match f with
  | none => none
  | some z => k z.1 z.2.1 z.2.2.1 z.2.2.2.1 z.2.2.2.2.1 z.2.2.2.2.2.1 z.2.2.2.2.2.2.1 z.2.2.2.2.2.2.2.1 z.2.2.2.2.2.2.2.2.1 z.2.2.2.2.2.2.2.2.2.1 z.2.2.2.2.2.2.2.2.2.2.1 z.2.2.2.2.2.2.2.2.2.2.2.1 z.2.2.2.2.2.2.2.2.2.2.2.2.1 z.2.2.2.2.2.2.2.2.2.2.2.2.2.1 z.2.2.2.2.2.2.2.2.2.2.2.2.2.2.1 z.2.2.2.2.2.2.2.2.2.2.2.2.2.2.2.1 z.2.2.2.2.2.2.2.2.2.2.2.2.2.2.2.2.1 z.2.2.2.2.2.2.2.2.2.2.2.2.2.2.2.2.2.1 z.2.2.2.2.2.2.2.2.2.2.2.2.2.2.2.2.2.2.1 z.2.2.2.2.2.2.2.2.2.2.2.2.2.2.2.2.2.2.2
theorem ob20_el {A1 B1 C1 D1 E1 F1 G1 H1 I1 J1 K1 L1 M1 N1 O1 P1 Q1 R1 S1 T1 β : Type} {f : Option (A1 × B1 × C1 × D1 × E1 × F1 × G1 × H1 × I1 × J1 × K1 × L1 × M1 × N1 × O1 × P1 × Q1 × R1 × S1 × T1)} {k : A1 → B1 → C1 → D1 → E1 → F1 → G1 → H1 → I1 → J1 → K1 → L1 → M1 → N1 → O1 → P1 → Q1 → R1 → S1 → T1 → Option β} {r : β} (h : ob20 f k = some r) : ∃ a1 b1 c1 d1 e1 f1 g1 h1 i1 j1 k1 l1 m1 n1 o1 p1 q1 r1 s1 t1, f = some (a1, b1, c1, d1, e1, f1, g1, h1, i1, j1, k1, l1, m1, n1, o1, p1, q1, r1, s1, t1) ∧ k a1 b1 c1 d1 e1 f1 g1 h1 i1 j1 k1 l1 m1 n1 o1 p1 q1 r1 s1 t1 = some r := by
  cases f with
  | none => cases h
  | some z => exact ⟨z.1, z.2.1, z.2.2.1, z.2.2.2.1, z.2.2.2.2.1, z.2.2.2.2.2.1, z.2.2.2.2.2.2.1, z.2.2.2.2.2.2.2.1, z.2.2.2.2.2.2.2.2.1, z.2.2.2.2.2.2.2.2.2.1, z.2.2.2.2.2.2.2.2.2.2.1, z.2.2.2.2.2.2.2.2.2.2.2.1, z.2.2.2.2.2.2.2.2.2.2.2.2.1, z.2.2.2.2.2.2.2.2.2.2.2.2.2.1, z.2.2.2.2.2.2.2.2.2.2.2.2.2.2.1, z.2.2.2.2.2.2.2.2.2.2.2.2.2.2.2.1, z.2.2.2.2.2.2.2.2.2.2.2.2.2.2.2.2.1, z.2.2.2.2.2.2.2.2.2.2.2.2.2.2.2.2.2.1, z.2.2.2.2.2.2.2.2.2.2.2.2.2.2.2.2.2.2.1, z.2.2.2.2.2.2.2.2.2.2.2.2.2.2.2.2.2.2.2, rfl, h⟩
def ob21 {A1 B1 C1 D1 E1 F1 G1 H1 I1 J1 K1 L1 M1 N1 O1 P1 Q1 R1 S1 T1 U1 β : Type} (f : Option (A1 × B1 × C1 × D1 × E1 × F1 × G1 × H1 × I1 × J1 × K1 × L1 × M1 × N1 × O1 × P1 × Q1 × R1 × S1 × T1 × U1)) (k : A1 → B1 → C1 → D1 → E1 → F1 → G1 → H1 → I1 → J1 → K1 → L1 → M1 → N1 → O1 → P1 → Q1 → R1 → S1 → T1 → U1 → Option β) : Option β := match f with
  | none => none
  | some z => k z.1 z.2.1 z.2.2.1 z.2.2.2.1 z.2.2.2.2.1 z.2.2.2.2.2.1 z.2.2.2.2.2.2.1 z.2.2.2.2.2.2.2.1 z.2.2.2.2.2.2.2.2.1 z.2.2.2.2.2.2.2.2.2.1 z.2.2.2.2.2.2.2.2.2.2.1 z.2.2.2.2.2.2.2.2.2.2.2.1 z.2.2.2.2.2.2.2.2.2.2.2.2.1 z.2.2.2.2.2.2.2.2.2.2.2.2.2.1 z.2.2.2.2.2.2.2.2.2.2.2.2.2.2.1 z.2.2.2.2.2.2.2.2.2.2.2.2.2.2.2.1 z.2.2.2.2.2.2.2.2.2.2.2.2.2.2.2.2.1 z.2.2.2.2.2.2.2.2.2.2.2.2.2.2.2.2.2.1 z.2.2.2.2.2.2.2.2.2.2.2.2.2.2.2.2.2.2.1 z.2.2.2.2.2.2.2.2.2.2.2.2.2.2.2.2.2.2.2.1 z.2.2.2.2.2.2.2.2.2.2.2.2.2.2.2.2.2.2.2.2
theorem ob21_el {A1 B1 C1 D1 E1 F1 G1 H1 I1 J1 K1 L1 M1 N1 O1 P1 Q1 R1 S1 T1 U1 β : Type} {f : Option (A1 × B1 × C1 × D1 × E1 × F1 × G1 × H1 × I1 × J1 × K1 × L1 × M1 × N1 × O1 × P1 × Q1 × R1 × S1 × T1 × U1)} {k : A1 → B1 → C1 → D1 → E1 → F1 → G1 → H1 → I1 → J1 → K1 → L1 → M1 → N1 → O1 → P1 → Q1 → R1 → S1 → T1 → U1 → Option β} {r : β} (h : ob21 f k = some r) : ∃ a1 b1 c1 d1 e1 f1 g1 h1 i1 j1 k1 l1 m1 n1 o1 p1 q1 r1 s1 t1 u1, f = some (a1, b1, c1, d1, e1, f1, g1, h1, i1, j1, k1, l1, m1, n1, o1, p1, q1, r1, s1, t1, u1) ∧ k a1 b1 c1 d1 e1 f1 g1 h1 i1 j1 k1 l1 m1 n1 o1 p1 q1 r1 s1 t1 u1 = some r := by
  cases f with
  | none => cases h
  | some z => exact ⟨z.1, z.2.1, z.2.2.1, z.2.2.2.1, z.2.2.2.2.1, z.2.2.2.2.2.1, z.2.2.2.2.2.2.1, z.2.2.2.2.2.2.2.1, z.2.2.2.2.2.2.2.2.1, z.2.2.2.2.2.2.2.2.2.1, z.2.2.2.2.2.2.2.2.2.2.1, z.2.2.2.2.2.2.2.2.2.2.2.1, z.2.2.2.2.2.2.2.2.2.2.2.2.1, z.2.2.2.2.2.2.2.2.2.2.2.2.2.1, z.2.2.2.2.2.2.2.2.2.2.2.2.2.2.1, z.2.2.2.2.2.2.2.2.2.2.2.2.2.2.2.1, z.2.2.2.2.2.2.2.2.2.2.2.2.2.2.2.2.1, z.2.2.2.2.2.2.2.2.2.2.2.2.2.2.2.2.2.1, z.2.2.2.2.2.2.2.2.2.2.2.2.2.2.2.2.2.2.1, z.2.2.2.2.2.2.2.2.2.2.2.2.2.2.2.2.2.2.2.1, z.2.2.2.2.2.2.2.2.2.2.2.2.2.2.2.2.2.2.2.2, rfl, h⟩
def ob22 {A1 B1 C1 D1 E1 F1 G1 H1 I1 J1 K1 L1 M1 N1 O1 P1 Q1 R1 S1 T1 U1 V1 β : Type} (f : Option (A1 × B1 × C1 × D1 × E1 × F1 × G1 × H1 × I1 × J1 × K1 × L1 × M1 × N1 × O1 × P1 × Q1 × R1 × S1 × T1 × U1 × V1)) (k : A1 → B1 → C1 → D1 → E1 → F1 → G1 → H1 → I1 → J1 → K1 → L1 → M1 → N1 → O1 → P1 → Q1 → R1 → S1 → T1 → U1 → V1 → Option β) : Option β := match f with
  | none => none
  | some z => k z.1 z.2.1 z.2.2.1 z.2.2.2.1 z.2.2.2.2.1 z.2.2.2.2.2.1 z.2.2.2.2.2.2.1 z.2.2.2.2.2.2.2.1 z.2.2.2.2.2.2.2.2.1 z.2.2.2.2.2.2.2.2.2.1 z.2.2.2.2.2.2.2.2.2.2.1 z.2.2.2.2.2.2.2.2.2.2.2.1 z.2.2.2.2.2.2.2.2.2.2.2.2.1 z.2.2.2.2.2.2.2.2.2.2.2.2.2.1 z.2.2.2.2.2.2.2.2.2.2.2.2.2.2.1 z.2.2.2.2.2.2.2.2.2.2.2.2.2.2.2.1 z.2.2.2.2.2.2.2.2.2.2.2.2.2.2.2.2.1 z.2.2.2.2.2.2.2.2.2.2.2.2.2.2.2.2.2.1 z.2.2.2.2.2.2.2.2.2.2.2.2.2.2.2.2.2.2.1 z.2.2.2.2.2.2.2.2.2.2.2.2.2.2.2.2.2.2.2.1 z.2.2.2.2.2.2.2.2.2.2.2.2.2.2.2.2.2.2.2.2.1 z.2.2.2.2.2.2.2.2.2.2.2.2.2.2.2.2.2.2.2.2.2
theorem ob22_el {A1 B1 C1 D1 E1 F1 G1 H1 I1 J1 K1 L1 M1 N1 O1 P1 Q1 R1 S1 T1 U1 V1 β : Type} {f : Option (A1 × B1 × C1 × D1 × E1 × F1 × G1 × H1 × I1 × J1 × K1 × L1 × M1 × N1 × O1 × P1 × Q1 × R1 × S1 × T1 × U1 × V1)} {k : A1 → B1 → C1 → D1 → E1 → F1 → G1 → H1 → I1 → J1 → K1 → L1 → M1 → N1 → O1 → P1 → Q1 → R1 → S1 → T1 → U1 → V1 → Option β} {r : β} (h : ob22 f k = some r) : ∃ a1 b1 c1 d1 e1 f1 g1 h1 i1 j1 k1 l1 m1 n1 o1 p1 q1 r1 s1 t1 u1 v1, f = some (a1, b1, c1, d1, e1, f1, g1, h1, i1, j1, k1, l1, m1, n1, o1, p1, q1, r1, s1, t1, u1, v1) ∧ k a1 b1 c1 d1 e1 f1 g1 h1 i1 j1 k1 l1 m1 n1 o1 p1 q1 r1 s1 t1 u1 v1 = some r := by
  cases f with
  | none => cases h
  | some z => exact ⟨z.1, z.2.1, z.2.2.1, z.2.2.2.1, z.2.2.2.2.1, z.2.2.2.2.2.1, z.2.2.2.2.2.2.1, z.2.2.2.2.2.2.2.1, z.2.2.2.2.2.2.2.2.1, z.2.2.2.2.2.2.2.2.2.1, z.2.2.2.2.2.2.2.2.2.2.1, z.2.2.2.2.2.2.2.2.2.2.2.1, z.2.2.2.2.2.2.2.2.2.2.2.2.1, z.2.2.2.2.2.2.2.2.2.2.2.2.2.1, z.2.2.2.2.2.2.2.2.2.2.2.2.2.2.1, z.2.2.2.2.2.2.2.2.2.2.2.2.2.2.2.1, z.2.2.2.2.2.2.2.2.2.2.2.2.2.2.2.2.1, z.2.2.2.2.2.2.2.2.2.2.2.2.2.2.2.2.2.1, z.2.2.2.2.2.2.2.2.2.2.2.2.2.2.2.2.2.2.1, z.2.2.2.2.2.2.2.2.2.2.2.2.2.2.2.2.2.2.2.1, z.2.2.2.2.2.2.2.2.2.2.2.2.2.2.2.2.2.2.2.2.1, z.2.2.2.2.2.2.2.2.2.2.2.2.2.2.2.2.2.2.2.2.2, rfl, h⟩
def ob23 {A1 B1 C1 D1 E1 F1 G1 H1 I1 J1 K1 L1 M1 N1 O1 P1 Q1 R1 S1 T1 U1 V1 W1 β : Type} (f : Option (A1 × B1 × C1 × D1 × E1 × F1 × G1 × H1 × I1 × J1 × K1 × L1 × M1 × N1 × O1 × P1 × Q1 × R1 × S1 × T1 × U1 × V1 × W1)) (k : A1 → B1 → C1 → D1 → E1 → F1 → G1 → H1 → I1 → J1 → K1 → L1 → M1 → N1 → O1 → P1 → Q1 → R1 → S1 → T1 → U1 → V1 → W1 → Option β) : Option β := match f with
  | none => none
  | some z => k z.1 z.2.1 z.2.2.1 z.2.2.2.1 z.2.2.2.2.1 z.2.2.2.2.2.1 z.2.2.2.2.2.2.1 z.2.2.2.2.2.2.2.1 z.2.2.2.2.2.2.2.2.1 z.2.2.2.2.2.2.2.2.2.1 z.2.2.2.2.2.2.2.2.2.2.1 z.2.2.2.2.2.2.2.2.2.2.2.1 z.2.2.2.2.2.2.2.2.2.2.2.2.1 z.2.2.2.2.2.2.2.2.2.2.2.2.2.1 z.2.2.2.2.2.2.2.2.2.2.2.2.2.2.1 z.2.2.2.2.2.2.2.2.2.2.2.2.2.2.2.1 z.2.2.2.2.2.2.2.2.2.2.2.2.2.2.2.2.1 z.2.2.2.2.2.2.2.2.2.2.2.2.2.2.2.2.2.1 z.2.2.2.2.2.2.2.2.2.2.2.2.2.2.2.2.2.2.1 z.2.2.2.2.2.2.2.2.2.2.2.2.2.2.2.2.2.2.2.1 z.2.2.2.2.2.2.2.2.2.2.2.2.2.2.2.2.2.2.2.2.1 z.2.2.2.2.2.2.2.2.2.2.2.2.2.2.2.2.2.2.2.2.2.1 z.2.2.2.2.2.2.2.2.2.2.2.2.2.2.2.2.2.2.2.2.2.2
theorem ob23_el {A1 B1 C1 D1 E1 F1 G1 H1 I1 J1 K1 L1 M1 N1 O1 P1 Q1 R1 S1 T1 U1 V1 W1 β : Type} {f : Option (A1 × B1 × C1 × D1 × E1 × F1 × G1 × H1 × I1 × J1 × K1 × L1 × M1 × N1 × O1 × P1 × Q1 × R1 × S1 × T1 × U1 × V1 × W1)} {k : A1 → B1 → C1 → D1 → E1 → F1 → G1 → H1 → I1 → J1 → K1 → L1 → M1 → N1 → O1 → P1 → Q1 → R1 → S1 → T1 → U1 → V1 → W1 → Option β} {r : β} (h : ob23 f k = some r) : ∃ a1 b1 c1 d1 e1 f1 g1 h1 i1 j1 k1 l1 m1 n1 o1 p1 q1 r1 s1 t1 u1 v1 w1, f = some (a1, b1, c1, d1, e1, f1, g1, h1, i1, j1, k1, l1, m1, n1, o1, p1, q1, r1, s1, t1, u1, v1, w1) ∧ k a1 b1 c1 d1 e1 f1 g1 h1 i1 j1 k1 l1 m1 n1 o1 p1 q1 r1 s1 t1 u1 v1 w1 = some r := by
  cases f with
  | none => cases h
  | some z => exact ⟨z.1, z.2.1, z.2.2.1, z.2.2.2.1, z.2.2.2.2.1, z.2.2.2.2.2.1, z.2.2.2.2.2.2.1, z.2.2.2.2.2.2.2.1, z.2.2.2.2.2.2.2.2.1, z.2.2.2.2.2.2.2.2.2.1, z.2.2.2.2.2.2.2.2.2.2.1, z.2.2.2.2.2.2.2.2.2.2.2.1, z.2.2.2.2.2.2.2.2.2.2.2.2.1, z.2.2.2.2.2.2.2.2.2.2.2.2.2.1, z.2.2.2.2.2.2.2.2.2.2.2.2.2.2.1, z.2.2.2.2.2.2.2.2.2.2.2.2.2.2.2.1, z.2.2.2.2.2.2.2.2.2.2.2.2.2.2.2.2.1, z.2.2.2.2.2.2.2.2.2.2.2.2.2.2.2.2.2.1, z.2.2.2.2.2.2.2.2.2.2.2.2.2.2.2.2.2.2.1, z.2.2.2.2.2.2.2.2.2.2.2.2.2.2.2.2.2.2.2.1, z.2.2.2.2.2.2.2.2.2.2.2.2.2.2.2.2.2.2.2.2.1, z.2.2.2.2.2.2.2.2.2.2.2.2.2.2.2.2.2.2.2.2.2.1, z.2.2.2.2.2.2.2.2.2.2.2.2.2.2.2.2.2.2.2.2.2.2, rfl, h⟩
def ob24 {A1 B1 C1 D1 E1 F1 G1 H1 I1 J1 K1 L1 M1 N1 O1 P1 Q1 R1 S1 T1 U1 V1 W1 X1 β : Type} (f : Option (A1 × B1 × C1 × D1 × E1 × F1 × G1 × H1 × I1 × J1 × K1 × L1 × M1 × N1 × O1 × P1 × Q1 × R1 × S1 × T1 × U1 × V1 × W1 × X1)) (k : A1 → B1 → C1 → D1 → E1 → F1 → G1 → H1 → I1 → J1 → K1 → L1 → M1 → N1 → O1 → P1 → Q1 → R1 → S1 → T1 → U1 → V1 → W1 → X1 → Option β) : Option β := match f with
  | none => none
  | some z => k z.1 z.2.1 z.2.2.1 z.2.2.2.1 z.2.2.2.2.1 z.2.2.2.2.2.1 z.2.2.2.2.2.2.1 z.2.2.2.2.2.2.2.1 z.2.2.2.2.2.2.2.2.1 z.2.2.2.2.2.2.2.2.2.1 z.2.2.2.2.2.2.2.2.2.2.1 z.2.2.2.2.2.2.2.2.2.2.2.1 z.2.2.2.2.2.2.2.2.2.2.2.2.1 z.2.2.2.2.2.2.2.2.2.2.2.2.2.1 z.2.2.2.2.2.2.2.2.2.2.2.2.2.2.1 z.2.2.2.2.2.2.2.2.2.2.2.2.2.2.2.1 z.2.2.2.2.2.2.2.2.2.2.2.2.2.2.2.2.1 z.2.2.2.2.2.2.2.2.2.2.2.2.2.2.2.2.2.1 z.2.2.2.2.2.2.2.2.2.2.2.2.2.2.2.2.2.2.1 z.2.2.2.2.2.2.2.2.2.2.2.2.2.2.2.2.2.2.2.1 z.2.2.2.2.2.2.2.2.2.2.2.2.2.2.2.2.2.2.2.2.1 z.2.2.2.2.2.2.2.2.2.2.2.2.2.2.2.2.2.2.2.2.2.1 z.2.2.2.2.2.2.2.2.2.2.2.2.2.2.2.2.2.2.2.2.2.2.1 z.2.2.2.2.2.2.2.2.2.2.2.2.2.2.2.2.2.2.2.2.2.2.2
theorem ob24_el {A1 B1 C1 D1 E1 F1 G1 H1 I1 J1 K1 L1 M1 N1 O1 P1 Q1 R1 S1 T1 U1 V1 W1 X1 β : Type} {f : Option (A1 × B1 × C1 × D1 × E1 × F1 × G1 × H1 × I1 × J1 × K1 × L1 × M1 × N1 × O1 × P1 × Q1 × R1 × S1 × T1 × U1 × V1 × W1 × X1)} {k : A1 → B1 → C1 → D1 → E1 → F1 → G1 → H1 → I1 → J1 → K1 → L1 → M1 → N1 → O1 → P1 → Q1 → R1 → S1 → T1 → U1 → V1 → W1 → X1 → Option β} {r : β} (h : ob24 f k = some r) : ∃ a1 b1 c1 d1 e1 f1 g1 h1 i1 j1 k1 l1 m1 n1 o1 p1 q1 r1 s1 t1 u1 v1 w1 x1, f = some (a1, b1, c1, d1, e1, f1, g1, h1, i1, j1, k1, l1, m1, n1, o1, p1, q1, r1, s1, t1, u1, v1, w1, x1) ∧ k a1 b1 c1 d1 e1 f1 g1 h1 i1 j1 k1 l1 m1 n1 o1 p1 q1 r1 s1 t1 u1 v1 w1 x1 = some r := by
  cases f with
  | none => cases h
  | some z => exact ⟨z.1, z.2.1, z.2.2.1, z.2.2.2.1, z.2.2.2.2.1, z.2.2.2.2.2.1, z.2.2.2.2.2.2.1, z.2.2.2.2.2.2.2.1, z.2.2.2.2.2.2.2.2.1, z.2.2.2.2.2.2.2.2.2.1, z.2.2.2.2.2.2.2.2.2.2.1, z.2.2.2.2.2.2.2.2.2.2.2.1, z.2.2.2.2.2.2.2.2.2.2.2.2.1, z.2.2.2.2.2.2.2.2.2.2.2.2.2.1, z.2.2.2.2.2.2.2.2.2.2.2.2.2.2.1, z.2.2.2.2.2.2.2.2.2.2.2.2.2.2.2.1, z.2.2.2.2.2.2.2.2.2.2.2.2.2.2.2.2.1, z.2.2.2.2.2.2.2.2.2.2.2.2.2.2.2.2.2.1, z.2.2.2.2.2.2.2.2.2.2.2.2.2.2.2.2.2.2.1, z.2.2.2.2.2.2.2.2.2.2.2.2.2.2.2.2.2.2.2.1, z.2.2.2.2.2.2.2.2.2.2.2.2.2.2.2.2.2.2.2.2.1, z.2.2.2.2.2.2.2.2.2.2.2.2.2.2.2.2.2.2.2.2.2.1, z.2.2.2.2.2.2.2.2.2.2.2.2.2.2.2.2.2.2.2.2.2.2.1, z.2.2.2.2.2.2.2.2.2.2.2.2.2.2.2.2.2.2.2.2.2.2.2, rfl, h⟩
def ob25 {T0 T1 T2 T3 T4 T5 T6 T7 T8 T9 T10 T11 T12 T13 T14 T15 T16 T17 T18 T19 T20 T21 T22 T23 T24 β : Type} (f : Option (T0 × T1 × T2 × T3 × T4 × T5 × T6 × T7 × T8 × T9 × T10 × T11 × T12 × T13 × T14 × T15 × T16 × T17 × T18 × T19 × T20 × T21 × T22 × T23 × T24)) (k : T0 → T1 → T2 → T3 → T4 → T5 → T6 → T7 → T8 → T9 → T10 → T11 → T12 → T13 → T14 → T15 → T16 → T17 → T18 → T19 → T20 → T21 → T22 → T23 → T24 → Option β) : Option β := match f with
  | none => none
  | some z => k z.1 z.2.1 z.2.2.1 z.2.2.2.1 z.2.2.2.2.1 z.2.2.2.2.2.1 z.2.2.2.2.2.2.1 z.2.2.2.2.2.2.2.1 z.2.2.2.2.2.2.2.2.1 z.2.2.2.2.2.2.2.2.2.1 z.2.2.2.2.2.2.2.2.2.2.1 z.2.2.2.2.2.2.2.2.2.2.2.1 z.2.2.2.2.2.2.2.2.2.2.2.2.1 z.2.2.2.2.2.2.2.2.2.2.2.2.2.1 z.2.2.2.2.2.2.2.2.2.2.2.2.2.2.1 z.2.2.2.2.2.2.2.2.2.2.2.2.2.2.2.1 z.2.2.2.2.2.2.2.2.2.2.2.2.2.2.2.2.1 z.2.2.2.2.2.2.2.2.2.2.2.2.2.2.2.2.2.1 z.2.2.2.2.2.2.2.2.2.2.2.2.2.2.2.2.2.2.1 z.2.2.2.2.2.2.2.2.2.2.2.2.2.2.2.2.2.2.2.1 z.2.2.2.2.2.2.2.2.2.2.2.2.2.2.2.2.2.2.2.2.1 z.2.2.2.2.2.2.2.2.2.2.2.2.2.2.2.2.2.2.2.2.2.1 z.2.2.2.2.2.2.2.2.2.2.2.2.2.2.2.2.2.2.2.2.2.2.1 z.2.2.2.2.2.2.2.2.2.2.2.2.2.2.2.2.2.2.2.2.2.2.2.1 z.2.2.2.2.2.2.2.2.2.2.2.2.2.2.2.2.2.2.2.2.2.2.2.2
theorem ob25_el {T0 T1 T2 T3 T4 T5 T6 T7 T8 T9 T10 T11 T12 T13 T14 T15 T16 T17 T18 T19 T20 T21 T22 T23 T24 β : Type} {f : Option (T0 × T1 × T2 × T3 × T4 × T5 × T6 × T7 × T8 × T9 × T10 × T11 × T12 × T13 × T14 × T15 × T16 × T17 × T18 × T19 × T20 × T21 × T22 × T23 × T24)} {k : T0 → T1 → T2 → T3 → T4 → T5 → T6 → T7 → T8 → T9 → T10 → T11 → T12 → T13 → T14 → T15 → T16 → T17 → T18 → T19 → T20 → T21 → T22 → T23 → T24 → Option β} {r : β} (h : ob25 f k = some r) : ∃ v0 v1 v2 v3 v4 v5 v6 v7 v8 v9 v10 v11 v12 v13 v14 v15 v16 v17 v18 v19 v20 v21 v22 v23 v24, f = some (v0, v1, v2, v3, v4, v5, v6, v7, v8, v9, v10, v11, v12, v13, v14, v15, v16, v17, v18, v19, v20, v21, v22, v23, v24) ∧ k v0 v1 v2 v3 v4 v5 v6 v7 v8 v9 v10 v11 v12 v13 v14 v15 v16 v17 v18 v19 v20 v21 v22 v23 v24 = some r := by
  cases f with
  | none => cases h
  | some z => exact ⟨z.1, z.2.1, z.2.2.1, z.2.2.2.1, z.2.2.2.2.1, z.2.2.2.2.2.1, z.2.2.2.2.2.2.1, z.2.2.2.2.2.2.2.1, z.2.2.2.2.2.2.2.2.1, z.2.2.2.2.2.2.2.2.2.1, z.2.2.2.2.2.2.2.2.2.2.1, z.2.2.2.2.2.2.2.2.2.2.2.1, z.2.2.2.2.2.2.2.2.2.2.2.2.1, z.2.2.2.2.2.2.2.2.2.2.2.2.2.1, z.2.2.2.2.2.2.2.2.2.2.2.2.2.2.1, z.2.2.2.2.2.2.2.2.2.2.2.2.2.2.2.1, z.2.2.2.2.2.2.2.2.2.2.2.2.2.2.2.2.1, z.2.2.2.2.2.2.2.2.2.2.2.2.2.2.2.2.2.1, z.2.2.2.2.2.2.2.2.2.2.2.2.2.2.2.2.2.2.1, z.2.2.2.2.2.2.2.2.2.2.2.2.2.2.2.2.2.2.2.1, z.2.2.2.2.2.2.2.2.2.2.2.2.2.2.2.2.2.2.2.2.1, z.2.2.2.2.2.2.2.2.2.2.2.2.2.2.2.2.2.2.2.2.2.1, z.2.2.2.2.2.2.2.2.2.2.2.2.2.2.2.2.2.2.2.2.2.2.1, z.2.2.2.2.2.2.2.2.2.2.2.2.2.2.2.2.2.2.2.2.2.2.2.1, z.2.2.2.2.2.2.2.2.2.2.2.2.2.2.2.2.2.2.2.2.2.2.2.2, rfl, h⟩
def ob26 {T0 T1 T2 T3 T4 T5 T6 T7 T8 T9 T10 T11 T12 T13 T14 T15 T16 T17 T18 T19 T20 T21 T22 T23 T24 T25 β : Type} (f : Option (T0 × T1 × T2 × T3 × T4 × T5 × T6 × T7 × T8 × T9 × T10 × T11 × T12 × T13 × T14 × T15 × T16 × T17 × T18 × T19 × T20 × T21 × T22 × T23 × T24 × T25)) (k : T0 → T1 → T2 → T3 → T4 → T5 → T6 → T7 → T8 → T9 → T10 → T11 → T12 → T13 → T14 → T15 → T16 → T17 → T18 → T19 → T20 → T21 → T22 → T23 → T24 → T25 → Option β) : Option β := match f with
  | none => none
  | some z => k z.1 z.2.1 z.2.2.1 z.2.2.2.1 z.2.2.2.2.1 z.2.2.2.2.2.1 z.2.2.2.2.2.2.1 z.2.2.2.2.2.2.2.1 z.2.2.2.2.2.2.2.2.1 z.2.2.2.2.2.2.2.2.2.1 z.2.2.2.2.2.2.2.2.2.2.1 z.2.2.2.2.2.2.2.2.2.2.2.1 z.2.2.2.2.2.2.2.2.2.2.2.2.1 z.2.2.2.2.2.2.2.2.2.2.2.2.2.1 z.2.2.2.2.2.2.2.2.2.2.2.2.2.2.1 z.2.2.2.2.2.2.2.2.2.2.2.2.2.2.2.1 z.2.2.2.2.2.2.2.2.2.2.2.2.2.2.2.2.1 z.2.2.2.2.2.2.2.2.2.2.2.2.2.2.2.2.2.1 z.2.2.2.2.2.2.2.2.2.2.2.2.2.2.2.2.2.2.1 z.2.2.2.2.2.2.2.2.2.2.2.2.2.2.2.2.2.2.2.1 z.2.2.2.2.2.2.2.2.2.2.2.2.2.2.2.2.2.2.2.2.1 z.2.2.2.2.2.2.2.2.2.2.2.2.2.2.2.2.2.2.2.2.2.1 z.2.2.2.2.2.2.2.2.2.2.2.2.2.2.2.2.2.2.2.2.2.2.1 z.2.2.2.2.2.2.2.2.2.2.2.2.2.2.2.2.2.2.2.2.2.2.2.1 z.2.2.2.2.2.2.2.2.2.2.2.2.2.2.2.2.2.2.2.2.2.2.2.2.1 z.2.2.2.2.2.2.2.2.2.2.2.2.2.2.2.2.2.2.2.2.2.2.2.2.2
theorem ob26_el {T0 T1 T2 T3 T4 T5 T6 T7 T8 T9 T10 T11 T12 T13 T14 T15 T16 T17 T18 T19 T20 T21 T22 T23 T24 T25 β : Type} {f : Option (T0 × T1 × T2 × T3 × T4 × T5 × T6 × T7 × T8 × T9 × T10 × T11 × T12 × T13 × T14 × T15 × T16 × T17 × T18 × T19 × T20 × T21 × T22 × T23 × T24 × T25)} {k : T0 → T1 → T2 → T3 → T4 → T5 → T6 → T7 → T8 → T9 → T10 → T11 → T12 → T13 → T14 → T15 → T16 → T17 → T18 → T19 → T20 → T21 → T22 → T23 → T24 → T25 → Option β} {r : β} (h : ob26 f k = some r) : ∃ v0 v1 v2 v3 v4 v5 v6 v7 v8 v9 v10 v11 v12 v13 v14 v15 v16 v17 v18 v19 v20 v21 v22 v23 v24 v25, f = some (v0, v1, v2, v3, v4, v5, v6, v7, v8, v9, v10, v11, v12, v13, v14, v15, v16, v17, v18, v19, v20, v21, v22, v23, v24, v25) ∧ k v0 v1 v2 v3 v4 v5 v6 v7 v8 v9 v10 v11 v12 v13 v14 v15 v16 v17 v18 v19 v20 v21 v22 v23 v24 v25 = some r := by
  cases f with
  | none => cases h
  | some z => exact ⟨z.1, z.2.1, z.2.2.1, z.2.2.2.1, z.2.2.2.2.1, z.2.2.2.2.2.1, z.2.2.2.2.2.2.1, z.2.2.2.2.2.2.2.1, z.2.2.2.2.2.2.2.2.1, z.2.2.2.2.2.2.2.2.2.1, z.2.2.2.2.2.2.2.2.2.2.1, z.2.2.2.2.2.2.2.2.2.2.2.1, z.2.2.2.2.2.2.2.2.2.2.2.2.1, z.2.2.2.2.2.2.2.2.2.2.2.2.2.1, z.2.2.2.2.2.2.2.2.2.2.2.2.2.2.1, z.2.2.2.2.2.2.2.2.2.2.2.2.2.2.2.1, z.2.2.2.2.2.2.2.2.2.2.2.2.2.2.2.2.1, z.2.2.2.2.2.2.2.2.2.2.2.2.2.2.2.2.2.1, z.2.2.2.2.2.2.2.2.2.2.2.2.2.2.2.2.2.2.1, z.2.2.2.2.2.2.2.2.2.2.2.2.2.2.2.2.2.2.2.1, z.2.2.2.2.2.2.2.2.2.2.2.2.2.2.2.2.2.2.2.2.1, z.2.2.2.2.2.2.2.2.2.2.2.2.2.2.2.2.2.2.2.2.2.1, z.2.2.2.2.2.2.2.2.2.2.2.2.2.2.2.2.2.2.2.2.2.2.1, z.2.2.2.2.2.2.2.2.2.2.2.2.2.2.2.2.2.2.2.2.2.2.2.1, z.2.2.2.2.2.2.2.2.2.2.2.2.2.2.2.2.2.2.2.2.2.2.2.2.1, z.2.2.2.2.2.2.2.2.2.2.2.2.2.2.2.2.2.2.2.2.2.2.2.2.2, rfl, h⟩
def ob27 {T0 T1 T2 T3 T4 T5 T6 T7 T8 T9 T10 T11 T12 T13 T14 T15 T16 T17 T18 T19 T20 T21 T22 T23 T24 T25 T26 β : Type} (f : Option (T0 × T1 × T2 × T3 × T4 × T5 × T6 × T7 × T8 × T9 × T10 × T11 × T12 × T13 × T14 × T15 × T16 × T17 × T18 × T19 × T20 × T21 × T22 × T23 × T24 × T25 × T26)) (k : T0 → T1 → T2 → T3 → T4 → T5 → T6 → T7 → T8 → T9 → T10 → T11 → T12 → T13 → T14 → T15 → T16 → T17 → T18 → T19 → T20 → T21 → T22 → T23 → T24 → T25 → T26 → Option β) : Option β := match f with
  | none => none
  | some z => k z.1 z.2.1 z.2.2.1 z.2.2.2.1 z.2.2.2.2.1 z.2.2.2.2.2.1 z.2.2.2.2.2.2.1 z.2.2.2.2.2.2.2.1 z.2.2.2.2.2.2.2.2.1 z.2.2.2.2.2.2.2.2.2.1 z.2.2.2.2.2.2.2.2.2.2.1 z.2.2.2.2.2.2.2.2.2.2.2.1 z.2.2.2.2.2.2.2.2.2.2.2.2.1 z.2.2.2.2.2.2.2.2.2.2.2.2.2.1 z.2.2.2.2.2.2.2.2.2.2.2.2.2.2.1 z.2.2.2.2.2.2.2.2.2.2.2.2.2.2.2.1 z.2.2.2.2.2.2.2.2.2.2.2.2.2.2.2.2.1 z.2.2.2.2.2.2.2.2.2.2.2.2.2.2.2.2.2.1 z.2.2.2.2.2.2.2.2.2.2.2.2.2.2.2.2.2.2.1 z.2.2.2.2.2.2.2.2.2.2.2.2.2.2.2.2.2.2.2.1 z.2.2.2.2.2.2.2.2.2.2.2.2.2.2.2.2.2.2.2.2.1 z.2.2.2.2.2.2.2.2.2.2.2.2.2.2.2.2.2.2.2.2.2.1 z.2.2.2.2.2.2.2.2.2.2.2.2.2.2.2.2.2.2.2.2.2.2.1 z.2.2.2.2.2.2.2.2.2.2.2.2.2.2.2.2.2.2.2.2.2.2.2.1 z.2.2.2.2.2.2.2.2.2.2.2.2.2.2.2.2.2.2.2.2.2.2.2.2.1 z.2.2.2.2.2.2.2.2.2.2.2.2.2.2.2.2.2.2.2.2.2.2.2.2.2.1 z.2.2.2.2.2.2.2.2.2.2.2.2.2.2.2.2.2.2.2.2.2.2.2.2.2.2
theorem ob27_el {T0 T1 T2 T3 T4 T5 T6 T7 T8 T9 T10 T11 T12 T13 T14 T15 T16 T17 T18 T19 T20 T21 T22 T23 T24 T25 T26 β : Type} {f : Option (T0 × T1 × T2 × T3 × T4 × T5 × T6 × T7 × T8 × T9 × T10 × T11 × T12 × T13 × T14 × T15 × T16 × T17 × T18 × T19 × T20 × T21 × T22 × T23 × T24 × T25 × T26)} {k : T0 → T1 → T2 → T3 → T4 → T5 → T6 → T7 → T8 → T9 → T10 → T11 → T12 → T13 → T14 → T15 → T16 → T17 → T18 → T19 → T20 → T21 → T22 → T23 → T24 → T25 → T26 → Option β} {r : β} (h : ob27 f k = some r) : ∃ v0 v1 v2 v3 v4 v5 v6 v7 v8 v9 v10 v11 v12 v13 v14 v15 v16 v17 v18 v19 v20 v21 v22 v23 v24 v25 v26, f = some (v0, v1, v2, v3, v4, v5, v6, v7, v8, v9, v10, v11, v12, v13, v14, v15, v16, v17, v18, v19, v20, v21, v22, v23, v24, v25, v26) ∧ k v0 v1 v2 v3 v4 v5 v6 v7 v8 v9 v10 v11 v12 v13 v14 v15 v16 v17 v18 v19 v20 v21 v22 v23 v24 v25 v26 = some r := by
  cases f with
  | none => cases h
  | some z => exact ⟨z.1, z.2.1, z.2.2.1, z.2.2.2.1, z.2.2.2.2.1, z.2.2.2.2.2.1, z.2.2.2.2.2.2.1, z.2.2.2.2.2.2.2.1, z.2.2.2.2.2.2.2.2.1, z.2.2.2.2.2.2.2.2.2.1, z.2.2.2.2.2.2.2.2.2.2.1, z.2.2.2.2.2.2.2.2.2.2.2.1, z.2.2.2.2.2.2.2.2.2.2.2.2.1, z.2.2.2.2.2.2.2.2.2.2.2.2.2.1, z.2.2.2.2.2.2.2.2.2.2.2.2.2.2.1, z.2.2.2.2.2.2.2.2.2.2.2.2.2.2.2.1, z.2.2.2.2.2.2.2.2.2.2.2.2.2.2.2.2.1, z.2.2.2.2.2.2.2.2.2.2.2.2.2.2.2.2.2.1, z.2.2.2.2.2.2.2.2.2.2.2.2.2.2.2.2.2.2.1, z.2.2.2.2.2.2.2.2.2.2.2.2.2.2.2.2.2.2.2.1, z.2.2.2.2.2.2.2.2.2.2.2.2.2.2.2.2.2.2.2.2.1, z.2.2.2.2.2.2.2.2.2.2.2.2.2.2.2.2.2.2.2.2.2.1, z.2.2.2.2.2.2.2.2.2.2.2.2.2.2.2.2.2.2.2.2.2.2.1, z.2.2.2.2.2.2.2.2.2.2.2.2.2.2.2.2.2.2.2.2.2.2.2.1, z.2.2.2.2.2.2.2.2.2.2.2.2.2.2.2.2.2.2.2.2.2.2.2.2.1, z.2.2.2.2.2.2.2.2.2.2.2.2.2.2.2.2.2.2.2.2.2.2.2.2.2.1, z.2.2.2.2.2.2.2.2.2.2.2.2.2.2.2.2.2.2.2.2.2.2.2.2.2.2, rfl, h⟩
def ob28 {T0 T1 T2 T3 T4 T5 T6 T7 T8 T9 T10 T11 T12 T13 T14 T15 T16 T17 T18 T19 T20 T21 T22 T23 T24 T25 T26 T27 β : Type} (f : Option (T0 × T1 × T2 × T3 × T4 × T5 × T6 × T7 × T8 × T9 × T10 × T11 × T12 × T13 × T14 × T15 × T16 × T17 × T18 × T19 × T20 × T21 × T22 × T23 × T24 × T25 × T26 × T27)) (k : T0 → T1 → T2 → T3 → T4 → T5 → T6 → T7 → T8 → T9 → T10 → T11 → T12 → T13 → T14 → T15 → T16 → T17 → T18 → T19 → T20 → T21 → T22 → T23 → T24 → T25 → T26 → T27 → Option β) : Option β := match f with
  | none => none
  | some z => k z.1 z.2.1 z.2.2.1 z.2.2.2.1 z.2.2.2.2.1 z.2.2.2.2.2.1 z.2.2.2.2.2.2.1 z.2.2.2.2.2.2.2.1 z.2.2.2.2.2.2.2.2.1 z.2.2.2.2.2.2.2.2.2.1 z.2.2.2.2.2.2.2.2.2.2.1 z.2.2.2.2.2.2.2.2.2.2.2.1 z.2.2.2.2.2.2.2.2.2.2.2.2.1 z.2.2.2.2.2.2.2.2.2.2.2.2.2.1 z.2.2.2.2.2.2.2.2.2.2.2.2.2.2.1 z.2.2.2.2.2.2.2.2.2.2.2.2.2.2.2.1 z.2.2.2.2.2.2.2.2.2.2.2.2.2.2.2.2.1 z.2.2.2.2.2.2.2.2.2.2.2.2.2.2.2.2.2.1 z.2.2.2.2.2.2.2.2.2.2.2.2.2.2.2.2.2.2.1 z.2.2.2.2.2.2.2.2.2.2.2.2.2.2.2.2.2.2.2.1 z.2.2.2.2.2.2.2.2.2.2.2.2.2.2.2.2.2.2.2.2.1 z.2.2.2.2.2.2.2.2.2.2.2.2.2.2.2.2.2.2.2.2.2.1 z.2.2.2.2.2.2.2.2.2.2.2.2.2.2.2.2.2.2.2.2.2.2.1 z.2.2.2.2.2.2.2.2.2.2.2.2.2.2.2.2.2.2.2.2.2.2.2.1 z.2.2.2.2.2.2.2.2.2.2.2.2.2.2.2.2.2.2.2.2.2.2.2.2.1 z.2.2.2.2.2.2.2.2.2.2.2.2.2.2.2.2.2.2.2.2.2.2.2.2.2.1 z.2.2.2.2.2.2.2.2.2.2.2.2.2.2.2.2.2.2.2.2.2.2.2.2.2.2.1 z.2.2.2.2.2.2.2.2.2.2.2.2.2.2.2.2.2.2.2.2.2.2.2.2.2.2.2
theorem ob28_el {T0 T1 T2 T3 T4 T5 T6 T7 T8 T9 T10 T11 T12 T13 T14 T15 T16 T17 T18 T19 T20 T21 T22 T23 T24 T25 T26 T27 β : Type} {f : Option (T0 × T1 × T2 × T3 × T4 × T5 × T6 × T7 × T8 × T9 × T10 × T11 × T12 × T13 × T14 × T15 × T16 × T17 × T18 × T19 × T20 × T21 × T22 × T23 × T24 × T25 × T26 × T27)} {k : T0 → T1 → T2 → T3 → T4 → T5 → T6 → T7 → T8 → T9 → T10 → T11 → T12 → T13 → T14 → T15 → T16 → T17 → T18 → T19 → T20 → T21 → T22 → T23 → T24 → T25 → T26 → T27 → Option β} {r : β} (h : ob28 f k = some r) : ∃ v0 v1 v2 v3 v4 v5 v6 v7 v8 v9 v10 v11 v12 v13 v14 v15 v16 v17 v18 v19 v20 v21 v22 v23 v24 v25 v26 v27, f = some (v0, v1, v2, v3, v4, v5, v6, v7, v8, v9, v10, v11, v12, v13, v14, v15, v16, v17, v18, v19, v20, v21, v22, v23, v24, v25, v26, v27) ∧ k v0 v1 v2 v3 v4 v5 v6 v7 v8 v9 v10 v11 v12 v13 v14 v15 v16 v17 v18 v19 v20 v21 v22 v23 v24 v25 v26 v27 = some r := by
  cases f with
  | none => cases h
  | some z => exact ⟨z.1, z.2.1, z.2.2.1, z.2.2.2.1, z.2.2.2.2.1, z.2.2.2.2.2.1, z.2.2.2.2.2.2.1, z.2.2.2.2.2.2.2.1, z.2.2.2.2.2.2.2.2.1, z.2.2.2.2.2.2.2.2.2.1, z.2.2.2.2.2.2.2.2.2.2.1, z.2.2.2.2.2.2.2.2.2.2.2.1, z.2.2.2.2.2.2.2.2.2.2.2.2.1, z.2.2.2.2.2.2.2.2.2.2.2.2.2.1, z.2.2.2.2.2.2.2.2.2.2.2.2.2.2.1, z.2.2.2.2.2.2.2.2.2.2.2.2.2.2.2.1, z.2.2.2.2.2.2.2.2.2.2.2.2.2.2.2.2.1, z.2.2.2.2.2.2.2.2.2.2.2.2.2.2.2.2.2.1, z.2.2.2.2.2.2.2.2.2.2.2.2.2.2.2.2.2.2.1, z.2.2.2.2.2.2.2.2.2.2.2.2.2.2.2.2.2.2.2.1, z.2.2.2.2.2.2.2.2.2.2.2.2.2.2.2.2.2.2.2.2.1, z.2.2.2.2.2.2.2.2.2.2.2.2.2.2.2.2.2.2.2.2.2.1, z.2.2.2.2.2.2.2.2.2.2.2.2.2.2.2.2.2.2.2.2.2.2.1, z.2.2.2.2.2.2.2.2.2.2.2.2.2.2.2.2.2.2.2.2.2.2.2.1, z.2.2.2.2.2.2.2.2.2.2.2.2.2.2.2.2.2.2.2.2.2.2.2.2.1, z.2.2.2.2.2.2.2.2.2.2.2.2.2.2.2.2.2.2.2.2.2.2.2.2.2.1, z.2.2.2.2.2.2.2.2.2.2.2.2.2.2.2.2.2.2.2.2.2.2.2.2.2.2.1, z.2.2.2.2.2.2.2.2.2.2.2.2.2.2.2.2.2.2.2.2.2.2.2.2.2.2.2, rfl, h⟩
def ob29 {T0 T1 T2 T3 T4 T5 T6 T7 T8 T9 T10 T11 T12 T13 T14 T15 T16 T17 T18 T19 T20 T21 T22 T23 T24 T25 T26 T27 T28 β : Type} (f : Option (T0 × T1 × T2 × T3 × T4 × T5 × T6 × T7 × T8 × T9 × T10 × T11 × T12 × T13 × T14 × T15 × T16 × T17 × T18 × T19 × T20 × T21 × T22 × T23 × T24 × T25 × T26 × T27 × T28)) (k : T0 → T1 → T2 → T3 → T4 → T5 → T6 → T7 → T8 → T9 → T10 → T11 → T12 → T13 → T14 → T15 → T16 → T17 → T18 → T19 → T20 → T21 → T22 → T23 → T24 → T25 → T26 → T27 → T28 → Option β) : Option β := match f with
  | none => none
  | some z => k z.1 z.2.1 z.2.2.1 z.2.2.2.1 z.2.2.2.2.1 z.2.2.2.2.2.1 z.2.2.2.2.2.2.1 z.2.2.2.2.2.2.2.1 z.2.2.2.2.2.2.2.2.1 z.2.2.2.2.2.2.2.2.2.1 z.2.2.2.2.2.2.2.2.2.2.1 z.2.2.2.2.2.2.2.2.2.2.2.1 z.2.2.2.2.2.2.2.2.2.2.2.2.1 z.2.2.2.2.2.2.2.2.2.2.2.2.2.1 z.2.2.2.2.2.2.2.2.2.2.2.2.2.2.1 z.2.2.2.2.2.2.2.2.2.2.2.2.2.2.2.1 z.2.2.2.2.2.2.2.2.2.2.2.2.2.2.2.2.1 z.2.2.2.2.2.2.2.2.2.2.2.2.2.2.2.2.2.1 z.2.2.2.2.2.2.2.2.2.2.2.2.2.2.2.2.2.2.1 z.2.2.2.2.2.2.2.2.2.2.2.2.2.2.2.2.2.2.2.1 z.2.2.2.2.2.2.2.2.2.2.2.2.2.2.2.2.2.2.2.2.1 z.2.2.2.2.2.2.2.2.2.2.2.2.2.2.2.2.2.2.2.2.2.1 z.2.2.2.2.2.2.2.2.2.2.2.2.2.2.2.2.2.2.2.2.2.2.1 z.2.2.2.2.2.2.2.2.2.2.2.2.2.2.2.2.2.2.2.2.2.2.2.1 z.2.2.2.2.2.2.2.2.2.2.2.2.2.2.2.2.2.2.2.2.2.2.2.2.1 z.2.2.2.2.2.2.2.2.2.2.2.2.2.2.2.2.2.2.2.2.2.2.2.2.2.1 z.2.2.2.2.2.2.2.2.2.2.2.2.2.2.2.2.2.2.2.2.2.2.2.2.2.2.1 z.2.2.2.2.2.2.2.2.2.2.2.2.2.2.2.2.2.2.2.2.2.2.2.2.2.2.2.1 z.2.2.2.2.2.2.2.2.2.2.2.2.2.2.2.2.2.2.2.2.2.2.2.2.2.2.2.2
theorem ob29_el {T0 T1 T2 T3 T4 T5 T6 T7 T8 T9 T10 T11 T12 T13 T14 T15 T16 T17 T18 T19 T20 T21 T22 T23 T24 T25 T26 T27 T28 β : Type} {f : Option (T0 × T1 × T2 × T3 × T4 × T5 × T6 × T7 × T8 × T9 × T10 × T11 × T12 × T13 × T14 × T15 × T16 × T17 × T18 × T19 × T20 × T21 × T22 × T23 × T24 × T25 × T26 × T27 × T28)} {k : T0 → T1 → T2 → T3 → T4 → T5 → T6 → T7 → T8 → T9 → T10 → T11 → T12 → T13 → T14 → T15 → T16 → T17 → T18 → T19 → T20 → T21 → T22 → T23 → T24 → T25 → T26 → T27 → T28 → Option β} {r : β} (h : ob29 f k = some r) : ∃ v0 v1 v2 v3 v4 v5 v6 v7 v8 v9 v10 v11 v12 v13 v14 v15 v16 v17 v18 v19 v20 v21 v22 v23 v24 v25 v26 v27 v28, f = some (v0, v1, v2, v3, v4, v5, v6, v7, v8, v9, v10, v11, v12, v13, v14, v15, v16, v17, v18, v19, v20, v21, v22, v23, v24, v25, v26, v27, v28) ∧ k v0 v1 v2 v3 v4 v5 v6 v7 v8 v9 v10 v11 v12 v13 v14 v15 v16 v17 v18 v19 v20 v21 v22 v23 v24 v25 v26 v27 v28 = some r := by
  cases f with
  | none => cases h
  | some z => exact ⟨z.1, z.2.1, z.2.2.1, z.2.2.2.1, z.2.2.2.2.1, z.2.2.2.2.2.1, z.2.2.2.2.2.2.1, z.2.2.2.2.2.2.2.1, z.2.2.2.2.2.2.2.2.1, z.2.2.2.2.2.2.2.2.2.1, z.2.2.2.2.2.2.2.2.2.2.1, z.2.2.2.2.2.2.2.2.2.2.2.1, z.2.2.2.2.2.2.2.2.2.2.2.2.1, z.2.2.2.2.2.2.2.2.2.2.2.2.2.1, z.2.2.2.2.2.2.2.2.2.2.2.2.2.2.1, z.2.2.2.2.2.2.2.2.2.2.2.2.2.2.2.1, z.2.2.2.2.2.2.2.2.2.2.2.2.2.2.2.2.1, z.2.2.2.2.2.2.2.2.2.2.2.2.2.2.2.2.2.1, z.2.2.2.2.2.2.2.2.2.2.2.2.2.2.2.2.2.2.1, z.2.2.2.2.2.2.2.2.2.2.2.2.2.2.2.2.2.2.2.1, z.2.2.2.2.2.2.2.2.2.2.2.2.2.2.2.2.2.2.2.2.1, z.2.2.2.2.2.2.2.2.2.2.2.2.2.2.2.2.2.2.2.2.2.1, z.2.2.2.2.2.2.2.2.2.2.2.2.2.2.2.2.2.2.2.2.2.2.1, z.2.2.2.2.2.2.2.2.2.2.2.2.2.2.2.2.2.2.2.2.2.2.2.1, z.2.2.2.2.2.2.2.2.2.2.2.2.2.2.2.2.2.2.2.2.2.2.2.2.1, z.2.2.2.2.2.2.2.2.2.2.2.2.2.2.2.2.2.2.2.2.2.2.2.2.2.1, z.2.2.2.2.2.2.2.2.2.2.2.2.2.2.2.2.2.2.2.2.2.2.2.2.2.2.1, z.2.2.2.2.2.2.2.2.2.2.2.2.2.2.2.2.2.2.2.2.2.2.2.2.2.2.2.1, z.2.2.2.2.2.2.2.2.2.2.2.2.2.2.2.2.2.2.2.2.2.2.2.2.2.2.2.2, rfl, h⟩
def ob30 {T0 T1 T2 T3 T4 T5 T6 T7 T8 T9 T10 T11 T12 T13 T14 T15 T16 T17 T18 T19 T20 T21 T22 T23 T24 T25 T26 T27 T28 T29 β : Type} (f : Option (T0 × T1 × T2 × T3 × T4 × T5 × T6 × T7 × T8 × T9 × T10 × T11 × T12 × T13 × T14 × T15 × T16 × T17 × T18 × T19 × T20 × T21 × T22 × T23 × T24 × T25 × T26 × T27 × T28 × T29)) (k : T0 → T1 → T2 → T3 → T4 → T5 → T6 → T7 → T8 → T9 → T10 → T11 → T12 → T13 → T14 → T15 → T16 → T17 → T18 → T19 → T20 → T21 → T22 → T23 → T24 → T25 → T26 → T27 → T28 → T29 → Option β) : Option β := match f with
  | none => none
  | some z => k z.1 z.2.1 z.2.2.1 z.2.2.2.1 z.2.2.2.2.1 z.2.2.2.2.2.1 z.2.2.2.2.2.2.1 z.2.2.2.2.2.2.2.1 z.2.2.2.2.2.2.2.2.1 z.2.2.2.2.2.2.2.2.2.1 z.2.2.2.2.2.2.2.2.2.2.1 z.2.2.2.2.2.2.2.2.2.2.2.1 z.2.2.2.2.2.2.2.2.2.2.2.2.1 z.2.2.2.2.2.2.2.2.2.2.2.2.2.1 z.2.2.2.2.2.2.2.2.2.2.2.2.2.2.1 z.2.2.2.2.2.2.2.2.2.2.2.2.2.2.2.1 z.2.2.2.2.2.2.2.2.2.2.2.2.2.2.2.2.1 z.2.2.2.2.2.2.2.2.2.2.2.2.2.2.2.2.2.1 z.2.2.2.2.2.2.2.2.2.2.2.2.2.2.2.2.2.2.1 z.2.2.2.2.2.2.2.2.2.2.2.2.2.2.2.2.2.2.2.1 z.2.2.2.2.2.2.2.2.2.2.2.2.2.2.2.2.2.2.2.2.1 z.2.2.2.2.2.2.2.2.2.2.2.2.2.2.2.2.2.2.2.2.2.1 z.2.2.2.2.2.2.2.2.2.2.2.2.2.2.2.2.2.2.2.2.2.2.1 z.2.2.2.2.2.2.2.2.2.2.2.2.2.2.2.2.2.2.2.2.2.2.2.1 z.2.2.2.2.2.2.2.2.2.2.2.2.2.2.2.2.2.2.2.2.2.2.2.2.1 z.2.2.2.2.2.2.2.2.2.2.2.2.2.2.2.2.2.2.2.2.2.2.2.2.2.1 z.2.2.2.2.2.2.2.2.2.2.2.2.2.2.2.2.2.2.2.2.2.2.2.2.2.2.1 z.2.2.2.2.2.2.2.2.2.2.2.2.2.2.2.2.2.2.2.2.2.2.2.2.2.2.2.1 z.2.2.2.2.2.2.2.2.2.2.2.2.2.2.2.2.2.2.2.2.2.2.2.2.2.2.2.2.1 z.2.2.2.2.2.2.2.2.2.2.2.2.2.2.2.2.2.2.2.2.2.2.2.2.2.2.2.2.2
theorem ob30_el {T0 T1 T2 T3 T4 T5 T6 T7 T8 T9 T10 T11 T12 T13 T14 T15 T16 T17 T18 T19 T20 T21 T22 T23 T24 T25 T26 T27 T28 T29 β : Type} {f : Option (T0 × T1 × T2 × T3 × T4 × T5 × T6 × T7 × T8 × T9 × T10 × T11 × T12 × T13 × T14 × T15 × T16 × T17 × T18 × T19 × T20 × T21 × T22 × T23 × T24 × T25 × T26 × T27 × T28 × T29)} {k : T0 → T1 → T2 → T3 → T4 → T5 → T6 → T7 → T8 → T9 → T10 → T11 → T12 → T13 → T14 → T15 → T16 → T17 → T18 → T19 → T20 → T21 → T22 → T23 → T24 → T25 → T26 → T27 → T28 → T29 → Option β} {r : β} (h : ob30 f k = some r) : ∃ v0 v1 v2 v3 v4 v5 v6 v7 v8 v9 v10 v11 v12 v13 v14 v15 v16 v17 v18 v19 v20 v21 v22 v23 v24 v25 v26 v27 v28 v29, f = some (v0, v1, v2, v3, v4, v5, v6, v7, v8, v9, v10, v11, v12, v13, v14, v15, v16, v17, v18, v19, v20, v21, v22, v23, v24, v25, v26, v27, v28, v29) ∧ k v0 v1 v2 v3 v4 v5 v6 v7 v8 v9 v10 v11 v12 v13 v14 v15 v16 v17 v18 v19 v20 v21 v22 v23 v24 v25 v26 v27 v28 v29 = some r := by
  cases f with
  | none => cases h
  | some z => exact ⟨z.1, z.2.1, z.2.2.1, z.2.2.2.1, z.2.2.2.2.1, z.2.2.2.2.2.1, z.2.2.2.2.2.2.1, z.2.2.2.2.2.2.2.1, z.2.2.2.2.2.2.2.2.1, z.2.2.2.2.2.2.2.2.2.1, z.2.2.2.2.2.2.2.2.2.2.1, z.2.2.2.2.2.2.2.2.2.2.2.1, z.2.2.2.2.2.2.2.2.2.2.2.2.1, z.2.2.2.2.2.2.2.2.2.2.2.2.2.1, z.2.2.2.2.2.2.2.2.2.2.2.2.2.2.1, z.2.2.2.2.2.2.2.2.2.2.2.2.2.2.2.1, z.2.2.2.2.2.2.2.2.2.2.2.2.2.2.2.2.1, z.2.2.2.2.2.2.2.2.2.2.2.2.2.2.2.2.2.1, z.2.2.2.2.2.2.2.2.2.2.2.2.2.2.2.2.2.2.1, z.2.2.2.2.2.2.2.2.2.2.2.2.2.2.2.2.2.2.2.1, z.2.2.2.2.2.2.2.2.2.2.2.2.2.2.2.2.2.2.2.2.1, z.2.2.2.2.2.2.2.2.2.2.2.2.2.2.2.2.2.2.2.2.2.1, z.2.2.2.2.2.2.2.2.2.2.2.2.2.2.2.2.2.2.2.2.2.2.1, z.2.2.2.2.2.2.2.2.2.2.2.2.2.2.2.2.2.2.2.2.2.2.2.1, z.2.2.2.2.2.2.2.2.2.2.2.2.2.2.2.2.2.2.2.2.2.2.2.2.1, z.2.2.2.2.2.2.2.2.2.2.2.2.2.2.2.2.2.2.2.2.2.2.2.2.2.1, z.2.2.2.2.2.2.2.2.2.2.2.2.2.2.2.2.2.2.2.2.2.2.2.2.2.2.1, z.2.2.2.2.2.2.2.2.2.2.2.2.2.2.2.2.2.2.2.2.2.2.2.2.2.2.2.1, z.2.2.2.2.2.2.2.2.2.2.2.2.2.2.2.2.2.2.2.2.2.2.2.2.2.2.2.2.1, z.2.2.2.2.2.2.2.2.2.2.2.2.2.2.2.2.2.2.2.2.2.2.2.2.2.2.2.2.2, rfl, h⟩
def ob31 {T0 T1 T2 T3 T4 T5 T6 T7 T8 T9 T10 T11 T12 T13 T14 T15 T16 T17 T18 T19 T20 T21 T22 T23 T24 T25 T26 T27 T28 T29 T30 β : Type} (f : Option (T0 × T1 × T2 × T3 × T4 × T5 × T6 × T7 × T8 × T9 × T10 × T11 × T12 × T13 × T14 × T15 × T16 × T17 × T18 × T19 × T20 × T21 × T22 × T23 × T24 × T25 × T26 × T27 × T28 × T29 × T30)) (k : T0 → T1 → T2 → T3 → T4 → T5 → T6 → T7 → T8 → T9 → T10 → T11 → T12 → T13 → T14 → T15 → T16 → T17 → T18 → T19 → T20 → T21 → T22 → T23 → T24 → T25 → T26 → T27 → T28 → T29 → T30 → Option β) : Option β := match f with
  | none => none
  | some z => k z.1 z.2.1 z.2.2.1 z.2.2.2.1 z.2.2.2.2.1 z.2.2.2.2.2.1 z.2.2.2.2.2.2.1 z.2.2.2.2.2.2.2.1 z.2.2.2.2.2.2.2.2.1 z.2.2.2.2.2.2.2.2.2.1 z.2.2.2.2.2.2.2.2.2.2.1 z.2.2.2.2.2.2.2.2.2.2.2.1 z.2.2.2.2.2.2.2.2.2.2.2.2.1 z.2.2.2.2.2.2.2.2.2.2.2.2.2.1 z.2.2.2.2.2.2.2.2.2.2.2.2.2.2.1 z.2.2.2.2.2.2.2.2.2.2.2.2.2.2.2.1 z.2.2.2.2.2.2.2.2.2.2.2.2.2.2.2.2.1 z.2.2.2.2.2.2.2.2.2.2.2.2.2.2.2.2.2.1 z.2.2.2.2.2.2.2.2.2.2.2.2.2.2.2.2.2.2.1 z.2.2.2.2.2.2.2.2.2.2.2.2.2.2.2.2.2.2.2.1 z.2.2.2.2.2.2.2.2.2.2.2.2.2.2.2.2.2.2.2.2.1 z.2.2.2.2.2.2.2.2.2.2.2.2.2.2.2.2.2.2.2.2.2.1 z.2.2.2.2.2.2.2.2.2.2.2.2.2.2.2.2.2.2.2.2.2.2.1 z.2.2.2.2.2.2.2.2.2.2.2.2.2.2.2.2.2.2.2.2.2.2.2.1 z.2.2.2.2.2.2.2.2.2.2.2.2.2.2.2.2.2.2.2.2.2.2.2.2.1 z.2.2.2.2.2.2.2.2.2.2.2.2.2.2.2.2.2.2.2.2.2.2.2.2.2.1 z.2.2.2.2.2.2.2.2.2.2.2.2.2.2.2.2.2.2.2.2.2.2.2.2.2.2.1 z.2.2.2.2.2.2.2.2.2.2.2.2.2.2.2.2.2.2.2.2.2.2.2.2.2.2.2.1 z.2.2.2.2.2.2.2.2.2.2.2.2.2.2.2.2.2.2.2.2.2.2.2.2.2.2.2.2.1 z.2.2.2.2.2.2.2.2.2.2.2.2.2.2.2.2.2.2.2.2.2.2.2.2.2.2.2.2.2.1 z.2.2.2.2.2.2.2.2.2.2.2.2.2.2.2.2.2.2.2.2.2.2.2.2.2.2.2.2.2.2
theorem ob31_el {T0 T1 T2 T3 T4 T5 T6 T7 T8 T9 T10 T11 T12 T13 T14 T15 T16 T17 T18 T19 T20 T21 T22 T23 T24 T25 T26 T27 T28 T29 T30 β : Type} {f : Option (T0 × T1 × T2 × T3 × T4 × T5 × T6 × T7 × T8 × T9 × T10 × T11 × T12 × T13 × T14 × T15 × T16 × T17 × T18 × T19 × T20 × T21 × T22 × T23 × T24 × T25 × T26 × T27 × T28 × T29 × T30)} {k : T0 → T1 → T2 → T3 → T4 → T5 → T6 → T7 → T8 → T9 → T10 → T11 → T12 → T13 → T14 → T15 → T16 → T17 → T18 → T19 → T20 → T21 → T22 → T23 → T24 → T25 → T26 → T27 → T28 → T29 → T30 → Option β} {r : β} (h : ob31 f k = some r) : ∃ v0 v1 v2 v3 v4 v5 v6 v7 v8 v9 v10 v11 v12 v13 v14 v15 v16 v17 v18 v19 v20 v21 v22 v23 v24 v25 v26 v27 v28 v29 v30, f = some (v0, v1, v2, v3, v4, v5, v6, v7, v8, v9, v10, v11, v12, v13, v14, v15, v16, v17, v18, v19, v20, v21, v22, v23, v24, v25, v26, v27, v28, v29, v30) ∧ k v0 v1 v2 v3 v4 v5 v6 v7 v8 v9 v10 v11 v12 v13 v14 v15 v16 v17 v18 v19 v20 v21 v22 v23 v24 v25 v26 v27 v28 v29 v30 = some r := by
  cases f with
  | none => cases h
  | some z => exact ⟨z.1, z.2.1, z.2.2.1, z.2.2.2.1, z.2.2.2.2.1, z.2.2.2.2.2.1, z.2.2.2.2.2.2.1, z.2.2.2.2.2.2.2.1, z.2.2.2.2.2.2.2.2.1, z.2.2.2.2.2.2.2.2.2.1, z.2.2.2.2.2.2.2.2.2.2.1, z.2.2.2.2.2.2.2.2.2.2.2.1, z.2.2.2.2.2.2.2.2.2.2.2.2.1, z.2.2.2.2.2.2.2.2.2.2.2.2.2.1, z.2.2.2.2.2.2.2.2.2.2.2.2.2.2.1, z.2.2.2.2.2.2.2.2.2.2.2.2.2.2.2.1, z.2.2.2.2.2.2.2.2.2.2.2.2.2.2.2.2.1, z.2.2.2.2.2.2.2.2.2.2.2.2.2.2.2.2.2.1, z.2.2.2.2.2.2.2.2.2.2.2.2.2.2.2.2.2.2.1, z.2.2.2.2.2.2.2.2.2.2.2.2.2.2.2.2.2.2.2.1, z.2.2.2.2.2.2.2.2.2.2.2.2.2.2.2.2.2.2.2.2.1, z.2.2.2.2.2.2.2.2.2.2.2.2.2.2.2.2.2.2.2.2.2.1, z.2.2.2.2.2.2.2.2.2.2.2.2.2.2.2.2.2.2.2.2.2.2.1, z.2.2.2.2.2.2.2.2.2.2.2.2.2.2.2.2.2.2.2.2.2.2.2.1, z.2.2.2.2.2.2.2.2.2.2.2.2.2.2.2.2.2.2.2.2.2.2.2.2.1, z.2.2.2.2.2.2.2.2.2.2.2.2.2.2.2.2.2.2.2.2.2.2.2.2.2.1, z.2.2.2.2.2.2.2.2.2.2.2.2.2.2.2.2.2.2.2.2.2.2.2.2.2.2.1, z.2.2.2.2.2.2.2.2.2.2.2.2.2.2.2.2.2.2.2.2.2.2.2.2.2.2.2.1, z.2.2.2.2.2.2.2.2.2.2.2.2.2.2.2.2.2.2.2.2.2.2.2.2.2.2.2.2.1, z.2.2.2.2.2.2.2.2.2.2.2.2.2.2.2.2.2.2.2.2.2.2.2.2.2.2.2.2.2.1, z.2.2.2.2.2.2.2.2.2.2.2.2.2.2.2.2.2.2.2.2.2.2.2.2.2.2.2.2.2.2, rfl, h⟩
def ob32 {T0 T1 T2 T3 T4 T5 T6 T7 T8 T9 T10 T11 T12 T13 T14 T15 T16 T17 T18 T19 T20 T21 T22 T23 T24 T25 T26 T27 T28 T29 T30 T31 β : Type} (f : Option (T0 × T1 × T2 × T3 × T4 × T5 × T6 × T7 × T8 × T9 × T10 × T11 × T12 × T13 × T14 × T15 × T16 × T17 × T18 × T19 × T20 × T21 × T22 × T23 × T24 × T25 × T26 × T27 × T28 × T29 × T30 × T31)) (k : T0 → T1 → T2 → T3 → T4 → T5 → T6 → T7 → T8 → T9 → T10 → T11 → T12 → T13 → T14 → T15 → T16 → T17 → T18 → T19 → T20 → T21 → T22 → T23 → T24 → T25 → T26 → T27 → T28 → T29 → T30 → T31 → Option β) : Option β := match f with
  | none => none
  | some z => k z.1 z.2.1 z.2.2.1 z.2.2.2.1 z.2.2.2.2.1 z.2.2.2.2.2.1 z.2.2.2.2.2.2.1 z.2.2.2.2.2.2.2.1 z.2.2.2.2.2.2.2.2.1 z.2.2.2.2.2.2.2.2.2.1 z.2.2.2.2.2.2.2.2.2.2.1 z.2.2.2.2.2.2.2.2.2.2.2.1 z.2.2.2.2.2.2.2.2.2.2.2.2.1 z.2.2.2.2.2.2.2.2.2.2.2.2.2.1 z.2.2.2.2.2.2.2.2.2.2.2.2.2.2.1 z.2.2.2.2.2.2.2.2.2.2.2.2.2.2.2.1 z.2.2.2.2.2.2.2.2.2.2.2.2.2.2.2.2.1 z.2.2.2.2.2.2.2.2.2.2.2.2.2.2.2.2.2.1 z.2.2.2.2.2.2.2.2.2.2.2.2.2.2.2.2.2.2.1 z.2.2.2.2.2.2.2.2.2.2.2.2.2.2.2.2.2.2.2.1 z.2.2.2.2.2.2.2.2.2.2.2.2.2.2.2.2.2.2.2.2.1 z.2.2.2.2.2.2.2.2.2.2.2.2.2.2.2.2.2.2.2.2.2.1 z.2.2.2.2.2.2.2.2.2.2.2.2.2.2.2.2.2.2.2.2.2.2.1 z.2.2.2.2.2.2.2.2.2.2.2.2.2.2.2.2.2.2.2.2.2.2.2.1 z.2.2.2.2.2.2.2.2.2.2.2.2.2.2.2.2.2.2.2.2.2.2.2.2.1 z.2.2.2.2.2.2.2.2.2.2.2.2.2.2.2.2.2.2.2.2.2.2.2.2.2.1 z.2.2.2.2.2.2.2.2.2.2.2.2.2.2.2.2.2.2.2.2.2.2.2.2.2.2.1 z.2.2.2.2.2.2.2.2.2.2.2.2.2.2.2.2.2.2.2.2.2.2.2.2.2.2.2.1 z.2.2.2.2.2.2.2.2.2.2.2.2.2.2.2.2.2.2.2.2.2.2.2.2.2.2.2.2.1 z.2.2.2.2.2.2.2.2.2.2.2.2.2.2.2.2.2.2.2.2.2.2.2.2.2.2.2.2.2.1 z.2.2.2.2.2.2.2.2.2.2.2.2.2.2.2.2.2.2.2.2.2.2.2.2.2.2.2.2.2.2.1 z.2.2.2.2.2.2.2.2.2.2.2.2.2.2.2.2.2.2.2.2.2.2.2.2.2.2.2.2.2.2.2
theorem ob32_el {T0 T1 T2 T3 T4 T5 T6 T7 T8 T9 T10 T11 T12 T13 T14 T15 T16 T17 T18 T19 T20 T21 T22 T23 T24 T25 T26 T27 T28 T29 T30 T31 β : Type} {f : Option (T0 × T1 × T2 × T3 × T4 × T5 × T6 × T7 × T8 × T9 × T10 × T11 × T12 × T13 × T14 × T15 × T16 × T17 × T18 × T19 × T20 × T21 × T22 × T23 × T24 × T25 × T26 × T27 × T28 × T29 × T30 × T31)} {k : T0 → T1 → T2 → T3 → T4 → T5 → T6 → T7 → T8 → T9 → T10 → T11 → T12 → T13 → T14 → T15 → T16 → T17 → T18 → T19 → T20 → T21 → T22 → T23 → T24 → T25 → T26 → T27 → T28 → T29 → T30 → T31 → Option β} {r : β} (h : ob32 f k = some r) : ∃ v0 v1 v2 v3 v4 v5 v6 v7 v8 v9 v10 v11 v12 v13 v14 v15 v16 v17 v18 v19 v20 v21 v22 v23 v24 v25 v26 v27 v28 v29 v30 v31, f = some (v0, v1, v2, v3, v4, v5, v6, v7, v8, v9, v10, v11, v12, v13, v14, v15, v16, v17, v18, v19, v20, v21, v22, v23, v24, v25, v26, v27, v28, v29, v30, v31) ∧ k v0 v1 v2 v3 v4 v5 v6 v7 v8 v9 v10 v11 v12 v13 v14 v15 v16 v17 v18 v19 v20 v21 v22 v23 v24 v25 v26 v27 v28 v29 v30 v31 = some r := by
  cases f with
  | none => cases h
  | some z => exact ⟨z.1, z.2.1, z.2.2.1, z.2.2.2.1, z.2.2.2.2.1, z.2.2.2.2.2.1, z.2.2.2.2.2.2.1, z.2.2.2.2.2.2.2.1, z.2.2.2.2.2.2.2.2.1, z.2.2.2.2.2.2.2.2.2.1, z.2.2.2.2.2.2.2.2.2.2.1, z.2.2.2.2.2.2.2.2.2.2.2.1, z.2.2.2.2.2.2.2.2.2.2.2.2.1, z.2.2.2.2.2.2.2.2.2.2.2.2.2.1, z.2.2.2.2.2.2.2.2.2.2.2.2.2.2.1, z.2.2.2.2.2.2.2.2.2.2.2.2.2.2.2.1, z.2.2.2.2.2.2.2.2.2.2.2.2.2.2.2.2.1, z.2.2.2.2.2.2.2.2.2.2.2.2.2.2.2.2.2.1, z.2.2.2.2.2.2.2.2.2.2.2.2.2.2.2.2.2.2.1, z.2.2.2.2.2.2.2.2.2.2.2.2.2.2.2.2.2.2.2.1, z.2.2.2.2.2.2.2.2.2.2.2.2.2.2.2.2.2.2.2.2.1, z.2.2.2.2.2.2.2.2.2.2.2.2.2.2.2.2.2.2.2.2.2.1, z.2.2.2.2.2.2.2.2.2.2.2.2.2.2.2.2.2.2.2.2.2.2.1, z.2.2.2.2.2.2.2.2.2.2.2.2.2.2.2.2.2.2.2.2.2.2.2.1, z.2.2.2.2.2.2.2.2.2.2.2.2.2.2.2.2.2.2.2.2.2.2.2.2.1, z.2.2.2.2.2.2.2.2.2.2.2.2.2.2.2.2.2.2.2.2.2.2.2.2.2.1, z.2.2.2.2.2.2.2.2.2.2.2.2.2.2.2.2.2.2.2.2.2.2.2.2.2.2.1, z.2.2.2.2.2.2.2.2.2.2.2.2.2.2.2.2.2.2.2.2.2.2.2.2.2.2.2.1, z.2.2.2.2.2.2.2.2.2.2.2.2.2.2.2.2.2.2.2.2.2.2.2.2.2.2.2.2.1, z.2.2.2.2.2.2.2.2.2.2.2.2.2.2.2.2.2.2.2.2.2.2.2.2.2.2.2.2.2.1, z.2.2.2.2.2.2.2.2.2.2.2.2.2.2.2.2.2.2.2.2.2.2.2.2.2.2.2.2.2.2.1, z.2.2.2.2.2.2.2.2.2.2.2.2.2.2.2.2.2.2.2.2.2.2.2.2.2.2.2.2.2.2.2, rfl, h⟩
def ob33 {T0 T1 T2 T3 T4 T5 T6 T7 T8 T9 T10 T11 T12 T13 T14 T15 T16 T17 T18 T19 T20 T21 T22 T23 T24 T25 T26 T27 T28 T29 T30 T31 T32 β : Type} (f : Option (T0 × T1 × T2 × T3 × T4 × T5 × T6 × T7 × T8 × T9 × T10 × T11 × T12 × T13 × T14 × T15 × T16 × T17 × T18 × T19 × T20 × T21 × T22 × T23 × T24 × T25 × T26 × T27 × T28 × T29 × T30 × T31 × T32)) (k : T0 → T1 → T2 → T3 → T4 → T5 → T6 → T7 → T8 → T9 → T10 → T11 → T12 → T13 → T14 → T15 → T16 → T17 → T18 → T19 → T20 → T21 → T22 → T23 → T24 → T25 → T26 → T27 → T28 → T29 → T30 → T31 → T32 → Option β) : Option β := match f with
  | none => none
  | some z => k z.1 z.2.1 z.2.2.1 z.2.2.2.1 z.2.2.2.2.1 z.2.2.2.2.2.1 z.2.2.2.2.2.2.1 z.2.2.2.2.2.2.2.1 z.2.2.2.2.2.2.2.2.1 z.2.2.2.2.2.2.2.2.2.1 z.2.2.2.2.2.2.2.2.2.2.1 z.2.2.2.2.2.2.2.2.2.2.2.1 z.2.2.2.2.2.2.2.2.2.2.2.2.1 z.2.2.2.2.2.2.2.2.2.2.2.2.2.1 z.2.2.2.2.2.2.2.2.2.2.2.2.2.2.1 z.2.2.2.2.2.2.2.2.2.2.2.2.2.2.2.1 z.2.2.2.2.2.2.2.2.2.2.2.2.2.2.2.2.1 z.2.2.2.2.2.2.2.2.2.2.2.2.2.2.2.2.2.1 z.2.2.2.2.2.2.2.2.2.2.2.2.2.2.2.2.2.2.1 z.2.2.2.2.2.2.2.2.2.2.2.2.2.2.2.2.2.2.2.1 z.2.2.2.2.2.2.2.2.2.2.2.2.2.2.2.2.2.2.2.2.1 z.2.2.2.2.2.2.2.2.2.2.2.2.2.2.2.2.2.2.2.2.2.1 z.2.2.2.2.2.2.2.2.2.2.2.2.2.2.2.2.2.2.2.2.2.2.1 z.2.2.2.2.2.2.2.2.2.2.2.2.2.2.2.2.2.2.2.2.2.2.2.1 z.2.2.2.2.2.2.2.2.2.2.2.2.2.2.2.2.2.2.2.2.2.2.2.2.1 z.2.2.2.2.2.2.2.2.2.2.2.2.2.2.2.2.2.2.2.2.2.2.2.2.2.1 z.2.2.2.2.2.2.2.2.2.2.2.2.2.2.2.2.2.2.2.2.2.2.2.2.2.2.1 z.2.2.2.2.2.2.2.2.2.2.2.2.2.2.2.2.2.2.2.2.2.2.2.2.2.2.2.1 z.2.2.2.2.2.2.2.2.2.2.2.2.2.2.2.2.2.2.2.2.2.2.2.2.2.2.2.2.1 z.2.2.2.2.2.2.2.2.2.2.2.2.2.2.2.2.2.2.2.2.2.2.2.2.2.2.2.2.2.1 z.2.2.2.2.2.2.2.2.2.2.2.2.2.2.2.2.2.2.2.2.2.2.2.2.2.2.2.2.2.2.1 z.2.2.2.2.2.2.2.2.2.2.2.2.2.2.2.2.2.2.2.2.2.2.2.2.2.2.2.2.2.2.2.1 z.2.2.2.2.2.2.2.2.2.2.2.2.2.2.2.2.2.2.2.2.2.2.2.2.2.2.2.2.2.2.2.2
theorem ob33_el {T0 T1 T2 T3 T4 T5 T6 T7 T8 T9 T10 T11 T12 T13 T14 T15 T16 T17 T18 T19 T20 T21 T22 T23 T24 T25 T26 T27 T28 T29 T30 T31 T32 β : Type} {f : Option (T0 × T1 × T2 × T3 × T4 × T5 × T6 × T7 × T8 × T9 × T10 × T11 × T12 × T13 × T14 × T15 × T16 × T17 × T18 × T19 × T20 × T21 × T22 × T23 × T24 × T25 × T26 × T27 × T28 × T29 × T30 × T31 × T32)} {k : T0 → T1 → T2 → T3 → T4 → T5 → T6 → T7 → T8 → T9 → T10 → T11 → T12 → T13 → T14 → T15 → T16 → T17 → T18 → T19 → T20 → T21 → T22 → T23 → T24 → T25 → T26 → T27 → T28 → T29 → T30 → T31 → T32 → Option β} {r : β} (h : ob33 f k = some r) : ∃ v0 v1 v2 v3 v4 v5 v6 v7 v8 v9 v10 v11 v12 v13 v14 v15 v16 v17 v18 v19 v20 v21 v22 v23 v24 v25 v26 v27 v28 v29 v30 v31 v32, f = some (v0, v1, v2, v3, v4, v5, v6, v7, v8, v9, v10, v11, v12, v13, v14, v15, v16, v17, v18, v19, v20, v21, v22, v23, v24, v25, v26, v27, v28, v29, v30, v31, v32) ∧ k v0 v1 v2 v3 v4 v5 v6 v7 v8 v9 v10 v11 v12 v13 v14 v15 v16 v17 v18 v19 v20 v21 v22 v23 v24 v25 v26 v27 v28 v29 v30 v31 v32 = some r := by
  cases f with
  | none => cases h
  | some z => exact ⟨z.1, z.2.1, z.2.2.1, z.2.2.2.1, z.2.2.2.2.1, z.2.2.2.2.2.1, z.2.2.2.2.2.2.1, z.2.2.2.2.2.2.2.1, z.2.2.2.2.2.2.2.2.1, z.2.2.2.2.2.2.2.2.2.1, z.2.2.2.2.2.2.2.2.2.2.1, z.2.2.2.2.2.2.2.2.2.2.2.1, z.2.2.2.2.2.2.2.2.2.2.2.2.1, z.2.2.2.2.2.2.2.2.2.2.2.2.2.1, z.2.2.2.2.2.2.2.2.2.2.2.2.2.2.1, z.2.2.2.2.2.2.2.2.2.2.2.2.2.2.2.1, z.2.2.2.2.2.2.2.2.2.2.2.2.2.2.2.2.1, z.2.2.2.2.2.2.2.2.2.2.2.2.2.2.2.2.2.1, z.2.2.2.2.2.2.2.2.2.2.2.2.2.2.2.2.2.2.1, z.2.2.2.2.2.2.2.2.2.2.2.2.2.2.2.2.2.2.2.1, z.2.2.2.2.2.2.2.2.2.2.2.2.2.2.2.2.2.2.2.2.1, z.2.2.2.2.2.2.2.2.2.2.2.2.2.2.2.2.2.2.2.2.2.1, z.2.2.2.2.2.2.2.2.2.2.2.2.2.2.2.2.2.2.2.2.2.2.1, z.2.2.2.2.2.2.2.2.2.2.2.2.2.2.2.2.2.2.2.2.2.2.2.1, z.2.2.2.2.2.2.2.2.2.2.2.2.2.2.2.2.2.2.2.2.2.2.2.2.1, z.2.2.2.2.2.2.2.2.2.2.2.2.2.2.2.2.2.2.2.2.2.2.2.2.2.1, z.2.2.2.2.2.2.2.2.2.2.2.2.2.2.2.2.2.2.2.2.2.2.2.2.2.2.1, z.2.2.2.2.2.2.2.2.2.2.2.2.2.2.2.2.2.2.2.2.2.2.2.2.2.2.2.1, z.2.2.2.2.2.2.2.2.2.2.2.2.2.2.2.2.2.2.2.2.2.2.2.2.2.2.2.2.1, z.2.2.2.2.2.2.2.2.2.2.2.2.2.2.2.2.2.2.2.2.2.2.2.2.2.2.2.2.2.1, z.2.2.2.2.2.2.2.2.2.2.2.2.2.2.2.2.2.2.2.2.2.2.2.2.2.2.2.2.2.2.1, z.2.2.2.2.2.2.2.2.2.2.2.2.2.2.2.2.2.2.2.2.2.2.2.2.2.2.2.2.2.2.2.1, z.2.2.2.2.2.2.2.2.2.2.2.2.2.2.2.2.2.2.2.2.2.2.2.2.2.2.2.2.2.2.2.2, rfl, h⟩
def ob34 {T0 T1 T2 T3 T4 T5 T6 T7 T8 T9 T10 T11 T12 T13 T14 T15 T16 T17 T18 T19 T20 T21 T22 T23 T24 T25 T26 T27 T28 T29 T30 T31 T32 T33 β : Type} (f : Option (T0 × T1 × T2 × T3 × T4 × T5 × T6 × T7 × T8 × T9 × T10 × T11 × T12 × T13 × T14 × T15 × T16 × T17 × T18 × T19 × T20 × T21 × T22 × T23 × T24 × T25 × T26 × T27 × T28 × T29 × T30 × T31 × T32 × T33)) (k : T0 → T1 → T2 → T3 → T4 → T5 → T6 → T7 → T8 → T9 → T10 → T11 → T12 → T13 → T14 → T15 → T16 → T17 → T18 → T19 → T20 → T21 → T22 → T23 → T24 → T25 → T26 → T27 → T28 → T29 → T30 → T31 → T32 → T33 → Option β) : Option β := match f with
  | none => none
  | some z => k z.1 z.2.1 z.2.2.1 z.2.2.2.1 z.2.2.2.2.1 z.2.2.2.2.2.1 z.2.2.2.2.2.2.1 z.2.2.2.2.2.2.2.1 z.2.2.2.2.2.2.2.2.1 z.2.2.2.2.2.2.2.2.2.1 z.2.2.2.2.2.2.2.2.2.2.1 z.2.2.2.2.2.2.2.2.2.2.2.1 z.2.2.2.2.2.2.2.2.2.2.2.2.1 z.2.2.2.2.2.2.2.2.2.2.2.2.2.1 z.2.2.2.2.2.2.2.2.2.2.2.2.2.2.1 z.2.2.2.2.2.2.2.2.2.2.2.2.2.2.2.1 z.2.2.2.2.2.2.2.2.2.2.2.2.2.2.2.2.1 z.2.2.2.2.2.2.2.2.2.2.2.2.2.2.2.2.2.1 z.2.2.2.2.2.2.2.2.2.2.2.2.2.2.2.2.2.2.1 z.2.2.2.2.2.2.2.2.2.2.2.2.2.2.2.2.2.2.2.1 z.2.2.2.2.2.2.2.2.2.2.2.2.2.2.2.2.2.2.2.2.1 z.2.2.2.2.2.2.2.2.2.2.2.2.2.2.2.2.2.2.2.2.2.1 z.2.2.2.2.2.2.2.2.2.2.2.2.2.2.2.2.2.2.2.2.2.2.1 z.2.2.2.2.2.2.2.2.2.2.2.2.2.2.2.2.2.2.2.2.2.2.2.1 z.2.2.2.2.2.2.2.2.2.2.2.2.2.2.2.2.2.2.2.2.2.2.2.2.1 z.2.2.2.2.2.2.2.2.2.2.2.2.2.2.2.2.2.2.2.2.2.2.2.2.2.1 z.2.2.2.2.2.2.2.2.2.2.2.2.2.2.2.2.2.2.2.2.2.2.2.2.2.2.1 z.2.2.2.2.2.2.2.2.2.2.2.2.2.2.2.2.2.2.2.2.2.2.2.2.2.2.2.1 z.2.2.2.2.2.2.2.2.2.2.2.2.2.2.2.2.2.2.2.2.2.2.2.2.2.2.2.2.1 z.2.2.2.2.2.2.2.2.2.2.2.2.2.2.2.2.2.2.2.2.2.2.2.2.2.2.2.2.2.1 z.2.2.2.2.2.2.2.2.2.2.2.2.2.2.2.2.2.2.2.2.2.2.2.2.2.2.2.2.2.2.1 z.2.2.2.2.2.2.2.2.2.2.2.2.2.2.2.2.2.2.2.2.2.2.2.2.2.2.2.2.2.2.2.1 z.2.2.2.2.2.2.2.2.2.2.2.2.2.2.2.2.2.2.2.2.2.2.2.2.2.2.2.2.2.2.2.2.1 z.2.2.2.2.2.2.2.2.2.2.2.2.2.2.2.2.2.2.2.2.2.2.2.2.2.2.2.2.2.2.2.2.2
theorem ob34_el {T0 T1 T2 T3 T4 T5 T6 T7 T8 T9 T10 T11 T12 T13 T14 T15 T16 T17 T18 T19 T20 T21 T22 T23 T24 T25 T26 T27 T28 T29 T30 T31 T32 T33 β : Type} {f : Option (T0 × T1 × T2 × T3 × T4 × T5 × T6 × T7 × T8 × T9 × T10 × T11 × T12 × T13 × T14 × T15 × T16 × T17 × T18 × T19 × T20 × T21 × T22 × T23 × T24 × T25 × T26 × T27 × T28 × T29 × T30 × T31 × T32 × T33)} {k : T0 → T1 → T2 → T3 → T4 → T5 → T6 → T7 → T8 → T9 → T10 → T11 → T12 → T13 → T14 → T15 → T16 → T17 → T18 → T19 → T20 → T21 → T22 → T23 → T24 → T25 → T26 → T27 → T28 → T29 → T30 → T31 → T32 → T33 → Option β} {r : β} (h : ob34 f k = some r) : ∃ v0 v1 v2 v3 v4 v5 v6 v7 v8 v9 v10 v11 v12 v13 v14 v15 v16 v17 v18 v19 v20 v21 v22 v23 v24 v25 v26 v27 v28 v29 v30 v31 v32 v33, f = some (v0, v1, v2, v3, v4, v5, v6, v7, v8, v9, v10, v11, v12, v13, v14, v15, v16, v17, v18, v19, v20, v21, v22, v23, v24, v25, v26, v27, v28, v29, v30, v31, v32, v33) ∧ k v0 v1 v2 v3 v4 v5 v6 v7 v8 v9 v10 v11 v12 v13 v14 v15 v16 v17 v18 v19 v20 v21 v22 v23 v24 v25 v26 v27 v28 v29 v30 v31 v32 v33 = some r := by
  cases f with
  | none => cases h
  | some z => exact ⟨z.1, z.2.1, z.2.2.1, z.2.2.2.1, z.2.2.2.2.1, z.2.2.2.2.2.1, z.2.2.2.2.2.2.1, z.2.2.2.2.2.2.2.1, z.2.2.2.2.2.2.2.2.1, z.2.2.2.2.2.2.2.2.2.1, z.2.2.2.2.2.2.2.2.2.2.1, z.2.2.2.2.2.2.2.2.2.2.2.1, z.2.2.2.2.2.2.2.2.2.2.2.2.1, z.2.2.2.2.2.2.2.2.2.2.2.2.2.1, z.2.2.2.2.2.2.2.2.2.2.2.2.2.2.1, z.2.2.2.2.2.2.2.2.2.2.2.2.2.2.2.1, z.2.2.2.2.2.2.2.2.2.2.2.2.2.2.2.2.1, z.2.2.2.2.2.2.2.2.2.2.2.2.2.2.2.2.2.1, z.2.2.2.2.2.2.2.2.2.2.2.2.2.2.2.2.2.2.1, z.2.2.2.2.2.2.2.2.2.2.2.2.2.2.2.2.2.2.2.1, z.2.2.2.2.2.2.2.2.2.2.2.2.2.2.2.2.2.2.2.2.1, z.2.2.2.2.2.2.2.2.2.2.2.2.2.2.2.2.2.2.2.2.2.1, z.2.2.2.2.2.2.2.2.2.2.2.2.2.2.2.2.2.2.2.2.2.2.1, z.2.2.2.2.2.2.2.2.2.2.2.2.2.2.2.2.2.2.2.2.2.2.2.1, z.2.2.2.2.2.2.2.2.2.2.2.2.2.2.2.2.2.2.2.2.2.2.2.2.1, z.2.2.2.2.2.2.2.2.2.2.2.2.2.2.2.2.2.2.2.2.2.2.2.2.2.1, z.2.2.2.2.2.2.2.2.2.2.2.2.2.2.2.2.2.2.2.2.2.2.2.2.2.2.1, z.2.2.2.2.2.2.2.2.2.2.2.2.2.2.2.2.2.2.2.2.2.2.2.2.2.2.2.1, z.2.2.2.2.2.2.2.2.2.2.2.2.2.2.2.2.2.2.2.2.2.2.2.2.2.2.2.2.1, z.2.2.2.2.2.2.2.2.2.2.2.2.2.2.2.2.2.2.2.2.2.2.2.2.2.2.2.2.2.1, z.2.2.2.2.2.2.2.2.2.2.2.2.2.2.2.2.2.2.2.2.2.2.2.2.2.2.2.2.2.2.1, z.2.2.2.2.2.2.2.2.2.2.2.2.2.2.2.2.2.2.2.2.2.2.2.2.2.2.2.2.2.2.2.1, z.2.2.2.2.2.2.2.2.2.2.2.2.2.2.2.2.2.2.2.2.2.2.2.2.2.2.2.2.2.2.2.2.1, z.2.2.2.2.2.2.2.2.2.2.2.2.2.2.2.2.2.2.2.2.2.2.2.2.2.2.2.2.2.2.2.2.2, rfl, h⟩
def ob35 {T0 T1 T2 T3 T4 T5 T6 T7 T8 T9 T10 T11 T12 T13 T14 T15 T16 T17 T18 T19 T20 T21 T22 T23 T24 T25 T26 T27 T28 T29 T30 T31 T32 T33 T34 β : Type} (f : Option (T0 × T1 × T2 × T3 × T4 × T5 × T6 × T7 × T8 × T9 × T10 × T11 × T12 × T13 × T14 × T15 × T16 × T17 × T18 × T19 × T20 × T21 × T22 × T23 × T24 × T25 × T26 × T27 × T28 × T29 × T30 × T31 × T32 × T33 × T34)) (k : T0 → T1 → T2 → T3 → T4 → T5 → T6 → T7 → T8 → T9 → T10 → T11 → T12 → T13 → T14 → T15 → T16 → T17 → T18 → T19 → T20 → T21 → T22 → T23 → T24 → T25 → T26 → T27 → T28 → T29 → T30 → T31 → T32 → T33 → T34 → Option β) : Option β := match f with
  | none => none
  | some z => k z.1 z.2.1 z.2.2.1 z.2.2.2.1 z.2.2.2.2.1 z.2.2.2.2.2.1 z.2.2.2.2.2.2.1 z.2.2.2.2.2.2.2.1 z.2.2.2.2.2.2.2.2.1 z.2.2.2.2.2.2.2.2.2.1 z.2.2.2.2.2.2.2.2.2.2.1 z.2.2.2.2.2.2.2.2.2.2.2.1 z.2.2.2.2.2.2.2.2.2.2.2.2.1 z.2.2.2.2.2.2.2.2.2.2.2.2.2.1 z.2.2.2.2.2.2.2.2.2.2.2.2.2.2.1 z.2.2.2.2.2.2.2.2.2.2.2.2.2.2.2.1 z.2.2.2.2.2.2.2.2.2.2.2.2.2.2.2.2.1 z.2.2.2.2.2.2.2.2.2.2.2.2.2.2.2.2.2.1 z.2.2.2.2.2.2.2.2.2.2.2.2.2.2.2.2.2.2.1 z.2.2.2.2.2.2.2.2.2.2.2.2.2.2.2.2.2.2.2.1 z.2.2.2.2.2.2.2.2.2.2.2.2.2.2.2.2.2.2.2.2.1 z.2.2.2.2.2.2.2.2.2.2.2.2.2.2.2.2.2.2.2.2.2.1 z.2.2.2.2.2.2.2.2.2.2.2.2.2.2.2.2.2.2.2.2.2.2.1 z.2.2.2.2.2.2.2.2.2.2.2.2.2.2.2.2.2.2.2.2.2.2.2.1 z.2.2.2.2.2.2.2.2.2.2.2.2.2.2.2.2.2.2.2.2.2.2.2.2.1 z.2.2.2.2.2.2.2.2.2.2.2.2.2.2.2.2.2.2.2.2.2.2.2.2.2.1 z.2.2.2.2.2.2.2.2.2.2.2.2.2.2.2.2.2.2.2.2.2.2.2.2.2.2.1 z.2.2.2.2.2.2.2.2.2.2.2.2.2.2.2.2.2.2.2.2.2.2.2.2.2.2.2.1 z.2.2.2.2.2.2.2.2.2.2.2.2.2.2.2.2.2.2.2.2.2.2.2.2.2.2.2.2.1 z.2.2.2.2.2.2.2.2.2.2.2.2.2.2.2.2.2.2.2.2.2.2.2.2.2.2.2.2.2.1 z.2.2.2.2.2.2.2.2.2.2.2.2.2.2.2.2.2.2.2.2.2.2.2.2.2.2.2.2.2.2.1 z.2.2.2.2.2.2.2.2.2.2.2.2.2.2.2.2.2.2.2.2.2.2.2.2.2.2.2.2.2.2.2.1 z.2.2.2.2.2.2.2.2.2.2.2.2.2.2.2.2.2.2.2.2.2.2.2.2.2.2.2.2.2.2.2.2.1 z.2.2.2.2.2.2.2.2.2.2.2.2.2.2.2.2.2.2.2.2.2.2.2.2.2.2.2.2.2.2.2.2.2.1 z.2.2.2.2.2.2.2.2.2.2.2.2.2.2.2.2.2.2.2.2.2.2.2.2.2.2.2.2.2.2.2.2.2.2
theorem ob35_el {T0 T1 T2 T3 T4 T5 T6 T7 T8 T9 T10 T11 T12 T13 T14 T15 T16 T17 T18 T19 T20 T21 T22 T23 T24 T25 T26 T27 T28 T29 T30 T31 T32 T33 T34 β : Type} {f : Option (T0 × T1 × T2 × T3 × T4 × T5 × T6 × T7 × T8 × T9 × T10 × T11 × T12 × T13 × T14 × T15 × T16 × T17 × T18 × T19 × T20 × T21 × T22 × T23 × T24 × T25 × T26 × T27 × T28 × T29 × T30 × T31 × T32 × T33 × T34)} {k : T0 → T1 → T2 → T3 → T4 → T5 → T6 → T7 → T8 → T9 → T10 → T11 → T12 → T13 → T14 → T15 → T16 → T17 → T18 → T19 → T20 → T21 → T22 → T23 → T24 → T25 → T26 → T27 → T28 → T29 → T30 → T31 → T32 → T33 → T34 → Option β} {r : β} (h : ob35 f k = some r) : ∃ v0 v1 v2 v3 v4 v5 v6 v7 v8 v9 v10 v11 v12 v13 v14 v15 v16 v17 v18 v19 v20 v21 v22 v23 v24 v25 v26 v27 v28 v29 v30 v31 v32 v33 v34, f = some (v0, v1, v2, v3, v4, v5, v6, v7, v8, v9, v10, v11, v12, v13, v14, v15, v16, v17, v18, v19, v20, v21, v22, v23, v24, v25, v26, v27, v28, v29, v30, v31, v32, v33, v34) ∧ k v0 v1 v2 v3 v4 v5 v6 v7 v8 v9 v10 v11 v12 v13 v14 v15 v16 v17 v18 v19 v20 v21 v22 v23 v24 v25 v26 v27 v28 v29 v30 v31 v32 v33 v34 = some r := by
  cases f with
  | none => cases h
  | some z => exact ⟨z.1, z.2.1, z.2.2.1, z.2.2.2.1, z.2.2.2.2.1, z.2.2.2.2.2.1, z.2.2.2.2.2.2.1, z.2.2.2.2.2.2.2.1, z.2.2.2.2.2.2.2.2.1, z.2.2.2.2.2.2.2.2.2.1, z.2.2.2.2.2.2.2.2.2.2.1, z.2.2.2.2.2.2.2.2.2.2.2.1, z.2.2.2.2.2.2.2.2.2.2.2.2.1, z.2.2.2.2.2.2.2.2.2.2.2.2.2.1, z.2.2.2.2.2.2.2.2.2.2.2.2.2.2.1, z.2.2.2.2.2.2.2.2.2.2.2.2.2.2.2.1, z.2.2.2.2.2.2.2.2.2.2.2.2.2.2.2.2.1, z.2.2.2.2.2.2.2.2.2.2.2.2.2.2.2.2.2.1, z.2.2.2.2.2.2.2.2.2.2.2.2.2.2.2.2.2.2.1, z.2.2.2.2.2.2.2.2.2.2.2.2.2.2.2.2.2.2.2.1, z.2.2.2.2.2.2.2.2.2.2.2.2.2.2.2.2.2.2.2.2.1, z.2.2.2.2.2.2.2.2.2.2.2.2.2.2.2.2.2.2.2.2.2.1, z.2.2.2.2.2.2.2.2.2.2.2.2.2.2.2.2.2.2.2.2.2.2.1, z.2.2.2.2.2.2.2.2.2.2.2.2.2.2.2.2.2.2.2.2.2.2.2.1, z.2.2.2.2.2.2.2.2.2.2.2.2.2.2.2.2.2.2.2.2.2.2.2.2.1, z.2.2.2.2.2.2.2.2.2.2.2.2.2.2.2.2.2.2.2.2.2.2.2.2.2.1, z.2.2.2.2.2.2.2.2.2.2.2.2.2.2.2.2.2.2.2.2.2.2.2.2.2.2.1, z.2.2.2.2.2.2.2.2.2.2.2.2.2.2.2.2.2.2.2.2.2.2.2.2.2.2.2.1, z.2.2.2.2.2.2.2.2.2.2.2.2.2.2.2.2.2.2.2.2.2.2.2.2.2.2.2.2.1, z.2.2.2.2.2.2.2.2.2.2.2.2.2.2.2.2.2.2.2.2.2.2.2.2.2.2.2.2.2.1, z.2.2.2.2.2.2.2.2.2.2.2.2.2.2.2.2.2.2.2.2.2.2.2.2.2.2.2.2.2.2.1, z.2.2.2.2.2.2.2.2.2.2.2.2.2.2.2.2.2.2.2.2.2.2.2.2.2.2.2.2.2.2.2.1, z.2.2.2.2.2.2.2.2.2.2.2.2.2.2.2.2.2.2.2.2.2.2.2.2.2.2.2.2.2.2.2.2.1, z.2.2.2.2.2.2.2.2.2.2.2.2.2.2.2.2.2.2.2.2.2.2.2.2.2.2.2.2.2.2.2.2.2.1, z.2.2.2.2.2.2.2.2.2.2.2.2.2.2.2.2.2.2.2.2.2.2.2.2.2.2.2.2.2.2.2.2.2.2, rfl, h⟩
def ob36 {T0 T1 T2 T3 T4 T5 T6 T7 T8 T9 T10 T11 T12 T13 T14 T15 T16 T17 T18 T19 T20 T21 T22 T23 T24 T25 T26 T27 T28 T29 T30 T31 T32 T33 T34 T35 β : Type} (f : Option (T0 × T1 × T2 × T3 × T4 × T5 × T6 × T7 × T8 × T9 × T10 × T11 × T12 × T13 × T14 × T15 × T16 × T17 × T18 × T19 × T20 × T21 × T22 × T23 × T24 × T25 × T26 × T27 × T28 × T29 × T30 × T31 × T32 × T33 × T34 × T35)) (k : T0 → T1 → T2 → T3 → T4 → T5 → T6 → T7 → T8 → T9 → T10 → T11 → T12 → T13 → T14 → T15 → T16 → T17 → T18 → T19 → T20 → T21 → T22 → T23 → T24 → T25 → T26 → T27 → T28 → T29 → T30 → T31 → T32 → T33 → T34 → T35 → Option β) : Option β := match f with
  | none => none
  | some z => k z.1 z.2.1 z.2.2.1 z.2.2.2.1 z.2.2.2.2.1 z.2.2.2.2.2.1 z.2.2.2.2.2.2.1 z.2.2.2.2.2.2.2.1 z.2.2.2.2.2.2.2.2.1 z.2.2.2.2.2.2.2.2.2.1 z.2.2.2.2.2.2.2.2.2.2.1 z.2.2.2.2.2.2.2.2.2.2.2.1 z.2.2.2.2.2.2.2.2.2.2.2.2.1 z.2.2.2.2.2.2.2.2.2.2.2.2.2.1 z.2.2.2.2.2.2.2.2.2.2.2.2.2.2.1 z.2.2.2.2.2.2.2.2.2.2.2.2.2.2.2.1 z.2.2.2.2.2.2.2.2.2.2.2.2.2.2.2.2.1 z.2.2.2.2.2.2.2.2.2.2.2.2.2.2.2.2.2.1 z.2.2.2.2.2.2.2.2.2.2.2.2.2.2.2.2.2.2.1 z.2.2.2.2.2.2.2.2.2.2.2.2.2.2.2.2.2.2.2.1 z.2.2.2.2.2.2.2.2.2.2.2.2.2.2.2.2.2.2.2.2.1 z.2.2.2.2.2.2.2.2.2.2.2.2.2.2.2.2.2.2.2.2.2.1 z.2.2.2.2.2.2.2.2.2.2.2.2.2.2.2.2.2.2.2.2.2.2.1 z.2.2.2.2.2.2.2.2.2.2.2.2.2.2.2.2.2.2.2.2.2.2.2.1 z.2.2.2.2.2.2.2.2.2.2.2.2.2.2.2.2.2.2.2.2.2.2.2.2.1 z.2.2.2.2.2.2.2.2.2.2.2.2.2.2.2.2.2.2.2.2.2.2.2.2.2.1 z.2.2.2.2.2.2.2.2.2.2.2.2.2.2.2.2.2.2.2.2.2.2.2.2.2.2.1 z.2.2.2.2.2.2.2.2.2.2.2.2.2.2.2.2.2.2.2.2.2.2.2.2.2.2.2.1 z.2.2.2.2.2.2.2.2.2.2.2.2.2.2.2.2.2.2.2.2.2.2.2.2.2.2.2.2.1 z.2.2.2.2.2.2.2.2.2.2.2.2.2.2.2.2.2.2.2.2.2.2.2.2.2.2.2.2.2.1 z.2.2.2.2.2.2.2.2.2.2.2.2.2.2.2.2.2.2.2.2.2.2.2.2.2.2.2.2.2.2.1 z.2.2.2.2.2.2.2.2.2.2.2.2.2.2.2.2.2.2.2.2.2.2.2.2.2.2.2.2.2.2.2.1 z.2.2.2.2.2.2.2.2.2.2.2.2.2.2.2.2.2.2.2.2.2.2.2.2.2.2.2.2.2.2.2.2.1 z.2.2.2.2.2.2.2.2.2.2.2.2.2.2.2.2.2.2.2.2.2.2.2.2.2.2.2.2.2.2.2.2.2.1 z.2.2.2.2.2.2.2.2.2.2.2.2.2.2.2.2.2.2.2.2.2.2.2.2.2.2.2.2.2.2.2.2.2.2.1 z.2.2.2.2.2.2.2.2.2.2.2.2.2.2.2.2.2.2.2.2.2.2.2.2.2.2.2.2.2.2.2.2.2.2.2
theorem ob36_el {T0 T1 T2 T3 T4 T5 T6 T7 T8 T9 T10 T11 T12 T13 T14 T15 T16 T17 T18 T19 T20 T21 T22 T23 T24 T25 T26 T27 T28 T29 T30 T31 T32 T33 T34 T35 β : Type} {f : Option (T0 × T1 × T2 × T3 × T4 × T5 × T6 × T7 × T8 × T9 × T10 × T11 × T12 × T13 × T14 × T15 × T16 × T17 × T18 × T19 × T20 × T21 × T22 × T23 × T24 × T25 × T26 × T27 × T28 × T29 × T30 × T31 × T32 × T33 × T34 × T35)} {k : T0 → T1 → T2 → T3 → T4 → T5 → T6 → T7 → T8 → T9 → T10 → T11 → T12 → T13 → T14 → T15 → T16 → T17 → T18 → T19 → T20 → T21 → T22 → T23 → T24 → T25 → T26 → T27 → T28 → T29 → T30 → T31 → T32 → T33 → T34 → T35 → Option β} {r : β} (h : ob36 f k = some r) : ∃ v0 v1 v2 v3 v4 v5 v6 v7 v8 v9 v10 v11 v12 v13 v14 v15 v16 v17 v18 v19 v20 v21 v22 v23 v24 v25 v26 v27 v28 v29 v30 v31 v32 v33 v34 v35, f = some (v0, v1, v2, v3, v4, v5, v6, v7, v8, v9, v10, v11, v12, v13, v14, v15, v16, v17, v18, v19, v20, v21, v22, v23, v24, v25, v26, v27, v28, v29, v30, v31, v32, v33, v34, v35) ∧ k v0 v1 v2 v3 v4 v5 v6 v7 v8 v9 v10 v11 v12 v13 v14 v15 v16 v17 v18 v19 v20 v21 v22 v23 v24 v25 v26 v27 v28 v29 v30 v31 v32 v33 v34 v35 = some r := by
  cases f with
  | none => cases h
  | some z => exact ⟨z.1, z.2.1, z.2.2.1, z.2.2.2.1, z.2.2.2.2.1, z.2.2.2.2.2.1, z.2.2.2.2.2.2.1, z.2.2.2.2.2.2.2.1, z.2.2.2.2.2.2.2.2.1, z.2.2.2.2.2.2.2.2.2.1, z.2.2.2.2.2.2.2.2.2.2.1, z.2.2.2.2.2.2.2.2.2.2.2.1, z.2.2.2.2.2.2.2.2.2.2.2.2.1, z.2.2.2.2.2.2.2.2.2.2.2.2.2.1, z.2.2.2.2.2.2.2.2.2.2.2.2.2.2.1, z.2.2.2.2.2.2.2.2.2.2.2.2.2.2.2.1, z.2.2.2.2.2.2.2.2.2.2.2.2.2.2.2.2.1, z.2.2.2.2.2.2.2.2.2.2.2.2.2.2.2.2.2.1, z.2.2.2.2.2.2.2.2.2.2.2.2.2.2.2.2.2.2.1, z.2.2.2.2.2.2.2.2.2.2.2.2.2.2.2.2.2.2.2.1, z.2.2.2.2.2.2.2.2.2.2.2.2.2.2.2.2.2.2.2.2.1, z.2.2.2.2.2.2.2.2.2.2.2.2.2.2.2.2.2.2.2.2.2.1, z.2.2.2.2.2.2.2.2.2.2.2.2.2.2.2.2.2.2.2.2.2.2.1, z.2.2.2.2.2.2.2.2.2.2.2.2.2.2.2.2.2.2.2.2.2.2.2.1, z.2.2.2.2.2.2.2.2.2.2.2.2.2.2.2.2.2.2.2.2.2.2.2.2.1, z.2.2.2.2.2.2.2.2.2.2.2.2.2.2.2.2.2.2.2.2.2.2.2.2.2.1, z.2.2.2.2.2.2.2.2.2.2.2.2.2.2.2.2.2.2.2.2.2.2.2.2.2.2.1, z.2.2.2.2.2.2.2.2.2.2.2.2.2.2.2.2.2.2.2.2.2.2.2.2.2.2.2.1, z.2.2.2.2.2.2.2.2.2.2.2.2.2.2.2.2.2.2.2.2.2.2.2.2.2.2.2.2.1, z.2.2.2.2.2.2.2.2.2.2.2.2.2.2.2.2.2.2.2.2.2.2.2.2.2.2.2.2.2.1, z.2.2.2.2.2.2.2.2.2.2.2.2.2.2.2.2.2.2.2.2.2.2.2.2.2.2.2.2.2.2.1, z.2.2.2.2.2.2.2.2.2.2.2.2.2.2.2.2.2.2.2.2.2.2.2.2.2.2.2.2.2.2.2.1, z.2.2.2.2.2.2.2.2.2.2.2.2.2.2.2.2.2.2.2.2.2.2.2.2.2.2.2.2.2.2.2.2.1, z.2.2.2.2.2.2.2.2.2.2.2.2.2.2.2.2.2.2.2.2.2.2.2.2.2.2.2.2.2.2.2.2.2.1, z.2.2.2.2.2.2.2.2.2.2.2.2.2.2.2.2.2.2.2.2.2.2.2.2.2.2.2.2.2.2.2.2.2.2.1, z.2.2.2.2.2.2.2.2.2.2.2.2.2.2.2.2.2.2.2.2.2.2.2.2.2.2.2.2.2.2.2.2.2.2.2, rfl, h⟩
def ob37 {T0 T1 T2 T3 T4 T5 T6 T7 T8 T9 T10 T11 T12 T13 T14 T15 T16 T17 T18 T19 T20 T21 T22 T23 T24 T25 T26 T27 T28 T29 T30 T31 T32 T33 T34 T35 T36 β : Type} (f : Option (T0 × T1 × T2 × T3 × T4 × T5 × T6 × T7 × T8 × T9 × T10 × T11 × T12 × T13 × T14 × T15 × T16 × T17 × T18 × T19 × T20 × T21 × T22 × T23 × T24 × T25 × T26 × T27 × T28 × T29 × T30 × T31 × T32 × T33 × T34 × T35 × T36)) (k : T0 → T1 → T2 → T3 → T4 → T5 → T6 → T7 → T8 → T9 → T10 → T11 → T12 → T13 → T14 → T15 → T16 → T17 → T18 → T19 → T20 → T21 → T22 → T23 → T24 → T25 → T26 → T27 → T28 → T29 → T30 → T31 → T32 → T33 → T34 → T35 → T36 → Option β) : Option β := match f with
  | none => none
  | some z => k z.1 z.2.1 z.2.2.1 z.2.2.2.1 z.2.2.2.2.1 z.2.2.2.2.2.1 z.2.2.2.2.2.2.1 z.2.2.2.2.2.2.2.1 z.2.2.2.2.2.2.2.2.1 z.2.2.2.2.2.2.2.2.2.1 z.2.2.2.2.2.2.2.2.2.2.1 z.2.2.2.2.2.2.2.2.2.2.2.1 z.2.2.2.2.2.2.2.2.2.2.2.2.1 z.2.2.2.2.2.2.2.2.2.2.2.2.2.1 z.2.2.2.2.2.2.2.2.2.2.2.2.2.2.1 z.2.2.2.2.2.2.2.2.2.2.2.2.2.2.2.1 z.2.2.2.2.2.2.2.2.2.2.2.2.2.2.2.2.1 z.2.2.2.2.2.2.2.2.2.2.2.2.2.2.2.2.2.1 z.2.2.2.2.2.2.2.2.2.2.2.2.2.2.2.2.2.2.1 z.2.2.2.2.2.2.2.2.2.2.2.2.2.2.2.2.2.2.2.1 z.2.2.2.2.2.2.2.2.2.2.2.2.2.2.2.2.2.2.2.2.1 z.2.2.2.2.2.2.2.2.2.2.2.2.2.2.2.2.2.2.2.2.2.1 z.2.2.2.2.2.2.2.2.2.2.2.2.2.2.2.2.2.2.2.2.2.2.1 z.2.2.2.2.2.2.2.2.2.2.2.2.2.2.2.2.2.2.2.2.2.2.2.1 z.2.2.2.2.2.2.2.2.2.2.2.2.2.2.2.2.2.2.2.2.2.2.2.2.1 z.2.2.2.2.2.2.2.2.2.2.2.2.2.2.2.2.2.2.2.2.2.2.2.2.2.1 z.2.2.2.2.2.2.2.2.2.2.2.2.2.2.2.2.2.2.2.2.2.2.2.2.2.2.1 z.2.2.2.2.2.2.2.2.2.2.2.2.2.2.2.2.2.2.2.2.2.2.2.2.2.2.2.1 z.2.2.2.2.2.2.2.2.2.2.2.2.2.2.2.2.2.2.2.2.2.2.2.2.2.2.2.2.1 z.2.2.2.2.2.2.2.2.2.2.2.2.2.2.2.2.2.2.2.2.2.2.2.2.2.2.2.2.2.1 z.2.2.2.2.2.2.2.2.2.2.2.2.2.2.2.2.2.2.2.2.2.2.2.2.2.2.2.2.2.2.1 z.2.2.2.2.2.2.2.2.2.2.2.2.2.2.2.2.2.2.2.2.2.2.2.2.2.2.2.2.2.2.2.1 z.2.2.2.2.2.2.2.2.2.2.2.2.2.2.2.2.2.2.2.2.2.2.2.2.2.2.2.2.2.2.2.2.1 z.2.2.2.2.2.2.2.2.2.2.2.2.2.2.2.2.2.2.2.2.2.2.2.2.2.2.2.2.2.2.2.2.2.1 z.2.2.2.2.2.2.2.2.2.2.2.2.2.2.2.2.2.2.2.2.2.2.2.2.2.2.2.2.2.2.2.2.2.2.1 z.2.2.2.2.2.2.2.2.2.2.2.2.2.2.2.2.2.2.2.2.2.2.2.2.2.2.2.2.2.2.2.2.2.2.2.1 z.2.2.2.2.2.2.2.2.2.2.2.2.2.2.2.2.2.2.2.2.2.2.2.2.2.2.2.2.2.2.2.2.2.2.2.2
theorem ob37_el {T0 T1 T2 T3 T4 T5 T6 T7 T8 T9 T10 T11 T12 T13 T14 T15 T16 T17 T18 T19 T20 T21 T22 T23 T24 T25 T26 T27 T28 T29 T30 T31 T32 T33 T34 T35 T36 β : Type} {f : Option (T0 × T1 × T2 × T3 × T4 × T5 × T6 × T7 × T8 × T9 × T10 × T11 × T12 × T13 × T14 × T15 × T16 × T17 × T18 × T19 × T20 × T21 × T22 × T23 × T24 × T25 × T26 × T27 × T28 × T29 × T30 × T31 × T32 × T33 × T34 × T35 × T36)} {k : T0 → T1 → T2 → T3 → T4 → T5 → T6 → T7 → T8 → T9 → T10 → T11 → T12 → T13 → T14 → T15 → T16 → T17 → T18 → T19 → T20 → T21 → T22 → T23 → T24 → T25 → T26 → T27 → T28 → T29 → T30 → T31 → T32 → T33 → T34 → T35 → T36 → Option β} {r : β} (h : ob37 f k = some r) : ∃ v0 v1 v2 v3 v4 v5 v6 v7 v8 v9 v10 v11 v12 v13 v14 v15 v16 v17 v18 v19 v20 v21 v22 v23 v24 v25 v26 v27 v28 v29 v30 v31 v32 v33 v34 v35 v36, f = some (v0, v1, v2, v3, v4, v5, v6, v7, v8, v9, v10, v11, v12, v13, v14, v15, v16, v17, v18, v19, v20, v21, v22, v23, v24, v25, v26, v27, v28, v29, v30, v31, v32, v33, v34, v35, v36) ∧ k v0 v1 v2 v3 v4 v5 v6 v7 v8 v9 v10 v11 v12 v13 v14 v15 v16 v17 v18 v19 v20 v21 v22 v23 v24 v25 v26 v27 v28 v29 v30 v31 v32 v33 v34 v35 v36 = some r := by
  cases f with
  | none => cases h
  | some z => exact ⟨z.1, z.2.1, z.2.2.1, z.2.2.2.1, z.2.2.2.2.1, z.2.2.2.2.2.1, z.2.2.2.2.2.2.1, z.2.2.2.2.2.2.2.1, z.2.2.2.2.2.2.2.2.1, z.2.2.2.2.2.2.2.2.2.1, z.2.2.2.2.2.2.2.2.2.2.1, z.2.2.2.2.2.2.2.2.2.2.2.1, z.2.2.2.2.2.2.2.2.2.2.2.2.1, z.2.2.2.2.2.2.2.2.2.2.2.2.2.1, z.2.2.2.2.2.2.2.2.2.2.2.2.2.2.1, z.2.2.2.2.2.2.2.2.2.2.2.2.2.2.2.1, z.2.2.2.2.2.2.2.2.2.2.2.2.2.2.2.2.1, z.2.2.2.2.2.2.2.2.2.2.2.2.2.2.2.2.2.1, z.2.2.2.2.2.2.2.2.2.2.2.2.2.2.2.2.2.2.1, z.2.2.2.2.2.2.2.2.2.2.2.2.2.2.2.2.2.2.2.1, z.2.2.2.2.2.2.2.2.2.2.2.2.2.2.2.2.2.2.2.2.1, z.2.2.2.2.2.2.2.2.2.2.2.2.2.2.2.2.2.2.2.2.2.1, z.2.2.2.2.2.2.2.2.2.2.2.2.2.2.2.2.2.2.2.2.2.2.1, z.2.2.2.2.2.2.2.2.2.2.2.2.2.2.2.2.2.2.2.2.2.2.2.1, z.2.2.2.2.2.2.2.2.2.2.2.2.2.2.2.2.2.2.2.2.2.2.2.2.1, z.2.2.2.2.2.2.2.2.2.2.2.2.2.2.2.2.2.2.2.2.2.2.2.2.2.1, z.2.2.2.2.2.2.2.2.2.2.2.2.2.2.2.2.2.2.2.2.2.2.2.2.2.2.1, z.2.2.2.2.2.2.2.2.2.2.2.2.2.2.2.2.2.2.2.2.2.2.2.2.2.2.2.1, z.2.2.2.2.2.2.2.2.2.2.2.2.2.2.2.2.2.2.2.2.2.2.2.2.2.2.2.2.1, z.2.2.2.2.2.2.2.2.2.2.2.2.2.2.2.2.2.2.2.2.2.2.2.2.2.2.2.2.2.1, z.2.2.2.2.2.2.2.2.2.2.2.2.2.2.2.2.2.2.2.2.2.2.2.2.2.2.2.2.2.2.1, z.2.2.2.2.2.2.2.2.2.2.2.2.2.2.2.2.2.2.2.2.2.2.2.2.2.2.2.2.2.2.2.1, z.2.2.2.2.2.2.2.2.2.2.2.2.2.2.2.2.2.2.2.2.2.2.2.2.2.2.2.2.2.2.2.2.1, z.2.2.2.2.2.2.2.2.2.2.2.2.2.2.2.2.2.2.2.2.2.2.2.2.2.2.2.2.2.2.2.2.2.1, z.2.2.2.2.2.2.2.2.2.2.2.2.2.2.2.2.2.2.2.2.2.2.2.2.2.2.2.2.2.2.2.2.2.2.1, z.2.2.2.2.2.2.2.2.2.2.2.2.2.2.2.2.2.2.2.2.2.2.2.2.2.2.2.2.2.2.2.2.2.2.2.1, z.2.2.2.2.2.2.2.2.2.2.2.2.2.2.2.2.2.2.2.2.2.2.2.2.2.2.2.2.2.2.2.2.2.2.2.2, rfl, h⟩
def ob38 {T0 T1 T2 T3 T4 T5 T6 T7 T8 T9 T10 T11 T12 T13 T14 T15 T16 T17 T18 T19 T20 T21 T22 T23 T24 T25 T26 T27 T28 T29 T30 T31 T32 T33 T34 T35 T36 T37 β : Type} (f : Option (T0 × T1 × T2 × T3 × T4 × T5 × T6 × T7 × T8 × T9 × T10 × T11 × T12 × T13 × T14 × T15 × T16 × T17 × T18 × T19 × T20 × T21 × T22 × T23 × T24 × T25 × T26 × T27 × T28 × T29 × T30 × T31 × T32 × T33 × T34 × T35 × T36 × T37)) (k : T0 → T1 → T2 → T3 → T4 → T5 → T6 → T7 → T8 → T9 → T10 → T11 → T12 → T13 → T14 → T15 → T16 → T17 → T18 → T19 → T20 → T21 → T22 → T23 → T24 → T25 → T26 → T27 → T28 → T29 → T30 → T31 → T32 → T33 → T34 → T35 → T36 → T37 → Option β) : Option β := match f with
  | none => none
  | some z => k z.1 z.2.1 z.2.2.1 z.2.2.2.1 z.2.2.2.2.1 z.2.2.2.2.2.1 z.2.2.2.2.2.2.1 z.2.2.2.2.2.2.2.1 z.2.2.2.2.2.2.2.2.1 z.2.2.2.2.2.2.2.2.2.1 z.2.2.2.2.2.2.2.2.2.2.1 z.2.2.2.2.2.2.2.2.2.2.2.1 z.2.2.2.2.2.2.2.2.2.2.2.2.1 z.2.2.2.2.2.2.2.2.2.2.2.2.2.1 z.2.2.2.2.2.2.2.2.2.2.2.2.2.2.1 z.2.2.2.2.2.2.2.2.2.2.2.2.2.2.2.1 z.2.2.2.2.2.2.2.2.2.2.2.2.2.2.2.2.1 z.2.2.2.2.2.2.2.2.2.2.2.2.2.2.2.2.2.1 z.2.2.2.2.2.2.2.2.2.2.2.2.2.2.2.2.2.2.1 z.2.2.2.2.2.2.2.2.2.2.2.2.2.2.2.2.2.2.2.1 z.2.2.2.2.2.2.2.2.2.2.2.2.2.2.2.2.2.2.2.2.1 z.2.2.2.2.2.2.2.2.2.2.2.2.2.2.2.2.2.2.2.2.2.1 z.2.2.2.2.2.2.2.2.2.2.2.2.2.2.2.2.2.2.2.2.2.2.1 z.2.2.2.2.2.2.2.2.2.2.2.2.2.2.2.2.2.2.2.2.2.2.2.1 z.2.2.2.2.2.2.2.2.2.2.2.2.2.2.2.2.2.2.2.2.2.2.2.2.1 z.2.2.2.2.2.2.2.2.2.2.2.2.2.2.2.2.2.2.2.2.2.2.2.2.2.1 z.2.2.2.2.2.2.2.2.2.2.2.2.2.2.2.2.2.2.2.2.2.2.2.2.2.2.1 z.2.2.2.2.2.2.2.2.2.2.2.2.2.2.2.2.2.2.2.2.2.2.2.2.2.2.2.1 z.2.2.2.2.2.2.2.2.2.2.2.2.2.2.2.2.2.2.2.2.2.2.2.2.2.2.2.2.1 z.2.2.2.2.2.2.2.2.2.2.2.2.2.2.2.2.2.2.2.2.2.2.2.2.2.2.2.2.2.1 z.2.2.2.2.2.2.2.2.2.2.2.2.2.2.2.2.2.2.2.2.2.2.2.2.2.2.2.2.2.2.1 z.2.2.2.2.2.2.2.2.2.2.2.2.2.2.2.2.2.2.2.2.2.2.2.2.2.2.2.2.2.2.2.1 z.2.2.2.2.2.2.2.2.2.2.2.2.2.2.2.2.2.2.2.2.2.2.2.2.2.2.2.2.2.2.2.2.1 z.2.2.2.2.2.2.2.2.2.2.2.2.2.2.2.2.2.2.2.2.2.2.2.2.2.2.2.2.2.2.2.2.2.1 z.2.2.2.2.2.2.2.2.2.2.2.2.2.2.2.2.2.2.2.2.2.2.2.2.2.2.2.2.2.2.2.2.2.2.1 z.2.2.2.2.2.2.2.2.2.2.2.2.2.2.2.2.2.2.2.2.2.2.2.2.2.2.2.2.2.2.2.2.2.2.2.1 z.2.2.2.2.2.2.2.2.2.2.2.2.2.2.2.2.2.2.2.2.2.2.2.2.2.2.2.2.2.2.2.2.2.2.2.2.1 z.2.2.2.2.2.2.2.2.2.2.2.2.2.2.2.2.2.2.2.2.2.2.2.2.2.2.2.2.2.2.2.2.2.2.2.2.2
theorem ob38_el {T0 T1 T2 T3 T4 T5 T6 T7 T8 T9 T10 T11 T12 T13 T14 T15 T16 T17 T18 T19 T20 T21 T22 T23 T24 T25 T26 T27 T28 T29 T30 T31 T32 T33 T34 T35 T36 T37 β : Type} {f : Option (T0 × T1 × T2 × T3 × T4 × T5 × T6 × T7 × T8 × T9 × T10 × T11 × T12 × T13 × T14 × T15 × T16 × T17 × T18 × T19 × T20 × T21 × T22 × T23 × T24 × T25 × T26 × T27 × T28 × T29 × T30 × T31 × T32 × T33 × T34 × T35 × T36 × T37)} {k : T0 → T1 → T2 → T3 → T4 → T5 → T6 → T7 → T8 → T9 → T10 → T11 → T12 → T13 → T14 → T15 → T16 → T17 → T18 → T19 → T20 → T21 → T22 → T23 → T24 → T25 → T26 → T27 → T28 → T29 → T30 → T31 → T32 → T33 → T34 → T35 → T36 → T37 → Option β} {r : β} (h : ob38 f k = some r) : ∃ v0 v1 v2 v3 v4 v5 v6 v7 v8 v9 v10 v11 v12 v13 v14 v15 v16 v17 v18 v19 v20 v21 v22 v23 v24 v25 v26 v27 v28 v29 v30 v31 v32 v33 v34 v35 v36 v37, f = some (v0, v1, v2, v3, v4, v5, v6, v7, v8, v9, v10, v11, v12, v13, v14, v15, v16, v17, v18, v19, v20, v21, v22, v23, v24, v25, v26, v27, v28, v29, v30, v31, v32, v33, v34, v35, v36, v37) ∧ k v0 v1 v2 v3 v4 v5 v6 v7 v8 v9 v10 v11 v12 v13 v14 v15 v16 v17 v18 v19 v20 v21 v22 v23 v24 v25 v26 v27 v28 v29 v30 v31 v32 v33 v34 v35 v36 v37 = some r := by
  cases f with
  | none => cases h
  | some z => exact ⟨z.1, z.2.1, z.2.2.1, z.2.2.2.1, z.2.2.2.2.1, z.2.2.2.2.2.1, z.2.2.2.2.2.2.1, z.2.2.2.2.2.2.2.1, z.2.2.2.2.2.2.2.2.1, z.2.2.2.2.2.2.2.2.2.1, z.2.2.2.2.2.2.2.2.2.2.1, z.2.2.2.2.2.2.2.2.2.2.2.1, z.2.2.2.2.2.2.2.2.2.2.2.2.1, z.2.2.2.2.2.2.2.2.2.2.2.2.2.1, z.2.2.2.2.2.2.2.2.2.2.2.2.2.2.1, z.2.2.2.2.2.2.2.2.2.2.2.2.2.2.2.1, z.2.2.2.2.2.2.2.2.2.2.2.2.2.2.2.2.1, z.2.2.2.2.2.2.2.2.2.2.2.2.2.2.2.2.2.1, z.2.2.2.2.2.2.2.2.2.2.2.2.2.2.2.2.2.2.1, z.2.2.2.2.2.2.2.2.2.2.2.2.2.2.2.2.2.2.2.1, z.2.2.2.2.2.2.2.2.2.2.2.2.2.2.2.2.2.2.2.2.1, z.2.2.2.2.2.2.2.2.2.2.2.2.2.2.2.2.2.2.2.2.2.1, z.2.2.2.2.2.2.2.2.2.2.2.2.2.2.2.2.2.2.2.2.2.2.1, z.2.2.2.2.2.2.2.2.2.2.2.2.2.2.2.2.2.2.2.2.2.2.2.1, z.2.2.2.2.2.2.2.2.2.2.2.2.2.2.2.2.2.2.2.2.2.2.2.2.1, z.2.2.2.2.2.2.2.2.2.2.2.2.2.2.2.2.2.2.2.2.2.2.2.2.2.1, z.2.2.2.2.2.2.2.2.2.2.2.2.2.2.2.2.2.2.2.2.2.2.2.2.2.2.1, z.2.2.2.2.2.2.2.2.2.2.2.2.2.2.2.2.2.2.2.2.2.2.2.2.2.2.2.1, z.2.2.2.2.2.2.2.2.2.2.2.2.2.2.2.2.2.2.2.2.2.2.2.2.2.2.2.2.1, z.2.2.2.2.2.2.2.2.2.2.2.2.2.2.2.2.2.2.2.2.2.2.2.2.2.2.2.2.2.1, z.2.2.2.2.2.2.2.2.2.2.2.2.2.2.2.2.2.2.2.2.2.2.2.2.2.2.2.2.2.2.1, z.2.2.2.2.2.2.2.2.2.2.2.2.2.2.2.2.2.2.2.2.2.2.2.2.2.2.2.2.2.2.2.1, z.2.2.2.2.2.2.2.2.2.2.2.2.2.2.2.2.2.2.2.2.2.2.2.2.2.2.2.2.2.2.2.2.1, z.2.2.2.2.2.2.2.2.2.2.2.2.2.2.2.2.2.2.2.2.2.2.2.2.2.2.2.2.2.2.2.2.2.1, z.2.2.2.2.2.2.2.2.2.2.2.2.2.2.2.2.2.2.2.2.2.2.2.2.2.2.2.2.2.2.2.2.2.2.1, z.2.2.2.2.2.2.2.2.2.2.2.2.2.2.2.2.2.2.2.2.2.2.2.2.2.2.2.2.2.2.2.2.2.2.2.1, z.2.2.2.2.2.2.2.2.2.2.2.2.2.2.2.2.2.2.2.2.2.2.2.2.2.2.2.2.2.2.2.2.2.2.2.2.1, z.2.2.2.2.2.2.2.2.2.2.2.2.2.2.2.2.2.2.2.2.2.2.2.2.2.2.2.2.2.2.2.2.2.2.2.2.2, rfl, h⟩
def ob39 {T0 T1 T2 T3 T4 T5 T6 T7 T8 T9 T10 T11 T12 T13 T14 T15 T16 T17 T18 T19 T20 T21 T22 T23 T24 T25 T26 T27 T28 T29 T30 T31 T32 T33 T34 T35 T36 T37 T38 β : Type} (f : Option (T0 × T1 × T2 × T3 × T4 × T5 × T6 × T7 × T8 × T9 × T10 × T11 × T12 × T13 × T14 × T15 × T16 × T17 × T18 × T19 × T20 × T21 × T22 × T23 × T24 × T25 × T26 × T27 × T28 × T29 × T30 × T31 × T32 × T33 × T34 × T35 × T36 × T37 × T38)) (k : T0 → T1 → T2 → T3 → T4 → T5 → T6 → T7 → T8 → T9 → T10 → T11 → T12 → T13 → T14 → T15 → T16 → T17 → T18 → T19 → T20 → T21 → T22 → T23 → T24 → T25 → T26 → T27 → T28 → T29 → T30 → T31 → T32 → T33 → T34 → T35 → T36 → T37 → T38 → Option β) : Option β := match f with
  | none => none
  | some z => k z.1 z.2.1 z.2.2.1 z.2.2.2.1 z.2.2.2.2.1 z.2.2.2.2.2.1 z.2.2.2.2.2.2.1 z.2.2.2.2.2.2.2.1 z.2.2.2.2.2.2.2.2.1 z.2.2.2.2.2.2.2.2.2.1 z.2.2.2.2.2.2.2.2.2.2.1 z.2.2.2.2.2.2.2.2.2.2.2.1 z.2.2.2.2.2.2.2.2.2.2.2.2.1 z.2.2.2.2.2.2.2.2.2.2.2.2.2.1 z.2.2.2.2.2.2.2.2.2.2.2.2.2.2.1 z.2.2.2.2.2.2.2.2.2.2.2.2.2.2.2.1 z.2.2.2.2.2.2.2.2.2.2.2.2.2.2.2.2.1 z.2.2.2.2.2.2.2.2.2.2.2.2.2.2.2.2.2.1 z.2.2.2.2.2.2.2.2.2.2.2.2.2.2.2.2.2.2.1 z.2.2.2.2.2.2.2.2.2.2.2.2.2.2.2.2.2.2.2.1 z.2.2.2.2.2.2.2.2.2.2.2.2.2.2.2.2.2.2.2.2.1 z.2.2.2.2.2.2.2.2.2.2.2.2.2.2.2.2.2.2.2.2.2.1 z.2.2.2.2.2.2.2.2.2.2.2.2.2.2.2.2.2.2.2.2.2.2.1 z.2.2.2.2.2.2.2.2.2.2.2.2.2.2.2.2.2.2.2.2.2.2.2.1 z.2.2.2.2.2.2.2.2.2.2.2.2.2.2.2.2.2.2.2.2.2.2.2.2.1 z.2.2.2.2.2.2.2.2.2.2.2.2.2.2.2.2.2.2.2.2.2.2.2.2.2.1 z.2.2.2.2.2.2.2.2.2.2.2.2.2.2.2.2.2.2.2.2.2.2.2.2.2.2.1 z.2.2.2.2.2.2.2.2.2.2.2.2.2.2.2.2.2.2.2.2.2.2.2.2.2.2.2.1 z.2.2.2.2.2.2.2.2.2.2.2.2.2.2.2.2.2.2.2.2.2.2.2.2.2.2.2.2.1 z.2.2.2.2.2.2.2.2.2.2.2.2.2.2.2.2.2.2.2.2.2.2.2.2.2.2.2.2.2.1 z.2.2.2.2.2.2.2.2.2.2.2.2.2.2.2.2.2.2.2.2.2.2.2.2.2.2.2.2.2.2.1 z.2.2.2.2.2.2.2.2.2.2.2.2.2.2.2.2.2.2.2.2.2.2.2.2.2.2.2.2.2.2.2.1 z.2.2.2.2.2.2.2.2.2.2.2.2.2.2.2.2.2.2.2.2.2.2.2.2.2.2.2.2.2.2.2.2.1 z.2.2.2.2.2.2.2.2.2.2.2.2.2.2.2.2.2.2.2.2.2.2.2.2.2.2.2.2.2.2.2.2.2.1 z.2.2.2.2.2.2.2.2.2.2.2.2.2.2.2.2.2.2.2.2.2.2.2.2.2.2.2.2.2.2.2.2.2.2.1 z.2.2.2.2.2.2.2.2.2.2.2.2.2.2.2.2.2.2.2.2.2.2.2.2.2.2.2.2.2.2.2.2.2.2.2.1 z.2.2.2.2.2.2.2.2.2.2.2.2.2.2.2.2.2.2.2.2.2.2.2.2.2.2.2.2.2.2.2.2.2.2.2.2.1 z.2.2.2.2.2.2.2.2.2.2.2.2.2.2.2.2.2.2.2.2.2.2.2.2.2.2.2.2.2.2.2.2.2.2.2.2.2.1 z.2.2.2.2.2.2.2.2.2.2.2.2.2.2.2.2.2.2.2.2.2.2.2.2.2.2.2.2.2.2.2.2.2.2.2.2.2.2
theorem ob39_el {T0 T1 T2 T3 T4 T5 T6 T7 T8 T9 T10 T11 T12 T13 T14 T15 T16 T17 T18 T19 T20 T21 T22 T23 T24 T25 T26 T27 T28 T29 T30 T31 T32 T33 T34 T35 T36 T37 T38 β : Type} {f : Option (T0 × T1 × T2 × T3 × T4 × T5 × T6 × T7 × T8 × T9 × T10 × T11 × T12 × T13 × T14 × T15 × T16 × T17 × T18 × T19 × T20 × T21 × T22 × T23 × T24 × T25 × T26 × T27 × T28 × T29 × T30 × T31 × T32 × T33 × T34 × T35 × T36 × T37 × T38)} {k : T0 → T1 → T2 → T3 → T4 → T5 → T6 → T7 → T8 → T9 → T10 → T11 → T12 → T13 → T14 → T15 → T16 → T17 → T18 → T19 → T20 → T21 → T22 → T23 → T24 → T25 → T26 → T27 → T28 → T29 → T30 → T31 → T32 → T33 → T34 → T35 → T36 → T37 → T38 → Option β} {r : β} (h : ob39 f k = some r) : ∃ v0 v1 v2 v3 v4 v5 v6 v7 v8 v9 v10 v11 v12 v13 v14 v15 v16 v17 v18 v19 v20 v21 v22 v23 v24 v25 v26 v27 v28 v29 v30 v31 v32 v33 v34 v35 v36 v37 v38, f = some (v0, v1, v2, v3, v4, v5, v6, v7, v8, v9, v10, v11, v12, v13, v14, v15, v16, v17, v18, v19, v20, v21, v22, v23, v24, v25, v26, v27, v28, v29, v30, v31, v32, v33, v34, v35, v36, v37, v38) ∧ k v0 v1 v2 v3 v4 v5 v6 v7 v8 v9 v10 v11 v12 v13 v14 v15 v16 v17 v18 v19 v20 v21 v22 v23 v24 v25 v26 v27 v28 v29 v30 v31 v32 v33 v34 v35 v36 v37 v38 = some r := by
  cases f with
  | none => cases h
  | some z => exact ⟨z.1, z.2.1, z.2.2.1, z.2.2.2.1, z.2.2.2.2.1, z.2.2.2.2.2.1, z.2.2.2.2.2.2.1, z.2.2.2.2.2.2.2.1, z.2.2.2.2.2.2.2.2.1, z.2.2.2.2.2.2.2.2.2.1, z.2.2.2.2.2.2.2.2.2.2.1, z.2.2.2.2.2.2.2.2.2.2.2.1, z.2.2.2.2.2.2.2.2.2.2.2.2.1, z.2.2.2.2.2.2.2.2.2.2.2.2.2.1, z.2.2.2.2.2.2.2.2.2.2.2.2.2.2.1, z.2.2.2.2.2.2.2.2.2.2.2.2.2.2.2.1, z.2.2.2.2.2.2.2.2.2.2.2.2.2.2.2.2.1, z.2.2.2.2.2.2.2.2.2.2.2.2.2.2.2.2.2.1, z.2.2.2.2.2.2.2.2.2.2.2.2.2.2.2.2.2.2.1, z.2.2.2.2.2.2.2.2.2.2.2.2.2.2.2.2.2.2.2.1, z.2.2.2.2.2.2.2.2.2.2.2.2.2.2.2.2.2.2.2.2.1, z.2.2.2.2.2.2.2.2.2.2.2.2.2.2.2.2.2.2.2.2.2.1, z.2.2.2.2.2.2.2.2.2.2.2.2.2.2.2.2.2.2.2.2.2.2.1, z.2.2.2.2.2.2.2.2.2.2.2.2.2.2.2.2.2.2.2.2.2.2.2.1, z.2.2.2.2.2.2.2.2.2.2.2.2.2.2.2.2.2.2.2.2.2.2.2.2.1, z.2.2.2.2.2.2.2.2.2.2.2.2.2.2.2.2.2.2.2.2.2.2.2.2.2.1, z.2.2.2.2.2.2.2.2.2.2.2.2.2.2.2.2.2.2.2.2.2.2.2.2.2.2.1, z.2.2.2.2.2.2.2.2.2.2.2.2.2.2.2.2.2.2.2.2.2.2.2.2.2.2.2.1, z.2.2.2.2.2.2.2.2.2.2.2.2.2.2.2.2.2.2.2.2.2.2.2.2.2.2.2.2.1, z.2.2.2.2.2.2.2.2.2.2.2.2.2.2.2.2.2.2.2.2.2.2.2.2.2.2.2.2.2.1, z.2.2.2.2.2.2.2.2.2.2.2.2.2.2.2.2.2.2.2.2.2.2.2.2.2.2.2.2.2.2.1, z.2.2.2.2.2.2.2.2.2.2.2.2.2.2.2.2.2.2.2.2.2.2.2.2.2.2.2.2.2.2.2.1, z.2.2.2.2.2.2.2.2.2.2.2.2.2.2.2.2.2.2.2.2.2.2.2.2.2.2.2.2.2.2.2.2.1, z.2.2.2.2.2.2.2.2.2.2.2.2.2.2.2.2.2.2.2.2.2.2.2.2.2.2.2.2.2.2.2.2.2.1, z.2.2.2.2.2.2.2.2.2.2.2.2.2.2.2.2.2.2.2.2.2.2.2.2.2.2.2.2.2.2.2.2.2.2.1, z.2.2.2.2.2.2.2.2.2.2.2.2.2.2.2.2.2.2.2.2.2.2.2.2.2.2.2.2.2.2.2.2.2.2.2.1, z.2.2.2.2.2.2.2.2.2.2.2.2.2.2.2.2.2.2.2.2.2.2.2.2.2.2.2.2.2.2.2.2.2.2.2.2.1, z.2.2.2.2.2.2.2.2.2.2.2.2.2.2.2.2.2.2.2.2.2.2.2.2.2.2.2.2.2.2.2.2.2.2.2.2.2.1, z.2.2.2.2.2.2.2.2.2.2.2.2.2.2.2.2.2.2.2.2.2.2.2.2.2.2.2.2.2.2.2.2.2.2.2.2.2.2, rfl, h⟩
def ob40 {T0 T1 T2 T3 T4 T5 T6 T7 T8 T9 T10 T11 T12 T13 T14 T15 T16 T17 T18 T19 T20 T21 T22 T23 T24 T25 T26 T27 T28 T29 T30 T31 T32 T33 T34 T35 T36 T37 T38 T39 β : Type} (f : Option (T0 × T1 × T2 × T3 × T4 × T5 × T6 × T7 × T8 × T9 × T10 × T11 × T12 × T13 × T14 × T15 × T16 × T17 × T18 × T19 × T20 × T21 × T22 × T23 × T24 × T25 × T26 × T27 × T28 × T29 × T30 × T31 × T32 × T33 × T34 × T35 × T36 × T37 × T38 × T39)) (k : T0 → T1 → T2 → T3 → T4 → T5 → T6 → T7 → T8 → T9 → T10 → T11 → T12 → T13 → T14 → T15 → T16 → T17 → T18 → T19 → T20 → T21 → T22 → T23 → T24 → T25 → T26 → T27 → T28 → T29 → T30 → T31 → T32 → T33 → T34 → T35 → T36 → T37 → T38 → T39 → Option β) : Option β := match f with
  | none => none
  | some z => k z.1 z.2.1 z.2.2.1 z.2.2.2.1 z.2.2.2.2.1 z.2.2.2.2.2.1 z.2.2.2.2.2.2.1 z.2.2.2.2.2.2.2.1 z.2.2.2.2.2.2.2.2.1 z.2.2.2.2.2.2.2.2.2.1 z.2.2.2.2.2.2.2.2.2.2.1 z.2.2.2.2.2.2.2.2.2.2.2.1 z.2.2.2.2.2.2.2.2.2.2.2.2.1 z.2.2.2.2.2.2.2.2.2.2.2.2.2.1 z.2.2.2.2.2.2.2.2.2.2.2.2.2.2.1 z.2.2.2.2.2.2.2.2.2.2.2.2.2.2.2.1 z.2.2.2.2.2.2.2.2.2.2.2.2.2.2.2.2.1 z.2.2.2.2.2.2.2.2.2.2.2.2.2.2.2.2.2.1 z.2.2.2.2.2.2.2.2.2.2.2.2.2.2.2.2.2.2.1 z.2.2.2.2.2.2.2.2.2.2.2.2.2.2.2.2.2.2.2.1 z.2.2.2.2.2.2.2.2.2.2.2.2.2.2.2.2.2.2.2.2.1 z.2.2.2.2.2.2.2.2.2.2.2.2.2.2.2.2.2.2.2.2.2.1 z.2.2.2.2.2.2.2.2.2.2.2.2.2.2.2.2.2.2.2.2.2.2.1 z.2.2.2.2.2.2.2.2.2.2.2.2.2.2.2.2.2.2.2.2.2.2.2.1 z.2.2.2.2.2.2.2.2.2.2.2.2.2.2.2.2.2.2.2.2.2.2.2.2.1 z.2.2.2.2.2.2.2.2.2.2.2.2.2.2.2.2.2.2.2.2.2.2.2.2.2.1 z.2.2.2.2.2.2.2.2.2.2.2.2.2.2.2.2.2.2.2.2.2.2.2.2.2.2.1 z.2.2.2.2.2.2.2.2.2.2.2.2.2.2.2.2.2.2.2.2.2.2.2.2.2.2.2.1 z.2.2.2.2.2.2.2.2.2.2.2.2.2.2.2.2.2.2.2.2.2.2.2.2.2.2.2.2.1 z.2.2.2.2.2.2.2.2.2.2.2.2.2.2.2.2.2.2.2.2.2.2.2.2.2.2.2.2.2.1 z.2.2.2.2.2.2.2.2.2.2.2.2.2.2.2.2.2.2.2.2.2.2.2.2.2.2.2.2.2.2.1 z.2.2.2.2.2.2.2.2.2.2.2.2.2.2.2.2.2.2.2.2.2.2.2.2.2.2.2.2.2.2.2.1 z.2.2.2.2.2.2.2.2.2.2.2.2.2.2.2.2.2.2.2.2.2.2.2.2.2.2.2.2.2.2.2.2.1 z.2.2.2.2.2.2.2.2.2.2.2.2.2.2.2.2.2.2.2.2.2.2.2.2.2.2.2.2.2.2.2.2.2.1 z.2.2.2.2.2.2.2.2.2.2.2.2.2.2.2.2.2.2.2.2.2.2.2.2.2.2.2.2.2.2.2.2.2.2.1 z.2.2.2.2.2.2.2.2.2.2.2.2.2.2.2.2.2.2.2.2.2.2.2.2.2.2.2.2.2.2.2.2.2.2.2.1 z.2.2.2.2.2.2.2.2.2.2.2.2.2.2.2.2.2.2.2.2.2.2.2.2.2.2.2.2.2.2.2.2.2.2.2.2.1 z.2.2.2.2.2.2.2.2.2.2.2.2.2.2.2.2.2.2.2.2.2.2.2.2.2.2.2.2.2.2.2.2.2.2.2.2.2.1 z.2.2.2.2.2.2.2.2.2.2.2.2.2.2.2.2.2.2.2.2.2.2.2.2.2.2.2.2.2.2.2.2.2.2.2.2.2.2.1 z.2.2.2.2.2.2.2.2.2.2.2.2.2.2.2.2.2.2.2.2.2.2.2.2.2.2.2.2.2.2.2.2.2.2.2.2.2.2.2
theorem ob40_el {T0 T1 T2 T3 T4 T5 T6 T7 T8 T9 T10 T11 T12 T13 T14 T15 T16 T17 T18 T19 T20 T21 T22 T23 T24 T25 T26 T27 T28 T29 T30 T31 T32 T33 T34 T35 T36 T37 T38 T39 β : Type} {f : Option (T0 × T1 × T2 × T3 × T4 × T5 × T6 × T7 × T8 × T9 × T10 × T11 × T12 × T13 × T14 × T15 × T16 × T17 × T18 × T19 × T20 × T21 × T22 × T23 × T24 × T25 × T26 × T27 × T28 × T29 × T30 × T31 × T32 × T33 × T34 × T35 × T36 × T37 × T38 × T39)} {k : T0 → T1 → T2 → T3 → T4 → T5 → T6 → T7 → T8 → T9 → T10 → T11 → T12 → T13 → T14 → T15 → T16 → T17 → T18 → T19 → T20 → T21 → T22 → T23 → T24 → T25 → T26 → T27 → T28 → T29 → T30 → T31 → T32 → T33 → T34 → T35 → T36 → T37 → T38 → T39 → Option β} {r : β} (h : ob40 f k = some r) : ∃ v0 v1 v2 v3 v4 v5 v6 v7 v8 v9 v10 v11 v12 v13 v14 v15 v16 v17 v18 v19 v20 v21 v22 v23 v24 v25 v26 v27 v28 v29 v30 v31 v32 v33 v34 v35 v36 v37 v38 v39, f = some (v0, v1, v2, v3, v4, v5, v6, v7, v8, v9, v10, v11, v12, v13, v14, v15, v16, v17, v18, v19, v20, v21, v22, v23, v24, v25, v26, v27, v28, v29, v30, v31, v32, v33, v34, v35, v36, v37, v38, v39) ∧ k v0 v1 v2 v3 v4 v5 v6 v7 v8 v9 v10 v11 v12 v13 v14 v15 v16 v17 v18 v19 v20 v21 v22 v23 v24 v25 v26 v27 v28 v29 v30 v31 v32 v33 v34 v35 v36 v37 v38 v39 = some r := by
  cases f with
  | none => cases h
  | some z => exact ⟨z.1, z.2.1, z.2.2.1, z.2.2.2.1, z.2.2.2.2.1, z.2.2.2.2.2.1, z.2.2.2.2.2.2.1, z.2.2.2.2.2.2.2.1, z.2.2.2.2.2.2.2.2.1, z.2.2.2.2.2.2.2.2.2.1, z.2.2.2.2.2.2.2.2.2.2.1, z.2.2.2.2.2.2.2.2.2.2.2.1, z.2.2.2.2.2.2.2.2.2.2.2.2.1, z.2.2.2.2.2.2.2.2.2.2.2.2.2.1, z.2.2.2.2.2.2.2.2.2.2.2.2.2.2.1, z.2.2.2.2.2.2.2.2.2.2.2.2.2.2.2.1, z.2.2.2.2.2.2.2.2.2.2.2.2.2.2.2.2.1, z.2.2.2.2.2.2.2.2.2.2.2.2.2.2.2.2.2.1, z.2.2.2.2.2.2.2.2.2.2.2.2.2.2.2.2.2.2.1, z.2.2.2.2.2.2.2.2.2.2.2.2.2.2.2.2.2.2.2.1, z.2.2.2.2.2.2.2.2.2.2.2.2.2.2.2.2.2.2.2.2.1, z.2.2.2.2.2.2.2.2.2.2.2.2.2.2.2.2.2.2.2.2.2.1, z.2.2.2.2.2.2.2.2.2.2.2.2.2.2.2.2.2.2.2.2.2.2.1, z.2.2.2.2.2.2.2.2.2.2.2.2.2.2.2.2.2.2.2.2.2.2.2.1, z.2.2.2.2.2.2.2.2.2.2.2.2.2.2.2.2.2.2.2.2.2.2.2.2.1, z.2.2.2.2.2.2.2.2.2.2.2.2.2.2.2.2.2.2.2.2.2.2.2.2.2.1, z.2.2.2.2.2.2.2.2.2.2.2.2.2.2.2.2.2.2.2.2.2.2.2.2.2.2.1, z.2.2.2.2.2.2.2.2.2.2.2.2.2.2.2.2.2.2.2.2.2.2.2.2.2.2.2.1, z.2.2.2.2.2.2.2.2.2.2.2.2.2.2.2.2.2.2.2.2.2.2.2.2.2.2.2.2.1, z.2.2.2.2.2.2.2.2.2.2.2.2.2.2.2.2.2.2.2.2.2.2.2.2.2.2.2.2.2.1, z.2.2.2.2.2.2.2.2.2.2.2.2.2.2.2.2.2.2.2.2.2.2.2.2.2.2.2.2.2.2.1, z.2.2.2.2.2.2.2.2.2.2.2.2.2.2.2.2.2.2.2.2.2.2.2.2.2.2.2.2.2.2.2.1, z.2.2.2.2.2.2.2.2.2.2.2.2.2.2.2.2.2.2.2.2.2.2.2.2.2.2.2.2.2.2.2.2.1, z.2.2.2.2.2.2.2.2.2.2.2.2.2.2.2.2.2.2.2.2.2.2.2.2.2.2.2.2.2.2.2.2.2.1, z.2.2.2.2.2.2.2.2.2.2.2.2.2.2.2.2.2.2.2.2.2.2.2.2.2.2.2.2.2.2.2.2.2.2.1, z.2.2.2.2.2.2.2.2.2.2.2.2.2.2.2.2.2.2.2.2.2.2.2.2.2.2.2.2.2.2.2.2.2.2.2.1, z.2.2.2.2.2.2.2.2.2.2.2.2.2.2.2.2.2.2.2.2.2.2.2.2.2.2.2.2.2.2.2.2.2.2.2.2.1, z.2.2.2.2.2.2.2.2.2.2.2.2.2.2.2.2.2.2.2.2.2.2.2.2.2.2.2.2.2.2.2.2.2.2.2.2.2.1, z.2.2.2.2.2.2.2.2.2.2.2.2.2.2.2.2.2.2.2.2.2.2.2.2.2.2.2.2.2.2.2.2.2.2.2.2.2.2.1, z.2.2.2.2.2.2.2.2.2.2.2.2.2.2.2.2.2.2.2.2.2.2.2.2.2.2.2.2.2.2.2.2.2.2.2.2.2.2.2, rfl, h⟩
def ob41 {T0 T1 T2 T3 T4 T5 T6 T7 T8 T9 T10 T11 T12 T13 T14 T15 T16 T17 T18 T19 T20 T21 T22 T23 T24 T25 T26 T27 T28 T29 T30 T31 T32 T33 T34 T35 T36 T37 T38 T39 T40 β : Type} (f : Option (T0 × T1 × T2 × T3 × T4 × T5 × T6 × T7 × T8 × T9 × T10 × T11 × T12 × T13 × T14 × T15 × T16 × T17 × T18 × T19 × T20 × T21 × T22 × T23 × T24 × T25 × T26 × T27 × T28 × T29 × T30 × T31 × T32 × T33 × T34 × T35 × T36 × T37 × T38 × T39 × T40)) (k : T0 → T1 → T2 → T3 → T4 → T5 → T6 → T7 → T8 → T9 → T10 → T11 → T12 → T13 → T14 → T15 → T16 → T17 → T18 → T19 → T20 → T21 → T22 → T23 → T24 → T25 → T26 → T27 → T28 → T29 → T30 → T31 → T32 → T33 → T34 → T35 → T36 → T37 → T38 → T39 → T40 → Option β) : Option β := match f with
  | none => none
  | some z => k z.1 z.2.1 z.2.2.1 z.2.2.2.1 z.2.2.2.2.1 z.2.2.2.2.2.1 z.2.2.2.2.2.2.1 z.2.2.2.2.2.2.2.1 z.2.2.2.2.2.2.2.2.1 z.2.2.2.2.2.2.2.2.2.1 z.2.2.2.2.2.2.2.2.2.2.1 z.2.2.2.2.2.2.2.2.2.2.2.1 z.2.2.2.2.2.2.2.2.2.2.2.2.1 z.2.2.2.2.2.2.2.2.2.2.2.2.2.1 z.2.2.2.2.2.2.2.2.2.2.2.2.2.2.1 z.2.2.2.2.2.2.2.2.2.2.2.2.2.2.2.1 z.2.2.2.2.2.2.2.2.2.2.2.2.2.2.2.2.1 z.2.2.2.2.2.2.2.2.2.2.2.2.2.2.2.2.2.1 z.2.2.2.2.2.2.2.2.2.2.2.2.2.2.2.2.2.2.1 z.2.2.2.2.2.2.2.2.2.2.2.2.2.2.2.2.2.2.2.1 z.2.2.2.2.2.2.2.2.2.2.2.2.2.2.2.2.2.2.2.2.1 z.2.2.2.2.2.2.2.2.2.2.2.2.2.2.2.2.2.2.2.2.2.1 z.2.2.2.2.2.2.2.2.2.2.2.2.2.2.2.2.2.2.2.2.2.2.1 z.2.2.2.2.2.2.2.2.2.2.2.2.2.2.2.2.2.2.2.2.2.2.2.1 z.2.2.2.2.2.2.2.2.2.2.2.2.2.2.2.2.2.2.2.2.2.2.2.2.1 z.2.2.2.2.2.2.2.2.2.2.2.2.2.2.2.2.2.2.2.2.2.2.2.2.2.1 z.2.2.2.2.2.2.2.2.2.2.2.2.2.2.2.2.2.2.2.2.2.2.2.2.2.2.1 z.2.2.2.2.2.2.2.2.2.2.2.2.2.2.2.2.2.2.2.2.2.2.2.2.2.2.2.1 z.2.2.2.2.2.2.2.2.2.2.2.2.2.2.2.2.2.2.2.2.2.2.2.2.2.2.2.2.1 z.2.2.2.2.2.2.2.2.2.2.2.2.2.2.2.2.2.2.2.2.2.2.2.2.2.2.2.2.2.1 z.2.2.2.2.2.2.2.2.2.2.2.2.2.2.2.2.2.2.2.2.2.2.2.2.2.2.2.2.2.2.1 z.2.2.2.2.2.2.2.2.2.2.2.2.2.2.2.2.2.2.2.2.2.2.2.2.2.2.2.2.2.2.2.1 z.2.2.2.2.2.2.2.2.2.2.2.2.2.2.2.2.2.2.2.2.2.2.2.2.2.2.2.2.2.2.2.2.1 z.2.2.2.2.2.2.2.2.2.2.2.2.2.2.2.2.2.2.2.2.2.2.2.2.2.2.2.2.2.2.2.2.2.1 z.2.2.2.2.2.2.2.2.2.2.2.2.2.2.2.2.2.2.2.2.2.2.2.2.2.2.2.2.2.2.2.2.2.2.1 z.2.2.2.2.2.2.2.2.2.2.2.2.2.2.2.2.2.2.2.2.2.2.2.2.2.2.2.2.2.2.2.2.2.2.2.1 z.2.2.2.2.2.2.2.2.2.2.2.2.2.2.2.2.2.2.2.2.2.2.2.2.2.2.2.2.2.2.2.2.2.2.2.2.1 z.2.2.2.2.2.2.2.2.2.2.2.2.2.2.2.2.2.2.2.2.2.2.2.2.2.2.2.2.2.2.2.2.2.2.2.2.2.1 z.2.2.2.2.2.2.2.2.2.2.2.2.2.2.2.2.2.2.2.2.2.2.2.2.2.2.2.2.2.2.2.2.2.2.2.2.2.2.1 z.2.2.2.2.2.2.2.2.2.2.2.2.2.2.2.2.2.2.2.2.2.2.2.2.2.2.2.2.2.2.2.2.2.2.2.2.2.2.2.1 z.2.2.2.2.2.2.2.2.2.2.2.2.2.2.2.2.2.2.2.2.2.2.2.2.2.2.2.2.2.2.2.2.2.2.2.2.2.2.2.2
theorem ob41_el {T0 T1 T2 T3 T4 T5 T6 T7 T8 T9 T10 T11 T12 T13 T14 T15 T16 T17 T18 T19 T20 T21 T22 T23 T24 T25 T26 T27 T28 T29 T30 T31 T32 T33 T34 T35 T36 T37 T38 T39 T40 β : Type} {f : Option (T0 × T1 × T2 × T3 × T4 × T5 × T6 × T7 × T8 × T9 × T10 × T11 × T12 × T13 × T14 × T15 × T16 × T17 × T18 × T19 × T20 × T21 × T22 × T23 × T24 × T25 × T26 × T27 × T28 × T29 × T30 × T31 × T32 × T33 × T34 × T35 × T36 × T37 × T38 × T39 × T40)} {k : T0 → T1 → T2 → T3 → T4 → T5 → T6 → T7 → T8 → T9 → T10 → T11 → T12 → T13 → T14 → T15 → T16 → T17 → T18 → T19 → T20 → T21 → T22 → T23 → T24 → T25 → T26 → T27 → T28 → T29 → T30 → T31 → T32 → T33 → T34 → T35 → T36 → T37 → T38 → T39 → T40 → Option β} {r : β} (h : ob41 f k = some r) : ∃ v0 v1 v2 v3 v4 v5 v6 v7 v8 v9 v10 v11 v12 v13 v14 v15 v16 v17 v18 v19 v20 v21 v22 v23 v24 v25 v26 v27 v28 v29 v30 v31 v32 v33 v34 v35 v36 v37 v38 v39 v40, f = some (v0, v1, v2, v3, v4, v5, v6, v7, v8, v9, v10, v11, v12, v13, v14, v15, v16, v17, v18, v19, v20, v21, v22, v23, v24, v25, v26, v27, v28, v29, v30, v31, v32, v33, v34, v35, v36, v37, v38, v39, v40) ∧ k v0 v1 v2 v3 v4 v5 v6 v7 v8 v9 v10 v11 v12 v13 v14 v15 v16 v17 v18 v19 v20 v21 v22 v23 v24 v25 v26 v27 v28 v29 v30 v31 v32 v33 v34 v35 v36 v37 v38 v39 v40 = some r := by
  cases f with
  | none => cases h
  | some z => exact ⟨z.1, z.2.1, z.2.2.1, z.2.2.2.1, z.2.2.2.2.1, z.2.2.2.2.2.1, z.2.2.2.2.2.2.1, z.2.2.2.2.2.2.2.1, z.2.2.2.2.2.2.2.2.1, z.2.2.2.2.2.2.2.2.2.1, z.2.2.2.2.2.2.2.2.2.2.1, z.2.2.2.2.2.2.2.2.2.2.2.1, z.2.2.2.2.2.2.2.2.2.2.2.2.1, z.2.2.2.2.2.2.2.2.2.2.2.2.2.1, z.2.2.2.2.2.2.2.2.2.2.2.2.2.2.1, z.2.2.2.2.2.2.2.2.2.2.2.2.2.2.2.1, z.2.2.2.2.2.2.2.2.2.2.2.2.2.2.2.2.1, z.2.2.2.2.2.2.2.2.2.2.2.2.2.2.2.2.2.1, z.2.2.2.2.2.2.2.2.2.2.2.2.2.2.2.2.2.2.1, z.2.2.2.2.2.2.2.2.2.2.2.2.2.2.2.2.2.2.2.1, z.2.2.2.2.2.2.2.2.2.2.2.2.2.2.2.2.2.2.2.2.1, z.2.2.2.2.2.2.2.2.2.2.2.2.2.2.2.2.2.2.2.2.2.1, z.2.2.2.2.2.2.2.2.2.2.2.2.2.2.2.2.2.2.2.2.2.2.1, z.2.2.2.2.2.2.2.2.2.2.2.2.2.2.2.2.2.2.2.2.2.2.2.1, z.2.2.2.2.2.2.2.2.2.2.2.2.2.2.2.2.2.2.2.2.2.2.2.2.1, z.2.2.2.2.2.2.2.2.2.2.2.2.2.2.2.2.2.2.2.2.2.2.2.2.2.1, z.2.2.2.2.2.2.2.2.2.2.2.2.2.2.2.2.2.2.2.2.2.2.2.2.2.2.1, z.2.2.2.2.2.2.2.2.2.2.2.2.2.2.2.2.2.2.2.2.2.2.2.2.2.2.2.1, z.2.2.2.2.2.2.2.2.2.2.2.2.2.2.2.2.2.2.2.2.2.2.2.2.2.2.2.2.1, z.2.2.2.2.2.2.2.2.2.2.2.2.2.2.2.2.2.2.2.2.2.2.2.2.2.2.2.2.2.1, z.2.2.2.2.2.2.2.2.2.2.2.2.2.2.2.2.2.2.2.2.2.2.2.2.2.2.2.2.2.2.1, z.2.2.2.2.2.2.2.2.2.2.2.2.2.2.2.2.2.2.2.2.2.2.2.2.2.2.2.2.2.2.2.1, z.2.2.2.2.2.2.2.2.2.2.2.2.2.2.2.2.2.2.2.2.2.2.2.2.2.2.2.2.2.2.2.2.1, z.2.2.2.2.2.2.2.2.2.2.2.2.2.2.2.2.2.2.2.2.2.2.2.2.2.2.2.2.2.2.2.2.2.1, z.2.2.2.2.2.2.2.2.2.2.2.2.2.2.2.2.2.2.2.2.2.2.2.2.2.2.2.2.2.2.2.2.2.2.1, z.2.2.2.2.2.2.2.2.2.2.2.2.2.2.2.2.2.2.2.2.2.2.2.2.2.2.2.2.2.2.2.2.2.2.2.1, z.2.2.2.2.2.2.2.2.2.2.2.2.2.2.2.2.2.2.2.2.2.2.2.2.2.2.2.2.2.2.2.2.2.2.2.2.1, z.2.2.2.2.2.2.2.2.2.2.2.2.2.2.2.2.2.2.2.2.2.2.2.2.2.2.2.2.2.2.2.2.2.2.2.2.2.1, z.2.2.2.2.2.2.2.2.2.2.2.2.2.2.2.2.2.2.2.2.2.2.2.2.2.2.2.2.2.2.2.2.2.2.2.2.2.2.1, z.2.2.2.2.2.2.2.2.2.2.2.2.2.2.2.2.2.2.2.2.2.2.2.2.2.2.2.2.2.2.2.2.2.2.2.2.2.2.2.1, z.2.2.2.2.2.2.2.2.2.2.2.2.2.2.2.2.2.2.2.2.2.2.2.2.2.2.2.2.2.2.2.2.2.2.2.2.2.2.2.2, rfl, h⟩
def ob42 {T0 T1 T2 T3 T4 T5 T6 T7 T8 T9 T10 T11 T12 T13 T14 T15 T16 T17 T18 T19 T20 T21 T22 T23 T24 T25 T26 T27 T28 T29 T30 T31 T32 T33 T34 T35 T36 T37 T38 T39 T40 T41 β : Type} (f : Option (T0 × T1 × T2 × T3 × T4 × T5 × T6 × T7 × T8 × T9 × T10 × T11 × T12 × T13 × T14 × T15 × T16 × T17 × T18 × T19 × T20 × T21 × T22 × T23 × T24 × T25 × T26 × T27 × T28 × T29 × T30 × T31 × T32 × T33 × T34 × T35 × T36 × T37 × T38 × T39 × T40 × T41)) (k : T0 → T1 → T2 → T3 → T4 → T5 → T6 → T7 → T8 → T9 → T10 → T11 → T12 → T13 → T14 → T15 → T16 → T17 → T18 → T19 → T20 → T21 → T22 → T23 → T24 → T25 → T26 → T27 → T28 → T29 → T30 → T31 → T32 → T33 → T34 → T35 → T36 → T37 → T38 → T39 → T40 → T41 → Option β) : Option β := match f with
  | none => none
  | some z => k z.1 z.2.1 z.2.2.1 z.2.2.2.1 z.2.2.2.2.1 z.2.2.2.2.2.1 z.2.2.2.2.2.2.1 z.2.2.2.2.2.2.2.1 z.2.2.2.2.2.2.2.2.1 z.2.2.2.2.2.2.2.2.2.1 z.2.2.2.2.2.2.2.2.2.2.1 z.2.2.2.2.2.2.2.2.2.2.2.1 z.2.2.2.2.2.2.2.2.2.2.2.2.1 z.2.2.2.2.2.2.2.2.2.2.2.2.2.1 z.2.2.2.2.2.2.2.2.2.2.2.2.2.2.1 z.2.2.2.2.2.2.2.2.2.2.2.2.2.2.2.1 z.2.2.2.2.2.2.2.2.2.2.2.2.2.2.2.2.1 z.2.2.2.2.2.2.2.2.2.2.2.2.2.2.2.2.2.1 z.2.2.2.2.2.2.2.2.2.2.2.2.2.2.2.2.2.2.1 z.2.2.2.2.2.2.2.2.2.2.2.2.2.2.2.2.2.2.2.1 z.2.2.2.2.2.2.2.2.2.2.2.2.2.2.2.2.2.2.2.2.1 z.2.2.2.2.2.2.2.2.2.2.2.2.2.2.2.2.2.2.2.2.2.1 z.2.2.2.2.2.2.2.2.2.2.2.2.2.2.2.2.2.2.2.2.2.2.1 z.2.2.2.2.2.2.2.2.2.2.2.2.2.2.2.2.2.2.2.2.2.2.2.1 z.2.2.2.2.2.2.2.2.2.2.2.2.2.2.2.2.2.2.2.2.2.2.2.2.1 z.2.2.2.2.2.2.2.2.2.2.2.2.2.2.2.2.2.2.2.2.2.2.2.2.2.1 z.2.2.2.2.2.2.2.2.2.2.2.2.2.2.2.2.2.2.2.2.2.2.2.2.2.2.1 z.2.2.2.2.2.2.2.2.2.2.2.2.2.2.2.2.2.2.2.2.2.2.2.2.2.2.2.1 z.2.2.2.2.2.2.2.2.2.2.2.2.2.2.2.2.2.2.2.2.2.2.2.2.2.2.2.2.1 z.2.2.2.2.2.2.2.2.2.2.2.2.2.2.2.2.2.2.2.2.2.2.2.2.2.2.2.2.2.1 z.2.2.2.2.2.2.2.2.2.2.2.2.2.2.2.2.2.2.2.2.2.2.2.2.2.2.2.2.2.2.1 z.2.2.2.2.2.2.2.2.2.2.2.2.2.2.2.2.2.2.2.2.2.2.2.2.2.2.2.2.2.2.2.1 z.2.2.2.2.2.2.2.2.2.2.2.2.2.2.2.2.2.2.2.2.2.2.2.2.2.2.2.2.2.2.2.2.1 z.2.2.2.2.2.2.2.2.2.2.2.2.2.2.2.2.2.2.2.2.2.2.2.2.2.2.2.2.2.2.2.2.2.1 z.2.2.2.2.2.2.2.2.2.2.2.2.2.2.2.2.2.2.2.2.2.2.2.2.2.2.2.2.2.2.2.2.2.2.1 z.2.2.2.2.2.2.2.2.2.2.2.2.2.2.2.2.2.2.2.2.2.2.2.2.2.2.2.2.2.2.2.2.2.2.2.1 z.2.2.2.2.2.2.2.2.2.2.2.2.2.2.2.2.2.2.2.2.2.2.2.2.2.2.2.2.2.2.2.2.2.2.2.2.1 z.2.2.2.2.2.2.2.2.2.2.2.2.2.2.2.2.2.2.2.2.2.2.2.2.2.2.2.2.2.2.2.2.2.2.2.2.2.1 z.2.2.2.2.2.2.2.2.2.2.2.2.2.2.2.2.2.2.2.2.2.2.2.2.2.2.2.2.2.2.2.2.2.2.2.2.2.2.1 z.2.2.2.2.2.2.2.2.2.2.2.2.2.2.2.2.2.2.2.2.2.2.2.2.2.2.2.2.2.2.2.2.2.2.2.2.2.2.2.1 z.2.2.2.2.2.2.2.2.2.2.2.2.2.2.2.2.2.2.2.2.2.2.2.2.2.2.2.2.2.2.2.2.2.2.2.2.2.2.2.2.1 z.2.2.2.2.2.2.2.2.2.2.2.2.2.2.2.2.2.2.2.2.2.2.2.2.2.2.2.2.2.2.2.2.2.2.2.2.2.2.2.2.2
theorem ob42_el {T0 T1 T2 T3 T4 T5 T6 T7 T8 T9 T10 T11 T12 T13 T14 T15 T16 T17 T18 T19 T20 T21 T22 T23 T24 T25 T26 T27 T28 T29 T30 T31 T32 T33 T34 T35 T36 T37 T38 T39 T40 T41 β : Type} {f : Option (T0 × T1 × T2 × T3 × T4 × T5 × T6 × T7 × T8 × T9 × T10 × T11 × T12 × T13 × T14 × T15 × T16 × T17 × T18 × T19 × T20 × T21 × T22 × T23 × T24 × T25 × T26 × T27 × T28 × T29 × T30 × T31 × T32 × T33 × T34 × T35 × T36 × T37 × T38 × T39 × T40 × T41)} {k : T0 → T1 → T2 → T3 → T4 → T5 → T6 → T7 → T8 → T9 → T10 → T11 → T12 → T13 → T14 → T15 → T16 → T17 → T18 → T19 → T20 → T21 → T22 → T23 → T24 → T25 → T26 → T27 → T28 → T29 → T30 → T31 → T32 → T33 → T34 → T35 → T36 → T37 → T38 → T39 → T40 → T41 → Option β} {r : β} (h : ob42 f k = some r) : ∃ v0 v1 v2 v3 v4 v5 v6 v7 v8 v9 v10 v11 v12 v13 v14 v15 v16 v17 v18 v19 v20 v21 v22 v23 v24 v25 v26 v27 v28 v29 v30 v31 v32 v33 v34 v35 v36 v37 v38 v39 v40 v41, f = some (v0, v1, v2, v3, v4, v5, v6, v7, v8, v9, v10, v11, v12, v13, v14, v15, v16, v17, v18, v19, v20, v21, v22, v23, v24, v25, v26, v27, v28, v29, v30, v31, v32, v33, v34, v35, v36, v37, v38, v39, v40, v41) ∧ k v0 v1 v2 v3 v4 v5 v6 v7 v8 v9 v10 v11 v12 v13 v14 v15 v16 v17 v18 v19 v20 v21 v22 v23 v24 v25 v26 v27 v28 v29 v30 v31 v32 v33 v34 v35 v36 v37 v38 v39 v40 v41 = some r := by
  cases f with
  | none => cases h
  | some z => exact ⟨z.1, z.2.1, z.2.2.1, z.2.2.2.1, z.2.2.2.2.1, z.2.2.2.2.2.1, z.2.2.2.2.2.2.1, z.2.2.2.2.2.2.2.1, z.2.2.2.2.2.2.2.2.1, z.2.2.2.2.2.2.2.2.2.1, z.2.2.2.2.2.2.2.2.2.2.1, z.2.2.2.2.2.2.2.2.2.2.2.1, z.2.2.2.2.2.2.2.2.2.2.2.2.1, z.2.2.2.2.2.2.2.2.2.2.2.2.2.1, z.2.2.2.2.2.2.2.2.2.2.2.2.2.2.1, z.2.2.2.2.2.2.2.2.2.2.2.2.2.2.2.1, z.2.2.2.2.2.2.2.2.2.2.2.2.2.2.2.2.1, z.2.2.2.2.2.2.2.2.2.2.2.2.2.2.2.2.2.1, z.2.2.2.2.2.2.2.2.2.2.2.2.2.2.2.2.2.2.1, z.2.2.2.2.2.2.2.2.2.2.2.2.2.2.2.2.2.2.2.1, z.2.2.2.2.2.2.2.2.2.2.2.2.2.2.2.2.2.2.2.2.1, z.2.2.2.2.2.2.2.2.2.2.2.2.2.2.2.2.2.2.2.2.2.1, z.2.2.2.2.2.2.2.2.2.2.2.2.2.2.2.2.2.2.2.2.2.2.1, z.2.2.2.2.2.2.2.2.2.2.2.2.2.2.2.2.2.2.2.2.2.2.2.1, z.2.2.2.2.2.2.2.2.2.2.2.2.2.2.2.2.2.2.2.2.2.2.2.2.1, z.2.2.2.2.2.2.2.2.2.2.2.2.2.2.2.2.2.2.2.2.2.2.2.2.2.1, z.2.2.2.2.2.2.2.2.2.2.2.2.2.2.2.2.2.2.2.2.2.2.2.2.2.2.1, z.2.2.2.2.2.2.2.2.2.2.2.2.2.2.2.2.2.2.2.2.2.2.2.2.2.2.2.1, z.2.2.2.2.2.2.2.2.2.2.2.2.2.2.2.2.2.2.2.2.2.2.2.2.2.2.2.2.1, z.2.2.2.2.2.2.2.2.2.2.2.2.2.2.2.2.2.2.2.2.2.2.2.2.2.2.2.2.2.1, z.2.2.2.2.2.2.2.2.2.2.2.2.2.2.2.2.2.2.2.2.2.2.2.2.2.2.2.2.2.2.1, z.2.2.2.2.2.2.2.2.2.2.2.2.2.2.2.2.2.2.2.2.2.2.2.2.2.2.2.2.2.2.2.1, z.2.2.2.2.2.2.2.2.2.2.2.2.2.2.2.2.2.2.2.2.2.2.2.2.2.2.2.2.2.2.2.2.1, z.2.2.2.2.2.2.2.2.2.2.2.2.2.2.2.2.2.2.2.2.2.2.2.2.2.2.2.2.2.2.2.2.2.1, z.2.2.2.2.2.2.2.2.2.2.2.2.2.2.2.2.2.2.2.2.2.2.2.2.2.2.2.2.2.2.2.2.2.2.1, z.2.2.2.2.2.2.2.2.2.2.2.2.2.2.2.2.2.2.2.2.2.2.2.2.2.2.2.2.2.2.2.2.2.2.2.1, z.2.2.2.2.2.2.2.2.2.2.2.2.2.2.2.2.2.2.2.2.2.2.2.2.2.2.2.2.2.2.2.2.2.2.2.2.1, z.2.2.2.2.2.2.2.2.2.2.2.2.2.2.2.2.2.2.2.2.2.2.2.2.2.2.2.2.2.2.2.2.2.2.2.2.2.1, z.2.2.2.2.2.2.2.2.2.2.2.2.2.2.2.2.2.2.2.2.2.2.2.2.2.2.2.2.2.2.2.2.2.2.2.2.2.2.1, z.2.2.2.2.2.2.2.2.2.2.2.2.2.2.2.2.2.2.2.2.2.2.2.2.2.2.2.2.2.2.2.2.2.2.2.2.2.2.2.1, z.2.2.2.2.2.2.2.2.2.2.2.2.2.2.2.2.2.2.2.2.2.2.2.2.2.2.2.2.2.2.2.2.2.2.2.2.2.2.2.2.1, z.2.2.2.2.2.2.2.2.2.2.2.2.2.2.2.2.2.2.2.2.2.2.2.2.2.2.2.2.2.2.2.2.2.2.2.2.2.2.2.2.2, rfl, h⟩
def ob43 {T0 T1 T2 T3 T4 T5 T6 T7 T8 T9 T10 T11 T12 T13 T14 T15 T16 T17 T18 T19 T20 T21 T22 T23 T24 T25 T26 T27 T28 T29 T30 T31 T32 T33 T34 T35 T36 T37 T38 T39 T40 T41 T42 β : Type} (f : Option (T0 × T1 × T2 × T3 × T4 × T5 × T6 × T7 × T8 × T9 × T10 × T11 × T12 × T13 × T14 × T15 × T16 × T17 × T18 × T19 × T20 × T21 × T22 × T23 × T24 × T25 × T26 × T27 × T28 × T29 × T30 × T31 × T32 × T33 × T34 × T35 × T36 × T37 × T38 × T39 × T40 × T41 × T42)) (k : T0 → T1 → T2 → T3 → T4 → T5 → T6 → T7 → T8 → T9 → T10 → T11 → T12 → T13 → T14 → T15 → T16 → T17 → T18 → T19 → T20 → T21 → T22 → T23 → T24 → T25 → T26 → T27 → T28 → T29 → T30 → T31 → T32 → T33 → T34 → T35 → T36 → T37 → T38 → T39 → T40 → T41 → T42 → Option β) : Option β := match f with
  | none => none
  | some z => k z.1 z.2.1 z.2.2.1 z.2.2.2.1 z.2.2.2.2.1 z.2.2.2.2.2.1 z.2.2.2.2.2.2.1 z.2.2.2.2.2.2.2.1 z.2.2.2.2.2.2.2.2.1 z.2.2.2.2.2.2.2.2.2.1 z.2.2.2.2.2.2.2.2.2.2.1 z.2.2.2.2.2.2.2.2.2.2.2.1 z.2.2.2.2.2.2.2.2.2.2.2.2.1 z.2.2.2.2.2.2.2.2.2.2.2.2.2.1 z.2.2.2.2.2.2.2.2.2.2.2.2.2.2.1 z.2.2.2.2.2.2.2.2.2.2.2.2.2.2.2.1 z.2.2.2.2.2.2.2.2.2.2.2.2.2.2.2.2.1 z.2.2.2.2.2.2.2.2.2.2.2.2.2.2.2.2.2.1 z.2.2.2.2.2.2.2.2.2.2.2.2.2.2.2.2.2.2.1 z.2.2.2.2.2.2.2.2.2.2.2.2.2.2.2.2.2.2.2.1 z.2.2.2.2.2.2.2.2.2.2.2.2.2.2.2.2.2.2.2.2.1 z.2.2.2.2.2.2.2.2.2.2.2.2.2.2.2.2.2.2.2.2.2.1 z.2.2.2.2.2.2.2.2.2.2.2.2.2.2.2.2.2.2.2.2.2.2.1 z.2.2.2.2.2.2.2.2.2.2.2.2.2.2.2.2.2.2.2.2.2.2.2.1 z.2.2.2.2.2.2.2.2.2.2.2.2.2.2.2.2.2.2.2.2.2.2.2.2.1 z.2.2.2.2.2.2.2.2.2.2.2.2.2.2.2.2.2.2.2.2.2.2.2.2.2.1 z.2.2.2.2.2.2.2.2.2.2.2.2.2.2.2.2.2.2.2.2.2.2.2.2.2.2.1 z.2.2.2.2.2.2.2.2.2.2.2.2.2.2.2.2.2.2.2.2.2.2.2.2.2.2.2.1 z.2.2.2.2.2.2.2.2.2.2.2.2.2.2.2.2.2.2.2.2.2.2.2.2.2.2.2.2.1 z.2.2.2.2.2.2.2.2.2.2.2.2.2.2.2.2.2.2.2.2.2.2.2.2.2.2.2.2.2.1 z.2.2.2.2.2.2.2.2.2.2.2.2.2.2.2.2.2.2.2.2.2.2.2.2.2.2.2.2.2.2.1 z.2.2.2.2.2.2.2.2.2.2.2.2.2.2.2.2.2.2.2.2.2.2.2.2.2.2.2.2.2.2.2.1 z.2.2.2.2.2.2.2.2.2.2.2.2.2.2.2.2.2.2.2.2.2.2.2.2.2.2.2.2.2.2.2.2.1 z.2.2.2.2.2.2.2.2.2.2.2.2.2.2.2.2.2.2.2.2.2.2.2.2.2.2.2.2.2.2.2.2.2.1 z.2.2.2.2.2.2.2.2.2.2.2.2.2.2.2.2.2.2.2.2.2.2.2.2.2.2.2.2.2.2.2.2.2.2.1 z.2.2.2.2.2.2.2.2.2.2.2.2.2.2.2.2.2.2.2.2.2.2.2.2.2.2.2.2.2.2.2.2.2.2.2.1 z.2.2.2.2.2.2.2.2.2.2.2.2.2.2.2.2.2.2.2.2.2.2.2.2.2.2.2.2.2.2.2.2.2.2.2.2.1 z.2.2.2.2.2.2.2.2.2.2.2.2.2.2.2.2.2.2.2.2.2.2.2.2.2.2.2.2.2.2.2.2.2.2.2.2.2.1 z.2.2.2.2.2.2.2.2.2.2.2.2.2.2.2.2.2.2.2.2.2.2.2.2.2.2.2.2.2.2.2.2.2.2.2.2.2.2.1 z.2.2.2.2.2.2.2.2.2.2.2.2.2.2.2.2.2.2.2.2.2.2.2.2.2.2.2.2.2.2.2.2.2.2.2.2.2.2.2.1 z.2.2.2.2.2.2.2.2.2.2.2.2.2.2.2.2.2.2.2.2.2.2.2.2.2.2.2.2.2.2.2.2.2.2.2.2.2.2.2.2.1 z.2.2.2.2.2.2.2.2.2.2.2.2.2.2.2.2.2.2.2.2.2.2.2.2.2.2.2.2.2.2.2.2.2.2.2.2.2.2.2.2.2.1 z.2.2.2.2.2.2.2.2.2.2.2.2.2.2.2.2.2.2.2.2.2.2.2.2.2.2.2.2.2.2.2.2.2.2.2.2.2.2.2.2.2.2
theorem ob43_el {T0 T1 T2 T3 T4 T5 T6 T7 T8 T9 T10 T11 T12 T13 T14 T15 T16 T17 T18 T19 T20 T21 T22 T23 T24 T25 T26 T27 T28 T29 T30 T31 T32 T33 T34 T35 T36 T37 T38 T39 T40 T41 T42 β : Type} {f : Option (T0 × T1 × T2 × T3 × T4 × T5 × T6 × T7 × T8 × T9 × T10 × T11 × T12 × T13 × T14 × T15 × T16 × T17 × T18 × T19 × T20 × T21 × T22 × T23 × T24 × T25 × T26 × T27 × T28 × T29 × T30 × T31 × T32 × T33 × T34 × T35 × T36 × T37 × T38 × T39 × T40 × T41 × T42)} {k : T0 → T1 → T2 → T3 → T4 → T5 → T6 → T7 → T8 → T9 → T10 → T11 → T12 → T13 → T14 → T15 → T16 → T17 → T18 → T19 → T20 → T21 → T22 → T23 → T24 → T25 → T26 → T27 → T28 → T29 → T30 → T31 → T32 → T33 → T34 → T35 → T36 → T37 → T38 → T39 → T40 → T41 → T42 → Option β} {r : β} (h : ob43 f k = some r) : ∃ v0 v1 v2 v3 v4 v5 v6 v7 v8 v9 v10 v11 v12 v13 v14 v15 v16 v17 v18 v19 v20 v21 v22 v23 v24 v25 v26 v27 v28 v29 v30 v31 v32 v33 v34 v35 v36 v37 v38 v39 v40 v41 v42, f = some (v0, v1, v2, v3, v4, v5, v6, v7, v8, v9, v10, v11, v12, v13, v14, v15, v16, v17, v18, v19, v20, v21, v22, v23, v24, v25, v26, v27, v28, v29, v30, v31, v32, v33, v34, v35, v36, v37, v38, v39, v40, v41, v42) ∧ k v0 v1 v2 v3 v4 v5 v6 v7 v8 v9 v10 v11 v12 v13 v14 v15 v16 v17 v18 v19 v20 v21 v22 v23 v24 v25 v26 v27 v28 v29 v30 v31 v32 v33 v34 v35 v36 v37 v38 v39 v40 v41 v42 = some r := by
  cases f with
  | none => cases h
  | some z => exact ⟨z.1, z.2.1, z.2.2.1, z.2.2.2.1, z.2.2.2.2.1, z.2.2.2.2.2.1, z.2.2.2.2.2.2.1, z.2.2.2.2.2.2.2.1, z.2.2.2.2.2.2.2.2.1, z.2.2.2.2.2.2.2.2.2.1, z.2.2.2.2.2.2.2.2.2.2.1, z.2.2.2.2.2.2.2.2.2.2.2.1, z.2.2.2.2.2.2.2.2.2.2.2.2.1, z.2.2.2.2.2.2.2.2.2.2.2.2.2.1, z.2.2.2.2.2.2.2.2.2.2.2.2.2.2.1, z.2.2.2.2.2.2.2.2.2.2.2.2.2.2.2.1, z.2.2.2.2.2.2.2.2.2.2.2.2.2.2.2.2.1, z.2.2.2.2.2.2.2.2.2.2.2.2.2.2.2.2.2.1, z.2.2.2.2.2.2.2.2.2.2.2.2.2.2.2.2.2.2.1, z.2.2.2.2.2.2.2.2.2.2.2.2.2.2.2.2.2.2.2.1, z.2.2.2.2.2.2.2.2.2.2.2.2.2.2.2.2.2.2.2.2.1, z.2.2.2.2.2.2.2.2.2.2.2.2.2.2.2.2.2.2.2.2.2.1, z.2.2.2.2.2.2.2.2.2.2.2.2.2.2.2.2.2.2.2.2.2.2.1, z.2.2.2.2.2.2.2.2.2.2.2.2.2.2.2.2.2.2.2.2.2.2.2.1, z.2.2.2.2.2.2.2.2.2.2.2.2.2.2.2.2.2.2.2.2.2.2.2.2.1, z.2.2.2.2.2.2.2.2.2.2.2.2.2.2.2.2.2.2.2.2.2.2.2.2.2.1, z.2.2.2.2.2.2.2.2.2.2.2.2.2.2.2.2.2.2.2.2.2.2.2.2.2.2.1, z.2.2.2.2.2.2.2.2.2.2.2.2.2.2.2.2.2.2.2.2.2.2.2.2.2.2.2.1, z.2.2.2.2.2.2.2.2.2.2.2.2.2.2.2.2.2.2.2.2.2.2.2.2.2.2.2.2.1, z.2.2.2.2.2.2.2.2.2.2.2.2.2.2.2.2.2.2.2.2.2.2.2.2.2.2.2.2.2.1, z.2.2.2.2.2.2.2.2.2.2.2.2.2.2.2.2.2.2.2.2.2.2.2.2.2.2.2.2.2.2.1, z.2.2.2.2.2.2.2.2.2.2.2.2.2.2.2.2.2.2.2.2.2.2.2.2.2.2.2.2.2.2.2.1, z.2.2.2.2.2.2.2.2.2.2.2.2.2.2.2.2.2.2.2.2.2.2.2.2.2.2.2.2.2.2.2.2.1, z.2.2.2.2.2.2.2.2.2.2.2.2.2.2.2.2.2.2.2.2.2.2.2.2.2.2.2.2.2.2.2.2.2.1, z.2.2.2.2.2.2.2.2.2.2.2.2.2.2.2.2.2.2.2.2.2.2.2.2.2.2.2.2.2.2.2.2.2.2.1, z.2.2.2.2.2.2.2.2.2.2.2.2.2.2.2.2.2.2.2.2.2.2.2.2.2.2.2.2.2.2.2.2.2.2.2.1, z.2.2.2.2.2.2.2.2.2.2.2.2.2.2.2.2.2.2.2.2.2.2.2.2.2.2.2.2.2.2.2.2.2.2.2.2.1, z.2.2.2.2.2.2.2.2.2.2.2.2.2.2.2.2.2.2.2.2.2.2.2.2.2.2.2.2.2.2.2.2.2.2.2.2.2.1, z.2.2.2.2.2.2.2.2.2.2.2.2.2.2.2.2.2.2.2.2.2.2.2.2.2.2.2.2.2.2.2.2.2.2.2.2.2.2.1, z.2.2.2.2.2.2.2.2.2.2.2.2.2.2.2.2.2.2.2.2.2.2.2.2.2.2.2.2.2.2.2.2.2.2.2.2.2.2.2.1, z.2.2.2.2.2.2.2.2.2.2.2.2.2.2.2.2.2.2.2.2.2.2.2.2.2.2.2.2.2.2.2.2.2.2.2.2.2.2.2.2.1, z.2.2.2.2.2.2.2.2.2.2.2.2.2.2.2.2.2.2.2.2.2.2.2.2.2.2.2.2.2.2.2.2.2.2.2.2.2.2.2.2.2.1, z.2.2.2.2.2.2.2.2.2.2.2.2.2.2.2.2.2.2.2.2.2.2.2.2.2.2.2.2.2.2.2.2.2.2.2.2.2.2.2.2.2.2, rfl, h⟩
def ob44 {T0 T1 T2 T3 T4 T5 T6 T7 T8 T9 T10 T11 T12 T13 T14 T15 T16 T17 T18 T19 T20 T21 T22 T23 T24 T25 T26 T27 T28 T29 T30 T31 T32 T33 T34 T35 T36 T37 T38 T39 T40 T41 T42 T43 β : Type} (f : Option (T0 × T1 × T2 × T3 × T4 × T5 × T6 × T7 × T8 × T9 × T10 × T11 × T12 × T13 × T14 × T15 × T16 × T17 × T18 × T19 × T20 × T21 × T22 × T23 × T24 × T25 × T26 × T27 × T28 × T29 × T30 × T31 × T32 × T33 × T34 × T35 × T36 × T37 × T38 × T39 × T40 × T41 × T42 × T43)) (k : T0 → T1 → T2 → T3 → T4 → T5 → T6 → T7 → T8 → T9 → T10 → T11 → T12 → T13 → T14 → T15 → T16 → T17 → T18 → T19 → T20 → T21 → T22 → T23 → T24 → T25 → T26 → T27 → T28 → T29 → T30 → T31 → T32 → T33 → T34 → T35 → T36 → T37 → T38 → T39 → T40 → T41 → T42 → T43 → Option β) : Option β := match f with
  | none => none
  | some z => k z.1 z.2.1 z.2.2.1 z.2.2.2.1 z.2.2.2.2.1 z.2.2.2.2.2.1 z.2.2.2.2.2.2.1 z.2.2.2.2.2.2.2.1 z.2.2.2.2.2.2.2.2.1 z.2.2.2.2.2.2.2.2.2.1 z.2.2.2.2.2.2.2.2.2.2.1 z.2.2.2.2.2.2.2.2.2.2.2.1 z.2.2.2.2.2.2.2.2.2.2.2.2.1 z.2.2.2.2.2.2.2.2.2.2.2.2.2.1 z.2.2.2.2.2.2.2.2.2.2.2.2.2.2.1 z.2.2.2.2.2.2.2.2.2.2.2.2.2.2.2.1 z.2.2.2.2.2.2.2.2.2.2.2.2.2.2.2.2.1 z.2.2.2.2.2.2.2.2.2.2.2.2.2.2.2.2.2.1 z.2.2.2.2.2.2.2.2.2.2.2.2.2.2.2.2.2.2.1 z.2.2.2.2.2.2.2.2.2.2.2.2.2.2.2.2.2.2.2.1 z.2.2.2.2.2.2.2.2.2.2.2.2.2.2.2.2.2.2.2.2.1 z.2.2.2.2.2.2.2.2.2.2.2.2.2.2.2.2.2.2.2.2.2.1 z.2.2.2.2.2.2.2.2.2.2.2.2.2.2.2.2.2.2.2.2.2.2.1 z.2.2.2.2.2.2.2.2.2.2.2.2.2.2.2.2.2.2.2.2.2.2.2.1 z.2.2.2.2.2.2.2.2.2.2.2.2.2.2.2.2.2.2.2.2.2.2.2.2.1 z.2.2.2.2.2.2.2.2.2.2.2.2.2.2.2.2.2.2.2.2.2.2.2.2.2.1 z.2.2.2.2.2.2.2.2.2.2.2.2.2.2.2.2.2.2.2.2.2.2.2.2.2.2.1 z.2.2.2.2.2.2.2.2.2.2.2.2.2.2.2.2.2.2.2.2.2.2.2.2.2.2.2.1 z.2.2.2.2.2.2.2.2.2.2.2.2.2.2.2.2.2.2.2.2.2.2.2.2.2.2.2.2.1 z.2.2.2.2.2.2.2.2.2.2.2.2.2.2.2.2.2.2.2.2.2.2.2.2.2.2.2.2.2.1 z.2.2.2.2.2.2.2.2.2.2.2.2.2.2.2.2.2.2.2.2.2.2.2.2.2.2.2.2.2.2.1 z.2.2.2.2.2.2.2.2.2.2.2.2.2.2.2.2.2.2.2.2.2.2.2.2.2.2.2.2.2.2.2.1 z.2.2.2.2.2.2.2.2.2.2.2.2.2.2.2.2.2.2.2.2.2.2.2.2.2.2.2.2.2.2.2.2.1 z.2.2.2.2.2.2.2.2.2.2.2.2.2.2.2.2.2.2.2.2.2.2.2.2.2.2.2.2.2.2.2.2.2.1 z.2.2.2.2.2.2.2.2.2.2.2.2.2.2.2.2.2.2.2.2.2.2.2.2.2.2.2.2.2.2.2.2.2.2.1 z.2.2.2.2.2.2.2.2.2.2.2.2.2.2.2.2.2.2.2.2.2.2.2.2.2.2.2.2.2.2.2.2.2.2.2.1 z.2.2.2.2.2.2.2.2.2.2.2.2.2.2.2.2.2.2.2.2.2.2.2.2.2.2.2.2.2.2.2.2.2.2.2.2.1 z.2.2.2.2.2.2.2.2.2.2.2.2.2.2.2.2.2.2.2.2.2.2.2.2.2.2.2.2.2.2.2.2.2.2.2.2.2.1 z.2.2.2.2.2.2.2.2.2.2.2.2.2.2.2.2.2.2.2.2.2.2.2.2.2.2.2.2.2.2.2.2.2.2.2.2.2.2.1 z.2.2.2.2.2.2.2.2.2.2.2.2.2.2.2.2.2.2.2.2.2.2.2.2.2.2.2.2.2.2.2.2.2.2.2.2.2.2.2.1 z.2.2.2.2.2.2.2.2.2.2.2.2.2.2.2.2.2.2.2.2.2.2.2.2.2.2.2.2.2.2.2.2.2.2.2.2.2.2.2.2.1 z.2.2.2.2.2.2.2.2.2.2.2.2.2.2.2.2.2.2.2.2.2.2.2.2.2.2.2.2.2.2.2.2.2.2.2.2.2.2.2.2.2.1 z.2.2.2.2.2.2.2.2.2.2.2.2.2.2.2.2.2.2.2.2.2.2.2.2.2.2.2.2.2.2.2.2.2.2.2.2.2.2.2.2.2.2.1 z.2.2.2.2.2.2.2.2.2.2.2.2.2.2.2.2.2.2.2.2.2.2.2.2.2.2.2.2.2.2.2.2.2.2.2.2.2.2.2.2.2.2.2
theorem ob44_el {T0 T1 T2 T3 T4 T5 T6 T7 T8 T9 T10 T11 T12 T13 T14 T15 T16 T17 T18 T19 T20 T21 T22 T23 T24 T25 T26 T27 T28 T29 T30 T31 T32 T33 T34 T35 T36 T37 T38 T39 T40 T41 T42 T43 β : Type} {f : Option (T0 × T1 × T2 × T3 × T4 × T5 × T6 × T7 × T8 × T9 × T10 × T11 × T12 × T13 × T14 × T15 × T16 × T17 × T18 × T19 × T20 × T21 × T22 × T23 × T24 × T25 × T26 × T27 × T28 × T29 × T30 × T31 × T32 × T33 × T34 × T35 × T36 × T37 × T38 × T39 × T40 × T41 × T42 × T43)} {k : T0 → T1 → T2 → T3 → T4 → T5 → T6 → T7 → T8 → T9 → T10 → T11 → T12 → T13 → T14 → T15 → T16 → T17 → T18 → T19 → T20 → T21 → T22 → T23 → T24 → T25 → T26 → T27 → T28 → T29 → T30 → T31 → T32 → T33 → T34 → T35 → T36 → T37 → T38 → T39 → T40 → T41 → T42 → T43 → Option β} {r : β} (h : ob44 f k = some r) : ∃ v0 v1 v2 v3 v4 v5 v6 v7 v8 v9 v10 v11 v12 v13 v14 v15 v16 v17 v18 v19 v20 v21 v22 v23 v24 v25 v26 v27 v28 v29 v30 v31 v32 v33 v34 v35 v36 v37 v38 v39 v40 v41 v42 v43, f = some (v0, v1, v2, v3, v4, v5, v6, v7, v8, v9, v10, v11, v12, v13, v14, v15, v16, v17, v18, v19, v20, v21, v22, v23, v24, v25, v26, v27, v28, v29, v30, v31, v32, v33, v34, v35, v36, v37, v38, v39, v40, v41, v42, v43) ∧ k v0 v1 v2 v3 v4 v5 v6 v7 v8 v9 v10 v11 v12 v13 v14 v15 v16 v17 v18 v19 v20 v21 v22 v23 v24 v25 v26 v27 v28 v29 v30 v31 v32 v33 v34 v35 v36 v37 v38 v39 v40 v41 v42 v43 = some r := by
  cases f with
  | none => cases h
  | some z => exact ⟨z.1, z.2.1, z.2.2.1, z.2.2.2.1, z.2.2.2.2.1, z.2.2.2.2.2.1, z.2.2.2.2.2.2.1, z.2.2.2.2.2.2.2.1, z.2.2.2.2.2.2.2.2.1, z.2.2.2.2.2.2.2.2.2.1, z.2.2.2.2.2.2.2.2.2.2.1, z.2.2.2.2.2.2.2.2.2.2.2.1, z.2.2.2.2.2.2.2.2.2.2.2.2.1, z.2.2.2.2.2.2.2.2.2.2.2.2.2.1, z.2.2.2.2.2.2.2.2.2.2.2.2.2.2.1, z.2.2.2.2.2.2.2.2.2.2.2.2.2.2.2.1, z.2.2.2.2.2.2.2.2.2.2.2.2.2.2.2.2.1, z.2.2.2.2.2.2.2.2.2.2.2.2.2.2.2.2.2.1, z.2.2.2.2.2.2.2.2.2.2.2.2.2.2.2.2.2.2.1, z.2.2.2.2.2.2.2.2.2.2.2.2.2.2.2.2.2.2.2.1, z.2.2.2.2.2.2.2.2.2.2.2.2.2.2.2.2.2.2.2.2.1, z.2.2.2.2.2.2.2.2.2.2.2.2.2.2.2.2.2.2.2.2.2.1, z.2.2.2.2.2.2.2.2.2.2.2.2.2.2.2.2.2.2.2.2.2.2.1, z.2.2.2.2.2.2.2.2.2.2.2.2.2.2.2.2.2.2.2.2.2.2.2.1, z.2.2.2.2.2.2.2.2.2.2.2.2.2.2.2.2.2.2.2.2.2.2.2.2.1, z.2.2.2.2.2.2.2.2.2.2.2.2.2.2.2.2.2.2.2.2.2.2.2.2.2.1, z.2.2.2.2.2.2.2.2.2.2.2.2.2.2.2.2.2.2.2.2.2.2.2.2.2.2.1, z.2.2.2.2.2.2.2.2.2.2.2.2.2.2.2.2.2.2.2.2.2.2.2.2.2.2.2.1, z.2.2.2.2.2.2.2.2.2.2.2.2.2.2.2.2.2.2.2.2.2.2.2.2.2.2.2.2.1, z.2.2.2.2.2.2.2.2.2.2.2.2.2.2.2.2.2.2.2.2.2.2.2.2.2.2.2.2.2.1, z.2.2.2.2.2.2.2.2.2.2.2.2.2.2.2.2.2.2.2.2.2.2.2.2.2.2.2.2.2.2.1, z.2.2.2.2.2.2.2.2.2.2.2.2.2.2.2.2.2.2.2.2.2.2.2.2.2.2.2.2.2.2.2.1, z.2.2.2.2.2.2.2.2.2.2.2.2.2.2.2.2.2.2.2.2.2.2.2.2.2.2.2.2.2.2.2.2.1, z.2.2.2.2.2.2.2.2.2.2.2.2.2.2.2.2.2.2.2.2.2.2.2.2.2.2.2.2.2.2.2.2.2.1, z.2.2.2.2.2.2.2.2.2.2.2.2.2.2.2.2.2.2.2.2.2.2.2.2.2.2.2.2.2.2.2.2.2.2.1, z.2.2.2.2.2.2.2.2.2.2.2.2.2.2.2.2.2.2.2.2.2.2.2.2.2.2.2.2.2.2.2.2.2.2.2.1, z.2.2.2.2.2.2.2.2.2.2.2.2.2.2.2.2.2.2.2.2.2.2.2.2.2.2.2.2.2.2.2.2.2.2.2.2.1, z.2.2.2.2.2.2.2.2.2.2.2.2.2.2.2.2.2.2.2.2.2.2.2.2.2.2.2.2.2.2.2.2.2.2.2.2.2.1, z.2.2.2.2.2.2.2.2.2.2.2.2.2.2.2.2.2.2.2.2.2.2.2.2.2.2.2.2.2.2.2.2.2.2.2.2.2.2.1, z.2.2.2.2.2.2.2.2.2.2.2.2.2.2.2.2.2.2.2.2.2.2.2.2.2.2.2.2.2.2.2.2.2.2.2.2.2.2.2.1, z.2.2.2.2.2.2.2.2.2.2.2.2.2.2.2.2.2.2.2.2.2.2.2.2.2.2.2.2.2.2.2.2.2.2.2.2.2.2.2.2.1, z.2.2.2.2.2.2.2.2.2.2.2.2.2.2.2.2.2.2.2.2.2.2.2.2.2.2.2.2.2.2.2.2.2.2.2.2.2.2.2.2.2.1, z.2.2.2.2.2.2.2.2.2.2.2.2.2.2.2.2.2.2.2.2.2.2.2.2.2.2.2.2.2.2.2.2.2.2.2.2.2.2.2.2.2.2.1, z.2.2.2.2.2.2.2.2.2.2.2.2.2.2.2.2.2.2.2.2.2.2.2.2.2.2.2.2.2.2.2.2.2.2.2.2.2.2.2.2.2.2.2, rfl, h⟩
def FU : Nat := 4096
section TOPS
variable {p : Program} {l : Launch} {e : Env} {R : Room} {s : State} {m : MethodId} {args : Array Value} {below : List Frame} {meth : Method} {c : Code} {H : Heap} {locs : List Loc} {cells slots : Nat} {Q : State → Prop}
variable {cc : ByteArray} {pc : Nat} {ls : Array Slot} {rest : List Value}
theorem tp_i {x v : Int32} (h : x = v) (k : W p l e R s m args below meth c H locs cells slots Q (F0 m pc ls (.int v :: rest))) : W p l e R s m args below meth c H locs cells slots Q (F0 m pc ls (.int x :: rest)) := by rw [h]; exact k
theorem tp_l {x v : Int64} (h : x = v) (k : W p l e R s m args below meth c H locs cells slots Q (F0 m pc ls (.long v :: rest))) : W p l e R s m args below meth c H locs cells slots Q (F0 m pc ls (.long x :: rest)) := by rw [h]; exact k
theorem lv_tab (hexec : p.tables.exec = Jvm.exec) (hb : c.code = cc) {dflt lo hi : Int} {offs : Array Int} {len : Nat} {x : Int32} {off : Int} {tgt : Nat} (hdg : decode cc pc = .ok (.tableswitch dflt lo hi offs, len)) (ho : (if x.toInt < lo ∨ hi < x.toInt then some dflt else offs[(x.toInt - lo).toNat]?) = some off) (ht : (pc : Int) + off = (tgt : Int))
    (k : W p l e R s m args below meth c H locs cells slots Q (F0 m tgt ls rest)) : W p l e R s m args below meth c H locs cells slots Q (F0 m pc ls (.int x :: rest)) := by
  by_cases hq : x.toInt < lo ∨ hi < x.toInt
  · rw [if_pos hq] at ho
    cases ho
    exact lv_tableOut hexec hb hdg hq ht k
  · rw [if_neg hq] at ho
    exact lv_tableIn hexec hb hdg (fun z => hq (Or.inl z)) (fun z => hq (Or.inr z)) ho ht k
end TOPS
end
section
theorem inX4 : ∀ w ∈ u_ws RX4 TX4 2, w ∈ GW := fun w h => gw_of (by revert w h; decide +kernel) (by revert w h; decide +kernel)
theorem mw_82 : Cond.fieldLink RX4 15 "QueryText$Tape" "size" "I" ∈ GW := gw_of (List.mem_of_getElem? (i := 82) (by decide +kernel)) rfl
theorem fg_X4_15 {p : Program} {l : Launch} {e : Env} {R : Room} {s : State} {m : MethodId} {args : Array Value} {below : List Frame} {meth : Method} {c : Code} {H : Heap} {locs : List Loc} {cells slots : Nat} {Q : State → Prop} {cc : ByteArray} {pc : Nat} {ls : Array Slot} {rest : List Value} {E : EnvT} {A : Nat → Prop} {a nL : Nat} {ret : Option FieldType} {ws : va_W} (C : MC p s m args meth c E A cc nL RX4 ret) (hw : WS E A s ws H locs) (q0 : Nat) {fs : List Value} (he : ws[q0]? = some (a, .inr (4, fs))) {v : Value} (hv : fs[1]? = some v) (hdg : decode cc pc = .ok (.getfield 15, 3)) (kk : W p l e R s m args below meth c H locs cells slots Q (F0 m (pc + 3) ls (v :: rest))) : W p l e R s m args below meth c H locs cells slots Q (F0 m pc ls (.ref a :: rest)) := rg C hw inX4 q0 he rfl 1 (by decide) mw_82 hv hdg kk
theorem fp_X4_15 {p : Program} {l : Launch} {e : Env} {R : Room} {s : State} {m : MethodId} {args : Array Value} {below : List Frame} {meth : Method} {c : Code} {H : Heap} {locs : List Loc} {cells slots : Nat} {Q : State → Prop} {cc : ByteArray} {pc : Nat} {ls : Array Slot} {rest : List Value} {E : EnvT} {A : Nat → Prop} {a nL : Nat} {ret : Option FieldType} {ws : va_W} (C : MC p s m args meth c E A cc nL RX4 ret) (hw : WS E A s ws H locs) (q0 : Nat) {fs : List Value} (he : ws[q0]? = some (a, .inr (4, fs))) {x : Int32} (hl : 1 < fs.length) {ws' : va_W} (hset : ws.set q0 (a, .inr (4, fs.set 1 (.int x))) = ws') (hdg : decode cc pc = .ok (.putfield 15, 3)) (kk : ∀ (H1 : Heap) (locs1 : List Loc), WS E A s ws' H1 locs1 → W p l e R s m args below meth c H1 locs1 cells slots Q (F0 m (pc + 3) ls rest)) : W p l e R s m args below meth c H locs cells slots Q (F0 m pc ls (.int x :: .ref a :: rest)) := rp C hw inX4 tyX4 tyX4_ok nmX4 q0 he rfl 1 (by decide) mw_82 rfl (ty := .int) (by decide +kernel) rfl rfl hl hset hdg kk
theorem mw_81 : Cond.fieldLink RX4 9 "QueryText$Tape" "bytes" "[I" ∈ GW := gw_of (List.mem_of_getElem? (i := 81) (by decide +kernel)) rfl
theorem fg_X4_9 {p : Program} {l : Launch} {e : Env} {R : Room} {s : State} {m : MethodId} {args : Array Value} {below : List Frame} {meth : Method} {c : Code} {H : Heap} {locs : List Loc} {cells slots : Nat} {Q : State → Prop} {cc : ByteArray} {pc : Nat} {ls : Array Slot} {rest : List Value} {E : EnvT} {A : Nat → Prop} {a nL : Nat} {ret : Option FieldType} {ws : va_W} (C : MC p s m args meth c E A cc nL RX4 ret) (hw : WS E A s ws H locs) (q0 : Nat) {fs : List Value} (he : ws[q0]? = some (a, .inr (4, fs))) {v : Value} (hv : fs[0]? = some v) (hdg : decode cc pc = .ok (.getfield 9, 3)) (kk : W p l e R s m args below meth c H locs cells slots Q (F0 m (pc + 3) ls (v :: rest))) : W p l e R s m args below meth c H locs cells slots Q (F0 m pc ls (.ref a :: rest)) := rg C hw inX4 q0 he rfl 0 (by decide) mw_81 hv hdg kk
abbrev w_tp (E : EnvT) (a_tp : Nat → Nat) (tp_bytes : Nat → Int32) (tp_size : Int32) : va_W := [(a_tp 0, .inr (4, [.ref (a_tp 1), .int tp_size])), (a_tp 1, .inl (E.2.1.1, 2000, .inl tp_bytes))]
def f_X4_hasRoom (tp_size : Int32) : Option ((Int32)) :=
  if (2000 : Int32) < (tp_size + (20 : Int32)) then (some (0 : Int32))
  else (some (1 : Int32))
set_option maxHeartbeats 4000000 in
set_option maxRecDepth 100000 in
theorem c_X4_hasRoom (l : Launch) (E : EnvT) (a_tp : Nat → Nat) (tp_bytes : Nat → Int32) (tp_size : Int32) (r : Int32) (hf : f_X4_hasRoom tp_size = some r) : CI l yX4_hasRoom (Cond.code yX4_hasRoom cX4_hasRoom 1 (some .boolean)) { frames := 0, cells := 0, slots := 0, locals := 0 } E [.ref (a_tp 0)] (w_tp E a_tp tp_bytes tp_size) r (w_tp E a_tp tp_bytes tp_size) := by
  intro sz
  refine met_start [(0, .ref (a_tp 0))] (by decide) rfl rfl (Nat.le_of_ble_eq_true rfl) rfl ?_
  intro p e s m below meth c ls C hnm hmt hw hl
  have hx := C.1
  have hb := C.2.1
  generalize va_A (w_tp E a_tp tp_bytes tp_size) sz = A at C hw ⊢
  unfold f_X4_hasRoom at hf
  refine lv_aload_n hx hb dX4_hasRoom_0 rfl (lv_at hl 0 rfl) ?_
  refine fg_X4_15 C hw 0 rfl rfl dX4_hasRoom_1 ?_
  refine lv_bipush (v := 20) hx hb dX4_hasRoom_4 (by decide) ?_
  refine lv_iadd hx hb dX4_hasRoom_6 ?_
  refine lv_sipush (v := 2000) hx hb dX4_hasRoom_7 (by decide) ?_
  refine lv_icmp_gt (tgt := 17) hx hb dX4_hasRoom_10 (by decide) (fun c10 => ?_) (fun c10 => ?_)
  · replace hf := it_t c10 hf
    refine lv_iconst (v := 0) hx hb dX4_hasRoom_17 (by decide) ?_
    cases hf
    exact rt_z C hw (Or.inl rfl) dX4_hasRoom_18
  · replace hf := it_f c10 hf
    refine lv_iconst (v := 1) hx hb dX4_hasRoom_13 (by decide) ?_
    refine lv_goto (tgt := 18) hx hb dX4_hasRoom_14 (by decide) ?_
    cases hf
    exact rt_z C hw (Or.inr rfl) dX4_hasRoom_18
def f_X4_cut (p1 : Int32) (tp_size : Int32) : Option ((Int32) × (Int32)) :=
  if p1 < (0 : Int32) then (some ((0 : Int32), tp_size))
  else (if p1 ≤ tp_size then (some ((1 : Int32), p1))
  else (some ((0 : Int32), tp_size)))
set_option maxHeartbeats 4000000 in
set_option maxRecDepth 100000 in
theorem c_X4_cut (l : Launch) (E : EnvT) (a_tp : Nat → Nat) (tp_bytes : Nat → Int32) (tp_size : Int32) (p1 : Int32) (r : Int32) (o_tp_size : Int32) (hf : f_X4_cut p1 tp_size = some (r, o_tp_size)) : CI l yX4_cut (Cond.code yX4_cut cX4_cut 2 (some .boolean)) { frames := 0, cells := 0, slots := 0, locals := 0 } E [.ref (a_tp 0), .int p1] (w_tp E a_tp tp_bytes tp_size) r (w_tp E a_tp tp_bytes o_tp_size) := by
  intro sz
  refine met_start [(0, .ref (a_tp 0)), (1, .int p1)] (by decide) rfl rfl (Nat.le_of_ble_eq_true rfl) rfl ?_
  intro p e s m below meth c ls C hnm hmt hw hl
  have hx := C.1
  have hb := C.2.1
  generalize va_A (w_tp E a_tp tp_bytes tp_size) sz = A at C hw ⊢
  unfold f_X4_cut at hf
  refine lv_iload_n hx hb dX4_cut_0 rfl (lv_at hl 1 rfl) ?_
  refine lv_if_lt (tgt := 12) hx hb dX4_cut_1 (by decide) (fun c1 => ?_) (fun c1 => ?_)
  · replace hf := it_t c1 hf
    refine lv_iconst (v := 0) hx hb dX4_cut_12 (by decide) ?_
    cases hf
    exact rt_z C hw (Or.inl rfl) dX4_cut_13
  · replace hf := it_f c1 hf
    refine lv_iload_n hx hb dX4_cut_4 rfl (lv_at hl 1 rfl) ?_
    refine lv_aload_n hx hb dX4_cut_5 rfl (lv_at hl 0 rfl) ?_
    refine fg_X4_15 C hw 0 rfl rfl dX4_cut_6 ?_
    refine lv_icmp_le (tgt := 14) hx hb dX4_cut_9 (by decide) (fun c9 => ?_) (fun c9 => ?_)
    · replace hf := it_t c9 hf
      refine lv_aload_n hx hb dX4_cut_14 rfl (lv_at hl 0 rfl) ?_
      refine lv_iload_n hx hb dX4_cut_15 rfl (lv_at hl 1 rfl) ?_
      refine fp_X4_15 C hw 0 rfl (Nat.le_of_ble_eq_true rfl) (ws' := w_tp E a_tp tp_bytes p1) rfl dX4_cut_16 (fun H locs hw => ?_)
      refine lv_iconst (v := 1) hx hb dX4_cut_19 (by decide) ?_
      cases hf
      exact rt_z C hw (Or.inr rfl) dX4_cut_20
    · replace hf := it_f c9 hf
      refine lv_iconst (v := 0) hx hb dX4_cut_12 (by decide) ?_
      cases hf
      exact rt_z C hw (Or.inl rfl) dX4_cut_13
def f_X4_clear (tp_size : Int32) : Option ((Int32)) :=
  some (0 : Int32)
set_option maxHeartbeats 4000000 in
set_option maxRecDepth 100000 in
theorem c_X4_clear (l : Launch) (E : EnvT) (a_tp : Nat → Nat) (tp_bytes : Nat → Int32) (tp_size : Int32) (o_tp_size : Int32) (hf : f_X4_clear tp_size = some o_tp_size) : CV l yX4_clear (Cond.code yX4_clear cX4_clear 1 none) { frames := 0, cells := 0, slots := 0, locals := 0 } E [.ref (a_tp 0)] (w_tp E a_tp tp_bytes tp_size) (w_tp E a_tp tp_bytes o_tp_size) := by
  intro sz
  refine met_start [(0, .ref (a_tp 0))] (by decide) rfl rfl (Nat.le_of_ble_eq_true rfl) rfl ?_
  intro p e s m below meth c ls C hnm hmt hw hl
  have hx := C.1
  have hb := C.2.1
  generalize va_A (w_tp E a_tp tp_bytes tp_size) sz = A at C hw ⊢
  unfold f_X4_clear at hf
  refine lv_aload_n hx hb dX4_clear_0 rfl (lv_at hl 0 rfl) ?_
  refine lv_iconst (v := 0) hx hb dX4_clear_1 (by decide) ?_
  refine fp_X4_15 C hw 0 rfl (Nat.le_of_ble_eq_true rfl) (ws' := w_tp E a_tp tp_bytes (0 : Int32)) rfl dX4_clear_2 (fun H locs hw => ?_)
  cases hf
  exact rt_v C hw dX4_clear_5
def f_X4_at (p1 : Int32) (tp_bytes : Nat → Int32) (tp_size : Int32) : Option ((Int32)) :=
  if p1 < (0 : Int32) then (some (-1 : Int32))
  else (if tp_size ≤ p1 then (some (-1 : Int32))
  else (rd tp_bytes 2000 p1 (fun x1 =>
  some x1)))
set_option maxHeartbeats 4000000 in
set_option maxRecDepth 100000 in
theorem c_X4_at (l : Launch) (E : EnvT) (a_tp : Nat → Nat) (tp_bytes : Nat → Int32) (tp_size : Int32) (p1 : Int32) (r : Int32) (hf : f_X4_at p1 tp_bytes tp_size = some r) : CI l yX4_at (Cond.code yX4_at cX4_at 2 (some .int)) { frames := 0, cells := 0, slots := 0, locals := 0 } E [.ref (a_tp 0), .int p1] (w_tp E a_tp tp_bytes tp_size) r (w_tp E a_tp tp_bytes tp_size) := by
  intro sz
  refine met_start [(0, .ref (a_tp 0)), (1, .int p1)] (by decide) rfl rfl (Nat.le_of_ble_eq_true rfl) rfl ?_
  intro p e s m below meth c ls C hnm hmt hw hl
  have hx := C.1
  have hb := C.2.1
  generalize va_A (w_tp E a_tp tp_bytes tp_size) sz = A at C hw ⊢
  unfold f_X4_at at hf
  refine lv_iload_n hx hb dX4_at_0 rfl (lv_at hl 1 rfl) ?_
  refine lv_if_lt (tgt := 21) hx hb dX4_at_1 (by decide) (fun c1 => ?_) (fun c1 => ?_)
  · replace hf := it_t c1 hf
    refine lv_iconst (v := -1) hx hb dX4_at_21 (by decide) ?_
    cases hf
    exact rt_i C hw dX4_at_22
  · replace hf := it_f c1 hf
    refine lv_iload_n hx hb dX4_at_4 rfl (lv_at hl 1 rfl) ?_
    refine lv_aload_n hx hb dX4_at_5 rfl (lv_at hl 0 rfl) ?_
    refine fg_X4_15 C hw 0 rfl rfl dX4_at_6 ?_
    refine lv_icmp_ge (tgt := 21) hx hb dX4_at_9 (by decide) (fun c9 => ?_) (fun c9 => ?_)
    · replace hf := it_t c9 hf
      refine lv_iconst (v := -1) hx hb dX4_at_21 (by decide) ?_
      cases hf
      exact rt_i C hw dX4_at_22
    · replace hf := it_f c9 hf
      refine lv_aload_n hx hb dX4_at_12 rfl (lv_at hl 0 rfl) ?_
      refine fg_X4_9 C hw 0 rfl rfl dX4_at_13 ?_
      refine lv_iload_n hx hb dX4_at_16 rfl (lv_at hl 1 rfl) ?_
      obtain ⟨x1, ex1, gx1, hf⟩ := rd_el hf
      refine ra_i C hw 1 rfl gx1 dX4_at_17 ?_
      refine tp_i ex1 ?_
      refine lv_goto (tgt := 22) hx hb dX4_at_18 (by decide) ?_
      cases hf
      exact rt_i C hw dX4_at_22
def f_X4_put_3 : Nat → (Int32) → (Int32) → (Nat → Int32) → (Int32) → Option ((Nat → Int32) × (Int32))
  | 0, _, _, _, _ => none
  | n + 1, l1, l2, tp_bytes, tp_size =>
  if l2 < (0 : Int32) then (some (tp_bytes, tp_size))
  else (if (2000 : Int32) ≤ tp_size then (some (tp_bytes, tp_size))
  else (on ((UInt32.toInt32 (Int32.toUInt32 l1 >>> (Int32.toUInt32 l2 &&& Int32.toUInt32 31))) &&& (255 : Int32)) (fun x1 =>
  wr tp_bytes 2000 tp_size x1 (fun x2 =>
  on (tp_size + (1 : Int32)) (fun x3 =>
  on (l2 + (-8 : Int32)) (fun x4 =>
  f_X4_put_3 n l1 x4 x2 x3))))))
set_option maxHeartbeats 4000000 in
set_option maxRecDepth 100000 in
theorem w_X4_put_3 {p : Program} {l : Launch} {e : Env} {s : State} {m : MethodId} {args : Array Value} {below : List Frame} {meth : Method} {c : Code} {E : EnvT} {A : Nat → Prop} {a_tp : Nat → Nat} {Q : State → Prop} {q_tp_bytes : Nat → Int32} {q_tp_size : Int32} (C : MC p s m args meth c E A cX4_put 3 RX4 none) : ∀ (n : Nat) {l1 : Int32} {l2 : Int32} {tp_bytes : Nat → Int32} {tp_size : Int32} {H : Heap} {locs : List Loc} {ls : Array Slot}, WS E A s (w_tp E a_tp tp_bytes tp_size) H locs → lv_has ls 3 [(0, .ref (a_tp 0)), (1, .int l1), (2, .int l2)] → f_X4_put_3 n l1 l2 tp_bytes tp_size = some (q_tp_bytes, q_tp_size) → (∀ (H : Heap) (locs : List Loc) (ls : Array Slot), WS E A s (w_tp E a_tp q_tp_bytes q_tp_size) H locs → lv_has ls 3 [] → W p l e { frames := 0, cells := 0, slots := 0, locals := 0 } s m args below meth c H locs 0 0 Q (F0 m 49 ls [])) → W p l e { frames := 0, cells := 0, slots := 0, locals := 0 } s m args below meth c H locs 0 0 Q (F0 m 3 ls []) := by
  have hx := C.1
  have hb := C.2.1
  intro n
  induction n with
  | zero =>
    intro l1 l2 tp_bytes tp_size H locs ls hw hl hf kk
    unfold f_X4_put_3 at hf
    cases hf
  | succ n ih =>
    intro l1 l2 tp_bytes tp_size H locs ls hw hl hf kk
    unfold f_X4_put_3 at hf
    refine lv_iload_n hx hb dX4_put_3 rfl (lv_at hl 2 rfl) ?_
    refine lv_if_lt (tgt := 49) hx hb dX4_put_4 (by decide) (fun c4 => ?_) (fun c4 => ?_)
    · replace hf := it_t c4 hf
      cases hf
      exact kk _ _ _ hw (lv_sub hl [] rfl)
    · replace hf := it_f c4 hf
      refine lv_aload_n hx hb dX4_put_7 rfl (lv_at hl 0 rfl) ?_
      refine fg_X4_15 C hw 0 rfl rfl dX4_put_8 ?_
      refine lv_sipush (v := 2000) hx hb dX4_put_11 (by decide) ?_
      refine lv_icmp_ge (tgt := 49) hx hb dX4_put_14 (by decide) (fun c14 => ?_) (fun c14 => ?_)
      · replace hf := it_t c14 hf
        cases hf
        exact kk _ _ _ hw (lv_sub hl [] rfl)
      · replace hf := it_f c14 hf
        refine lv_aload_n hx hb dX4_put_17 rfl (lv_at hl 0 rfl) ?_
        refine fg_X4_9 C hw 0 rfl rfl dX4_put_18 ?_
        refine lv_aload_n hx hb dX4_put_21 rfl (lv_at hl 0 rfl) ?_
        refine fg_X4_15 C hw 0 rfl rfl dX4_put_22 ?_
        refine lv_iload_n hx hb dX4_put_25 rfl (lv_at hl 1 rfl) ?_
        refine lv_iload_n hx hb dX4_put_26 rfl (lv_at hl 2 rfl) ?_
        refine lv_iushr hx hb dX4_put_27 rfl ?_
        refine lv_sipush (v := 255) hx hb dX4_put_28 (by decide) ?_
        refine lv_iand hx hb dX4_put_31 ?_
        obtain ⟨x1, ex1, hf⟩ := on_el hf
        refine tp_i ex1 ?_
        obtain ⟨x2, ex2, gx2, hf⟩ := wr_el hf
        refine rs_i C hw 1 rfl gx2 (ws' := w_tp E a_tp x2 tp_size) (by subst ex2; rfl) dX4_put_32 (fun H locs hw => ?_)
        refine lv_aload_n hx hb dX4_put_33 rfl (lv_at hl 0 rfl) ?_
        refine lv_dup hx hb dX4_put_34 rfl ?_
        refine fg_X4_15 C hw 0 rfl rfl dX4_put_35 ?_
        refine lv_iconst (v := 1) hx hb dX4_put_38 (by decide) ?_
        refine lv_iadd hx hb dX4_put_39 ?_
        obtain ⟨x3, ex3, hf⟩ := on_el hf
        refine tp_i ex3 ?_
        refine fp_X4_15 C hw 0 rfl (Nat.le_of_ble_eq_true rfl) (ws' := w_tp E a_tp x2 x3) rfl dX4_put_40 (fun H locs hw => ?_)
        obtain ⟨x4, ex4, hf⟩ := on_el hf
        refine lv_iinc (v := x4) (lv' := [(2, .int x4), (0, .ref (a_tp 0)), (1, .int l1)]) hx hb dX4_put_43 hl (k := 2) rfl (by rw [← ex4]; rfl) (by decide) rfl (fun ls hl => ?_)
        refine lv_goto (tgt := 3) hx hb dX4_put_46 (by decide) ?_
        exact ih hw (lv_sub hl [1, 2, 0] rfl) hf kk
def f_X4_put (p1 : Int32) (tp_bytes : Nat → Int32) (tp_size : Int32) : Option ((Nat → Int32) × (Int32)) :=
  ob2 (f_X4_put_3 FU p1 (24 : Int32) tp_bytes tp_size) (fun x1 x2 =>
  some (x1, x2))
set_option maxHeartbeats 4000000 in
set_option maxRecDepth 100000 in
theorem c_X4_put (l : Launch) (E : EnvT) (a_tp : Nat → Nat) (tp_bytes : Nat → Int32) (tp_size : Int32) (p1 : Int32) (o_tp_bytes : Nat → Int32) (o_tp_size : Int32) (hf : f_X4_put p1 tp_bytes tp_size = some (o_tp_bytes, o_tp_size)) : CV l yX4_put (Cond.code yX4_put cX4_put 3 none) { frames := 0, cells := 0, slots := 0, locals := 0 } E [.ref (a_tp 0), .int p1] (w_tp E a_tp tp_bytes tp_size) (w_tp E a_tp o_tp_bytes o_tp_size) := by
  intro sz
  refine met_start [(0, .ref (a_tp 0)), (1, .int p1)] (by decide) rfl rfl (Nat.le_of_ble_eq_true rfl) rfl ?_
  intro p e s m below meth c ls C hnm hmt hw hl
  have hx := C.1
  have hb := C.2.1
  generalize va_A (w_tp E a_tp tp_bytes tp_size) sz = A at C hw ⊢
  unfold f_X4_put at hf
  refine lv_bipush (v := 24) hx hb dX4_put_0 (by decide) ?_
  refine lv_istore_n (lv' := [(2, .int (24 : Int32)), (0, .ref (a_tp 0)), (1, .int p1)]) hx hb dX4_put_2 rfl hl (by decide) rfl (fun ls hl => ?_)
  obtain ⟨x1, x2, hx1, hf⟩ := ob2_el hf
  refine w_X4_put_3 C FU hw (lv_sub hl [1, 2, 0] rfl) hx1 ?_
  clear hw hl
  intro H locs ls hw hl
  cases hf
  exact rt_v C hw dX4_put_49
end
