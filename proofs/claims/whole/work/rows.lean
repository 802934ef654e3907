section
-- ===== PART A: goes FIRST, ahead of the names: the tables' words, and 'selects' of the private methods out of them =====
/-- a private method of a class that the tables say can be made, by its rows of tables_1 -/
def lw_okq (q : MethodName × Nat) : Prop := (q.1.cls ≠ "java/lang/invoke/MethodHandle" ∧ q.1.cls ≠ "java/lang/invoke/VarHandle") ∧ Cond.instantiable q.1.cls q.2 ∈ tables_1 ∧ Cond.privateMethod q.1 ∈ tables_1 ∧ Cond.instanceMethod q.1 ∈ tables_1
theorem lw_p0 : lw_okq (⟨"QueryReader$Tokens", "sortFrom", "(LQueryReader$Row;I)LQueryReader$Sort;"⟩, 5) := ⟨⟨by decide +kernel, by decide +kernel⟩, List.mem_of_getElem? (i := 52) (by decide +kernel), List.mem_of_getElem? (i := 163) (by decide +kernel), List.mem_of_getElem? (i := 164) (by decide +kernel)⟩
theorem lw_p1 : lw_okq (⟨"QueryReader$Tokens", "digits", "(LQueryReader$Row;I)LQueryReader$Sort;"⟩, 5) := ⟨⟨by decide +kernel, by decide +kernel⟩, List.mem_of_getElem? (i := 52) (by decide +kernel), List.mem_of_getElem? (i := 171) (by decide +kernel), List.mem_of_getElem? (i := 172) (by decide +kernel)⟩
theorem lw_p2 : lw_okq (⟨"QueryReader$Tokens", "word", "(LQueryReader$Row;I)LQueryReader$Sort;"⟩, 5) := ⟨⟨by decide +kernel, by decide +kernel⟩, List.mem_of_getElem? (i := 52) (by decide +kernel), List.mem_of_getElem? (i := 182) (by decide +kernel), List.mem_of_getElem? (i := 183) (by decide +kernel)⟩
theorem lw_p3 : lw_okq (⟨"QueryReader$Tokens", "string", "(LQueryReader$Row;I)LQueryReader$Sort;"⟩, 5) := ⟨⟨by decide +kernel, by decide +kernel⟩, List.mem_of_getElem? (i := 52) (by decide +kernel), List.mem_of_getElem? (i := 244) (by decide +kernel), List.mem_of_getElem? (i := 245) (by decide +kernel)⟩
theorem lw_p4 : lw_okq (⟨"QueryReader$Tokens", "sign", "(II)LQueryReader$Sort;"⟩, 5) := ⟨⟨by decide +kernel, by decide +kernel⟩, List.mem_of_getElem? (i := 52) (by decide +kernel), List.mem_of_getElem? (i := 250) (by decide +kernel), List.mem_of_getElem? (i := 251) (by decide +kernel)⟩
theorem lw_p5 : lw_okq (⟨"QueryReader$Tokens", "keep", "(LQueryReader$Sort;I)V"⟩, 5) := ⟨⟨by decide +kernel, by decide +kernel⟩, List.mem_of_getElem? (i := 52) (by decide +kernel), List.mem_of_getElem? (i := 294) (by decide +kernel), List.mem_of_getElem? (i := 295) (by decide +kernel)⟩
theorem lw_p6 : lw_okq (⟨"QueryReader$Tokens", "widen", "()V"⟩, 5) := ⟨⟨by decide +kernel, by decide +kernel⟩, List.mem_of_getElem? (i := 52) (by decide +kernel), List.mem_of_getElem? (i := 299) (by decide +kernel), List.mem_of_getElem? (i := 300) (by decide +kernel)⟩
theorem lw_p7 : lw_okq (⟨"QueryReader$Grammar", "copy", "(LQueryReader$Sort;)V"⟩, 10) := ⟨⟨by decide +kernel, by decide +kernel⟩, List.mem_of_getElem? (i := 32) (by decide +kernel), List.mem_of_getElem? (i := 342) (by decide +kernel), List.mem_of_getElem? (i := 343) (by decide +kernel)⟩
theorem lw_p8 : lw_okq (⟨"java/lang/Throwable", "fillInStackTrace", "(I)Ljava/lang/Throwable;"⟩, 6) := ⟨⟨by decide +kernel, by decide +kernel⟩, List.mem_of_getElem? (i := 384) (by decide +kernel), List.mem_of_getElem? (i := 382) (by decide +kernel), List.mem_of_getElem? (i := 383) (by decide +kernel)⟩
theorem lw_p9 : lw_okq (⟨"QueryReader$Grammar", "step", "()V"⟩, 10) := ⟨⟨by decide +kernel, by decide +kernel⟩, List.mem_of_getElem? (i := 32) (by decide +kernel), List.mem_of_getElem? (i := 432) (by decide +kernel), List.mem_of_getElem? (i := 433) (by decide +kernel)⟩
theorem lw_p10 : lw_okq (⟨"QueryReader$Grammar", "rise", "()V"⟩, 10) := ⟨⟨by decide +kernel, by decide +kernel⟩, List.mem_of_getElem? (i := 32) (by decide +kernel), List.mem_of_getElem? (i := 439) (by decide +kernel), List.mem_of_getElem? (i := 440) (by decide +kernel)⟩
theorem lw_p11 : lw_okq (⟨"QueryReader$Grammar", "table", "()I"⟩, 10) := ⟨⟨by decide +kernel, by decide +kernel⟩, List.mem_of_getElem? (i := 32) (by decide +kernel), List.mem_of_getElem? (i := 452) (by decide +kernel), List.mem_of_getElem? (i := 453) (by decide +kernel)⟩
theorem lw_p12 : lw_okq (⟨"QueryReader$Grammar", "name", "()V"⟩, 10) := ⟨⟨by decide +kernel, by decide +kernel⟩, List.mem_of_getElem? (i := 32) (by decide +kernel), List.mem_of_getElem? (i := 456) (by decide +kernel), List.mem_of_getElem? (i := 457) (by decide +kernel)⟩
theorem lw_p13 : lw_okq (⟨"QueryReader$Grammar", "column", "()V"⟩, 10) := ⟨⟨by decide +kernel, by decide +kernel⟩, List.mem_of_getElem? (i := 32) (by decide +kernel), List.mem_of_getElem? (i := 476) (by decide +kernel), List.mem_of_getElem? (i := 477) (by decide +kernel)⟩
theorem lw_p14 : lw_okq (⟨"QueryReader$Grammar", "copyIf", "(LQueryReader$Sort;)Z"⟩, 10) := ⟨⟨by decide +kernel, by decide +kernel⟩, List.mem_of_getElem? (i := 32) (by decide +kernel), List.mem_of_getElem? (i := 482) (by decide +kernel), List.mem_of_getElem? (i := 483) (by decide +kernel)⟩
theorem lw_p15 : lw_okq (⟨"QueryReader$Grammar", "presetValue", "()V"⟩, 10) := ⟨⟨by decide +kernel, by decide +kernel⟩, List.mem_of_getElem? (i := 32) (by decide +kernel), List.mem_of_getElem? (i := 498) (by decide +kernel), List.mem_of_getElem? (i := 499) (by decide +kernel)⟩
def lw_privs_1 : List (MethodName × Nat) := [(⟨"QueryReader$Tokens", "sortFrom", "(LQueryReader$Row;I)LQueryReader$Sort;"⟩, 5), (⟨"QueryReader$Tokens", "digits", "(LQueryReader$Row;I)LQueryReader$Sort;"⟩, 5), (⟨"QueryReader$Tokens", "word", "(LQueryReader$Row;I)LQueryReader$Sort;"⟩, 5), (⟨"QueryReader$Tokens", "string", "(LQueryReader$Row;I)LQueryReader$Sort;"⟩, 5), (⟨"QueryReader$Tokens", "sign", "(II)LQueryReader$Sort;"⟩, 5), (⟨"QueryReader$Tokens", "keep", "(LQueryReader$Sort;I)V"⟩, 5), (⟨"QueryReader$Tokens", "widen", "()V"⟩, 5), (⟨"QueryReader$Grammar", "copy", "(LQueryReader$Sort;)V"⟩, 10), (⟨"java/lang/Throwable", "fillInStackTrace", "(I)Ljava/lang/Throwable;"⟩, 6), (⟨"QueryReader$Grammar", "step", "()V"⟩, 10), (⟨"QueryReader$Grammar", "rise", "()V"⟩, 10), (⟨"QueryReader$Grammar", "table", "()I"⟩, 10), (⟨"QueryReader$Grammar", "name", "()V"⟩, 10), (⟨"QueryReader$Grammar", "column", "()V"⟩, 10), (⟨"QueryReader$Grammar", "copyIf", "(LQueryReader$Sort;)Z"⟩, 10), (⟨"QueryReader$Grammar", "presetValue", "()V"⟩, 10)]
theorem lw_r1 : ∀ q ∈ lw_privs_1, lw_okq q := List.forall_mem_cons.mpr ⟨lw_p0, List.forall_mem_cons.mpr ⟨lw_p1, List.forall_mem_cons.mpr ⟨lw_p2, List.forall_mem_cons.mpr ⟨lw_p3, List.forall_mem_cons.mpr ⟨lw_p4, List.forall_mem_cons.mpr ⟨lw_p5, List.forall_mem_cons.mpr ⟨lw_p6, List.forall_mem_cons.mpr ⟨lw_p7, List.forall_mem_cons.mpr ⟨lw_p8, List.forall_mem_cons.mpr ⟨lw_p9, List.forall_mem_cons.mpr ⟨lw_p10, List.forall_mem_cons.mpr ⟨lw_p11, List.forall_mem_cons.mpr ⟨lw_p12, List.forall_mem_cons.mpr ⟨lw_p13, List.forall_mem_cons.mpr ⟨lw_p14, List.forall_mem_cons.mpr ⟨lw_p15, fun _ h => absurd h List.not_mem_nil⟩⟩⟩⟩⟩⟩⟩⟩⟩⟩⟩⟩⟩⟩⟩⟩
theorem lw_p16 : lw_okq (⟨"QueryReader$Grammar", "string", "()V"⟩, 10) := ⟨⟨by decide +kernel, by decide +kernel⟩, List.mem_of_getElem? (i := 32) (by decide +kernel), List.mem_of_getElem? (i := 503) (by decide +kernel), List.mem_of_getElem? (i := 504) (by decide +kernel)⟩
theorem lw_p17 : lw_okq (⟨"QueryReader$Grammar", "number", "()V"⟩, 10) := ⟨⟨by decide +kernel, by decide +kernel⟩, List.mem_of_getElem? (i := 32) (by decide +kernel), List.mem_of_getElem? (i := 512) (by decide +kernel), List.mem_of_getElem? (i := 513) (by decide +kernel)⟩
theorem lw_p18 : lw_okq (⟨"QueryReader$Grammar", "expression", "()I"⟩, 10) := ⟨⟨by decide +kernel, by decide +kernel⟩, List.mem_of_getElem? (i := 32) (by decide +kernel), List.mem_of_getElem? (i := 521) (by decide +kernel), List.mem_of_getElem? (i := 522) (by decide +kernel)⟩
theorem lw_p19 : lw_okq (⟨"QueryReader$Grammar", "prefixes", "(LQueryReader$Sort;I)V"⟩, 10) := ⟨⟨by decide +kernel, by decide +kernel⟩, List.mem_of_getElem? (i := 32) (by decide +kernel), List.mem_of_getElem? (i := 525) (by decide +kernel), List.mem_of_getElem? (i := 526) (by decide +kernel)⟩
theorem lw_p20 : lw_okq (⟨"QueryReader$Grammar", "push", "(II)V"⟩, 10) := ⟨⟨by decide +kernel, by decide +kernel⟩, List.mem_of_getElem? (i := 32) (by decide +kernel), List.mem_of_getElem? (i := 530) (by decide +kernel), List.mem_of_getElem? (i := 531) (by decide +kernel)⟩
theorem lw_p21 : lw_okq (⟨"QueryReader$Grammar", "comparison", "()I"⟩, 10) := ⟨⟨by decide +kernel, by decide +kernel⟩, List.mem_of_getElem? (i := 32) (by decide +kernel), List.mem_of_getElem? (i := 536) (by decide +kernel), List.mem_of_getElem? (i := 537) (by decide +kernel)⟩
theorem lw_p22 : lw_okq (⟨"QueryReader$Grammar", "sum", "()I"⟩, 10) := ⟨⟨by decide +kernel, by decide +kernel⟩, List.mem_of_getElem? (i := 32) (by decide +kernel), List.mem_of_getElem? (i := 540) (by decide +kernel), List.mem_of_getElem? (i := 541) (by decide +kernel)⟩
theorem lw_p23 : lw_okq (⟨"QueryReader$Grammar", "primary", "()I"⟩, 10) := ⟨⟨by decide +kernel, by decide +kernel⟩, List.mem_of_getElem? (i := 32) (by decide +kernel), List.mem_of_getElem? (i := 544) (by decide +kernel), List.mem_of_getElem? (i := 545) (by decide +kernel)⟩
theorem lw_p24 : lw_okq (⟨"QueryReader$Grammar", "skip", "(LQueryReader$Sort;)V"⟩, 10) := ⟨⟨by decide +kernel, by decide +kernel⟩, List.mem_of_getElem? (i := 32) (by decide +kernel), List.mem_of_getElem? (i := 549) (by decide +kernel), List.mem_of_getElem? (i := 550) (by decide +kernel)⟩
theorem lw_p25 : lw_okq (⟨"QueryReader$Grammar", "query", "()V"⟩, 10) := ⟨⟨by decide +kernel, by decide +kernel⟩, List.mem_of_getElem? (i := 32) (by decide +kernel), List.mem_of_getElem? (i := 555) (by decide +kernel), List.mem_of_getElem? (i := 556) (by decide +kernel)⟩
theorem lw_p26 : lw_okq (⟨"QueryReader$Grammar", "items", "()V"⟩, 10) := ⟨⟨by decide +kernel, by decide +kernel⟩, List.mem_of_getElem? (i := 32) (by decide +kernel), List.mem_of_getElem? (i := 564) (by decide +kernel), List.mem_of_getElem? (i := 565) (by decide +kernel)⟩
theorem lw_p27 : lw_okq (⟨"QueryReader$Grammar", "sources", "()V"⟩, 10) := ⟨⟨by decide +kernel, by decide +kernel⟩, List.mem_of_getElem? (i := 32) (by decide +kernel), List.mem_of_getElem? (i := 573) (by decide +kernel), List.mem_of_getElem? (i := 574) (by decide +kernel)⟩
theorem lw_p28 : lw_okq (⟨"QueryReader$Grammar", "skipIf", "(LQueryReader$Sort;)Z"⟩, 10) := ⟨⟨by decide +kernel, by decide +kernel⟩, List.mem_of_getElem? (i := 32) (by decide +kernel), List.mem_of_getElem? (i := 581) (by decide +kernel), List.mem_of_getElem? (i := 582) (by decide +kernel)⟩
theorem lw_p29 : lw_okq (⟨"QueryReader$Grammar", "condition", "()V"⟩, 10) := ⟨⟨by decide +kernel, by decide +kernel⟩, List.mem_of_getElem? (i := 32) (by decide +kernel), List.mem_of_getElem? (i := 594) (by decide +kernel), List.mem_of_getElem? (i := 595) (by decide +kernel)⟩
theorem lw_p30 : lw_okq (⟨"QueryReader$Grammar", "expressions", "()V"⟩, 10) := ⟨⟨by decide +kernel, by decide +kernel⟩, List.mem_of_getElem? (i := 32) (by decide +kernel), List.mem_of_getElem? (i := 604) (by decide +kernel), List.mem_of_getElem? (i := 605) (by decide +kernel)⟩
theorem lw_p31 : lw_okq (⟨"QueryReader$Grammar", "orders", "()V"⟩, 10) := ⟨⟨by decide +kernel, by decide +kernel⟩, List.mem_of_getElem? (i := 32) (by decide +kernel), List.mem_of_getElem? (i := 612) (by decide +kernel), List.mem_of_getElem? (i := 613) (by decide +kernel)⟩
def lw_privs_2 : List (MethodName × Nat) := [(⟨"QueryReader$Grammar", "string", "()V"⟩, 10), (⟨"QueryReader$Grammar", "number", "()V"⟩, 10), (⟨"QueryReader$Grammar", "expression", "()I"⟩, 10), (⟨"QueryReader$Grammar", "prefixes", "(LQueryReader$Sort;I)V"⟩, 10), (⟨"QueryReader$Grammar", "push", "(II)V"⟩, 10), (⟨"QueryReader$Grammar", "comparison", "()I"⟩, 10), (⟨"QueryReader$Grammar", "sum", "()I"⟩, 10), (⟨"QueryReader$Grammar", "primary", "()I"⟩, 10), (⟨"QueryReader$Grammar", "skip", "(LQueryReader$Sort;)V"⟩, 10), (⟨"QueryReader$Grammar", "query", "()V"⟩, 10), (⟨"QueryReader$Grammar", "items", "()V"⟩, 10), (⟨"QueryReader$Grammar", "sources", "()V"⟩, 10), (⟨"QueryReader$Grammar", "skipIf", "(LQueryReader$Sort;)Z"⟩, 10), (⟨"QueryReader$Grammar", "condition", "()V"⟩, 10), (⟨"QueryReader$Grammar", "expressions", "()V"⟩, 10), (⟨"QueryReader$Grammar", "orders", "()V"⟩, 10)]
theorem lw_r2 : ∀ q ∈ lw_privs_2, lw_okq q := List.forall_mem_cons.mpr ⟨lw_p16, List.forall_mem_cons.mpr ⟨lw_p17, List.forall_mem_cons.mpr ⟨lw_p18, List.forall_mem_cons.mpr ⟨lw_p19, List.forall_mem_cons.mpr ⟨lw_p20, List.forall_mem_cons.mpr ⟨lw_p21, List.forall_mem_cons.mpr ⟨lw_p22, List.forall_mem_cons.mpr ⟨lw_p23, List.forall_mem_cons.mpr ⟨lw_p24, List.forall_mem_cons.mpr ⟨lw_p25, List.forall_mem_cons.mpr ⟨lw_p26, List.forall_mem_cons.mpr ⟨lw_p27, List.forall_mem_cons.mpr ⟨lw_p28, List.forall_mem_cons.mpr ⟨lw_p29, List.forall_mem_cons.mpr ⟨lw_p30, List.forall_mem_cons.mpr ⟨lw_p31, fun _ h => absurd h List.not_mem_nil⟩⟩⟩⟩⟩⟩⟩⟩⟩⟩⟩⟩⟩⟩⟩⟩
theorem lw_p32 : lw_okq (⟨"QueryReader$Grammar", "cases", "()V"⟩, 10) := ⟨⟨by decide +kernel, by decide +kernel⟩, List.mem_of_getElem? (i := 32) (by decide +kernel), List.mem_of_getElem? (i := 624) (by decide +kernel), List.mem_of_getElem? (i := 625) (by decide +kernel)⟩
theorem lw_p33 : lw_okq (⟨"QueryReader$Grammar", "function", "()V"⟩, 10) := ⟨⟨by decide +kernel, by decide +kernel⟩, List.mem_of_getElem? (i := 32) (by decide +kernel), List.mem_of_getElem? (i := 634) (by decide +kernel), List.mem_of_getElem? (i := 635) (by decide +kernel)⟩
theorem lw_p34 : lw_okq (⟨"QueryReader$Grammar", "arguments", "(II)V"⟩, 10) := ⟨⟨by decide +kernel, by decide +kernel⟩, List.mem_of_getElem? (i := 32) (by decide +kernel), List.mem_of_getElem? (i := 638) (by decide +kernel), List.mem_of_getElem? (i := 639) (by decide +kernel)⟩
theorem lw_p35 : lw_okq (⟨"QueryReader$Grammar", "cast", "()V"⟩, 10) := ⟨⟨by decide +kernel, by decide +kernel⟩, List.mem_of_getElem? (i := 32) (by decide +kernel), List.mem_of_getElem? (i := 642) (by decide +kernel), List.mem_of_getElem? (i := 643) (by decide +kernel)⟩
theorem lw_p36 : lw_okq (⟨"QueryReader$Grammar", "aggregate", "()V"⟩, 10) := ⟨⟨by decide +kernel, by decide +kernel⟩, List.mem_of_getElem? (i := 32) (by decide +kernel), List.mem_of_getElem? (i := 648) (by decide +kernel), List.mem_of_getElem? (i := 649) (by decide +kernel)⟩
theorem lw_p37 : lw_okq (⟨"QueryReader$Grammar", "combine", "(IIII)I"⟩, 10) := ⟨⟨by decide +kernel, by decide +kernel⟩, List.mem_of_getElem? (i := 32) (by decide +kernel), List.mem_of_getElem? (i := 655) (by decide +kernel), List.mem_of_getElem? (i := 656) (by decide +kernel)⟩
theorem lw_p38 : lw_okq (⟨"QueryReader$Grammar", "isPendingAbove", "(II)Z"⟩, 10) := ⟨⟨by decide +kernel, by decide +kernel⟩, List.mem_of_getElem? (i := 32) (by decide +kernel), List.mem_of_getElem? (i := 659) (by decide +kernel), List.mem_of_getElem? (i := 660) (by decide +kernel)⟩
theorem lw_p39 : lw_okq (⟨"QueryReader$Grammar", "members", "()V"⟩, 10) := ⟨⟨by decide +kernel, by decide +kernel⟩, List.mem_of_getElem? (i := 32) (by decide +kernel), List.mem_of_getElem? (i := 682) (by decide +kernel), List.mem_of_getElem? (i := 683) (by decide +kernel)⟩
theorem lw_p40 : lw_okq (⟨"QueryReader$Grammar", "reference", "()V"⟩, 10) := ⟨⟨by decide +kernel, by decide +kernel⟩, List.mem_of_getElem? (i := 32) (by decide +kernel), List.mem_of_getElem? (i := 690) (by decide +kernel), List.mem_of_getElem? (i := 691) (by decide +kernel)⟩
theorem lw_p41 : lw_okq (⟨"QueryReader$Grammar", "namesInBrackets", "()V"⟩, 10) := ⟨⟨by decide +kernel, by decide +kernel⟩, List.mem_of_getElem? (i := 32) (by decide +kernel), List.mem_of_getElem? (i := 705) (by decide +kernel), List.mem_of_getElem? (i := 706) (by decide +kernel)⟩
theorem lw_p42 : lw_okq (⟨"QueryReader$Grammar", "index", "()I"⟩, 10) := ⟨⟨by decide +kernel, by decide +kernel⟩, List.mem_of_getElem? (i := 32) (by decide +kernel), List.mem_of_getElem? (i := 709) (by decide +kernel), List.mem_of_getElem? (i := 710) (by decide +kernel)⟩
theorem lw_p43 : lw_okq (⟨"QueryReader$Grammar", "drop", "()I"⟩, 10) := ⟨⟨by decide +kernel, by decide +kernel⟩, List.mem_of_getElem? (i := 32) (by decide +kernel), List.mem_of_getElem? (i := 715) (by decide +kernel), List.mem_of_getElem? (i := 716) (by decide +kernel)⟩
theorem lw_p44 : lw_okq (⟨"QueryReader$Grammar", "insert", "()I"⟩, 10) := ⟨⟨by decide +kernel, by decide +kernel⟩, List.mem_of_getElem? (i := 32) (by decide +kernel), List.mem_of_getElem? (i := 721) (by decide +kernel), List.mem_of_getElem? (i := 722) (by decide +kernel)⟩
theorem lw_p45 : lw_okq (⟨"QueryReader$Grammar", "update", "()I"⟩, 10) := ⟨⟨by decide +kernel, by decide +kernel⟩, List.mem_of_getElem? (i := 32) (by decide +kernel), List.mem_of_getElem? (i := 731) (by decide +kernel), List.mem_of_getElem? (i := 732) (by decide +kernel)⟩
theorem lw_p46 : lw_okq (⟨"QueryReader$Grammar", "delete", "()I"⟩, 10) := ⟨⟨by decide +kernel, by decide +kernel⟩, List.mem_of_getElem? (i := 32) (by decide +kernel), List.mem_of_getElem? (i := 738) (by decide +kernel), List.mem_of_getElem? (i := 739) (by decide +kernel)⟩
theorem lw_p47 : lw_okq (⟨"QueryReader$Grammar", "beginning", "()I"⟩, 10) := ⟨⟨by decide +kernel, by decide +kernel⟩, List.mem_of_getElem? (i := 32) (by decide +kernel), List.mem_of_getElem? (i := 742) (by decide +kernel), List.mem_of_getElem? (i := 743) (by decide +kernel)⟩
def lw_privs_3 : List (MethodName × Nat) := [(⟨"QueryReader$Grammar", "cases", "()V"⟩, 10), (⟨"QueryReader$Grammar", "function", "()V"⟩, 10), (⟨"QueryReader$Grammar", "arguments", "(II)V"⟩, 10), (⟨"QueryReader$Grammar", "cast", "()V"⟩, 10), (⟨"QueryReader$Grammar", "aggregate", "()V"⟩, 10), (⟨"QueryReader$Grammar", "combine", "(IIII)I"⟩, 10), (⟨"QueryReader$Grammar", "isPendingAbove", "(II)Z"⟩, 10), (⟨"QueryReader$Grammar", "members", "()V"⟩, 10), (⟨"QueryReader$Grammar", "reference", "()V"⟩, 10), (⟨"QueryReader$Grammar", "namesInBrackets", "()V"⟩, 10), (⟨"QueryReader$Grammar", "index", "()I"⟩, 10), (⟨"QueryReader$Grammar", "drop", "()I"⟩, 10), (⟨"QueryReader$Grammar", "insert", "()I"⟩, 10), (⟨"QueryReader$Grammar", "update", "()I"⟩, 10), (⟨"QueryReader$Grammar", "delete", "()I"⟩, 10), (⟨"QueryReader$Grammar", "beginning", "()I"⟩, 10)]
theorem lw_r3 : ∀ q ∈ lw_privs_3, lw_okq q := List.forall_mem_cons.mpr ⟨lw_p32, List.forall_mem_cons.mpr ⟨lw_p33, List.forall_mem_cons.mpr ⟨lw_p34, List.forall_mem_cons.mpr ⟨lw_p35, List.forall_mem_cons.mpr ⟨lw_p36, List.forall_mem_cons.mpr ⟨lw_p37, List.forall_mem_cons.mpr ⟨lw_p38, List.forall_mem_cons.mpr ⟨lw_p39, List.forall_mem_cons.mpr ⟨lw_p40, List.forall_mem_cons.mpr ⟨lw_p41, List.forall_mem_cons.mpr ⟨lw_p42, List.forall_mem_cons.mpr ⟨lw_p43, List.forall_mem_cons.mpr ⟨lw_p44, List.forall_mem_cons.mpr ⟨lw_p45, List.forall_mem_cons.mpr ⟨lw_p46, List.forall_mem_cons.mpr ⟨lw_p47, fun _ h => absurd h List.not_mem_nil⟩⟩⟩⟩⟩⟩⟩⟩⟩⟩⟩⟩⟩⟩⟩⟩
theorem lw_p48 : lw_okq (⟨"QueryReader$Grammar", "commit", "()I"⟩, 10) := ⟨⟨by decide +kernel, by decide +kernel⟩, List.mem_of_getElem? (i := 32) (by decide +kernel), List.mem_of_getElem? (i := 757) (by decide +kernel), List.mem_of_getElem? (i := 758) (by decide +kernel)⟩
theorem lw_p49 : lw_okq (⟨"QueryReader$Grammar", "rollback", "()I"⟩, 10) := ⟨⟨by decide +kernel, by decide +kernel⟩, List.mem_of_getElem? (i := 32) (by decide +kernel), List.mem_of_getElem? (i := 765) (by decide +kernel), List.mem_of_getElem? (i := 766) (by decide +kernel)⟩
theorem lw_p50 : lw_okq (⟨"QueryReader$Grammar", "lock", "()I"⟩, 10) := ⟨⟨by decide +kernel, by decide +kernel⟩, List.mem_of_getElem? (i := 32) (by decide +kernel), List.mem_of_getElem? (i := 775) (by decide +kernel), List.mem_of_getElem? (i := 776) (by decide +kernel)⟩
theorem lw_p51 : lw_okq (⟨"QueryReader$Names", "clearSlots", "(I)I"⟩, 1) := ⟨⟨by decide +kernel, by decide +kernel⟩, List.mem_of_getElem? (i := 112) (by decide +kernel), List.mem_of_getElem? (i := 830) (by decide +kernel), List.mem_of_getElem? (i := 831) (by decide +kernel)⟩
theorem lw_p52 : lw_okq (⟨"QueryReader$Names", "isNew", "(LQueryReader$Row;II)Z"⟩, 1) := ⟨⟨by decide +kernel, by decide +kernel⟩, List.mem_of_getElem? (i := 112) (by decide +kernel), List.mem_of_getElem? (i := 835) (by decide +kernel), List.mem_of_getElem? (i := 836) (by decide +kernel)⟩
theorem lw_p53 : lw_okq (⟨"QueryReaderModel", "readTokens", "()V"⟩, 25) := ⟨⟨by decide +kernel, by decide +kernel⟩, List.mem_of_getElem? (i := 926) (by decide +kernel), List.mem_of_getElem? (i := 1113) (by decide +kernel), List.mem_of_getElem? (i := 1114) (by decide +kernel)⟩
theorem lw_p54 : lw_okq (⟨"QueryReaderModel", "skipBlanks", "(I)I"⟩, 25) := ⟨⟨by decide +kernel, by decide +kernel⟩, List.mem_of_getElem? (i := 926) (by decide +kernel), List.mem_of_getElem? (i := 1117) (by decide +kernel), List.mem_of_getElem? (i := 1118) (by decide +kernel)⟩
theorem lw_p55 : lw_okq (⟨"QueryReaderModel", "byteAt", "(I)I"⟩, 25) := ⟨⟨by decide +kernel, by decide +kernel⟩, List.mem_of_getElem? (i := 926) (by decide +kernel), List.mem_of_getElem? (i := 1121) (by decide +kernel), List.mem_of_getElem? (i := 1122) (by decide +kernel)⟩
theorem lw_p56 : lw_okq (⟨"QueryReaderModel", "readToken", "(I)I"⟩, 25) := ⟨⟨by decide +kernel, by decide +kernel⟩, List.mem_of_getElem? (i := 926) (by decide +kernel), List.mem_of_getElem? (i := 1125) (by decide +kernel), List.mem_of_getElem? (i := 1126) (by decide +kernel)⟩
theorem lw_p57 : lw_okq (⟨"QueryReaderModel", "stringAt", "(I)I"⟩, 25) := ⟨⟨by decide +kernel, by decide +kernel⟩, List.mem_of_getElem? (i := 926) (by decide +kernel), List.mem_of_getElem? (i := 1135) (by decide +kernel), List.mem_of_getElem? (i := 1136) (by decide +kernel)⟩
theorem lw_p58 : lw_okq (⟨"QueryReaderModel", "token", "(III)V"⟩, 25) := ⟨⟨by decide +kernel, by decide +kernel⟩, List.mem_of_getElem? (i := 926) (by decide +kernel), List.mem_of_getElem? (i := 1139) (by decide +kernel), List.mem_of_getElem? (i := 1140) (by decide +kernel)⟩
theorem lw_p59 : lw_okq (⟨"QueryReaderModel", "wordOf", "(I)I"⟩, 25) := ⟨⟨by decide +kernel, by decide +kernel⟩, List.mem_of_getElem? (i := 926) (by decide +kernel), List.mem_of_getElem? (i := 1144) (by decide +kernel), List.mem_of_getElem? (i := 1145) (by decide +kernel)⟩
theorem lw_p60 : lw_okq (⟨"QueryReaderModel", "spells", "(ILjava/lang/String;)Z"⟩, 25) := ⟨⟨by decide +kernel, by decide +kernel⟩, List.mem_of_getElem? (i := 926) (by decide +kernel), List.mem_of_getElem? (i := 1148) (by decide +kernel), List.mem_of_getElem? (i := 1149) (by decide +kernel)⟩
theorem lw_p61 : lw_okq (⟨"QueryReaderModel", "whole", "()I"⟩, 25) := ⟨⟨by decide +kernel, by decide +kernel⟩, List.mem_of_getElem? (i := 926) (by decide +kernel), List.mem_of_getElem? (i := 1157) (by decide +kernel), List.mem_of_getElem? (i := 1158) (by decide +kernel)⟩
theorem lw_p62 : lw_okq (⟨"QueryReaderModel", "one", "()I"⟩, 25) := ⟨⟨by decide +kernel, by decide +kernel⟩, List.mem_of_getElem? (i := 926) (by decide +kernel), List.mem_of_getElem? (i := 1161) (by decide +kernel), List.mem_of_getElem? (i := 1162) (by decide +kernel)⟩
theorem lw_p63 : lw_okq (⟨"QueryReaderModel", "isWord", "(Ljava/lang/String;)Z"⟩, 25) := ⟨⟨by decide +kernel, by decide +kernel⟩, List.mem_of_getElem? (i := 926) (by decide +kernel), List.mem_of_getElem? (i := 1165) (by decide +kernel), List.mem_of_getElem? (i := 1166) (by decide +kernel)⟩
def lw_privs_4 : List (MethodName × Nat) := [(⟨"QueryReader$Grammar", "commit", "()I"⟩, 10), (⟨"QueryReader$Grammar", "rollback", "()I"⟩, 10), (⟨"QueryReader$Grammar", "lock", "()I"⟩, 10), (⟨"QueryReader$Names", "clearSlots", "(I)I"⟩, 1), (⟨"QueryReader$Names", "isNew", "(LQueryReader$Row;II)Z"⟩, 1), (⟨"QueryReaderModel", "readTokens", "()V"⟩, 25), (⟨"QueryReaderModel", "skipBlanks", "(I)I"⟩, 25), (⟨"QueryReaderModel", "byteAt", "(I)I"⟩, 25), (⟨"QueryReaderModel", "readToken", "(I)I"⟩, 25), (⟨"QueryReaderModel", "stringAt", "(I)I"⟩, 25), (⟨"QueryReaderModel", "token", "(III)V"⟩, 25), (⟨"QueryReaderModel", "wordOf", "(I)I"⟩, 25), (⟨"QueryReaderModel", "spells", "(ILjava/lang/String;)Z"⟩, 25), (⟨"QueryReaderModel", "whole", "()I"⟩, 25), (⟨"QueryReaderModel", "one", "()I"⟩, 25), (⟨"QueryReaderModel", "isWord", "(Ljava/lang/String;)Z"⟩, 25)]
theorem lw_r4 : ∀ q ∈ lw_privs_4, lw_okq q := List.forall_mem_cons.mpr ⟨lw_p48, List.forall_mem_cons.mpr ⟨lw_p49, List.forall_mem_cons.mpr ⟨lw_p50, List.forall_mem_cons.mpr ⟨lw_p51, List.forall_mem_cons.mpr ⟨lw_p52, List.forall_mem_cons.mpr ⟨lw_p53, List.forall_mem_cons.mpr ⟨lw_p54, List.forall_mem_cons.mpr ⟨lw_p55, List.forall_mem_cons.mpr ⟨lw_p56, List.forall_mem_cons.mpr ⟨lw_p57, List.forall_mem_cons.mpr ⟨lw_p58, List.forall_mem_cons.mpr ⟨lw_p59, List.forall_mem_cons.mpr ⟨lw_p60, List.forall_mem_cons.mpr ⟨lw_p61, List.forall_mem_cons.mpr ⟨lw_p62, List.forall_mem_cons.mpr ⟨lw_p63, fun _ h => absurd h List.not_mem_nil⟩⟩⟩⟩⟩⟩⟩⟩⟩⟩⟩⟩⟩⟩⟩⟩
theorem lw_p64 : lw_okq (⟨"QueryReaderModel", "query", "()V"⟩, 25) := ⟨⟨by decide +kernel, by decide +kernel⟩, List.mem_of_getElem? (i := 926) (by decide +kernel), List.mem_of_getElem? (i := 1169) (by decide +kernel), List.mem_of_getElem? (i := 1170) (by decide +kernel)⟩
theorem lw_p65 : lw_okq (⟨"QueryReaderModel", "word", "(Ljava/lang/String;)V"⟩, 25) := ⟨⟨by decide +kernel, by decide +kernel⟩, List.mem_of_getElem? (i := 926) (by decide +kernel), List.mem_of_getElem? (i := 1173) (by decide +kernel), List.mem_of_getElem? (i := 1174) (by decide +kernel)⟩
theorem lw_p66 : lw_okq (⟨"QueryReaderModel", "need", "(Z)V"⟩, 25) := ⟨⟨by decide +kernel, by decide +kernel⟩, List.mem_of_getElem? (i := 926) (by decide +kernel), List.mem_of_getElem? (i := 1177) (by decide +kernel), List.mem_of_getElem? (i := 1178) (by decide +kernel)⟩
theorem lw_p67 : lw_okq (⟨"QueryReaderModel", "keep", "()V"⟩, 25) := ⟨⟨by decide +kernel, by decide +kernel⟩, List.mem_of_getElem? (i := 926) (by decide +kernel), List.mem_of_getElem? (i := 1191) (by decide +kernel), List.mem_of_getElem? (i := 1192) (by decide +kernel)⟩
theorem lw_p68 : lw_okq (⟨"QueryReaderModel", "takes", "(Ljava/lang/String;)Z"⟩, 25) := ⟨⟨by decide +kernel, by decide +kernel⟩, List.mem_of_getElem? (i := 926) (by decide +kernel), List.mem_of_getElem? (i := 1195) (by decide +kernel), List.mem_of_getElem? (i := 1196) (by decide +kernel)⟩
theorem lw_p69 : lw_okq (⟨"QueryReaderModel", "isMark", "(Ljava/lang/String;)Z"⟩, 25) := ⟨⟨by decide +kernel, by decide +kernel⟩, List.mem_of_getElem? (i := 926) (by decide +kernel), List.mem_of_getElem? (i := 1200) (by decide +kernel), List.mem_of_getElem? (i := 1201) (by decide +kernel)⟩
theorem lw_p70 : lw_okq (⟨"QueryReaderModel", "item", "()V"⟩, 25) := ⟨⟨by decide +kernel, by decide +kernel⟩, List.mem_of_getElem? (i := 926) (by decide +kernel), List.mem_of_getElem? (i := 1204) (by decide +kernel), List.mem_of_getElem? (i := 1205) (by decide +kernel)⟩
theorem lw_p71 : lw_okq (⟨"QueryReaderModel", "expression", "()V"⟩, 25) := ⟨⟨by decide +kernel, by decide +kernel⟩, List.mem_of_getElem? (i := 926) (by decide +kernel), List.mem_of_getElem? (i := 1208) (by decide +kernel), List.mem_of_getElem? (i := 1209) (by decide +kernel)⟩
theorem lw_p72 : lw_okq (⟨"QueryReaderModel", "prefixes", "(I)V"⟩, 25) := ⟨⟨by decide +kernel, by decide +kernel⟩, List.mem_of_getElem? (i := 926) (by decide +kernel), List.mem_of_getElem? (i := 1212) (by decide +kernel), List.mem_of_getElem? (i := 1213) (by decide +kernel)⟩
theorem lw_p73 : lw_okq (⟨"QueryReaderModel", "opens", "()V"⟩, 25) := ⟨⟨by decide +kernel, by decide +kernel⟩, List.mem_of_getElem? (i := 926) (by decide +kernel), List.mem_of_getElem? (i := 1216) (by decide +kernel), List.mem_of_getElem? (i := 1217) (by decide +kernel)⟩
theorem lw_p74 : lw_okq (⟨"QueryReaderModel", "park", "(II)V"⟩, 25) := ⟨⟨by decide +kernel, by decide +kernel⟩, List.mem_of_getElem? (i := 926) (by decide +kernel), List.mem_of_getElem? (i := 1220) (by decide +kernel), List.mem_of_getElem? (i := 1221) (by decide +kernel)⟩
theorem lw_p75 : lw_okq (⟨"QueryReaderModel", "operand", "()V"⟩, 25) := ⟨⟨by decide +kernel, by decide +kernel⟩, List.mem_of_getElem? (i := 926) (by decide +kernel), List.mem_of_getElem? (i := 1225) (by decide +kernel), List.mem_of_getElem? (i := 1226) (by decide +kernel)⟩
theorem lw_p76 : lw_okq (⟨"QueryReaderModel", "sort", "(I)V"⟩, 25) := ⟨⟨by decide +kernel, by decide +kernel⟩, List.mem_of_getElem? (i := 926) (by decide +kernel), List.mem_of_getElem? (i := 1232) (by decide +kernel), List.mem_of_getElem? (i := 1233) (by decide +kernel)⟩
theorem lw_p77 : lw_okq (⟨"QueryReaderModel", "call", "()V"⟩, 25) := ⟨⟨by decide +kernel, by decide +kernel⟩, List.mem_of_getElem? (i := 926) (by decide +kernel), List.mem_of_getElem? (i := 1236) (by decide +kernel), List.mem_of_getElem? (i := 1237) (by decide +kernel)⟩
theorem lw_p78 : lw_okq (⟨"QueryReaderModel", "openBracket", "()V"⟩, 25) := ⟨⟨by decide +kernel, by decide +kernel⟩, List.mem_of_getElem? (i := 926) (by decide +kernel), List.mem_of_getElem? (i := 1240) (by decide +kernel), List.mem_of_getElem? (i := 1241) (by decide +kernel)⟩
theorem lw_p79 : lw_okq (⟨"QueryReaderModel", "closeBracket", "()V"⟩, 25) := ⟨⟨by decide +kernel, by decide +kernel⟩, List.mem_of_getElem? (i := 926) (by decide +kernel), List.mem_of_getElem? (i := 1244) (by decide +kernel), List.mem_of_getElem? (i := 1245) (by decide +kernel)⟩
def lw_privs_5 : List (MethodName × Nat) := [(⟨"QueryReaderModel", "query", "()V"⟩, 25), (⟨"QueryReaderModel", "word", "(Ljava/lang/String;)V"⟩, 25), (⟨"QueryReaderModel", "need", "(Z)V"⟩, 25), (⟨"QueryReaderModel", "keep", "()V"⟩, 25), (⟨"QueryReaderModel", "takes", "(Ljava/lang/String;)Z"⟩, 25), (⟨"QueryReaderModel", "isMark", "(Ljava/lang/String;)Z"⟩, 25), (⟨"QueryReaderModel", "item", "()V"⟩, 25), (⟨"QueryReaderModel", "expression", "()V"⟩, 25), (⟨"QueryReaderModel", "prefixes", "(I)V"⟩, 25), (⟨"QueryReaderModel", "opens", "()V"⟩, 25), (⟨"QueryReaderModel", "park", "(II)V"⟩, 25), (⟨"QueryReaderModel", "operand", "()V"⟩, 25), (⟨"QueryReaderModel", "sort", "(I)V"⟩, 25), (⟨"QueryReaderModel", "call", "()V"⟩, 25), (⟨"QueryReaderModel", "openBracket", "()V"⟩, 25), (⟨"QueryReaderModel", "closeBracket", "()V"⟩, 25)]
theorem lw_r5 : ∀ q ∈ lw_privs_5, lw_okq q := List.forall_mem_cons.mpr ⟨lw_p64, List.forall_mem_cons.mpr ⟨lw_p65, List.forall_mem_cons.mpr ⟨lw_p66, List.forall_mem_cons.mpr ⟨lw_p67, List.forall_mem_cons.mpr ⟨lw_p68, List.forall_mem_cons.mpr ⟨lw_p69, List.forall_mem_cons.mpr ⟨lw_p70, List.forall_mem_cons.mpr ⟨lw_p71, List.forall_mem_cons.mpr ⟨lw_p72, List.forall_mem_cons.mpr ⟨lw_p73, List.forall_mem_cons.mpr ⟨lw_p74, List.forall_mem_cons.mpr ⟨lw_p75, List.forall_mem_cons.mpr ⟨lw_p76, List.forall_mem_cons.mpr ⟨lw_p77, List.forall_mem_cons.mpr ⟨lw_p78, List.forall_mem_cons.mpr ⟨lw_p79, fun _ h => absurd h List.not_mem_nil⟩⟩⟩⟩⟩⟩⟩⟩⟩⟩⟩⟩⟩⟩⟩⟩
theorem lw_p80 : lw_okq (⟨"QueryReaderModel", "sign", "(Ljava/lang/String;)V"⟩, 25) := ⟨⟨by decide +kernel, by decide +kernel⟩, List.mem_of_getElem? (i := 926) (by decide +kernel), List.mem_of_getElem? (i := 1248) (by decide +kernel), List.mem_of_getElem? (i := 1249) (by decide +kernel)⟩
theorem lw_p81 : lw_okq (⟨"QueryReaderModel", "cases", "()V"⟩, 25) := ⟨⟨by decide +kernel, by decide +kernel⟩, List.mem_of_getElem? (i := 926) (by decide +kernel), List.mem_of_getElem? (i := 1252) (by decide +kernel), List.mem_of_getElem? (i := 1253) (by decide +kernel)⟩
theorem lw_p82 : lw_okq (⟨"QueryReaderModel", "type", "()V"⟩, 25) := ⟨⟨by decide +kernel, by decide +kernel⟩, List.mem_of_getElem? (i := 926) (by decide +kernel), List.mem_of_getElem? (i := 1256) (by decide +kernel), List.mem_of_getElem? (i := 1257) (by decide +kernel)⟩
theorem lw_p83 : lw_okq (⟨"QueryReaderModel", "list", "()V"⟩, 25) := ⟨⟨by decide +kernel, by decide +kernel⟩, List.mem_of_getElem? (i := 926) (by decide +kernel), List.mem_of_getElem? (i := 1260) (by decide +kernel), List.mem_of_getElem? (i := 1261) (by decide +kernel)⟩
theorem lw_p84 : lw_okq (⟨"QueryReaderModel", "takesComma", "()Z"⟩, 25) := ⟨⟨by decide +kernel, by decide +kernel⟩, List.mem_of_getElem? (i := 926) (by decide +kernel), List.mem_of_getElem? (i := 1264) (by decide +kernel), List.mem_of_getElem? (i := 1265) (by decide +kernel)⟩
theorem lw_p85 : lw_okq (⟨"QueryReaderModel", "aggregate", "()V"⟩, 25) := ⟨⟨by decide +kernel, by decide +kernel⟩, List.mem_of_getElem? (i := 926) (by decide +kernel), List.mem_of_getElem? (i := 1269) (by decide +kernel), List.mem_of_getElem? (i := 1270) (by decide +kernel)⟩
theorem lw_p86 : lw_okq (⟨"QueryReaderModel", "atom", "(I)V"⟩, 25) := ⟨⟨by decide +kernel, by decide +kernel⟩, List.mem_of_getElem? (i := 926) (by decide +kernel), List.mem_of_getElem? (i := 1273) (by decide +kernel), List.mem_of_getElem? (i := 1274) (by decide +kernel)⟩
theorem lw_p87 : lw_okq (⟨"QueryReaderModel", "rank", "()I"⟩, 25) := ⟨⟨by decide +kernel, by decide +kernel⟩, List.mem_of_getElem? (i := 926) (by decide +kernel), List.mem_of_getElem? (i := 1277) (by decide +kernel), List.mem_of_getElem? (i := 1278) (by decide +kernel)⟩
theorem lw_p88 : lw_okq (⟨"QueryReaderModel", "settleTo", "(III)I"⟩, 25) := ⟨⟨by decide +kernel, by decide +kernel⟩, List.mem_of_getElem? (i := 926) (by decide +kernel), List.mem_of_getElem? (i := 1291) (by decide +kernel), List.mem_of_getElem? (i := 1292) (by decide +kernel)⟩
theorem lw_p89 : lw_okq (⟨"QueryReaderModel", "settle", "()V"⟩, 25) := ⟨⟨by decide +kernel, by decide +kernel⟩, List.mem_of_getElem? (i := 926) (by decide +kernel), List.mem_of_getElem? (i := 1295) (by decide +kernel), List.mem_of_getElem? (i := 1296) (by decide +kernel)⟩
theorem lw_p90 : lw_okq (⟨"QueryReaderModel", "wrap", "(II)V"⟩, 25) := ⟨⟨by decide +kernel, by decide +kernel⟩, List.mem_of_getElem? (i := 926) (by decide +kernel), List.mem_of_getElem? (i := 1299) (by decide +kernel), List.mem_of_getElem? (i := 1300) (by decide +kernel)⟩
theorem lw_p91 : lw_okq (⟨"QueryReaderModel", "goOn", "(II)I"⟩, 25) := ⟨⟨by decide +kernel, by decide +kernel⟩, List.mem_of_getElem? (i := 926) (by decide +kernel), List.mem_of_getElem? (i := 1303) (by decide +kernel), List.mem_of_getElem? (i := 1304) (by decide +kernel)⟩
theorem lw_p92 : lw_okq (⟨"QueryReaderModel", "test", "(II)I"⟩, 25) := ⟨⟨by decide +kernel, by decide +kernel⟩, List.mem_of_getElem? (i := 926) (by decide +kernel), List.mem_of_getElem? (i := 1307) (by decide +kernel), List.mem_of_getElem? (i := 1308) (by decide +kernel)⟩
theorem lw_p93 : lw_okq (⟨"QueryReaderModel", "alias", "()V"⟩, 25) := ⟨⟨by decide +kernel, by decide +kernel⟩, List.mem_of_getElem? (i := 926) (by decide +kernel), List.mem_of_getElem? (i := 1311) (by decide +kernel), List.mem_of_getElem? (i := 1312) (by decide +kernel)⟩
theorem lw_p94 : lw_okq (⟨"QueryReaderModel", "source", "()V"⟩, 25) := ⟨⟨by decide +kernel, by decide +kernel⟩, List.mem_of_getElem? (i := 926) (by decide +kernel), List.mem_of_getElem? (i := 1315) (by decide +kernel), List.mem_of_getElem? (i := 1316) (by decide +kernel)⟩
theorem lw_p95 : lw_okq (⟨"QueryReaderModel", "join", "()Z"⟩, 25) := ⟨⟨by decide +kernel, by decide +kernel⟩, List.mem_of_getElem? (i := 926) (by decide +kernel), List.mem_of_getElem? (i := 1319) (by decide +kernel), List.mem_of_getElem? (i := 1320) (by decide +kernel)⟩
def lw_privs_6 : List (MethodName × Nat) := [(⟨"QueryReaderModel", "sign", "(Ljava/lang/String;)V"⟩, 25), (⟨"QueryReaderModel", "cases", "()V"⟩, 25), (⟨"QueryReaderModel", "type", "()V"⟩, 25), (⟨"QueryReaderModel", "list", "()V"⟩, 25), (⟨"QueryReaderModel", "takesComma", "()Z"⟩, 25), (⟨"QueryReaderModel", "aggregate", "()V"⟩, 25), (⟨"QueryReaderModel", "atom", "(I)V"⟩, 25), (⟨"QueryReaderModel", "rank", "()I"⟩, 25), (⟨"QueryReaderModel", "settleTo", "(III)I"⟩, 25), (⟨"QueryReaderModel", "settle", "()V"⟩, 25), (⟨"QueryReaderModel", "wrap", "(II)V"⟩, 25), (⟨"QueryReaderModel", "goOn", "(II)I"⟩, 25), (⟨"QueryReaderModel", "test", "(II)I"⟩, 25), (⟨"QueryReaderModel", "alias", "()V"⟩, 25), (⟨"QueryReaderModel", "source", "()V"⟩, 25), (⟨"QueryReaderModel", "join", "()Z"⟩, 25)]
theorem lw_r6 : ∀ q ∈ lw_privs_6, lw_okq q := List.forall_mem_cons.mpr ⟨lw_p80, List.forall_mem_cons.mpr ⟨lw_p81, List.forall_mem_cons.mpr ⟨lw_p82, List.forall_mem_cons.mpr ⟨lw_p83, List.forall_mem_cons.mpr ⟨lw_p84, List.forall_mem_cons.mpr ⟨lw_p85, List.forall_mem_cons.mpr ⟨lw_p86, List.forall_mem_cons.mpr ⟨lw_p87, List.forall_mem_cons.mpr ⟨lw_p88, List.forall_mem_cons.mpr ⟨lw_p89, List.forall_mem_cons.mpr ⟨lw_p90, List.forall_mem_cons.mpr ⟨lw_p91, List.forall_mem_cons.mpr ⟨lw_p92, List.forall_mem_cons.mpr ⟨lw_p93, List.forall_mem_cons.mpr ⟨lw_p94, List.forall_mem_cons.mpr ⟨lw_p95, fun _ h => absurd h List.not_mem_nil⟩⟩⟩⟩⟩⟩⟩⟩⟩⟩⟩⟩⟩⟩⟩⟩
theorem lw_p96 : lw_okq (⟨"QueryReaderModel", "put", "(Ljava/lang/String;)V"⟩, 25) := ⟨⟨by decide +kernel, by decide +kernel⟩, List.mem_of_getElem? (i := 926) (by decide +kernel), List.mem_of_getElem? (i := 1323) (by decide +kernel), List.mem_of_getElem? (i := 1324) (by decide +kernel)⟩
theorem lw_p97 : lw_okq (⟨"QueryReaderModel", "where", "()V"⟩, 25) := ⟨⟨by decide +kernel, by decide +kernel⟩, List.mem_of_getElem? (i := 926) (by decide +kernel), List.mem_of_getElem? (i := 1335) (by decide +kernel), List.mem_of_getElem? (i := 1336) (by decide +kernel)⟩
theorem lw_p98 : lw_okq (⟨"QueryReaderModel", "order", "()V"⟩, 25) := ⟨⟨by decide +kernel, by decide +kernel⟩, List.mem_of_getElem? (i := 926) (by decide +kernel), List.mem_of_getElem? (i := 1339) (by decide +kernel), List.mem_of_getElem? (i := 1340) (by decide +kernel)⟩
theorem lw_p99 : lw_okq (⟨"QueryReaderModel", "create", "()I"⟩, 25) := ⟨⟨by decide +kernel, by decide +kernel⟩, List.mem_of_getElem? (i := 926) (by decide +kernel), List.mem_of_getElem? (i := 1343) (by decide +kernel), List.mem_of_getElem? (i := 1344) (by decide +kernel)⟩
theorem lw_p100 : lw_okq (⟨"QueryReaderModel", "element", "()V"⟩, 25) := ⟨⟨by decide +kernel, by decide +kernel⟩, List.mem_of_getElem? (i := 926) (by decide +kernel), List.mem_of_getElem? (i := 1347) (by decide +kernel), List.mem_of_getElem? (i := 1348) (by decide +kernel)⟩
theorem lw_p101 : lw_okq (⟨"QueryReaderModel", "bracketed", "()V"⟩, 25) := ⟨⟨by decide +kernel, by decide +kernel⟩, List.mem_of_getElem? (i := 926) (by decide +kernel), List.mem_of_getElem? (i := 1351) (by decide +kernel), List.mem_of_getElem? (i := 1352) (by decide +kernel)⟩
theorem lw_p102 : lw_okq (⟨"QueryReaderModel", "check", "()V"⟩, 25) := ⟨⟨by decide +kernel, by decide +kernel⟩, List.mem_of_getElem? (i := 926) (by decide +kernel), List.mem_of_getElem? (i := 1355) (by decide +kernel), List.mem_of_getElem? (i := 1356) (by decide +kernel)⟩
theorem lw_p103 : lw_okq (⟨"QueryReaderModel", "option", "()Z"⟩, 25) := ⟨⟨by decide +kernel, by decide +kernel⟩, List.mem_of_getElem? (i := 926) (by decide +kernel), List.mem_of_getElem? (i := 1359) (by decide +kernel), List.mem_of_getElem? (i := 1360) (by decide +kernel)⟩
theorem lw_p104 : lw_okq (⟨"QueryReaderModel", "references", "()V"⟩, 25) := ⟨⟨by decide +kernel, by decide +kernel⟩, List.mem_of_getElem? (i := 926) (by decide +kernel), List.mem_of_getElem? (i := 1363) (by decide +kernel), List.mem_of_getElem? (i := 1364) (by decide +kernel)⟩
theorem lw_p105 : lw_okq (⟨"QueryReaderModel", "drop", "()I"⟩, 25) := ⟨⟨by decide +kernel, by decide +kernel⟩, List.mem_of_getElem? (i := 926) (by decide +kernel), List.mem_of_getElem? (i := 1367) (by decide +kernel), List.mem_of_getElem? (i := 1368) (by decide +kernel)⟩
theorem lw_p106 : lw_okq (⟨"QueryReaderModel", "insert", "()I"⟩, 25) := ⟨⟨by decide +kernel, by decide +kernel⟩, List.mem_of_getElem? (i := 926) (by decide +kernel), List.mem_of_getElem? (i := 1371) (by decide +kernel), List.mem_of_getElem? (i := 1372) (by decide +kernel)⟩
theorem lw_p107 : lw_okq (⟨"QueryReaderModel", "update", "()I"⟩, 25) := ⟨⟨by decide +kernel, by decide +kernel⟩, List.mem_of_getElem? (i := 926) (by decide +kernel), List.mem_of_getElem? (i := 1375) (by decide +kernel), List.mem_of_getElem? (i := 1376) (by decide +kernel)⟩
theorem lw_p108 : lw_okq (⟨"QueryReaderModel", "delete", "()I"⟩, 25) := ⟨⟨by decide +kernel, by decide +kernel⟩, List.mem_of_getElem? (i := 926) (by decide +kernel), List.mem_of_getElem? (i := 1379) (by decide +kernel), List.mem_of_getElem? (i := 1380) (by decide +kernel)⟩
theorem lw_p109 : lw_okq (⟨"QueryReaderModel", "begin", "()I"⟩, 25) := ⟨⟨by decide +kernel, by decide +kernel⟩, List.mem_of_getElem? (i := 926) (by decide +kernel), List.mem_of_getElem? (i := 1383) (by decide +kernel), List.mem_of_getElem? (i := 1384) (by decide +kernel)⟩
theorem lw_p110 : lw_okq (⟨"QueryReaderModel", "commit", "()I"⟩, 25) := ⟨⟨by decide +kernel, by decide +kernel⟩, List.mem_of_getElem? (i := 926) (by decide +kernel), List.mem_of_getElem? (i := 1387) (by decide +kernel), List.mem_of_getElem? (i := 1388) (by decide +kernel)⟩
theorem lw_p111 : lw_okq (⟨"QueryReaderModel", "rollback", "()I"⟩, 25) := ⟨⟨by decide +kernel, by decide +kernel⟩, List.mem_of_getElem? (i := 926) (by decide +kernel), List.mem_of_getElem? (i := 1391) (by decide +kernel), List.mem_of_getElem? (i := 1392) (by decide +kernel)⟩
def lw_privs_7 : List (MethodName × Nat) := [(⟨"QueryReaderModel", "put", "(Ljava/lang/String;)V"⟩, 25), (⟨"QueryReaderModel", "where", "()V"⟩, 25), (⟨"QueryReaderModel", "order", "()V"⟩, 25), (⟨"QueryReaderModel", "create", "()I"⟩, 25), (⟨"QueryReaderModel", "element", "()V"⟩, 25), (⟨"QueryReaderModel", "bracketed", "()V"⟩, 25), (⟨"QueryReaderModel", "check", "()V"⟩, 25), (⟨"QueryReaderModel", "option", "()Z"⟩, 25), (⟨"QueryReaderModel", "references", "()V"⟩, 25), (⟨"QueryReaderModel", "drop", "()I"⟩, 25), (⟨"QueryReaderModel", "insert", "()I"⟩, 25), (⟨"QueryReaderModel", "update", "()I"⟩, 25), (⟨"QueryReaderModel", "delete", "()I"⟩, 25), (⟨"QueryReaderModel", "begin", "()I"⟩, 25), (⟨"QueryReaderModel", "commit", "()I"⟩, 25), (⟨"QueryReaderModel", "rollback", "()I"⟩, 25)]
theorem lw_r7 : ∀ q ∈ lw_privs_7, lw_okq q := List.forall_mem_cons.mpr ⟨lw_p96, List.forall_mem_cons.mpr ⟨lw_p97, List.forall_mem_cons.mpr ⟨lw_p98, List.forall_mem_cons.mpr ⟨lw_p99, List.forall_mem_cons.mpr ⟨lw_p100, List.forall_mem_cons.mpr ⟨lw_p101, List.forall_mem_cons.mpr ⟨lw_p102, List.forall_mem_cons.mpr ⟨lw_p103, List.forall_mem_cons.mpr ⟨lw_p104, List.forall_mem_cons.mpr ⟨lw_p105, List.forall_mem_cons.mpr ⟨lw_p106, List.forall_mem_cons.mpr ⟨lw_p107, List.forall_mem_cons.mpr ⟨lw_p108, List.forall_mem_cons.mpr ⟨lw_p109, List.forall_mem_cons.mpr ⟨lw_p110, List.forall_mem_cons.mpr ⟨lw_p111, fun _ h => absurd h List.not_mem_nil⟩⟩⟩⟩⟩⟩⟩⟩⟩⟩⟩⟩⟩⟩⟩⟩
theorem lw_p112 : lw_okq (⟨"QueryReaderModel", "named", "(II)I"⟩, 25) := ⟨⟨by decide +kernel, by decide +kernel⟩, List.mem_of_getElem? (i := 926) (by decide +kernel), List.mem_of_getElem? (i := 1395) (by decide +kernel), List.mem_of_getElem? (i := 1396) (by decide +kernel)⟩
theorem lw_p113 : lw_okq (⟨"QueryReaderModel", "lock", "()I"⟩, 25) := ⟨⟨by decide +kernel, by decide +kernel⟩, List.mem_of_getElem? (i := 926) (by decide +kernel), List.mem_of_getElem? (i := 1399) (by decide +kernel), List.mem_of_getElem? (i := 1400) (by decide +kernel)⟩
theorem lw_p114 : lw_okq (⟨"QueryReaderModel", "lengthOf", "()I"⟩, 25) := ⟨⟨by decide +kernel, by decide +kernel⟩, List.mem_of_getElem? (i := 926) (by decide +kernel), List.mem_of_getElem? (i := 1412) (by decide +kernel), List.mem_of_getElem? (i := 1413) (by decide +kernel)⟩
theorem lw_p115 : lw_okq (⟨"QueryReaderModel", "widthOf", "(I)I"⟩, 25) := ⟨⟨by decide +kernel, by decide +kernel⟩, List.mem_of_getElem? (i := 926) (by decide +kernel), List.mem_of_getElem? (i := 1416) (by decide +kernel), List.mem_of_getElem? (i := 1417) (by decide +kernel)⟩
theorem lw_p116 : lw_okq (⟨"QueryReaderModel", "sizeOf", "(I)I"⟩, 25) := ⟨⟨by decide +kernel, by decide +kernel⟩, List.mem_of_getElem? (i := 926) (by decide +kernel), List.mem_of_getElem? (i := 1420) (by decide +kernel), List.mem_of_getElem? (i := 1421) (by decide +kernel)⟩
theorem lw_p117 : lw_okq (⟨"QueryReaderModel", "zeros", "(I)I"⟩, 25) := ⟨⟨by decide +kernel, by decide +kernel⟩, List.mem_of_getElem? (i := 926) (by decide +kernel), List.mem_of_getElem? (i := 1424) (by decide +kernel), List.mem_of_getElem? (i := 1425) (by decide +kernel)⟩
theorem lw_p118 : lw_okq (⟨"QueryReaderModel", "charOf", "(II)I"⟩, 25) := ⟨⟨by decide +kernel, by decide +kernel⟩, List.mem_of_getElem? (i := 926) (by decide +kernel), List.mem_of_getElem? (i := 1432) (by decide +kernel), List.mem_of_getElem? (i := 1433) (by decide +kernel)⟩
theorem lw_p119 : lw_okq (⟨"QueryReaderModel", "letterOf", "(II)I"⟩, 25) := ⟨⟨by decide +kernel, by decide +kernel⟩, List.mem_of_getElem? (i := 926) (by decide +kernel), List.mem_of_getElem? (i := 1436) (by decide +kernel), List.mem_of_getElem? (i := 1437) (by decide +kernel)⟩
theorem lw_p120 : lw_okq (⟨"QueryReaderModel", "isNew", "(I)Z"⟩, 25) := ⟨⟨by decide +kernel, by decide +kernel⟩, List.mem_of_getElem? (i := 926) (by decide +kernel), List.mem_of_getElem? (i := 1448) (by decide +kernel), List.mem_of_getElem? (i := 1449) (by decide +kernel)⟩
theorem lw_p121 : lw_okq (⟨"QueryReaderModel", "sameName", "(II)Z"⟩, 25) := ⟨⟨by decide +kernel, by decide +kernel⟩, List.mem_of_getElem? (i := 926) (by decide +kernel), List.mem_of_getElem? (i := 1453) (by decide +kernel), List.mem_of_getElem? (i := 1454) (by decide +kernel)⟩
def lw_privs_8 : List (MethodName × Nat) := [(⟨"QueryReaderModel", "named", "(II)I"⟩, 25), (⟨"QueryReaderModel", "lock", "()I"⟩, 25), (⟨"QueryReaderModel", "lengthOf", "()I"⟩, 25), (⟨"QueryReaderModel", "widthOf", "(I)I"⟩, 25), (⟨"QueryReaderModel", "sizeOf", "(I)I"⟩, 25), (⟨"QueryReaderModel", "zeros", "(I)I"⟩, 25), (⟨"QueryReaderModel", "charOf", "(II)I"⟩, 25), (⟨"QueryReaderModel", "letterOf", "(II)I"⟩, 25), (⟨"QueryReaderModel", "isNew", "(I)Z"⟩, 25), (⟨"QueryReaderModel", "sameName", "(II)Z"⟩, 25)]
theorem lw_r8 : ∀ q ∈ lw_privs_8, lw_okq q := List.forall_mem_cons.mpr ⟨lw_p112, List.forall_mem_cons.mpr ⟨lw_p113, List.forall_mem_cons.mpr ⟨lw_p114, List.forall_mem_cons.mpr ⟨lw_p115, List.forall_mem_cons.mpr ⟨lw_p116, List.forall_mem_cons.mpr ⟨lw_p117, List.forall_mem_cons.mpr ⟨lw_p118, List.forall_mem_cons.mpr ⟨lw_p119, List.forall_mem_cons.mpr ⟨lw_p120, List.forall_mem_cons.mpr ⟨lw_p121, fun _ h => absurd h List.not_mem_nil⟩⟩⟩⟩⟩⟩⟩⟩⟩⟩
def lw_privs : List (MethodName × Nat) := lw_privs_1 ++ (lw_privs_2 ++ (lw_privs_3 ++ (lw_privs_4 ++ (lw_privs_5 ++ (lw_privs_6 ++ (lw_privs_7 ++ (lw_privs_8)))))))
def lw_tbl : List Cond := k2_sels lw_privs ++ tables_1
theorem lw_privs_ok : ∀ q ∈ lw_privs, lw_okq q := by
  show ∀ q ∈ lw_privs_1 ++ (lw_privs_2 ++ (lw_privs_3 ++ (lw_privs_4 ++ (lw_privs_5 ++ (lw_privs_6 ++ (lw_privs_7 ++ (lw_privs_8))))))), lw_okq q
  exact List.forall_mem_append.mpr ⟨lw_r1, List.forall_mem_append.mpr ⟨lw_r2, List.forall_mem_append.mpr ⟨lw_r3, List.forall_mem_append.mpr ⟨lw_r4, List.forall_mem_append.mpr ⟨lw_r5, List.forall_mem_append.mpr ⟨lw_r6, List.forall_mem_append.mpr ⟨lw_r7, lw_r8⟩⟩⟩⟩⟩⟩⟩
end
section
/-! A SMALL MACHINE OVER NUMBERED CELLS. Values: int, long, null as they are; '.ref i' the i-th made cell; '.retAddr k' the k-th constant object; '.float _' an object or null that nobody looks at (a caught exception). -/
abbrev ai_C : Type := (FieldType × Nat × (Nat → Int32)) ⊕ ((Nat × (Nat → Int64)) ⊕ ((String × Nat × (Nat → Value)) ⊕ (Nat × List Value)))
/-- the made cells; how many cells, how many slots were made -/
abbrev ai_H : Type := List ai_C × Nat × Nat
abbrev ai_num (ty : FieldType) (n : Nat) (f : Nat → Int32) : ai_C := .inl (ty, n, f)
abbrev ai_lng (n : Nat) (f : Nat → Int64) : ai_C := .inr (.inl (n, f))
abbrev ai_refs (C : String) (n : Nat) (g : Nat → Value) : ai_C := .inr (.inr (.inl (C, n, g)))
abbrev ai_obj (ci : Nat) (fs : List Value) : ai_C := .inr (.inr (.inr (ci, fs)))
/-- what an instruction leads to: its kind (0 plain, 1 call, 2 throw, 3 Object's constructor, 4 arraycopy, 5 6 7 the end with an int, a reference, nothing), numbers, a name -/
abbrev ai_R : Type := Nat × List Int × String
/-- place in the bytes, instruction, its length, what it leads to -/
abbrev ai_I : Type := Nat × Instr × Nat × ai_R
/-- the constants: the cell of the k-th constant object -/
abbrev ai_S : Type := Nat → Option ai_C
abbrev ai_L : Type := List (Option Value)
/-- a step that only moves words: the next place (0: the one behind; t + 1: the place t), locals, stack, cells -/
abbrev ai_N : Type := Nat × ai_L × List Value × ai_H
def ai_look (Z : ai_S) (h : List ai_C) (v : Value) : Option ai_C := match v with
  | .ref i => h[i]?
  | .retAddr k => Z k
  | _ => none
def ai_nth (r : ai_R) (k : Nat) : Int := r.2.1.getD k 0
def ai_tgt (r : ai_R) : Nat := (ai_nth r 0).toNat
/-- a word that is a reference -/
def ai_isr (v : Value) : Bool := match v with
  | .ref _ => true
  | .null => true
  | .retAddr _ => true
  | .float _ => true
  | _ => false
def ai_iload (i : Nat) (L : ai_L) (S : List Value) (h : ai_H) : Option ai_N := match L[i]? with
  | some (some (.int x)) => some (0, L, .int x :: S, h)
  | _ => none
def ai_aload (i : Nat) (L : ai_L) (S : List Value) (h : ai_H) : Option ai_N := match L[i]? with
  | some (some v) => if ai_isr v = true then some (0, L, v :: S, h) else none
  | _ => none
def ai_istore (i : Nat) (L : ai_L) (S : List Value) (h : ai_H) : Option ai_N := match S with
  | .int x :: r => if i < L.length then some (0, L.set i (some (.int x)), r, h) else none
  | _ => none
def ai_astore (i : Nat) (L : ai_L) (S : List Value) (h : ai_H) : Option ai_N := match S with
  | v :: r => if ai_isr v = true ∧ i < L.length then some (0, L.set i (some v), r, h) else none
  | _ => none
def ai_inc (i : Nat) (n : Int) (L : ai_L) (S : List Value) (h : ai_H) : Option ai_N := match L[i]? with
  | some (some (.int x)) => some (0, L.set i (some (.int (x + Int32.ofInt n))), S, h)
  | _ => none
def ai_bin (f : Int32 → Int32 → Int32) (L : ai_L) (S : List Value) (h : ai_H) : Option ai_N := match S with
  | .int y :: .int x :: r => some (0, L, .int (f x y) :: r, h)
  | _ => none
def ai_divs (f : Int32 → Int32 → Int32) (L : ai_L) (S : List Value) (h : ai_H) : Option ai_N := match S with
  | .int y :: .int x :: r => if y = 0 then none else some (0, L, .int (f x y) :: r, h)
  | _ => none
def ai_un (f : Int32 → Value) (L : ai_L) (S : List Value) (h : ai_H) : Option ai_N := match S with
  | .int x :: r => some (0, L, f x :: r, h)
  | _ => none
def ai_cmp (c : Jvm.ClassFile.Cond) (x y : Int32) : Bool := match c with
  | .eq => decide (x = y)
  | .ne => !decide (x = y)
  | .lt => decide (x < y)
  | .ge => decide (y ≤ x)
  | .gt => decide (y < x)
  | .le => decide (x ≤ y)
def ai_jump (b : Bool) (r : ai_R) (L : ai_L) (S : List Value) (h : ai_H) : Option ai_N := some (if b then ai_tgt r + 1 else 0, L, S, h)
/-- are they one object? asked only where it can be told -/
def ai_same (x y : Value) : Option Bool := match x with
  | .null => (match y with | .null => some true | .ref _ => some false | .retAddr _ => some false | _ => none)
  | .ref i => (match y with | .null => some false | .ref j => some (decide (i = j)) | _ => none)
  | .retAddr i => (match y with | .null => some false | .retAddr j => some (decide (i = j)) | _ => none)
  | _ => none
def ai_ac (c : ACond) (b : Bool) : Bool := match c with
  | .eq => b
  | .ne => !b
/-- two constant objects are of one class -/
def ai_zk (Z : ai_S) (v w : Value) : Bool := match v with
  | .retAddr k => (match w with
    | .retAddr j => (match Z k with
      | some (.inr (.inr (.inr (ci, _)))) => (match Z j with
        | some (.inr (.inr (.inr (cj, _)))) => decide (ci = cj)
        | _ => false)
      | _ => false)
    | _ => true)
  | _ => true
def ai_nul (x : Value) : Option Bool := match x with
  | .null => some true
  | .ref _ => some false
  | .retAddr _ => some false
  | _ => none
def ai_ald (Z : ai_S) (ty : FieldType) (L : ai_L) (S : List Value) (h : ai_H) : Option ai_N := match S with
  | .int i :: a :: r => (match ai_look Z h.1 a with
    | some (.inl (ty', n, f)) => if ty' = ty ∧ ¬ i < 0 ∧ i.toNatClampNeg < n then some (0, L, .int (f i.toNatClampNeg) :: r, h) else none
    | _ => none)
  | _ => none
def ai_lald (L : ai_L) (S : List Value) (h : ai_H) : Option ai_N := match S with
  | .int i :: .ref a :: r => (match h.1[a]? with
    | some (.inr (.inl (n, f))) => if ¬ i < 0 ∧ i.toNatClampNeg < n then some (0, L, .long (f i.toNatClampNeg) :: r, h) else none
    | _ => none)
  | _ => none
def ai_aald (Z : ai_S) (L : ai_L) (S : List Value) (h : ai_H) : Option ai_N := match S with
  | .int i :: a :: r => (match ai_look Z h.1 a with
    | some (.inr (.inr (.inl (_, n, g)))) => if ¬ i < 0 ∧ i.toNatClampNeg < n then some (0, L, g i.toNatClampNeg :: r, h) else none
    | _ => none)
  | _ => none
def ai_ast (ty : FieldType) (nar : Int32 → Int32) (L : ai_L) (S : List Value) (h : ai_H) : Option ai_N := match S with
  | .int x :: .int i :: .ref a :: r => (match h.1[a]? with
    | some (.inl (ty', n, f)) => if ty' = ty ∧ ¬ i < 0 ∧ i.toNatClampNeg < n then some (0, L, r, h.1.set a (ai_num ty n (upd f i.toNatClampNeg (nar x))), h.2) else none
    | _ => none)
  | _ => none
def ai_last (L : ai_L) (S : List Value) (h : ai_H) : Option ai_N := match S with
  | .long x :: .int i :: .ref a :: r => (match h.1[a]? with
    | some (.inr (.inl (n, f))) => if ¬ i < 0 ∧ i.toNatClampNeg < n then some (0, L, r, h.1.set a (ai_lng n (vp_updL f i.toNatClampNeg x)), h.2) else none
    | _ => none)
  | _ => none
/-- a reference into a row of references: a constant of its class (its name: what the place leads to) -/
def ai_aast (Z : ai_S) (cn : Nat → String) (L : ai_L) (S : List Value) (h : ai_H) : Option ai_N := match S with
  | .retAddr v :: .int i :: .ref a :: r => (match h.1[a]? with
    | some (.inr (.inr (.inl (C, n, g)))) => (match Z v with
      | some (.inr (.inr (.inr (ci, _)))) => if cn ci = C ∧ ¬ i < 0 ∧ i.toNatClampNeg < n then some (0, L, r, h.1.set a (ai_refs C n (va_up g i.toNatClampNeg (.retAddr v))), h.2) else none
      | _ => none)
    | _ => none)
  | _ => none
def ai_alen (Z : ai_S) (L : ai_L) (S : List Value) (h : ai_H) : Option ai_N := match S with
  | a :: r => (match ai_look Z h.1 a with
    | some (.inl (_, n, _)) => some (0, L, .int (Int32.ofNat n) :: r, h)
    | some (.inr (.inl (n, _))) => some (0, L, .int (Int32.ofNat n) :: r, h)
    | some (.inr (.inr (.inl (_, n, _)))) => some (0, L, .int (Int32.ofNat n) :: r, h)
    | _ => none)
  | _ => none
def ai_getf (Z : ai_S) (ci k : Nat) (L : ai_L) (S : List Value) (h : ai_H) : Option ai_N := match S with
  | a :: r => (match ai_look Z h.1 a with
    | some (.inr (.inr (.inr (ci', fs)))) => (match fs[k]? with
      | some v => if ci' = ci then some (0, L, v :: r, h) else none
      | none => none)
    | _ => none)
  | _ => none
def ai_putf (fit : Nat → Nat → Value → Bool) (ci k : Nat) (L : ai_L) (S : List Value) (h : ai_H) : Option ai_N := match S with
  | v :: .ref a :: r => (match h.1[a]? with
    | some (.inr (.inr (.inr (ci', fs)))) => if ci' = ci ∧ k < fs.length ∧ fit ci k v = true then some (0, L, r, h.1.set a (ai_obj ci (fs.set k v)), h.2) else none
    | _ => none)
  | _ => none
/-- what the program is, for the small machine: constants, names of classes, defaults of an object of a class, which values a field takes -/
abbrev ai_G : Type := ai_S × (Nat → String) × (Nat → List Value) × (Nat → Nat → Value → Bool)
/-- the elements of a new array -/
def ai_newa (ty : FieldType) (L : ai_L) (S : List Value) (h : ai_H) : Option ai_N := match S with
  | .int n :: r => if ¬ n < 0 ∧ n.toNatClampNeg ≤ 1048576 then some (0, L, .ref h.1.length :: r, h.1 ++ [if ty = .long then ai_lng n.toNatClampNeg (fun _ => 0) else ai_num ty n.toNatClampNeg (fun _ => 0)], h.2.1 + 1, h.2.2 + n.toNatClampNeg) else none
  | _ => none
def ai_newq (C : String) (L : ai_L) (S : List Value) (h : ai_H) : Option ai_N := match S with
  | .int n :: r => if ¬ n < 0 ∧ n.toNatClampNeg ≤ 1048576 then some (0, L, .ref h.1.length :: r, h.1 ++ [ai_refs C n.toNatClampNeg (fun _ => .null)], h.2.1 + 1, h.2.2 + n.toNatClampNeg) else none
  | _ => none
def ai_new (G : ai_G) (ci : Nat) (L : ai_L) (S : List Value) (h : ai_H) : Option ai_N :=
  some (0, L, .ref h.1.length :: S, h.1 ++ [ai_obj ci (G.2.2.1 ci)], h.2.1 + 1, h.2.2 + (G.2.2.1 ci).length)
/-- a constant on the stack: 1 a number, 2 a constant object, 3 one that nobody looks at -/
def ai_const (r : ai_R) (L : ai_L) (S : List Value) (h : ai_H) : Option ai_N := match ai_nth r 0 with
  | 1 => some (0, L, .int (Int32.ofInt (ai_nth r 1)) :: S, h)
  | 2 => some (0, L, .retAddr (ai_nth r 1).toNat :: S, h)
  | 3 => some (0, L, .float 0 :: S, h)
  | _ => none
def ai_dup (f : Value → List Value → Option (List Value)) (L : ai_L) (S : List Value) (h : ai_H) : Option ai_N := match S with
  | v :: r => if v.category = 1 then (match f v r with
    | some r' => some (0, L, r', h)
    | none => none) else none
  | _ => none
/-- a constant object of the class asked for -/
def ai_isof (G : ai_G) (nm : String) (v : Value) : Bool := match v with
  | .retAddr k => (match G.1 k with
    | some (.inr (.inr (.inr (ci, _)))) => decide (G.2.1 ci = nm)
    | _ => false)
  | _ => false
def ai_sw (t : Nat) (L : ai_L) (S : List Value) (h : ai_H) : Option ai_N := some (t + 1, L, S, h)
def ai_eff (G : ai_G) (i : Instr) (r : ai_R) (L : ai_L) (S : List Value) (h : ai_H) : Option ai_N := match i with
  | .aconst_null => some (0, L, .null :: S, h)
  | .iconst n => some (0, L, .int (Int32.ofInt n) :: S, h)
  | .bipush n => some (0, L, .int (Int8.ofInt n).toInt32 :: S, h)
  | .sipush n => some (0, L, .int (Int16.ofInt n).toInt32 :: S, h)
  | .ldc _ => ai_const r L S h
  | .ldc_w _ => ai_const r L S h
  | .getstatic _ => ai_const r L S h
  | .iload k => ai_iload k L S h
  | .iload_n k => ai_iload k.val L S h
  | .aload k => ai_aload k L S h
  | .aload_n k => ai_aload k.val L S h
  | .istore k => ai_istore k L S h
  | .istore_n k => ai_istore k.val L S h
  | .astore k => ai_astore k L S h
  | .astore_n k => ai_astore k.val L S h
  | .iinc k n => ai_inc k n L S h
  | .iadd => ai_bin (fun x y => x + y) L S h
  | .isub => ai_bin (fun x y => x - y) L S h
  | .imul => ai_bin (fun x y => x * y) L S h
  | .iand => ai_bin (fun x y => x &&& y) L S h
  | .ior => ai_bin (fun x y => x ||| y) L S h
  | .ixor => ai_bin (fun x y => x ^^^ y) L S h
  | .ishl => ai_bin (fun x y => x <<< (y &&& 31)) L S h
  | .ishr => ai_bin (fun x y => x >>> (y &&& 31)) L S h
  | .iushr => ai_bin (fun x y => (x.toUInt32 >>> (y.toUInt32 &&& Int32.toUInt32 31)).toInt32) L S h
  | .idiv => ai_divs (fun x y => x / y) L S h
  | .irem => ai_divs (fun x y => x - x / y * y) L S h
  | .ineg => ai_un (fun x => .int (-x)) L S h
  | .i2b => ai_un (fun x => .int x.toInt8.toInt32) L S h
  | .i2s => ai_un (fun x => .int x.toInt16.toInt32) L S h
  | .i2c => ai_un (fun x => .int (x.toUInt32 % 65536).toInt32) L S h
  | .i2l => ai_un (fun x => .long x.toInt64) L S h
  | .pop => ai_dup (fun _ r => some r) L S h
  | .dup => ai_dup (fun v r => some (v :: v :: r)) L S h
  | .dup_x1 => ai_dup (fun v r => match r with
    | w :: r => if w.category = 1 then some (v :: w :: v :: r) else none
    | _ => none) L S h
  | .dup_x2 => ai_dup (fun v r => match r with
    | w :: z :: r => if w.category = 1 ∧ z.category = 1 then some (v :: w :: z :: v :: r) else none
    | _ => none) L S h
  | .dup2 => ai_dup (fun v r => match r with
    | w :: r => if w.category = 1 then some (v :: w :: v :: w :: r) else none
    | _ => none) L S h
  | .ifCond c _ => (match S with
    | .int x :: S => ai_jump (ai_cmp c x 0) r L S h
    | _ => none)
  | .if_icmp c _ => (match S with
    | .int y :: .int x :: S => ai_jump (ai_cmp c x y) r L S h
    | _ => none)
  | .if_acmp c _ => (match S with
    | y :: x :: S => (match ai_same x y with
      | some b => if ai_zk G.1 x y = true then ai_jump (ai_ac c b) r L S h else none
      | none => none)
    | _ => none)
  | .ifnull _ => (match S with
    | x :: S => (match ai_nul x with
      | some b => ai_jump b r L S h
      | none => none)
    | _ => none)
  | .ifnonnull _ => (match S with
    | x :: S => (match ai_nul x with
      | some b => ai_jump (!b) r L S h
      | none => none)
    | _ => none)
  | .lcmp => (match S with
    | .long y :: .long x :: S => some (0, L, .int (lg_cmp x y) :: S, h)
    | _ => none)
  | .goto _ => ai_jump true r L S h
  | .tableswitch _ lo hi _ => (match S with
    | .int x :: S => ai_sw (if x.toInt < lo ∨ hi < x.toInt then ai_tgt r else (ai_nth r ((x.toInt - lo).toNat + 1)).toNat) L S h
    | _ => none)
  | .getfield _ => ai_getf G.1 (ai_nth r 0).toNat (ai_nth r 1).toNat L S h
  | .putfield _ => ai_putf G.2.2.2 (ai_nth r 0).toNat (ai_nth r 1).toNat L S h
  | .iaload => ai_ald G.1 .int L S h
  | .baload => ai_ald G.1 .byte L S h
  | .saload => ai_ald G.1 .short L S h
  | .laload => ai_lald L S h
  | .aaload => ai_aald G.1 L S h
  | .iastore => ai_ast .int (fun x => x) L S h
  | .bastore => ai_ast .byte (vp_nar .byte) L S h
  | .sastore => ai_ast .short (vp_nar .short) L S h
  | .lastore => ai_last L S h
  | .aastore => ai_aast G.1 G.2.1 L S h
  | .arraylength => ai_alen G.1 L S h
  | .newarray t => ai_newa (newarray.typeOf t) L S h
  | .anewarray _ => ai_newq r.2.2 L S h
  | .new _ => ai_new G (ai_nth r 0).toNat L S h
  | .instanceof _ => (match S with
    | v :: S => if ai_isof G r.2.2 v = true then some (0, L, .int 1 :: S, h) else none
    | _ => none)
  | .checkcast _ => (match S with
    | v :: S => if ai_isof G r.2.2 v = true then some (0, L, v :: S, h) else none
    | _ => none)
  | _ => none
/-- a method: its name, its bytes, how many locals, its answer, the table of what it catches, the same by places (from, to, where, class), its instructions -/
abbrev ai_M : Type := MethodName × ByteArray × Nat × Option FieldType × List (Nat × Nat × Nat × Nat) × List (Nat × Nat × Nat × String) × List ai_I
abbrev ai_Mn (M : ai_M) : MethodName := M.1
abbrev ai_Mb (M : ai_M) : ByteArray := M.2.1
abbrev ai_Ml (M : ai_M) : Nat := M.2.2.1
abbrev ai_Mr (M : ai_M) : Option FieldType := M.2.2.2.1
abbrev ai_Mx (M : ai_M) : List (Nat × Nat × Nat × Nat) := M.2.2.2.2.1
abbrev ai_Mh (M : ai_M) : List (Nat × Nat × Nat × String) := M.2.2.2.2.2.1
abbrev ai_Mc (M : ai_M) : List ai_I := M.2.2.2.2.2.2
/-- how it ends: an answer, or an exception of that class -/
abbrev ai_O : Type := (Option Value ⊕ String) × ai_H
def ai_cov (k : Nat) (x : Nat × Nat × Nat × String) : Bool := decide (x.1 ≤ k) && decide (k < x.2.1)
def ai_catch (hs : List (Nat × Nat × Nat × String)) (k : Nat) : Option (Nat × String) := match hs with
  | [] => none
  | x :: t => if ai_cov k x = true then some (x.2.2.1, x.2.2.2) else ai_catch t k
/-- System.arraycopy between made arrays of one kind -/
def ai_copy (S : List Value) (h : ai_H) : Option (List Value × ai_H) := match S with
  | .int n :: .int dp :: .ref d :: .int sp :: .ref a :: r => if n < 0 ∨ dp < 0 ∨ sp < 0 then none else
    (match h.1[a]? with
    | some (.inl (t0, n0, f)) => (match h.1[d]? with
      | some (.inl (t1, n1, g)) => if t0 = t1 ∧ sp.toNatClampNeg + n.toNatClampNeg ≤ n0 ∧ dp.toNatClampNeg + n.toNatClampNeg ≤ n1 then some (r, h.1.set d (ai_num t1 n1 (va_cpy f g sp.toNatClampNeg dp.toNatClampNeg n.toNatClampNeg)), h.2) else none
      | _ => none)
    | some (.inr (.inr (.inl (C0, n0, f)))) => (match h.1[d]? with
      | some (.inr (.inr (.inl (C1, n1, g)))) => if C0 = C1 ∧ sp.toNatClampNeg + n.toNatClampNeg ≤ n0 ∧ dp.toNatClampNeg + n.toNatClampNeg ≤ n1 then some (r, h.1.set d (ai_refs C1 n1 (va_cpy f g sp.toNatClampNeg dp.toNatClampNeg n.toNatClampNeg)), h.2) else none
      | _ => none)
    | _ => none)
  | _ => none
/-- the words of a call: what is below them weighs at most eight -/
def ai_wt (S : List Value) : Nat := (S.map fun v => v.category).sum
/-- the receiver of a call: none asked (0), an object of the class with that number (1), a made cell (2) -/
def ai_rcv (Z : ai_S) (r : ai_R) (v : Option Value) (h : ai_H) : Bool := match ai_nth r 2 with
  | 0 => true
  | 1 => (match v with
    | some v => (match ai_look Z h.1 v with
      | some (.inr (.inr (.inr (ci, _)))) => decide ((ci : Int) = ai_nth r 3)
      | _ => false)
    | none => false)
  | 2 => (match v with
    | some (.ref _) => true
    | _ => false)
  | _ => false
/-- the machine in a method, k its place; 'rec' does the calls -/
def ai_go (G : ai_G) (rec : Nat → List Value → ai_H → Option ai_O) (M : ai_M) : Nat → Nat → ai_L → List Value → ai_H → Option ai_O
  | 0, _, _, _, _ => none
  | n + 1, k, L, S, h => match (ai_Mc M)[k]? with
    | none => none
    | some (_, i, _, r) => match r.1 with
      | 0 => (match ai_eff G i r L S h with
        | some (t, L', S', h') => ai_go G rec M n (if t = 0 then k + 1 else t - 1) L' S' h'
        | none => none)
      | 1 => (if ai_wt (S.drop (ai_nth r 1).toNat) ≤ 8 ∧ (ai_nth r 1).toNat ≤ S.length ∧ ai_rcv G.1 r ((S.take (ai_nth r 1).toNat).reverse).head? h = true then
          (match rec (ai_nth r 0).toNat ((S.take (ai_nth r 1).toNat).reverse) h with
          | some (.inl v, h') => ai_go G rec M n (k + 1) L (v.toList ++ S.drop (ai_nth r 1).toNat) h'
          | some (.inr E, h') => (match ai_catch (ai_Mh M) k with
            | some (t, nm) => if nm = E then ai_go G rec M n t L [.float 0] h' else none
            | none => some (.inr E, h'))
          | none => none) else none)
      | 2 => if (ai_Mh M).isEmpty = true ∧ ai_wt S ≤ 8 then some (.inr r.2.2, h.1, h.2.1 + 1, h.2.2 + 6) else none
      | 3 => (match S with
        | .ref _ :: S => if ai_wt S ≤ 8 then ai_go G rec M n (k + 1) L S h else none
        | _ => none)
      | 4 => (match ai_copy S h with
        | some (S', h') => if ai_wt S' ≤ 8 then ai_go G rec M n (k + 1) L S' h' else none
        | none => none)
      | 5 => (match S with
        | [.int x] => (match ai_Mr M with
          | some ty => if narrow ty (.int x) = .int x then some (.inl (some (.int x)), h) else none
          | none => none)
        | _ => none)
      | 6 => (match S with
        | [v] => if (ai_nul v).isSome then some (.inl (some v), h) else none
        | _ => none)
      | 7 => (match S with
        | [] => some (.inl none, h)
        | _ => none)
      | _ => none
/-- arguments of one word each, no more than there are locals -/
def ai_argok (args : List Value) (n : Nat) : Bool := decide (args.length ≤ n) && args.all (fun v => decide (v.category = 1))
/-- a call of the mi-th method, at most d deep, no more than F steps in each -/
def ai_run (P : Nat → Option ai_M) (G : ai_G) (F : Nat) : Nat → Nat → List Value → ai_H → Option ai_O
  | 0, _, _, _ => none
  | d + 1, mi, args, h => match P mi with
    | some M => if ai_argok args (ai_Ml M) = true then ai_go G (ai_run P G F d) M F 0 (args.map some ++ List.replicate (ai_Ml M - args.length) none) [] h else none
    | none => none
end
section
/-! WHAT THE SMALL MACHINE'S STATE IS IN THE LARGE ONE. sa: where the constant objects lie; ad: where the made cells lie. -/
def ai_v (sa : Nat → Nat) (ad : List Nat) (v V : Value) : Prop := match v with
  | .int x => V = .int x
  | .long x => V = .long x
  | .null => V = .null
  | .ref i => ∃ a, ad[i]? = some a ∧ V = .ref a
  | .retAddr k => V = .ref (sa k)
  | .float _ => V = .null ∨ ∃ a, V = .ref a
  | .double _ => False
def ai_vs (sa : Nat → Nat) (ad : List Nat) : List Value → List Value → Prop
  | [], [] => True
  | v :: S, V :: T => ai_v sa ad v V ∧ ai_vs sa ad S T
  | _, _ => False
theorem ai_v_cat {sa : Nat → Nat} {ad : List Nat} {v V : Value} (h : ai_v sa ad v V) : V.category = v.category := by
  cases v with
  | int x => rw [show V = .int x from h]
  | long x => rw [show V = .long x from h]
  | null => rw [show V = .null from h]
  | ref i => obtain ⟨a, -, rfl⟩ := h; rfl
  | retAddr k => rw [show V = .ref (sa k) from h]; rfl
  | float b => rcases h with rfl | ⟨a, rfl⟩ <;> rfl
  | double b => exact h.elim
theorem ai_v_more {sa : Nat → Nat} {ad : List Nat} {v V : Value} (h : ai_v sa ad v V) (q : List Nat) : ai_v sa (ad ++ q) v V := by
  cases v with
  | ref i =>
    obtain ⟨a, h1, rfl⟩ := h
    exact ⟨a, by rw [List.getElem?_append_left (List.getElem?_eq_some_iff.mp h1).1]; exact h1, rfl⟩
  | _ => exact h
theorem ai_vs_more {sa : Nat → Nat} {ad : List Nat} (q : List Nat) : ∀ {S T : List Value}, ai_vs sa ad S T → ai_vs sa (ad ++ q) S T
  | [], [], _ => trivial
  | _ :: _, _ :: _, h => ⟨ai_v_more h.1 q, ai_vs_more q h.2⟩
theorem ai_vs_cons {sa : Nat → Nat} {ad : List Nat} {v : Value} {S T : List Value} (h : ai_vs sa ad (v :: S) T) : ∃ V T', T = V :: T' ∧ ai_v sa ad v V ∧ ai_vs sa ad S T' := by
  cases T with
  | nil => exact h.elim
  | cons V T' => exact ⟨V, T', rfl, h.1, h.2⟩
theorem ai_vs_nil {sa : Nat → Nat} {ad : List Nat} {T : List Value} (h : ai_vs sa ad [] T) : T = [] := by
  cases T with
  | nil => rfl
  | cons V T' => exact h.elim
theorem ai_vs_get {sa : Nat → Nat} {ad : List Nat} : ∀ {S T : List Value} {k : Nat} {v : Value}, ai_vs sa ad S T → S[k]? = some v → ∃ V, T[k]? = some V ∧ ai_v sa ad v V
  | [], _, k, v, _, h => by simp at h
  | w :: S, T, 0, v, h, hk => by
    obtain ⟨V, T', rfl, h1, h2⟩ := ai_vs_cons h
    simp at hk; subst hk
    exact ⟨V, rfl, h1⟩
  | w :: S, T, k + 1, v, h, hk => by
    obtain ⟨V, T', rfl, h1, h2⟩ := ai_vs_cons h
    simp only [List.getElem?_cons_succ] at hk ⊢
    exact ai_vs_get h2 hk
theorem ai_vs_len {sa : Nat → Nat} {ad : List Nat} : ∀ {S T : List Value}, ai_vs sa ad S T → T.length = S.length
  | [], T, h => by rw [ai_vs_nil h]
  | w :: S, T, h => by
    obtain ⟨V, T', rfl, h1, h2⟩ := ai_vs_cons h
    simp [ai_vs_len h2]
theorem ai_vs_set {sa : Nat → Nat} {ad : List Nat} {v V : Value} (hv : ai_v sa ad v V) : ∀ {S T : List Value} (k : Nat), ai_vs sa ad S T → ai_vs sa ad (S.set k v) (T.set k V)
  | [], T, k, h => by rw [ai_vs_nil h]; trivial
  | w :: S, T, 0, h => by
    obtain ⟨W', T', rfl, h1, h2⟩ := ai_vs_cons h
    exact ⟨hv, h2⟩
  | w :: S, T, k + 1, h => by
    obtain ⟨W', T', rfl, h1, h2⟩ := ai_vs_cons h
    exact ⟨h1, ai_vs_set hv k h2⟩
theorem ai_vs_wt {sa : Nat → Nat} {ad : List Nat} : ∀ {S T : List Value}, ai_vs sa ad S T → ai_wt T = ai_wt S
  | [], T, h => by rw [ai_vs_nil h]
  | w :: S, T, h => by
    obtain ⟨V, T', rfl, h1, h2⟩ := ai_vs_cons h
    have := ai_vs_wt h2
    simp only [ai_wt, List.map_cons, List.sum_cons] at this ⊢
    rw [this, ai_v_cat h1]
theorem ai_vs_app {sa : Nat → Nat} {ad : List Nat} : ∀ {S T S' T' : List Value}, ai_vs sa ad S T → ai_vs sa ad S' T' → ai_vs sa ad (S ++ S') (T ++ T')
  | [], T, S', T', h, h' => by rw [ai_vs_nil h]; exact h'
  | w :: S, T, S', T', h, h' => by
    obtain ⟨V, T2, rfl, h1, h2⟩ := ai_vs_cons h
    exact ⟨h1, ai_vs_app h2 h'⟩
theorem ai_vs_split {sa : Nat → Nat} {ad : List Nat} : ∀ (n : Nat) {S T : List Value}, ai_vs sa ad S T → ai_vs sa ad (S.take n) (T.take n) ∧ ai_vs sa ad (S.drop n) (T.drop n)
  | 0, S, T, h => ⟨by simp only [List.take_zero]; trivial, h⟩
  | n + 1, [], T, h => by rw [ai_vs_nil h]; exact ⟨trivial, trivial⟩
  | n + 1, w :: S, T, h => by
    obtain ⟨V, T2, rfl, h1, h2⟩ := ai_vs_cons h
    obtain ⟨q1, q2⟩ := ai_vs_split n h2
    exact ⟨⟨h1, q1⟩, q2⟩
theorem ai_vs_rev {sa : Nat → Nat} {ad : List Nat} : ∀ {S T : List Value}, ai_vs sa ad S T → ai_vs sa ad S.reverse T.reverse
  | [], T, h => by rw [ai_vs_nil h]; trivial
  | w :: S, T, h => by
    obtain ⟨V, T2, rfl, h1, h2⟩ := ai_vs_cons h
    rw [List.reverse_cons, List.reverse_cons]
    exact ai_vs_app (ai_vs_rev h2) ⟨h1, trivial⟩
/-- the locals: those that the small machine knows are held; none is a long -/
def ai_l (sa : Nat → Nat) (ad : List Nat) (L : ai_L) (n : Nat) (ls : Array Slot) : Prop :=
  L.length = n ∧ ∃ lv : List (Nat × Value), lv_has ls n lv ∧ (∀ q ∈ lv, q.2.category = 1) ∧ ∀ i v, L[i]? = some (some v) → ∃ V, ai_v sa ad v V ∧ (i, V) ∈ lv
theorem ai_l_more {sa : Nat → Nat} {ad : List Nat} {L : ai_L} {n : Nat} {ls : Array Slot} (h : ai_l sa ad L n ls) (q : List Nat) : ai_l sa (ad ++ q) L n ls := by
  obtain ⟨h0, lv, h1, h2, h3⟩ := h
  refine ⟨h0, lv, h1, h2, fun i v hi => ?_⟩
  obtain ⟨V, g1, g2⟩ := h3 i v hi
  exact ⟨V, ai_v_more g1 q, g2⟩
theorem ai_l_at {sa : Nat → Nat} {ad : List Nat} {L : ai_L} {n : Nat} {ls : Array Slot} (h : ai_l sa ad L n ls) {i : Nat} {v : Value} (hi : L[i]? = some (some v)) : ∃ V, ai_v sa ad v V ∧ ls[i]? = some (.val V) := by
  obtain ⟨h0, lv, h1, h2, h3⟩ := h
  obtain ⟨V, g1, g2⟩ := h3 i v hi
  exact ⟨V, g1, h1.2.2 _ g2⟩
/-- behind a store -/
theorem ai_l_set {sa : Nat → Nat} {ad : List Nat} {L : ai_L} {n i : Nat} {v V : Value} {ls' : Array Slot} {lv : List (Nat × Value)} (h0 : L.length = n) (h2 : ∀ q ∈ lv, q.2.category = 1) (h3 : ∀ i v, L[i]? = some (some v) → ∃ V, ai_v sa ad v V ∧ (i, V) ∈ lv) (hi : i < n) (hv : ai_v sa ad v V) (hc : v.category = 1)
    (h' : lv_has ls' n ((i, V) :: lv.filter (fun q => !(q.1 == i) && !(q.1 + 1 == i && q.2.category == 2)))) : ai_l sa ad (L.set i (some v)) n ls' := by
  refine ⟨by simp [h0], _, h', ?_, fun j w hj => ?_⟩
  · intro q hq
    rcases List.mem_cons.mp hq with rfl | hq
    · rw [ai_v_cat hv]; exact hc
    · exact h2 q (List.mem_filter.mp hq).1
  · by_cases hji : j = i
    · subst hji
      rw [List.getElem?_set_self (by omega)] at hj
      cases hj
      exact ⟨V, hv, List.mem_cons_self⟩
    · rw [List.getElem?_set_ne (fun z => hji z.symm)] at hj
      obtain ⟨W', g1, g2⟩ := h3 j w hj
      refine ⟨W', g1, List.mem_cons_of_mem _ (List.mem_filter.mpr ⟨g2, ?_⟩)⟩
      have := h2 _ g2
      simp [hji, this]
end
section
/-- the types of the number arrays of the small machine -/
def ai_ty (ty : FieldType) : Prop := ty = .int ∨ ty = .byte ∨ ty = .short ∨ ty = .char
/-- a made cell -/
def ai_c (Z : ai_S) (cn : Nat → String) (sa : Nat → Nat) (ad : List Nat) (tys : List (ClassId × FieldType)) (x : ai_C) (E : va_E) : Prop := match x with
  | .inl (ty, n, f) => ai_ty ty ∧ (∀ j, fits ty (.int (f j)) = true) ∧ ∃ (cA : ClassId) (t0 : Nat), E = .inl (cA, n, .inl f) ∧ tys[t0]? = some (cA, ty)
  | .inr (.inl (n, f)) => ∃ (cA : ClassId) (t0 : Nat), E = .inl (cA, n, .inr (.inl f)) ∧ tys[t0]? = some (cA, .long)
  | .inr (.inr (.inl (C, n, g))) => ∃ (cA : ClassId) (t0 : Nat) (f : Nat → Option Nat), E = .inl (cA, n, .inr (.inr (.inr (.inr f)))) ∧ tys[t0]? = some (cA, .object C) ∧ ∀ j, (g j = .null ∧ f j = none) ∨ ∃ k ci fs, g j = .retAddr k ∧ f j = some (sa k) ∧ Z k = some (ai_obj ci fs) ∧ cn ci = C
  | .inr (.inr (.inr (ci, fs))) => ∃ vs, E = .inr (ci, vs) ∧ ai_vs sa ad fs vs
theorem ai_c_more {Z : ai_S} {cn : Nat → String} {sa : Nat → Nat} {ad : List Nat} {tys : List (ClassId × FieldType)} {x : ai_C} {E : va_E} (h : ai_c Z cn sa ad tys x E) (q : List Nat) (t : List (ClassId × FieldType)) : ai_c Z cn sa (ad ++ q) (tys ++ t) x E := by
  have up : ∀ {t0 : Nat} {y : ClassId × FieldType}, tys[t0]? = some y → (tys ++ t)[t0]? = some y := fun hy => by
    rw [List.getElem?_append_left (List.getElem?_eq_some_iff.mp hy).1]; exact hy
  match x, h with
  | .inl (ty, n, f), h =>
    obtain ⟨h1, h2, cA, t0, h3, h4⟩ := h
    exact ⟨h1, h2, cA, t0, h3, up h4⟩
  | .inr (.inl (n, f)), h =>
    obtain ⟨cA, t0, h3, h4⟩ := h
    exact ⟨cA, t0, h3, up h4⟩
  | .inr (.inr (.inl (C, n, g))), h =>
    obtain ⟨cA, t0, f, h3, h4, h5⟩ := h
    exact ⟨cA, t0, f, h3, up h4, h5⟩
  | .inr (.inr (.inr (ci, fs))), h =>
    obtain ⟨vs, h3, h4⟩ := h
    exact ⟨vs, h3, ai_vs_more q h4⟩
/-- the made cells and where they lie -/
def ai_w (Z : ai_S) (cn : Nat → String) (sa : Nat → Nat) (ad : List Nat) (tys : List (ClassId × FieldType)) (h : List ai_C) (ws : va_W) : Prop :=
  ws.length = h.length ∧ ad.length = h.length ∧ ∀ (i : Nat) (x : ai_C), h[i]? = some x → ∃ (a : Nat) (E : va_E), ad[i]? = some a ∧ ws[i]? = some (a, E) ∧ ai_c Z cn sa ad tys x E
theorem ai_w_at {Z : ai_S} {cn : Nat → String} {sa : Nat → Nat} {ad : List Nat} {tys : List (ClassId × FieldType)} {h : List ai_C} {ws : va_W} (hw : ai_w Z cn sa ad tys h ws) {i : Nat} {x : ai_C} (hi : h[i]? = some x) {V : Value} (hV : ai_v sa ad (.ref i) V) : ∃ (a : Nat) (E : va_E), V = .ref a ∧ ws[i]? = some (a, E) ∧ ai_c Z cn sa ad tys x E := by
  obtain ⟨a, E, h1, h2, h3⟩ := hw.2.2 i x hi
  obtain ⟨a', h4, rfl⟩ := hV
  rw [h1] at h4
  cases h4
  exact ⟨a, E, rfl, h2, h3⟩
theorem ai_w_set {Z : ai_S} {cn : Nat → String} {sa : Nat → Nat} {ad : List Nat} {tys : List (ClassId × FieldType)} {h : List ai_C} {ws : va_W} (hw : ai_w Z cn sa ad tys h ws) {i a : Nat} {x : ai_C} {E E0 : va_E} (h0 : ws[i]? = some (a, E0)) (hc : ai_c Z cn sa ad tys x E) : ai_w Z cn sa ad tys (h.set i x) (ws.set i (a, E)) := by
  obtain ⟨w1, w2, w3⟩ := hw
  refine ⟨by simp [w1], by simp [w2], fun j y hj => ?_⟩
  have hiw : i < ws.length := (List.getElem?_eq_some_iff.mp h0).1
  by_cases hji : j = i
  · subst hji
    rw [List.getElem?_set_self (by omega)] at hj
    cases hj
    have hx : h[j]? = some h[j] := List.getElem?_eq_getElem (by omega)
    obtain ⟨a', E', g1, g2, g3⟩ := w3 j _ hx
    rw [h0] at g2
    cases g2
    exact ⟨a, E, g1, List.getElem?_set_self hiw, hc⟩
  · rw [List.getElem?_set_ne (fun z => hji z.symm)] at hj
    obtain ⟨a', E', g1, g2, g3⟩ := w3 j y hj
    exact ⟨a', E', g1, by rw [List.getElem?_set_ne (fun z => hji z.symm)]; exact g2, g3⟩
theorem ai_w_push {Z : ai_S} {cn : Nat → String} {sa : Nat → Nat} {ad : List Nat} {tys t : List (ClassId × FieldType)} {h : List ai_C} {ws : va_W} (hw : ai_w Z cn sa ad tys h ws) {a : Nat} {x : ai_C} {E : va_E} (hc : ai_c Z cn sa (ad ++ [a]) (tys ++ t) x E) : ai_w Z cn sa (ad ++ [a]) (tys ++ t) (h ++ [x]) (ws ++ [(a, E)]) := by
  obtain ⟨w1, w2, w3⟩ := hw
  refine ⟨by simp [w1], by simp [w2], fun j y hj => ?_⟩
  by_cases hlt : j < h.length
  · rw [List.getElem?_append_left hlt] at hj
    obtain ⟨a', E', g1, g2, g3⟩ := w3 j y hj
    exact ⟨a', E', by rw [List.getElem?_append_left (by omega)]; exact g1, by rw [List.getElem?_append_left (by omega)]; exact g2, ai_c_more g3 [a] t⟩
  · have hj1 : j < (h ++ [x]).length := (List.getElem?_eq_some_iff.mp hj).1
    have hj2 : j = h.length := by simp at hj1; omega
    subst hj2
    rw [List.getElem?_append_right (Nat.le_refl _)] at hj
    simp at hj
    subst hj
    exact ⟨a, E, by rw [List.getElem?_append_right (by omega), w2]; simp, by rw [List.getElem?_append_right (by omega), w1]; simp, hc⟩
theorem ai_v_new {sa : Nat → Nat} {ad : List Nat} {a n : Nat} (h : ad.length = n) : ai_v sa (ad ++ [a]) (.ref n) (.ref a) := by
  refine ⟨a, ?_, rfl⟩
  rw [List.getElem?_append_right (by omega), h]
  simp
end
section
section AIR
variable {p : Program} {l : Launch} {e : Env} {R : Room} {s : State} {m : MethodId} {args : Array Value} {below : List Frame} {meth : Method} {c : Code} {Q : State → Prop}
variable {Z : ai_S} {cn : Nat → String} {sa : Nat → Nat} {D : va_G} {cl : List vw_C} {A : Nat → Prop} {ad0 : List Nat} {kc ks : Nat}
/-- the cells h stand in the heap H -/
def ai_At (s : State) (Z : ai_S) (cn : Nat → String) (sa : Nat → Nat) (D : va_G) (cl : List vw_C) (A : Nat → Prop) (ad0 : List Nat) (kc ks : Nat) (h : ai_H) (ad : List Nat) (tys : List (ClassId × FieldType)) (ws : va_W) (H : Heap) (locs : List Loc) (cells slots : Nat) : Prop :=
  (∃ q, ad = ad0 ++ q) ∧ h.2.1 = kc + cells ∧ h.2.2 = ks + slots ∧ ai_w Z cn sa ad tys h.1 ws ∧ va_K D cl tys s ∧ va_P D cl ws H ∧ va_D A ws ∧ va_S A s.heap H locs
/-- from the place pc with these locals, words and cells the large machine comes to Q -/
def ai_W (p : Program) (l : Launch) (e : Env) (R : Room) (s : State) (m : MethodId) (args : Array Value) (below : List Frame) (meth : Method) (c : Code) (Q : State → Prop) (Z : ai_S) (cn : Nat → String) (sa : Nat → Nat) (D : va_G) (cl : List vw_C) (A : Nat → Prop) (ad0 : List Nat) (kc ks : Nat) (pc : Nat) (L : ai_L) (S : List Value) (h : ai_H) : Prop :=
  ∀ (ad : List Nat) (tys : List (ClassId × FieldType)) (ws : va_W) (H : Heap) (locs : List Loc) (cells slots : Nat) (ls : Array Slot) (st : List Value), ai_At s Z cn sa D cl A ad0 kc ks h ad tys ws H locs cells slots → ai_l sa ad L c.maxLocals ls → ai_vs sa ad S st → W p l e R s m args below meth c H locs cells slots Q (F0 m pc ls st)
/-- where the machine goes on -/
def ai_nx (pcs : Nat → Nat) (pc len t : Nat) : Nat := if t = 0 then pc + len else pcs (t - 1)
variable {cc : ByteArray} {pc t : Nat} {L L' : ai_L} {S S' : List Value} {h h' : ai_H} {pcs : Nat → Nat}
theorem ai_push {v V : Value} {n : Nat} (hV : ∀ ad, ai_v sa ad v V)
    (row : ∀ (H : Heap) (locs : List Loc) (cells slots : Nat) (ls : Array Slot) (st : List Value), va_S A s.heap H locs → W p l e R s m args below meth c H locs cells slots Q (F0 m (pc + n) ls (V :: st)) → W p l e R s m args below meth c H locs cells slots Q (F0 m pc ls st))
    (k : ai_W p l e R s m args below meth c Q Z cn sa D cl A ad0 kc ks (pc + n) L (v :: S) h) : ai_W p l e R s m args below meth c Q Z cn sa D cl A ad0 kc ks pc L S h := by
  intro ad tys ws H locs cells slots ls st ha hl hs
  exact row _ _ _ _ _ _ ha.2.2.2.2.2.2.2 (k ad tys ws H locs cells slots ls (V :: st) ha hl ⟨hV ad, hs⟩)
theorem ai_bin_ok {f : Int32 → Int32 → Int32} (row : ∀ (x y : Int32) (H : Heap) (locs : List Loc) (cells slots : Nat) (ls : Array Slot) (st : List Value), W p l e R s m args below meth c H locs cells slots Q (F0 m (pc + 1) ls (.int (f x y) :: st)) → W p l e R s m args below meth c H locs cells slots Q (F0 m pc ls (.int y :: .int x :: st)))
    (he : ai_bin f L S h = some (t, L', S', h')) (k : ai_W p l e R s m args below meth c Q Z cn sa D cl A ad0 kc ks (ai_nx pcs pc 1 t) L' S' h') : ai_W p l e R s m args below meth c Q Z cn sa D cl A ad0 kc ks pc L S h := by
  unfold ai_bin at he
  split at he
  · rename_i y x r
    simp only [Option.some.injEq, Prod.mk.injEq] at he
    obtain ⟨rfl, rfl, rfl, rfl⟩ := he
    intro ad tys ws H locs cells slots ls st ha hl hs
    obtain ⟨V, T, rfl, hv, hs⟩ := ai_vs_cons hs
    obtain ⟨V2, T, rfl, hv2, hs⟩ := ai_vs_cons hs
    rw [show V = .int y from hv, show V2 = .int x from hv2]
    exact row _ _ _ _ _ _ _ _ (k ad tys ws H locs cells slots ls (.int (f x y) :: T) ha hl ⟨rfl, hs⟩)
  · cases he
theorem ai_divs_ok {f : Int32 → Int32 → Int32} (row : ∀ (x y : Int32) (H : Heap) (locs : List Loc) (cells slots : Nat) (ls : Array Slot) (st : List Value), ¬ y = 0 → W p l e R s m args below meth c H locs cells slots Q (F0 m (pc + 1) ls (.int (f x y) :: st)) → W p l e R s m args below meth c H locs cells slots Q (F0 m pc ls (.int y :: .int x :: st)))
    (he : ai_divs f L S h = some (t, L', S', h')) (k : ai_W p l e R s m args below meth c Q Z cn sa D cl A ad0 kc ks (ai_nx pcs pc 1 t) L' S' h') : ai_W p l e R s m args below meth c Q Z cn sa D cl A ad0 kc ks pc L S h := by
  unfold ai_divs at he
  split at he
  · rename_i y x r
    split at he
    · cases he
    · rename_i hy
      simp only [Option.some.injEq, Prod.mk.injEq] at he
      obtain ⟨rfl, rfl, rfl, rfl⟩ := he
      intro ad tys ws H locs cells slots ls st ha hl hs
      obtain ⟨V, T, rfl, hv, hs⟩ := ai_vs_cons hs
      obtain ⟨V2, T, rfl, hv2, hs⟩ := ai_vs_cons hs
      rw [show V = .int y from hv, show V2 = .int x from hv2]
      exact row _ _ _ _ _ _ _ _ hy (k ad tys ws H locs cells slots ls (.int (f x y) :: T) ha hl ⟨rfl, hs⟩)
  · cases he
theorem ai_un_ok {f : Int32 → Value} (hf : ∀ ad x, ai_v sa ad (f x) (f x)) (row : ∀ (x : Int32) (H : Heap) (locs : List Loc) (cells slots : Nat) (ls : Array Slot) (st : List Value), W p l e R s m args below meth c H locs cells slots Q (F0 m (pc + 1) ls (f x :: st)) → W p l e R s m args below meth c H locs cells slots Q (F0 m pc ls (.int x :: st)))
    (he : ai_un f L S h = some (t, L', S', h')) (k : ai_W p l e R s m args below meth c Q Z cn sa D cl A ad0 kc ks (ai_nx pcs pc 1 t) L' S' h') : ai_W p l e R s m args below meth c Q Z cn sa D cl A ad0 kc ks pc L S h := by
  unfold ai_un at he
  split at he
  · rename_i x r
    simp only [Option.some.injEq, Prod.mk.injEq] at he
    obtain ⟨rfl, rfl, rfl, rfl⟩ := he
    intro ad tys ws H locs cells slots ls st ha hl hs
    obtain ⟨V, T, rfl, hv, hs⟩ := ai_vs_cons hs
    rw [show V = .int x from hv]
    exact row _ _ _ _ _ _ _ (k ad tys ws H locs cells slots ls (f x :: T) ha hl ⟨hf ad x, hs⟩)
  · cases he
theorem ai_iload_ok {i n : Nat} (row : ∀ (x : Int32) (H : Heap) (locs : List Loc) (cells slots : Nat) (ls : Array Slot) (st : List Value), ls[i]? = some (.val (.int x)) → W p l e R s m args below meth c H locs cells slots Q (F0 m (pc + n) ls (.int x :: st)) → W p l e R s m args below meth c H locs cells slots Q (F0 m pc ls st))
    (he : ai_iload i L S h = some (t, L', S', h')) (k : ai_W p l e R s m args below meth c Q Z cn sa D cl A ad0 kc ks (ai_nx pcs pc n t) L' S' h') : ai_W p l e R s m args below meth c Q Z cn sa D cl A ad0 kc ks pc L S h := by
  unfold ai_iload at he
  split at he
  · rename_i x hx0
    simp only [Option.some.injEq, Prod.mk.injEq] at he
    obtain ⟨rfl, rfl, rfl, rfl⟩ := he
    intro ad tys ws H locs cells slots ls st ha hl hs
    obtain ⟨V, hv, hV⟩ := ai_l_at hl hx0
    rw [show V = .int x from hv] at hV
    exact row _ _ _ _ _ _ _ hV (k ad tys ws H locs cells slots ls (.int x :: st) ha hl ⟨rfl, hs⟩)
  · cases he
theorem ai_isr_v {sa : Nat → Nat} {ad : List Nat} {v V : Value} (hr : ai_isr v = true) (hv : ai_v sa ad v V) : V = .null ∨ ∃ a, V = .ref a := by
  cases v with
  | ref i => obtain ⟨a, -, rfl⟩ := hv; exact Or.inr ⟨a, rfl⟩
  | null => exact Or.inl hv
  | retAddr k => exact Or.inr ⟨_, hv⟩
  | float b => exact hv
  | int x => cases hr
  | long x => cases hr
  | double x => cases hr
theorem ai_isr_cat {v : Value} (hr : ai_isr v = true) : v.category = 1 := by
  cases v <;> first | rfl | cases hr
theorem ai_aload_ok {i n : Nat} (row : ∀ (a : Nat) (H : Heap) (locs : List Loc) (cells slots : Nat) (ls : Array Slot) (st : List Value), ls[i]? = some (.val (.ref a)) → W p l e R s m args below meth c H locs cells slots Q (F0 m (pc + n) ls (.ref a :: st)) → W p l e R s m args below meth c H locs cells slots Q (F0 m pc ls st))
    (rowN : ∀ (H : Heap) (locs : List Loc) (cells slots : Nat) (ls : Array Slot) (st : List Value), ls[i]? = some (.val .null) → W p l e R s m args below meth c H locs cells slots Q (F0 m (pc + n) ls (.null :: st)) → W p l e R s m args below meth c H locs cells slots Q (F0 m pc ls st))
    (he : ai_aload i L S h = some (t, L', S', h')) (k : ai_W p l e R s m args below meth c Q Z cn sa D cl A ad0 kc ks (ai_nx pcs pc n t) L' S' h') : ai_W p l e R s m args below meth c Q Z cn sa D cl A ad0 kc ks pc L S h := by
  unfold ai_aload at he
  split at he
  · rename_i v hx0
    split at he
    · rename_i hr
      simp only [Option.some.injEq, Prod.mk.injEq] at he
      obtain ⟨rfl, rfl, rfl, rfl⟩ := he
      intro ad tys ws H locs cells slots ls st ha hl hs
      obtain ⟨V, hv, hV⟩ := ai_l_at hl hx0
      have K := k ad tys ws H locs cells slots ls (V :: st) ha hl ⟨hv, hs⟩
      rcases ai_isr_v hr hv with rfl | ⟨a, rfl⟩
      · exact rowN _ _ _ _ _ _ hV K
      · exact row _ _ _ _ _ _ _ hV K
    · cases he
  · cases he
theorem ai_istore_ok {i n : Nat} (row : ∀ (x : Int32) (H : Heap) (locs : List Loc) (cells slots : Nat) (ls : Array Slot) (lv : List (Nat × Value)) (st : List Value), lv_has ls c.maxLocals lv → i < c.maxLocals → (∀ ls' : Array Slot, lv_has ls' c.maxLocals ((i, Value.int x) :: lv.filter (fun q => !(q.1 == i) && !(q.1 + 1 == i && q.2.category == 2))) → W p l e R s m args below meth c H locs cells slots Q (F0 m (pc + n) ls' st)) → W p l e R s m args below meth c H locs cells slots Q (F0 m pc ls (.int x :: st)))
    (he : ai_istore i L S h = some (t, L', S', h')) (k : ai_W p l e R s m args below meth c Q Z cn sa D cl A ad0 kc ks (ai_nx pcs pc n t) L' S' h') : ai_W p l e R s m args below meth c Q Z cn sa D cl A ad0 kc ks pc L S h := by
  unfold ai_istore at he
  split at he
  · rename_i x r
    split at he
    · rename_i hi
      simp only [Option.some.injEq, Prod.mk.injEq] at he
      obtain ⟨rfl, rfl, rfl, rfl⟩ := he
      intro ad tys ws H locs cells slots ls st ha hl hs
      obtain ⟨V, T, rfl, hv, hs⟩ := ai_vs_cons hs
      rw [show V = .int x from hv]
      obtain ⟨h0, lv, h1, h2, h3⟩ := hl
      refine row _ _ _ _ _ _ lv _ h1 (by omega) (fun ls' hl' => ?_)
      exact k ad tys ws H locs cells slots ls' T ha (ai_l_set h0 h2 h3 (by omega) rfl rfl hl') hs
    · cases he
  · cases he
theorem ai_astore_ok {i n : Nat} (row : ∀ (a : Nat) (H : Heap) (locs : List Loc) (cells slots : Nat) (ls : Array Slot) (lv : List (Nat × Value)) (st : List Value), lv_has ls c.maxLocals lv → i < c.maxLocals → (∀ ls' : Array Slot, lv_has ls' c.maxLocals ((i, Value.ref a) :: lv.filter (fun q => !(q.1 == i) && !(q.1 + 1 == i && q.2.category == 2))) → W p l e R s m args below meth c H locs cells slots Q (F0 m (pc + n) ls' st)) → W p l e R s m args below meth c H locs cells slots Q (F0 m pc ls (.ref a :: st)))
    (rowN : ∀ (H : Heap) (locs : List Loc) (cells slots : Nat) (ls : Array Slot) (lv : List (Nat × Value)) (st : List Value), lv_has ls c.maxLocals lv → i < c.maxLocals → (∀ ls' : Array Slot, lv_has ls' c.maxLocals ((i, Value.null) :: lv.filter (fun q => !(q.1 == i) && !(q.1 + 1 == i && q.2.category == 2))) → W p l e R s m args below meth c H locs cells slots Q (F0 m (pc + n) ls' st)) → W p l e R s m args below meth c H locs cells slots Q (F0 m pc ls (.null :: st)))
    (he : ai_astore i L S h = some (t, L', S', h')) (k : ai_W p l e R s m args below meth c Q Z cn sa D cl A ad0 kc ks (ai_nx pcs pc n t) L' S' h') : ai_W p l e R s m args below meth c Q Z cn sa D cl A ad0 kc ks pc L S h := by
  unfold ai_astore at he
  split at he
  · rename_i v r
    split at he
    · rename_i hi
      simp only [Option.some.injEq, Prod.mk.injEq] at he
      obtain ⟨rfl, rfl, rfl, rfl⟩ := he
      intro ad tys ws H locs cells slots ls st ha hl hs
      obtain ⟨V, T, rfl, hv, hs2⟩ := ai_vs_cons hs
      obtain ⟨h0, lv, h1, h2, h3⟩ := hl
      have hc := ai_isr_cat hi.1
      rcases ai_isr_v hi.1 hv with rfl | ⟨a, rfl⟩
      · refine rowN _ _ _ _ _ lv _ h1 (by omega) (fun ls' hl' => ?_)
        exact k ad tys ws H locs cells slots ls' T ha (ai_l_set h0 h2 h3 (by omega) hv hc hl') hs2
      · refine row _ _ _ _ _ _ lv _ h1 (by omega) (fun ls' hl' => ?_)
        exact k ad tys ws H locs cells slots ls' T ha (ai_l_set h0 h2 h3 (by omega) hv hc hl') hs2
    · cases he
  · cases he
theorem ai_inc_ok {i : Nat} {z : Int} (hx : p.tables.exec = Jvm.exec) (hb : c.code = cc) (hd : decode cc pc = .ok (.iinc i z, 3))
    (he : ai_inc i z L S h = some (t, L', S', h')) (k : ai_W p l e R s m args below meth c Q Z cn sa D cl A ad0 kc ks (ai_nx pcs pc 3 t) L' S' h') : ai_W p l e R s m args below meth c Q Z cn sa D cl A ad0 kc ks pc L S h := by
  unfold ai_inc at he
  split at he
  · rename_i x hx0
    simp only [Option.some.injEq, Prod.mk.injEq] at he
    obtain ⟨rfl, rfl, rfl, rfl⟩ := he
    intro ad tys ws H locs cells slots ls st ha hl hs
    obtain ⟨h0, lv, h1, h2, h3⟩ := hl
    obtain ⟨V, hv, hV⟩ := h3 i _ hx0
    rw [show V = .int x from hv] at hV
    obtain ⟨j, hj⟩ := List.getElem?_of_mem hV
    have hi : i < c.maxLocals := by
      have := (List.getElem?_eq_some_iff.mp hx0).1
      omega
    refine lv_iinc hx hb hd h1 hj rfl hi rfl (fun ls' hl' => ?_)
    exact k ad tys ws H locs cells slots ls' st ha (ai_l_set h0 h2 h3 hi rfl rfl hl') hs
  · cases he
theorem ai_dup_ok {f : Value → List Value → Option (List Value)} (row : ∀ (v : Value) (r r' : List Value) (V : Value) (T : List Value) (ad : List Nat) (H : Heap) (locs : List Loc) (cells slots : Nat) (ls : Array Slot), v.category = 1 → f v r = some r' → ai_v sa ad v V → ai_vs sa ad r T → ∃ T', ai_vs sa ad r' T' ∧ (W p l e R s m args below meth c H locs cells slots Q (F0 m (pc + 1) ls T') → W p l e R s m args below meth c H locs cells slots Q (F0 m pc ls (V :: T))))
    (he : ai_dup f L S h = some (t, L', S', h')) (k : ai_W p l e R s m args below meth c Q Z cn sa D cl A ad0 kc ks (ai_nx pcs pc 1 t) L' S' h') : ai_W p l e R s m args below meth c Q Z cn sa D cl A ad0 kc ks pc L S h := by
  unfold ai_dup at he
  split at he
  · rename_i v r
    split at he
    · rename_i hc
      split at he
      · rename_i r' hf
        simp only [Option.some.injEq, Prod.mk.injEq] at he
        obtain ⟨rfl, rfl, rfl, rfl⟩ := he
        intro ad tys ws H locs cells slots ls st ha hl hs
        obtain ⟨V, T, rfl, hv, hs⟩ := ai_vs_cons hs
        obtain ⟨T', h1, h2⟩ := row v r r' V T ad H locs cells slots ls hc hf hv hs
        exact h2 (k ad tys ws H locs cells slots ls T' ha hl h1)
      · cases he
    · cases he
  · cases he
end AIR
end
section
section AIB
variable {p : Program} {l : Launch} {e : Env} {R : Room} {s : State} {m : MethodId} {args : Array Value} {below : List Frame} {meth : Method} {c : Code} {Q : State → Prop}
variable {Z : ai_S} {cn : Nat → String} {sa : Nat → Nat} {D : va_G} {cl : List vw_C} {A : Nat → Prop} {ad0 : List Nat} {kc ks : Nat}
variable {cc : ByteArray} {pc t : Nat} {L L' : ai_L} {S S' : List Value} {h h' : ai_H} {pcs : Nat → Nat} {r : ai_R}
/-- the two roads of a branch -/
theorem ai_two {C : Prop} {b : Bool} (hb : b = true ↔ C) {T : List Value} {H : Heap} {locs : List Loc} {cells slots : Nat} {ls : Array Slot} {st : List Value}
    (row : (C → W p l e R s m args below meth c H locs cells slots Q (F0 m (pcs (ai_tgt r)) ls T)) → (¬ C → W p l e R s m args below meth c H locs cells slots Q (F0 m (pc + 3) ls T)) → W p l e R s m args below meth c H locs cells slots Q (F0 m pc ls st))
    (he : ai_jump b r L S h = some (t, L', S', h')) (k : (t, L', S', h') = (t, L, S, h) → W p l e R s m args below meth c H locs cells slots Q (F0 m (ai_nx pcs pc 3 t) ls T)) : W p l e R s m args below meth c H locs cells slots Q (F0 m pc ls st) := by
  simp only [ai_jump, Option.some.injEq, Prod.mk.injEq] at he
  obtain ⟨ht, rfl, rfl, rfl⟩ := he
  have K := k rfl
  refine row (fun hc => ?_) (fun hc => ?_)
  · rw [if_pos (hb.mpr hc)] at ht
    subst ht
    exact K
  · rw [if_neg (fun z => hc (hb.mp z))] at ht
    subst ht
    exact K
theorem ai_if_ok {cd : Jvm.ClassFile.Cond} {off : Int} (hx : p.tables.exec = Jvm.exec) (hb : c.code = cc) (hd : decode cc pc = .ok (.ifCond cd off, 3)) (ht : (pc : Int) + off = (pcs (ai_tgt r) : Int)) {x : Int32}
    (he : ai_jump (ai_cmp cd x 0) r L S h = some (t, L', S', h')) (k : ai_W p l e R s m args below meth c Q Z cn sa D cl A ad0 kc ks (ai_nx pcs pc 3 t) L' S' h') : ai_W p l e R s m args below meth c Q Z cn sa D cl A ad0 kc ks pc L (.int x :: S) h := by
  intro ad tys ws H locs cells slots ls st ha hl hs
  obtain ⟨V, T, rfl, hv, hs⟩ := ai_vs_cons hs
  rw [show V = .int x from hv]
  have K : (t, L', S', h') = (t, L, S, h) → W p l e R s m args below meth c H locs cells slots Q (F0 m (ai_nx pcs pc 3 t) ls T) := fun hq => by
    simp only [Prod.mk.injEq, true_and] at hq
    obtain ⟨rfl, rfl, rfl⟩ := hq
    exact k ad tys ws H locs cells slots ls T ha hl hs
  cases cd with
  | eq => exact ai_two (C := x = 0) (by simp [ai_cmp]) (fun a b => lv_if_eq hx hb hd ht a b) he K
  | ne => exact ai_two (C := ¬ x = 0) (by simp [ai_cmp]) (fun a b => lv_if_ne hx hb hd ht a (fun z => b (fun y => y z))) he K
  | lt => exact ai_two (C := x < 0) (by simp [ai_cmp]) (fun a b => lv_if_lt hx hb hd ht a b) he K
  | ge => exact ai_two (C := 0 ≤ x) (by simp [ai_cmp]) (fun a b => lv_if_ge hx hb hd ht a b) he K
  | gt => exact ai_two (C := 0 < x) (by simp [ai_cmp]) (fun a b => lv_if_gt hx hb hd ht a b) he K
  | le => exact ai_two (C := x ≤ 0) (by simp [ai_cmp]) (fun a b => lv_if_le hx hb hd ht a b) he K
theorem ai_icmp_ok {cd : Jvm.ClassFile.Cond} {off : Int} (hx : p.tables.exec = Jvm.exec) (hb : c.code = cc) (hd : decode cc pc = .ok (.if_icmp cd off, 3)) (ht : (pc : Int) + off = (pcs (ai_tgt r) : Int)) {x y : Int32}
    (he : ai_jump (ai_cmp cd x y) r L S h = some (t, L', S', h')) (k : ai_W p l e R s m args below meth c Q Z cn sa D cl A ad0 kc ks (ai_nx pcs pc 3 t) L' S' h') : ai_W p l e R s m args below meth c Q Z cn sa D cl A ad0 kc ks pc L (.int y :: .int x :: S) h := by
  intro ad tys ws H locs cells slots ls st ha hl hs
  obtain ⟨V, T, rfl, hv, hs⟩ := ai_vs_cons hs
  obtain ⟨V2, T, rfl, hv2, hs⟩ := ai_vs_cons hs
  rw [show V = .int y from hv, show V2 = .int x from hv2]
  have K : (t, L', S', h') = (t, L, S, h) → W p l e R s m args below meth c H locs cells slots Q (F0 m (ai_nx pcs pc 3 t) ls T) := fun hq => by
    simp only [Prod.mk.injEq, true_and] at hq
    obtain ⟨rfl, rfl, rfl⟩ := hq
    exact k ad tys ws H locs cells slots ls T ha hl hs
  cases cd with
  | eq => exact ai_two (C := x = y) (by simp [ai_cmp]) (fun a b => lv_icmp_eq hx hb hd ht a b) he K
  | ne => exact ai_two (C := ¬ x = y) (by simp [ai_cmp]) (fun a b => lv_icmp_ne hx hb hd ht a (fun z => b (fun y => y z))) he K
  | lt => exact ai_two (C := x < y) (by simp [ai_cmp]) (fun a b => lv_icmp_lt hx hb hd ht a b) he K
  | ge => exact ai_two (C := y ≤ x) (by simp [ai_cmp]) (fun a b => lv_icmp_ge hx hb hd ht a b) he K
  | gt => exact ai_two (C := y < x) (by simp [ai_cmp]) (fun a b => lv_icmp_gt hx hb hd ht a b) he K
  | le => exact ai_two (C := x ≤ y) (by simp [ai_cmp]) (fun a b => lv_icmp_le hx hb hd ht a b) he K
theorem ai_goto_ok {off : Int} (hx : p.tables.exec = Jvm.exec) (hb : c.code = cc) (hd : decode cc pc = .ok (.goto off, 3)) (ht : (pc : Int) + off = (pcs (ai_tgt r) : Int))
    (he : ai_jump true r L S h = some (t, L', S', h')) (k : ai_W p l e R s m args below meth c Q Z cn sa D cl A ad0 kc ks (ai_nx pcs pc 3 t) L' S' h') : ai_W p l e R s m args below meth c Q Z cn sa D cl A ad0 kc ks pc L S h := by
  simp only [ai_jump, if_true, Option.some.injEq, Prod.mk.injEq] at he
  obtain ⟨rfl, rfl, rfl, rfl⟩ := he
  intro ad tys ws H locs cells slots ls st ha hl hs
  exact lv_goto hx hb hd ht (k ad tys ws H locs cells slots ls st ha hl hs)
theorem ai_lcmp_ok (hx : p.tables.exec = Jvm.exec) (hb : c.code = cc) (hd : decode cc pc = .ok (.lcmp, 1)) {x y : Int64} (k : ai_W p l e R s m args below meth c Q Z cn sa D cl A ad0 kc ks (pc + 1) L (.int (lg_cmp x y) :: S) h) : ai_W p l e R s m args below meth c Q Z cn sa D cl A ad0 kc ks pc L (.long y :: .long x :: S) h := by
  intro ad tys ws H locs cells slots ls st ha hl hs
  obtain ⟨V, T, rfl, hv, hs⟩ := ai_vs_cons hs
  obtain ⟨V2, T, rfl, hv2, hs⟩ := ai_vs_cons hs
  rw [show V = .long y from hv, show V2 = .long x from hv2]
  exact W.lcmp hx hb hd (k ad tys ws H locs cells slots ls (.int (lg_cmp x y) :: T) ha hl ⟨rfl, hs⟩)
theorem ai_tsw_ok {dflt lo hi : Int} {offs : Array Int} {len : Nat} (hx : p.tables.exec = Jvm.exec) (hb : c.code = cc) (hd : decode cc pc = .ok (.tableswitch dflt lo hi offs, len)) (hdf : (pc : Int) + dflt = (pcs (ai_tgt r) : Int))
    (hof : ∀ j : Nat, (j : Int) ≤ hi - lo → ∃ off, offs[j]? = some off ∧ (pc : Int) + off = (pcs (ai_nth r (j + 1)).toNat : Int)) {x : Int32}
    (he : ai_sw (if x.toInt < lo ∨ hi < x.toInt then ai_tgt r else (ai_nth r ((x.toInt - lo).toNat + 1)).toNat) L S h = some (t, L', S', h')) (k : ai_W p l e R s m args below meth c Q Z cn sa D cl A ad0 kc ks (ai_nx pcs pc len t) L' S' h') : ai_W p l e R s m args below meth c Q Z cn sa D cl A ad0 kc ks pc L (.int x :: S) h := by
  simp only [ai_sw, Option.some.injEq, Prod.mk.injEq] at he
  obtain ⟨rfl, rfl, rfl, rfl⟩ := he
  intro ad tys ws H locs cells slots ls st ha hl hs
  obtain ⟨V, T, rfl, hv, hs⟩ := ai_vs_cons hs
  rw [show V = .int x from hv]
  have K := k ad tys ws H locs cells slots ls T ha hl hs
  by_cases hc : x.toInt < lo ∨ hi < x.toInt
  · rw [if_pos hc] at K
    exact lv_tableOut hx hb hd hc hdf K
  · rw [if_neg hc] at K
    have h1 : ¬ x.toInt < lo := fun z => hc (Or.inl z)
    have h2 : ¬ hi < x.toInt := fun z => hc (Or.inr z)
    obtain ⟨off, g1, g2⟩ := hof (x.toInt - lo).toNat (by omega)
    exact lv_tableIn hx hb hd h1 h2 g1 g2 K
/-- comparing references -/
theorem ai_same_v {ad : List Nat} {ws : va_W} {tys : List (ClassId × FieldType)} (hsa : ∀ i j ci fs fs', Z i = some (ai_obj ci fs) → Z j = some (ai_obj ci fs') → sa i = sa j → i = j) {hp : List ai_C} (hw : ai_w Z cn sa ad tys hp ws) (hD : va_D A ws) {x y X Y : Value} {b : Bool}
    (hz : ai_zk Z x y = true) (hb : ai_same x y = some b) (hX : ai_v sa ad x X) (hY : ai_v sa ad y Y) : ∃ rx ry : Option Nat, X = va_rf rx ∧ Y = va_rf ry ∧ (b = true ↔ rx = ry) := by
  have inj : ∀ i j a : Nat, ad[i]? = some a → ad[j]? = some a → i = j := by
    intro i j a hi hj
    have li : i < hp.length := by rw [← hw.2.1]; exact (List.getElem?_eq_some_iff.mp hi).1
    have lj : j < hp.length := by rw [← hw.2.1]; exact (List.getElem?_eq_some_iff.mp hj).1
    obtain ⟨a1, E1, g1, g2, -⟩ := hw.2.2 i _ (List.getElem?_eq_getElem li)
    obtain ⟨a2, E2, g3, g4, -⟩ := hw.2.2 j _ (List.getElem?_eq_getElem lj)
    rw [hi] at g1; cases g1
    rw [hj] at g3; cases g3
    exact hD.1 i j _ _ g2 g4 rfl
  cases x with
  | null =>
    have hX : X = .null := hX
    cases y with
    | null => refine ⟨none, none, hX, hY, ?_⟩; simp [ai_same] at hb; simp [← hb]
    | ref j => obtain ⟨a, -, rfl⟩ := hY; refine ⟨none, some a, hX, rfl, ?_⟩; simp [ai_same] at hb; simp [← hb]
    | retAddr j => refine ⟨none, some (sa j), hX, hY, ?_⟩; simp [ai_same] at hb; simp [← hb]
    | _ => simp [ai_same] at hb
  | ref i =>
    obtain ⟨a, hi, rfl⟩ := hX
    cases y with
    | null => refine ⟨some a, none, rfl, hY, ?_⟩; simp [ai_same] at hb; simp [← hb]
    | ref j =>
      obtain ⟨a2, hj, rfl⟩ := hY
      refine ⟨some a, some a2, rfl, rfl, ?_⟩
      simp only [ai_same, Option.some.injEq] at hb
      rw [← hb, decide_eq_true_eq]
      constructor
      · intro e; subst e; rw [hi] at hj; exact hj
      · intro e; cases e; exact inj i j a hi hj
    | _ => simp [ai_same] at hb
  | retAddr i =>
    have hX : X = .ref (sa i) := hX
    cases y with
    | null => refine ⟨some (sa i), none, hX, hY, ?_⟩; simp [ai_same] at hb; simp [← hb]
    | retAddr j =>
      refine ⟨some (sa i), some (sa j), hX, hY, ?_⟩
      simp only [ai_same, Option.some.injEq] at hb
      rw [← hb, decide_eq_true_eq]
      constructor
      · intro e; rw [e]
      · intro e
        simp only [ai_zk] at hz
        split at hz
        · rename_i ci fs h1
          split at hz
          · rename_i cj fs' h2
            have hcc : ci = cj := of_decide_eq_true hz
            subst hcc
            exact hsa i j ci fs fs' h1 h2 (Option.some.inj e)
          · cases hz
        · cases hz
    | _ => simp [ai_same] at hb
  | _ => simp [ai_same] at hb
end AIB
end
section
/-! THE CONSTANT OBJECTS: what is known of the cell at a. zc: the class of a constant object by its number, its fields. -/
def ai_zc (zc : Nat → String × u_T) (sa : Nat → Nat) (x : ai_C) (a : Nat) (A : Nat → Prop) (U : State) (H : Heap) : Prop := match x with
  | .inl (ty, n, f) => va_T ty a n (fun j => .int (f j)) A U H
  | .inr (.inl _) => False
  | .inr (.inr (.inl (C, n, g))) => ∃ f : Nat → Value, va_T (.object C) a n f A U H ∧ ∀ j, j < n → ai_v sa [] (g j) (f j)
  | .inr (.inr (.inr (ci, fs))) => va_O (zc ci).1 a A U H ∧ ∀ (k : Nat) (v : Value), fs[k]? = some v → ∃ V, ai_v sa [] v V ∧ va_OF ((zc ci).2 k).1 ((zc ci).2 k).2.1 ((zc ci).2 k).2.2.1 V a A U H
theorem ai_zc_moved {zc : Nat → String × u_T} {sa : Nat → Nat} {x : ai_C} {a : Nat} {A : Nat → Prop} {u U : State} {H : Heap} (hvm : u.vm.Alike U.vm) (h : ai_zc zc sa x a A u H) : ai_zc zc sa x a A U H := by
  match x, h with
  | .inl (ty, n, f), h => exact va_T.moved hvm h
  | .inr (.inr (.inl (C, n, g))), h =>
    obtain ⟨f, h1, h2⟩ := h
    exact ⟨f, va_T.moved hvm h1, h2⟩
  | .inr (.inr (.inr (ci, fs))), h =>
    refine ⟨va_O.moved hvm h.1, fun k v hk => ?_⟩
    obtain ⟨V, h1, h2⟩ := h.2 k v hk
    exact ⟨V, h1, va_OF.moved hvm h2⟩
theorem ai_zc_kept {zc : Nat → String × u_T} {sa : Nat → Nat} {x : ai_C} {a : Nat} {A : Nat → Prop} {U : State} {H H1 : Heap} (h : ai_zc zc sa x a A U H) (hq : ∀ a : Nat, a < H.size → ¬ A a → H1[a]? = H[a]?) : ai_zc zc sa x a A U H1 := by
  match x, h with
  | .inl (ty, n, f), h => exact va_T.kept h hq
  | .inr (.inr (.inl (C, n, g))), h =>
    obtain ⟨f, h1, h2⟩ := h
    exact ⟨f, va_T.kept h1 hq, h2⟩
  | .inr (.inr (.inr (ci, fs))), h =>
    refine ⟨va_O.kept h.1 hq, fun k v hk => ?_⟩
    obtain ⟨V, h1, h2⟩ := h.2 k v hk
    exact ⟨V, h1, va_OF.kept h2 hq⟩
theorem ai_zc_narrow {zc : Nat → String × u_T} {sa : Nat → Nat} {x : ai_C} {a : Nat} {A B : Nat → Prop} {U : State} {H : Heap} (h : ai_zc zc sa x a A U H) (hAB : ∀ q, B q → A q) : ai_zc zc sa x a B U H := by
  match x, h with
  | .inl (ty, n, f), h => exact va_T.narrow h hAB
  | .inr (.inr (.inl (C, n, g))), h =>
    obtain ⟨f, h1, h2⟩ := h
    exact ⟨f, va_T.narrow h1 hAB, h2⟩
  | .inr (.inr (.inr (ci, fs))), h =>
    refine ⟨va_O.narrow h.1 hAB, fun k v hk => ?_⟩
    obtain ⟨V, h1, h2⟩ := h.2 k v hk
    exact ⟨V, h1, va_OF.narrow h2 hAB⟩
section AIG
variable {p : Program} {l : Launch} {e : Env} {R : Room} {s : State} {m : MethodId} {args : Array Value} {below : List Frame} {meth : Method} {c : Code} {Q : State → Prop}
variable {Z : ai_S} {cn : Nat → String} {sa : Nat → Nat} {D : va_G} {cl : List vw_C} {A : Nat → Prop} {ad0 : List Nat} {kc ks : Nat}
variable {cc : ByteArray} {pc t : Nat} {L L' : ai_L} {S S' : List Value} {h h' : ai_H} {pcs : Nat → Nat} {zc : Nat → String × u_T}
theorem ai_v_nil {ad : List Nat} {v V : Value} (h : ai_v sa [] v V) : ai_v sa ad v V := by
  have := ai_v_more h ad
  simpa using this
/-- a number out of an array -/
theorem ai_ald_ok (hZ : ∀ k x, Z k = some x → ai_zc zc sa x (sa k) A s s.heap) {ty : FieldType}
    (row : ∀ (D : va_G) (cl : List vw_C) (tys : List (ClassId × FieldType)) (ws : va_W) (q0 t0 a : Nat) (cA : ClassId) (n : Nat) (f : Nat → Int32) (i : Int32) (H : Heap) (locs : List Loc) (cells slots : Nat) (ls : Array Slot) (st : List Value), va_K D cl tys s → va_P D cl ws H → ws[q0]? = some (a, .inl (cA, n, .inl f)) → tys[t0]? = some (cA, ty) → vp_in i n → W p l e R s m args below meth c H locs cells slots Q (F0 m (pc + 1) ls (.int (f i.toNatClampNeg) :: st)) → W p l e R s m args below meth c H locs cells slots Q (F0 m pc ls (.int i :: .ref a :: st)))
    (rowT : ∀ (a N : Nat) (f : Nat → Value) (i : Int32) (H : Heap) (locs : List Loc) (cells slots : Nat) (ls : Array Slot) (st : List Value), va_T ty a N f A s s.heap → va_S A s.heap H locs → vp_in i N → W p l e R s m args below meth c H locs cells slots Q (F0 m (pc + 1) ls (f i.toNatClampNeg :: st)) → W p l e R s m args below meth c H locs cells slots Q (F0 m pc ls (.int i :: .ref a :: st)))
    (he : ai_ald Z ty L S h = some (t, L', S', h')) (k : ai_W p l e R s m args below meth c Q Z cn sa D cl A ad0 kc ks (ai_nx pcs pc 1 t) L' S' h') : ai_W p l e R s m args below meth c Q Z cn sa D cl A ad0 kc ks pc L S h := by
  unfold ai_ald at he
  split at he
  · rename_i i v r
    split at he
    · rename_i ty' n f hlook
      split at he
      · rename_i hc
        obtain ⟨rfl, hi0, hin⟩ := hc
        simp only [Option.some.injEq, Prod.mk.injEq] at he
        obtain ⟨rfl, rfl, rfl, rfl⟩ := he
        intro ad tys ws H locs cells slots ls st ha hl hs
        obtain ⟨V, T, rfl, hv, hs⟩ := ai_vs_cons hs
        obtain ⟨V2, T, rfl, hv2, hs⟩ := ai_vs_cons hs
        rw [show V = .int i from hv]
        have K := k ad tys ws H locs cells slots ls (.int (f i.toNatClampNeg) :: T) ha hl ⟨rfl, hs⟩
        obtain ⟨-, -, -, hw, hK, hP, hD, hS⟩ := ha
        have hvp : vp_in i n := fun z => z.elim hi0 (fun z => by omega)
        cases v with
        | ref j =>
          obtain ⟨a, E, rfl, g1, -, -, cA, t0, rfl, g2⟩ := ai_w_at hw hlook hv2
          exact row D cl tys ws j t0 a cA n f i H locs cells slots ls T hK hP g1 g2 hvp K
        | retAddr j =>
          rw [show V2 = .ref (sa j) from hv2]
          exact rowT _ n _ i H locs cells slots ls T (hZ j _ hlook) hS hvp K
        | _ => cases hlook
      · cases he
    · cases he
  · cases he
theorem ai_lald_ok (hx : p.tables.exec = Jvm.exec) (hb : c.code = cc) (hd : decode cc pc = .ok (.laload, 1)) (he : ai_lald L S h = some (t, L', S', h')) (k : ai_W p l e R s m args below meth c Q Z cn sa D cl A ad0 kc ks (ai_nx pcs pc 1 t) L' S' h') : ai_W p l e R s m args below meth c Q Z cn sa D cl A ad0 kc ks pc L S h := by
  unfold ai_lald at he
  split at he
  · rename_i i j r
    split at he
    · rename_i n f hlook
      split at he
      · rename_i hc
        obtain ⟨hi0, hin⟩ := hc
        simp only [Option.some.injEq, Prod.mk.injEq] at he
        obtain ⟨rfl, rfl, rfl, rfl⟩ := he
        intro ad tys ws H locs cells slots ls st ha hl hs
        obtain ⟨V, T, rfl, hv, hs⟩ := ai_vs_cons hs
        obtain ⟨V2, T, rfl, hv2, hs⟩ := ai_vs_cons hs
        rw [show V = .int i from hv]
        have K := k ad tys ws H locs cells slots ls (.long (f i.toNatClampNeg) :: T) ha hl ⟨rfl, hs⟩
        obtain ⟨-, -, -, hw, hK, hP, hD, hS⟩ := ha
        have hvp : vp_in i n := fun z => z.elim hi0 (fun z => by omega)
        obtain ⟨a, E, rfl, g1, cA, t0, rfl, g2⟩ := ai_w_at hw hlook hv2
        exact va_lald hx hb hK hP j t0 g1 g2 hvp hd K
      · cases he
    · cases he
  · cases he
/-- a number into an array -/
theorem ai_ast_ok {ty : FieldType} {nar : Int32 → Int32} (hnar : ∀ x, fits ty (.int (nar x)) = true)
    (row : ∀ (D : va_G) (cl : List vw_C) (tys : List (ClassId × FieldType)) (ws : va_W) (q0 t0 a : Nat) (cA : ClassId) (n : Nat) (f : Nat → Int32) (i x : Int32) (H : Heap) (locs : List Loc) (cells slots : Nat) (ls : Array Slot) (st : List Value), va_K D cl tys s → va_P D cl ws H → va_D A ws → va_S A s.heap H locs → ws[q0]? = some (a, .inl (cA, n, .inl f)) → tys[t0]? = some (cA, ty) → vp_in i n → (∀ (H1 : Heap) (locs1 : List Loc), va_P D cl (ws.set q0 (a, .inl (cA, n, .inl (upd f i.toNatClampNeg (nar x))))) H1 → va_D A (ws.set q0 (a, .inl (cA, n, .inl (upd f i.toNatClampNeg (nar x))))) → va_S A s.heap H1 locs1 → W p l e R s m args below meth c H1 locs1 cells slots Q (F0 m (pc + 1) ls st)) → W p l e R s m args below meth c H locs cells slots Q (F0 m pc ls (.int x :: .int i :: .ref a :: st)))
    (he : ai_ast ty nar L S h = some (t, L', S', h')) (k : ai_W p l e R s m args below meth c Q Z cn sa D cl A ad0 kc ks (ai_nx pcs pc 1 t) L' S' h') : ai_W p l e R s m args below meth c Q Z cn sa D cl A ad0 kc ks pc L S h := by
  unfold ai_ast at he
  split at he
  · rename_i x i j r
    split at he
    · rename_i ty' n f hlook
      split at he
      · rename_i hc
        obtain ⟨rfl, hi0, hin⟩ := hc
        simp only [Option.some.injEq, Prod.mk.injEq] at he
        obtain ⟨rfl, rfl, rfl, rfl⟩ := he
        intro ad tys ws H locs cells slots ls st ha hl hs
        obtain ⟨V, T, rfl, hv, hs⟩ := ai_vs_cons hs
        obtain ⟨V2, T, rfl, hv2, hs⟩ := ai_vs_cons hs
        obtain ⟨V3, T, rfl, hv3, hs9⟩ := ai_vs_cons hs
        rw [show V = .int x from hv, show V2 = .int i from hv2]
        obtain ⟨q1, q2, q3, hw, hK, hP, hD, hS⟩ := ha
        have hvp : vp_in i n := fun z => z.elim hi0 (fun z => by omega)
        obtain ⟨a, E, rfl, g1, g0, gf, cA, t0, rfl, g2⟩ := ai_w_at hw hlook hv3
        refine row D cl tys ws j t0 a cA n f i x H locs cells slots ls T hK hP hD hS g1 g2 hvp (fun H1 locs1 hP1 hD1 hS1 => ?_)
        refine k ad tys _ H1 locs1 cells slots ls T ⟨q1, q2, q3, ai_w_set hw g1 ?_, hK, hP1, hD1, hS1⟩ hl hs9
        refine ⟨g0, fun z => ?_, cA, t0, rfl, g2⟩
        by_cases hz : z = i.toNatClampNeg
        · subst hz; rw [pk_us]; exact hnar x
        · rw [pk_un hz]; exact gf z
      · cases he
    · cases he
  · cases he
theorem ai_last_ok (hx : p.tables.exec = Jvm.exec) (hb : c.code = cc) (hd : decode cc pc = .ok (.lastore, 1)) (he : ai_last L S h = some (t, L', S', h')) (k : ai_W p l e R s m args below meth c Q Z cn sa D cl A ad0 kc ks (ai_nx pcs pc 1 t) L' S' h') : ai_W p l e R s m args below meth c Q Z cn sa D cl A ad0 kc ks pc L S h := by
  unfold ai_last at he
  split at he
  · rename_i x i j r
    split at he
    · rename_i n f hlook
      split at he
      · rename_i hc
        obtain ⟨hi0, hin⟩ := hc
        simp only [Option.some.injEq, Prod.mk.injEq] at he
        obtain ⟨rfl, rfl, rfl, rfl⟩ := he
        intro ad tys ws H locs cells slots ls st ha hl hs
        obtain ⟨V, T, rfl, hv, hs⟩ := ai_vs_cons hs
        obtain ⟨V2, T, rfl, hv2, hs⟩ := ai_vs_cons hs
        obtain ⟨V3, T, rfl, hv3, hs9⟩ := ai_vs_cons hs
        rw [show V = .long x from hv, show V2 = .int i from hv2]
        obtain ⟨q1, q2, q3, hw, hK, hP, hD, hS⟩ := ha
        have hvp : vp_in i n := fun z => z.elim hi0 (fun z => by omega)
        obtain ⟨a, E, rfl, g1, cA, t0, rfl, g2⟩ := ai_w_at hw hlook hv3
        refine va_last hx hb hK hP hD hS j t0 g1 g2 hvp hd (fun H1 locs1 hP1 hD1 hS1 => ?_)
        exact k ad tys _ H1 locs1 cells slots ls T ⟨q1, q2, q3, ai_w_set hw g1 ⟨cA, t0, rfl, g2⟩, hK, hP1, hD1, hS1⟩ hl hs9
      · cases he
    · cases he
  · cases he
end AIG
end
section
/-- the tables speak of the classes that are made: words, types of fields, different names -/
def ai_clok (Ts : List Cond) (cl : List vw_C) (ty0 : Nat → Nat → FieldType) : Prop := ∀ (ci : Nat) (q : vw_C), cl[ci]? = some q → (∀ w ∈ u_ws q.1 q.2.1 q.2.2, w ∈ Ts) ∧ (∀ k, k < q.2.2 → parseFieldDescriptor (q.2.1 k).2.2.1 = some (ty0 ci k)) ∧ (∀ a, a < q.2.2 → ∀ b, b < q.2.2 → a ≠ b → (q.2.1 a).2.1 ≠ (q.2.1 b).2.1)
/-- the entry of the pool leads to the field, in the nest or not -/
def ai_fl (s : State) (args : Array Value) (own : String) (idx : Nat) (q : String × String × String × Bool) : Prop := (Cond.fieldLink own idx q.1 q.2.1 q.2.2.1).before args s = true ∨ ∃ host, (Cond.fieldLinkNest own idx q.1 q.2.1 q.2.2.1 host).before args s = true
/-- which values a field of that type takes -/
def ai_fit (ty : FieldType) (v : Value) : Bool := match ty with
  | .int => (match v with
    | .int _ => true
    | _ => false)
  | .object _ => ai_isr v
  | .array _ => ai_isr v
  | _ => false
theorem ai_fit_ok {sa : Nat → Nat} {ad : List Nat} {ty : FieldType} {v V : Value} (hf : ai_fit ty v = true) (hv : ai_v sa ad v V) : narrow ty V = V ∧ fits ty V = true := by
  cases ty with
  | int =>
    cases v with
    | int x => rw [show V = .int x from hv]; exact ⟨rfl, rfl⟩
    | _ => cases hf
  | object C => rcases ai_isr_v hf hv with rfl | ⟨a, rfl⟩ <;> exact ⟨rfl, rfl⟩
  | array t => rcases ai_isr_v hf hv with rfl | ⟨a, rfl⟩ <;> exact ⟨rfl, rfl⟩
  | _ => cases hf
section AIF
variable {p : Program} {l : Launch} {e : Env} {R : Room} {s : State} {m : MethodId} {args : Array Value} {below : List Frame} {meth : Method} {c : Code} {Q : State → Prop}
variable {Z : ai_S} {cn : Nat → String} {sa : Nat → Nat} {D : va_G} {cl : List vw_C} {A : Nat → Prop} {ad0 : List Nat} {kc ks : Nat}
variable {cc : ByteArray} {pc t : Nat} {L L' : ai_L} {S S' : List Value} {h h' : ai_H} {pcs : Nat → Nat} {zc : Nat → String × u_T} {Ts : List Cond} {ty0 : Nat → Nat → FieldType} {own : String} {idx ci k0 : Nat}
theorem ai_alen_ok (hx : p.tables.exec = Jvm.exec) (hb : c.code = cc) (hd : decode cc pc = .ok (.arraylength, 1)) (hZ : ∀ k x, Z k = some x → ai_zc zc sa x (sa k) A s s.heap)
    (he : ai_alen Z L S h = some (t, L', S', h')) (k : ai_W p l e R s m args below meth c Q Z cn sa D cl A ad0 kc ks (ai_nx pcs pc 1 t) L' S' h') : ai_W p l e R s m args below meth c Q Z cn sa D cl A ad0 kc ks pc L S h := by
  unfold ai_alen at he
  split at he
  · rename_i v r
    split at he
    · rename_i ty n f hlook
      simp only [Option.some.injEq, Prod.mk.injEq] at he
      obtain ⟨rfl, rfl, rfl, rfl⟩ := he
      intro ad tys ws H locs cells slots ls st ha hl hs
      obtain ⟨V, T, rfl, hv, hs9⟩ := ai_vs_cons hs
      have K := k ad tys ws H locs cells slots ls (.int (Int32.ofNat n) :: T) ha hl ⟨rfl, hs9⟩
      obtain ⟨-, -, -, hw, hK, hP, hD, hS⟩ := ha
      cases v with
      | ref j =>
        obtain ⟨a, E, rfl, g1, -, -, cA, t0, rfl, g2⟩ := ai_w_at hw hlook hv
        exact va_alen hx hb hK hP j t0 g1 g2 rfl hd K
      | retAddr j =>
        rw [show V = .ref (sa j) from hv]
        exact va_tlen hx hb (hZ j _ hlook) hS rfl hd K
      | _ => cases hlook
    · rename_i n f hlook
      simp only [Option.some.injEq, Prod.mk.injEq] at he
      obtain ⟨rfl, rfl, rfl, rfl⟩ := he
      intro ad tys ws H locs cells slots ls st ha hl hs
      obtain ⟨V, T, rfl, hv, hs9⟩ := ai_vs_cons hs
      have K := k ad tys ws H locs cells slots ls (.int (Int32.ofNat n) :: T) ha hl ⟨rfl, hs9⟩
      obtain ⟨-, -, -, hw, hK, hP, hD, hS⟩ := ha
      cases v with
      | ref j =>
        obtain ⟨a, E, rfl, g1, cA, t0, rfl, g2⟩ := ai_w_at hw hlook hv
        exact va_alen hx hb hK hP j t0 g1 g2 rfl hd K
      | retAddr j => exact (hZ j _ hlook).elim
      | _ => cases hlook
    · rename_i C n g hlook
      simp only [Option.some.injEq, Prod.mk.injEq] at he
      obtain ⟨rfl, rfl, rfl, rfl⟩ := he
      intro ad tys ws H locs cells slots ls st ha hl hs
      obtain ⟨V, T, rfl, hv, hs9⟩ := ai_vs_cons hs
      have K := k ad tys ws H locs cells slots ls (.int (Int32.ofNat n) :: T) ha hl ⟨rfl, hs9⟩
      obtain ⟨-, -, -, hw, hK, hP, hD, hS⟩ := ha
      cases v with
      | ref j =>
        obtain ⟨a, E, rfl, g1, cA, t0, f, rfl, g2, g3⟩ := ai_w_at hw hlook hv
        exact va_alen hx hb hK hP j t0 g1 g2 rfl hd K
      | retAddr j =>
        rw [show V = .ref (sa j) from hv]
        obtain ⟨f, hT, -⟩ := hZ j _ hlook
        exact va_tlen hx hb hT hS rfl hd K
      | _ => cases hlook
    · cases he
  · cases he
theorem ai_aald_ok (hx : p.tables.exec = Jvm.exec) (hb : c.code = cc) (hd : decode cc pc = .ok (.aaload, 1)) (hZ : ∀ k x, Z k = some x → ai_zc zc sa x (sa k) A s s.heap)
    (he : ai_aald Z L S h = some (t, L', S', h')) (k : ai_W p l e R s m args below meth c Q Z cn sa D cl A ad0 kc ks (ai_nx pcs pc 1 t) L' S' h') : ai_W p l e R s m args below meth c Q Z cn sa D cl A ad0 kc ks pc L S h := by
  unfold ai_aald at he
  split at he
  · rename_i i v r
    split at he
    · rename_i C n g hlook
      split at he
      · rename_i hc
        obtain ⟨hi0, hin⟩ := hc
        simp only [Option.some.injEq, Prod.mk.injEq] at he
        obtain ⟨rfl, rfl, rfl, rfl⟩ := he
        intro ad tys ws H locs cells slots ls st ha hl hs
        obtain ⟨V, T, rfl, hv, hs⟩ := ai_vs_cons hs
        obtain ⟨V2, T, rfl, hv2, hs9⟩ := ai_vs_cons hs
        rw [show V = .int i from hv]
        have hvp : vp_in i n := fun z => z.elim hi0 (fun z => by omega)
        have hw := ha.2.2.2.1
        have hK := ha.2.2.2.2.1
        have hP := ha.2.2.2.2.2.1
        have hS := ha.2.2.2.2.2.2.2
        cases v with
        | ref j =>
          obtain ⟨a, E, rfl, g1, cA, t0, f, rfl, g2, g3⟩ := ai_w_at hw hlook hv2
          refine va_aldq hx hb hK hP j t0 g1 g2 hvp hd (k ad tys ws H locs cells slots ls (va_rf (f i.toNatClampNeg) :: T) ha hl ⟨?_, hs9⟩)
          rcases g3 i.toNatClampNeg with ⟨e1, e2⟩ | ⟨k9, ci, fs, e1, e2, -⟩
          · rw [e1, e2]; rfl
          · rw [e1, e2]; rfl
        | retAddr j =>
          rw [show V2 = .ref (sa j) from hv2]
          obtain ⟨f, hT, hf⟩ := hZ j _ hlook
          exact vb_tq hx hb hT hS hvp rfl hd (k ad tys ws H locs cells slots ls (f i.toNatClampNeg :: T) ha hl ⟨ai_v_nil (hf _ hin), hs9⟩)
        | _ => cases hlook
      · cases he
    · cases he
  · cases he
theorem ai_aast_ok (hx : p.tables.exec = Jvm.exec) (hb : c.code = cc) (hd : decode cc pc = .ok (.aastore, 1)) (hZ : ∀ k x, Z k = some x → ai_zc zc sa x (sa k) A s s.heap) (hcn : ∀ ci, cn ci = (zc ci).1)
    (he : ai_aast Z cn L S h = some (t, L', S', h')) (k : ai_W p l e R s m args below meth c Q Z cn sa D cl A ad0 kc ks (ai_nx pcs pc 1 t) L' S' h') : ai_W p l e R s m args below meth c Q Z cn sa D cl A ad0 kc ks pc L S h := by
  unfold ai_aast at he
  split at he
  · rename_i v i j r
    split at he
    · rename_i C n g hlook
      split at he
      · rename_i ci fs hz
        split at he
        · rename_i hc
          obtain ⟨hC, hi0, hin⟩ := hc
          simp only [Option.some.injEq, Prod.mk.injEq] at he
          obtain ⟨rfl, rfl, rfl, rfl⟩ := he
          intro ad tys ws H locs cells slots ls st ha hl hs
          obtain ⟨V, T, rfl, hv, hs⟩ := ai_vs_cons hs
          obtain ⟨V2, T, rfl, hv2, hs⟩ := ai_vs_cons hs
          obtain ⟨V3, T, rfl, hv3, hs9⟩ := ai_vs_cons hs
          rw [show V = .ref (sa v) from hv, show V2 = .int i from hv2]
          obtain ⟨q1, q2, q3, hw, hK, hP, hD, hS⟩ := ha
          have hvp : vp_in i n := fun z => z.elim hi0 (fun z => by omega)
          obtain ⟨a, E, rfl, g1, cA, t0, f, rfl, g2, g3⟩ := ai_w_at hw hlook hv3
          obtain ⟨hO, -⟩ := hZ v _ hz
          obtain ⟨cellV, o1, o2, o3, -⟩ := va_O.kept hO hS.2.1
          refine vb_astq (C := C) hx hb hK hP hD hS j t0 g1 g2 ⟨cellV, o1, o2, by rw [← hC, hcn]; exact o3⟩ (fun comp c0 h1 h2 => vb_asgS comp c0 h1 h2) hvp hd (fun H1 locs1 hP1 hD1 hS1 => ?_)
          refine k ad tys _ H1 locs1 cells slots ls T ⟨q1, q2, q3, ai_w_set hw g1 ⟨cA, t0, _, rfl, g2, fun z => ?_⟩, hK, hP1, hD1, hS1⟩ hl hs9
          by_cases hzz : z = i.toNatClampNeg
          · subst hzz
            exact Or.inr ⟨v, ci, fs, by simp [va_up], by simp [va_up], hz, hC⟩
          · simp only [va_up, if_neg hzz]
            exact g3 z
        · cases he
      · cases he
    · cases he
  · cases he
/-- a field is read -/
theorem ai_getf_ok (hx : p.tables.exec = Jvm.exec) (hb : c.code = cc) (hd : decode cc pc = .ok (.getfield idx, 3)) (hts : ∀ w ∈ Ts, w.before args s = true) (hcl : ai_clok Ts cl ty0) (hown : s.vm.findClass own = some m.cls) (hZ : ∀ k x, Z k = some x → ai_zc zc sa x (sa k) A s s.heap)
    (hlD : ∀ q, cl[ci]? = some q → k0 < q.2.2 ∧ ai_fl s args own idx (q.2.1 k0)) (hlZ : cl[ci]? = none → ai_fl s args own idx ((zc ci).2 k0)) (hcZ : ∀ j fs, Z j = some (ai_obj ci fs) → cl[ci]? = none)
    (he : ai_getf Z ci k0 L S h = some (t, L', S', h')) (k : ai_W p l e R s m args below meth c Q Z cn sa D cl A ad0 kc ks (ai_nx pcs pc 3 t) L' S' h') : ai_W p l e R s m args below meth c Q Z cn sa D cl A ad0 kc ks pc L S h := by
  unfold ai_getf at he
  split at he
  · rename_i v r
    split at he
    · rename_i ci' fs hlook
      split at he
      · rename_i w hfk
        split at he
        · rename_i hc
          subst hc
          simp only [Option.some.injEq, Prod.mk.injEq] at he
          obtain ⟨rfl, rfl, rfl, rfl⟩ := he
          intro ad tys ws H locs cells slots ls st ha hl hs
          obtain ⟨V, T, rfl, hv, hs9⟩ := ai_vs_cons hs
          have hw := ha.2.2.2.1
          have hK := ha.2.2.2.2.1
          have hP := ha.2.2.2.2.2.1
          have hS := ha.2.2.2.2.2.2.2
          cases v with
          | ref j =>
            obtain ⟨a, E, rfl, g1, vs, rfl, g2⟩ := ai_w_at hw hlook hv
            obtain ⟨V2, g3, g4⟩ := ai_vs_get g2 hfk
            have K := k ad tys ws H locs cells slots ls (V2 :: T) ha hl ⟨g4, hs9⟩
            obtain ⟨⟨C, T9, N⟩, hq, -⟩ := hP j _ g1
            obtain ⟨hk, hfl⟩ := hlD _ hq
            obtain ⟨c1, c2, c3⟩ := hcl _ _ hq
            rcases hfl with hfl | ⟨host, hfl⟩
            · exact va_get hx hb hts c1 hown hK hP j g1 hq k0 hk hfl (fun _ h9 => h9) g3 hd K
            · exact va_getN hx hb hts c1 hown hK hP j g1 hq k0 hk hfl (fun _ h9 => h9) g3 hd K
          | retAddr j =>
            rw [show V = .ref (sa j) from hv]
            obtain ⟨-, hF⟩ := hZ j _ hlook
            obtain ⟨V2, g4, g5⟩ := hF k0 w hfk
            have K := k ad tys ws H locs cells slots ls (V2 :: T) ha hl ⟨ai_v_nil g4, hs9⟩
            have hfl : ai_fl s args own idx ((zc ci').2 k0) := hlZ (hcZ j fs hlook)
            rcases hfl with hfl | ⟨host, hfl⟩
            · exact vk_getf hx hb g5 hS hown hfl (fun _ h9 => h9) hd K
            · obtain ⟨cf, k9, i9, f9, cell, h1, h2, h3, h4, h5, h6⟩ := va_OF.kept g5 hS.2.1
              exact va_Wgetf hx hb hown hfl h1 h2 h3 h4 h5 rfl rfl hd K
          | _ => cases hlook
        · cases he
      · cases he
    · cases he
  · cases he
/-- a field is written -/
theorem ai_putf_ok (hx : p.tables.exec = Jvm.exec) (hb : c.code = cc) (hd : decode cc pc = .ok (.putfield idx, 3)) (hts : ∀ w ∈ Ts, w.before args s = true) (hcl : ai_clok Ts cl ty0) (hown : s.vm.findClass own = some m.cls)
    {q : vw_C} (hq : cl[ci]? = some q) (hk : k0 < q.2.2) (hfl : (Cond.fieldLink own idx (q.2.1 k0).1 (q.2.1 k0).2.1 (q.2.1 k0).2.2.1).before args s = true) (hfin : (q.2.1 k0).2.2.2 = false ∨ (meth.name = "<init>" ∧ (q.2.1 k0).1 = own))
    (he : ai_putf (fun ci k v => ai_fit (ty0 ci k) v) ci k0 L S h = some (t, L', S', h')) (k : ai_W p l e R s m args below meth c Q Z cn sa D cl A ad0 kc ks (ai_nx pcs pc 3 t) L' S' h') : ai_W p l e R s m args below meth c Q Z cn sa D cl A ad0 kc ks pc L S h := by
  unfold ai_putf at he
  split at he
  · rename_i v j r
    split at he
    · rename_i ci' fs hlook
      split at he
      · rename_i hc
        obtain ⟨rfl, hkl, hft⟩ := hc
        simp only [Option.some.injEq, Prod.mk.injEq] at he
        obtain ⟨rfl, rfl, rfl, rfl⟩ := he
        intro ad tys ws H locs cells slots ls st ha hl hs
        obtain ⟨V, T, rfl, hv, hs⟩ := ai_vs_cons hs
        obtain ⟨V2, T, rfl, hv2, hs9⟩ := ai_vs_cons hs
        obtain ⟨q1, q2, q3, hw, hK, hP, hD, hS⟩ := ha
        obtain ⟨a, E, rfl, g1, vs, rfl, g2⟩ := ai_w_at hw hlook hv2
        obtain ⟨n1, n2⟩ := ai_fit_ok hft hv
        obtain ⟨c1, c2, c3⟩ := hcl _ _ hq
        have hlen : k0 < vs.length := by rw [ai_vs_len g2]; exact hkl
        have KK : ∀ (H1 : Heap) (locs1 : List Loc), va_P D cl (ws.set j (a, .inr (ci', vs.set k0 V))) H1 → va_D A (ws.set j (a, .inr (ci', vs.set k0 V))) → va_S A s.heap H1 locs1 → W p l e R s m args below meth c H1 locs1 cells slots Q (F0 m (pc + 3) ls T) := fun H1 locs1 hP1 hD1 hS1 =>
          k ad tys _ H1 locs1 cells slots ls T ⟨q1, q2, q3, ai_w_set hw g1 ⟨_, rfl, ai_vs_set hv k0 g2⟩, hK, hP1, hD1, hS1⟩ hl hs9
        obtain ⟨C, T9, N⟩ := q
        rcases Bool.eq_false_or_eq_true (T9 k0).2.2.2 with hf | hf
        · rcases hfin with hz | ⟨hz1, hz2⟩
          · rw [show (T9 k0).2.2.2 = false from hz] at hf; cases hf
          · exact va_putF hx hb hts c1 (ty0 ci') c2 c3 hown hK hP hD hS j g1 hq k0 hk hfl (fun _ h9 => h9) hf hz1 hz2 (c2 k0 hk) n1 n2 hlen hd KK
        · exact va_put hx hb hts c1 (ty0 ci') c2 c3 hown hK hP hD hS j g1 hq k0 hk hfl (fun _ h9 => h9) hf (c2 k0 hk) n1 n2 hlen hd KK
      · cases he
    · cases he
  · cases he
end AIF
end
section
/-- the values of a new object's fields -/
def ai_dok (cl : List vw_C) (ty0 : Nat → Nat → FieldType) (df : Nat → List Value) : Prop := ∀ (ci : Nat) (q : vw_C), cl[ci]? = some q → (∀ j, j < q.2.2 → defaultValue (ty0 ci j) = vp_V (df ci) j) ∧ (df ci).length = q.2.2 ∧ ∀ v ∈ df ci, v = .null ∨ v = .int 0
theorem ai_vs_df {sa : Nat → Nat} {ad : List Nat} : ∀ {S : List Value}, (∀ v ∈ S, v = .null ∨ v = .int 0) → ai_vs sa ad S S
  | [], _ => trivial
  | v :: S, h => by
    refine ⟨?_, ai_vs_df fun w hw => h w (List.mem_cons_of_mem _ hw)⟩
    rcases h v List.mem_cons_self with rfl | rfl <;> rfl
section AIN
variable {p : Program} {l : Launch} {e : Env} {R : Room} {s : State} {m : MethodId} {args : Array Value} {below : List Frame} {meth : Method} {c : Code} {Q : State → Prop}
variable {Z : ai_S} {cn : Nat → String} {sa : Nat → Nat} {D : va_G} {cl : List vw_C} {A : Nat → Prop} {ad0 : List Nat} {kc ks : Nat}
variable {cc : ByteArray} {pc t : Nat} {L L' : ai_L} {S S' : List Value} {h h' : ai_H} {pcs : Nat → Nat} {zc : Nat → String × u_T} {Ts : List Cond} {ty0 : Nat → Nat → FieldType} {own : String} {idx ci k0 : Nat} {G : ai_G}
theorem ai_At_push {ad : List Nat} {tys tt : List (ClassId × FieldType)} {ws : va_W} {H H1 : Heap} {locs : List Loc} {cells slots n a : Nat} {x : ai_C} {E : va_E} (ha : ai_At s Z cn sa D cl A ad0 kc ks h ad tys ws H locs cells slots)
    (hc : ai_c Z cn sa (ad ++ [a]) (tys ++ tt) x E) (hK : va_K D cl (tys ++ tt) s) (hP : va_P D cl (ws ++ [(a, E)]) H1) (hD : va_D A (ws ++ [(a, E)])) (hS : va_S A s.heap H1 locs) :
    ai_At s Z cn sa D cl A ad0 kc ks (h.1 ++ [x], h.2.1 + 1, h.2.2 + n) (ad ++ [a]) (tys ++ tt) (ws ++ [(a, E)]) H1 locs (cells + 1) (slots + n) := by
  obtain ⟨⟨q, q1⟩, q2, q3, hw, -⟩ := ha
  exact ⟨⟨q ++ [a], by rw [q1, List.append_assoc]⟩, by show h.2.1 + 1 = _; omega, by show h.2.2 + n = _; omega, ai_w_push hw hc, hK, hP, hD, hS⟩
theorem ai_new_ok (hx : p.tables.exec = Jvm.exec) (hb : c.code = cc) (hd : decode cc pc = .ok (.new idx, 3)) (hts : ∀ w ∈ Ts, w.before args s = true) (hcl : ai_clok Ts cl ty0) (hown : s.vm.findClass own = some m.cls) (hA : ∀ q, s.heap.size ≤ q → A q)
    {q : vw_C} (hq : cl[ci]? = some q) (hdf : ai_dok cl ty0 G.2.2.1) (hlk : (Cond.classLink own idx q.1).before args s = true) (hin : (Cond.instantiable q.1 q.2.2).before args s = true) (hini : (Cond.initialized q.1).before args s = true)
    (he : ai_new G ci L S h = some (t, L', S', h')) (hR1 : h'.2.1 ≤ kc + R.cells) (hR2 : h'.2.2 ≤ ks + R.slots) (k : ai_W p l e R s m args below meth c Q Z cn sa D cl A ad0 kc ks (ai_nx pcs pc 3 t) L' S' h') : ai_W p l e R s m args below meth c Q Z cn sa D cl A ad0 kc ks pc L S h := by
  simp only [ai_new, Option.some.injEq, Prod.mk.injEq] at he
  obtain ⟨rfl, rfl, rfl, rfl⟩ := he
  obtain ⟨d1, d2, d3⟩ := hdf _ _ hq
  intro ad tys ws H locs cells slots ls st ha hl hs
  obtain ⟨c1, c2, c3⟩ := hcl _ _ hq
  obtain ⟨C, T9, N⟩ := q
  have q2 : h.2.1 = kc + cells := ha.2.1
  have q3 : h.2.2 = ks + slots := ha.2.2.1
  have hR1 : h.2.1 + 1 ≤ kc + R.cells := hR1
  have hR2 : h.2.2 + (G.2.2.1 ci).length ≤ ks + R.slots := hR2
  have d2 : (G.2.2.1 ci).length = N := d2
  rw [d2] at hR2
  refine va_new (ci := ci) (fs := G.2.2.1 ci) (C := C) (T := T9) (N := N) hx hb hts c1 (ty0 ci) c2 hown hlk hin hini ha.2.2.2.2.1 ha.2.2.2.2.2.1 ha.2.2.2.2.2.2.1 ha.2.2.2.2.2.2.2 hA hq d1 (by omega) (by omega) hd (fun a H1 hP1 hD1 hS1 => ?_)
  have hK := ha.2.2.2.2.1
  have hA1 := ai_At_push (tt := []) (n := (G.2.2.1 ci).length) (x := ai_obj ci (G.2.2.1 ci)) (E := .inr (ci, G.2.2.1 ci)) ha ⟨_, rfl, ai_vs_df d3⟩ (by rw [List.append_nil]; exact hK) hP1 hD1 hS1
  rw [d2] at hA1
  rw [d2] at k
  exact k (ad ++ [a]) (tys ++ []) _ H1 locs (cells + 1) (slots + N) ls (.ref a :: st) hA1 (ai_l_more hl [a]) ⟨ai_v_new ha.2.2.2.1.2.1, ai_vs_more [a] hs⟩
theorem ai_fits0 {ty : FieldType} (h : ai_ty ty) : fits ty (.int 0) = true := by
  rcases h with rfl | rfl | rfl | rfl <;> rfl
theorem ai_def0 {ty : FieldType} (h : ai_ty ty) : defaultValue ty = .int 0 := by
  rcases h with rfl | rfl | rfl | rfl <;> rfl
theorem ai_comp8 (ty : FieldType) : componentBytes ty ≤ 8 := by
  cases ty <;> first | decide | exact Nat.le_of_ble_eq_true rfl
theorem ai_newa_ok (hx : p.tables.exec = Jvm.exec) (hb : c.code = cc) {at0 : ArrayType} (hd : decode cc pc = .ok (.newarray at0, 2)) (hA : ∀ q, s.heap.size ≤ q → A q) (hty : ai_ty (newarray.typeOf at0) ∨ newarray.typeOf at0 = .long) (harr : (Cond.arrayClass (newarray.typeOf at0)).before args s = true)
    (he : ai_newa (newarray.typeOf at0) L S h = some (t, L', S', h')) (hR1 : h'.2.1 ≤ kc + R.cells) (hR2 : h'.2.2 ≤ ks + R.slots) (k : ai_W p l e R s m args below meth c Q Z cn sa D cl A ad0 kc ks (ai_nx pcs pc 2 t) L' S' h') : ai_W p l e R s m args below meth c Q Z cn sa D cl A ad0 kc ks pc L S h := by
  unfold ai_newa at he
  split at he
  · rename_i n r
    split at he
    · rename_i hc
      obtain ⟨hn0, hn1⟩ := hc
      simp only [Option.some.injEq, Prod.mk.injEq] at he
      obtain ⟨rfl, rfl, rfl, rfl⟩ := he
      intro ad tys ws H locs cells slots ls st ha hl hs
      obtain ⟨V, T, rfl, hv, hs9⟩ := ai_vs_cons hs
      rw [show V = .int n from hv]
      have q2 : h.2.1 = kc + cells := ha.2.1
      have q3 : h.2.2 = ks + slots := ha.2.2.1
      have hR1 : h.2.1 + 1 ≤ kc + R.cells := hR1
      have hR2 : h.2.2 + n.toNatClampNeg ≤ ks + R.slots := hR2
      have hby : n.toNatClampNeg * componentBytes (newarray.typeOf at0) ≤ 536870912 := by
        have := Nat.mul_le_mul hn1 (ai_comp8 (newarray.typeOf at0))
        omega
      by_cases hlong : newarray.typeOf at0 = .long
      · rw [if_pos hlong] at k
        refine va_newa (a0 := (n.toNatClampNeg, .inr (.inl (fun _ => 0)))) hx hb harr rfl ha.2.2.2.2.1 ha.2.2.2.2.2.1 ha.2.2.2.2.2.2.1 ha.2.2.2.2.2.2.2 hA (fun cA => by rw [hlong]; rfl) hn0 rfl hby (by omega) (by omega) hd (fun a cA H1 hK1 hP1 hD1 hS1 => ?_)
        have hA1 := ai_At_push (tt := [(cA, newarray.typeOf at0)]) (n := n.toNatClampNeg) (x := ai_lng n.toNatClampNeg (fun _ => 0)) (E := .inl (cA, n.toNatClampNeg, .inr (.inl (fun _ => 0)))) ha ⟨cA, tys.length, rfl, by rw [← hlong]; simp⟩ hK1 hP1 hD1 hS1
        exact k (ad ++ [a]) _ _ H1 locs (cells + 1) (slots + n.toNatClampNeg) ls (.ref a :: T) hA1 (ai_l_more hl [a]) ⟨ai_v_new ha.2.2.2.1.2.1, ai_vs_more [a] hs9⟩
      · rw [if_neg hlong] at k
        have hty1 : ai_ty (newarray.typeOf at0) := hty.resolve_right hlong
        refine va_newa (a0 := (n.toNatClampNeg, .inl (fun _ => 0))) hx hb harr rfl ha.2.2.2.2.1 ha.2.2.2.2.2.1 ha.2.2.2.2.2.2.1 ha.2.2.2.2.2.2.2 hA (fun cA => by rw [ai_def0 hty1]; rfl) hn0 rfl hby (by omega) (by omega) hd (fun a cA H1 hK1 hP1 hD1 hS1 => ?_)
        have hA1 := ai_At_push (tt := [(cA, newarray.typeOf at0)]) (n := n.toNatClampNeg) (x := ai_num (newarray.typeOf at0) n.toNatClampNeg (fun _ => 0)) (E := .inl (cA, n.toNatClampNeg, .inl (fun _ => 0))) ha ⟨hty1, fun _ => ai_fits0 hty1, cA, tys.length, rfl, by simp⟩ hK1 hP1 hD1 hS1
        exact k (ad ++ [a]) _ _ H1 locs (cells + 1) (slots + n.toNatClampNeg) ls (.ref a :: T) hA1 (ai_l_more hl [a]) ⟨ai_v_new ha.2.2.2.1.2.1, ai_vs_more [a] hs9⟩
    · cases he
  · cases he
theorem ai_newq_ok (hx : p.tables.exec = Jvm.exec) (hb : c.code = cc) (hd : decode cc pc = .ok (.anewarray idx, 3)) (hown : s.vm.findClass own = some m.cls) (hA : ∀ q, s.heap.size ≤ q → A q) {C : String} (hlk : (Cond.classLink own idx C).before args s = true) (hover : va_AO C s)
    (he : ai_newq C L S h = some (t, L', S', h')) (hR1 : h'.2.1 ≤ kc + R.cells) (hR2 : h'.2.2 ≤ ks + R.slots) (k : ai_W p l e R s m args below meth c Q Z cn sa D cl A ad0 kc ks (ai_nx pcs pc 3 t) L' S' h') : ai_W p l e R s m args below meth c Q Z cn sa D cl A ad0 kc ks pc L S h := by
  unfold ai_newq at he
  split at he
  · rename_i n r
    split at he
    · rename_i hc
      obtain ⟨hn0, hn1⟩ := hc
      simp only [Option.some.injEq, Prod.mk.injEq] at he
      obtain ⟨rfl, rfl, rfl, rfl⟩ := he
      intro ad tys ws H locs cells slots ls st ha hl hs
      obtain ⟨V, T, rfl, hv, hs9⟩ := ai_vs_cons hs
      rw [show V = .int n from hv]
      have q2 : h.2.1 = kc + cells := ha.2.1
      have q3 : h.2.2 = ks + slots := ha.2.2.1
      have hR1 : h.2.1 + 1 ≤ kc + R.cells := hR1
      have hR2 : h.2.2 + n.toNatClampNeg ≤ ks + R.slots := hR2
      refine va_newq hx hb hown hlk hover ha.2.2.2.2.1 ha.2.2.2.2.2.1 ha.2.2.2.2.2.2.1 ha.2.2.2.2.2.2.2 hA hn0 rfl (by omega) (by omega) (by omega) hd (fun a cA H1 hK1 hP1 hD1 hS1 => ?_)
      have hA1 := ai_At_push (tt := [(cA, .object C)]) (n := n.toNatClampNeg) (x := ai_refs C n.toNatClampNeg (fun _ => .null)) (E := .inl (cA, n.toNatClampNeg, .inr (.inr (.inr (.inr (fun _ => none)))))) ha ⟨cA, tys.length, fun _ => none, rfl, by simp, fun _ => Or.inl ⟨rfl, rfl⟩⟩ hK1 hP1 hD1 hS1
      exact k (ad ++ [a]) _ _ H1 locs (cells + 1) (slots + n.toNatClampNeg) ls (.ref a :: T) hA1 (ai_l_more hl [a]) ⟨ai_v_new ha.2.2.2.1.2.1, ai_vs_more [a] hs9⟩
    · cases he
  · cases he
end AIN
end
section
section AIO
variable {p : Program} {l : Launch} {e : Env} {R : Room} {s : State} {m : MethodId} {args : Array Value} {below : List Frame} {meth : Method} {c : Code} {Q : State → Prop}
variable {Z : ai_S} {cn : Nat → String} {sa : Nat → Nat} {D : va_G} {cl : List vw_C} {A : Nat → Prop} {ad0 : List Nat} {kc ks : Nat}
variable {cc : ByteArray} {pc t : Nat} {L L' : ai_L} {S S' : List Value} {h h' : ai_H} {pcs : Nat → Nat} {zc : Nat → String × u_T} {own : String} {idx : Nat} {r : ai_R}
theorem ai_prim {ty : FieldType} (h : ai_ty ty) : refKind ty = false := by
  rcases h with rfl | rfl | rfl | rfl <;> rfl
theorem ai_cpy_fits {ty : FieldType} {f g : Nat → Int32} (hf : ∀ j, fits ty (.int (f j)) = true) (hg : ∀ j, fits ty (.int (g j)) = true) (sp dp n j : Nat) : fits ty (.int (va_cpy f g sp dp n j)) = true := by
  unfold va_cpy
  split
  · exact hf _
  · exact hg _
theorem ai_copy_ok (hx : p.tables.exec = Jvm.exec) (hb : c.code = cc) (hd : decode cc pc = .ok (.invokestatic idx, 3)) (hown : s.vm.findClass own = some m.cls) (hZ : ∀ k x, Z k = some x → ai_zc zc sa x (sa k) A s s.heap) (hcn : ∀ ci, cn ci = (zc ci).1)
    (hlink : (Cond.methodLink own idx arraycopyName).before args s = true) (hnat : (Cond.native arraycopyName).before args s = true) (hstat : (Cond.static arraycopyName).before args s = true) (hini : (Cond.initialized "java/lang/System").before args s = true)
    (hRf : 1 ≤ R.frames) (hRl : 8 + (nativeFrameWords "java/lang/System" "arraycopy" 5 + 11) ≤ R.locals)
    (he : ai_copy S h = some (S', h')) (hwt : ai_wt S' ≤ 8) (k : ai_W p l e R s m args below meth c Q Z cn sa D cl A ad0 kc ks (pc + 3) L S' h') : ai_W p l e R s m args below meth c Q Z cn sa D cl A ad0 kc ks pc L S h := by
  unfold ai_copy at he
  split at he
  · rename_i n dp d sp a r
    split at he
    · cases he
    · rename_i hpos
      have h1 : ¬ sp < 0 := fun z => hpos (Or.inr (Or.inr z))
      have h2 : ¬ dp < 0 := fun z => hpos (Or.inr (Or.inl z))
      have h3 : ¬ n < 0 := fun z => hpos (Or.inl z)
      split at he
      · rename_i t0 n0 f hla
        split at he
        · rename_i t1 n1 g hld
          split at he
          · rename_i hc
            obtain ⟨rfl, h4, h5⟩ := hc
            simp only [Option.some.injEq, Prod.mk.injEq] at he
            obtain ⟨rfl, rfl⟩ := he
            intro ad tys ws H locs cells slots ls st ha hl hs
            obtain ⟨V, T, rfl, hv, hs⟩ := ai_vs_cons hs
            obtain ⟨V2, T, rfl, hv2, hs⟩ := ai_vs_cons hs
            obtain ⟨V3, T, rfl, hv3, hs⟩ := ai_vs_cons hs
            obtain ⟨V4, T, rfl, hv4, hs⟩ := ai_vs_cons hs
            obtain ⟨V5, T, rfl, hv5, hs9⟩ := ai_vs_cons hs
            rw [show V = .int n from hv, show V2 = .int dp from hv2, show V4 = .int sp from hv4]
            have hwT : (T.map fun v => v.category).sum ≤ 8 := by
              have := ai_vs_wt hs9
              unfold ai_wt at this hwt
              omega
            obtain ⟨q1, q2, q3, hw, hK, hP, hD, hS⟩ := ha
            obtain ⟨a0, E0, rfl, g1, gty, gf, c0, i0, rfl, g2⟩ := ai_w_at hw hla hv5
            obtain ⟨a1, E1, rfl, e1, ety, ef, c1, i1, rfl, e2⟩ := ai_w_at hw hld hv3
            have hml : c.maxLocals = ls.size := by obtain ⟨_, lv, hlv, _⟩ := hl; exact hlv.1.symm
            refine va_copyi hx hb hml hown hlink hnat hstat hini hK hP hD hS a d i0 i1 g1 e1 g2 e2 (ai_prim gty) h1 h2 h3 h4 h5 (fun i _ => gf _) hRf (by omega) hd (fun H1 locs1 hP1 hD1 hS1 => ?_)
            exact k ad tys _ H1 locs1 cells slots ls T ⟨q1, q2, q3, ai_w_set hw e1 ⟨ety, fun j => ai_cpy_fits gf ef _ _ _ j, c1, i1, rfl, e2⟩, hK, hP1, hD1, hS1⟩ hl hs9
          · cases he
        · cases he
      · rename_i C0 n0 f hla
        split at he
        · rename_i C1 n1 g hld
          split at he
          · rename_i hc
            obtain ⟨rfl, h4, h5⟩ := hc
            simp only [Option.some.injEq, Prod.mk.injEq] at he
            obtain ⟨rfl, rfl⟩ := he
            intro ad tys ws H locs cells slots ls st ha hl hs
            obtain ⟨V, T, rfl, hv, hs⟩ := ai_vs_cons hs
            obtain ⟨V2, T, rfl, hv2, hs⟩ := ai_vs_cons hs
            obtain ⟨V3, T, rfl, hv3, hs⟩ := ai_vs_cons hs
            obtain ⟨V4, T, rfl, hv4, hs⟩ := ai_vs_cons hs
            obtain ⟨V5, T, rfl, hv5, hs9⟩ := ai_vs_cons hs
            rw [show V = .int n from hv, show V2 = .int dp from hv2, show V4 = .int sp from hv4]
            have hwT : (T.map fun v => v.category).sum ≤ 8 := by
              have := ai_vs_wt hs9
              unfold ai_wt at this hwt
              omega
            obtain ⟨q1, q2, q3, hw, hK, hP, hD, hS⟩ := ha
            obtain ⟨a0, E0, rfl, g1, c0, i0, f0, rfl, g2, g3⟩ := ai_w_at hw hla hv5
            obtain ⟨a1, E1, rfl, e1, c1, i1, f1, rfl, e2, e3⟩ := ai_w_at hw hld hv3
            have hml : c.maxLocals = ls.size := by obtain ⟨_, lv, hlv, _⟩ := hl; exact hlv.1.symm
            refine va_copyq (C := C0) hx hb hml hown hlink hnat hstat hini hK hP hD hS a d i0 i1 g1 e1 g2 e2 h1 h2 h3 h4 h5 (fun i _ y hy => ?_) (fun comp c0 z1 z2 => vb_asgS comp c0 z1 z2) hRf (by omega) hd (fun H1 locs1 hP1 hD1 hS1 => ?_)
            · rcases g3 (sp.toNatClampNeg + i) with ⟨-, z2⟩ | ⟨k9, ci, fs, z1, z2, z3, z4⟩
              · rw [z2] at hy; cases hy
              · rw [z2] at hy
                cases hy
                obtain ⟨hO, -⟩ := hZ k9 _ z3
                obtain ⟨cellV, o1, o2, o3, -⟩ := va_O.kept hO hS.2.1
                exact ⟨cellV, o1, o2, by rw [← z4, hcn]; exact o3⟩
            · refine k ad tys _ H1 locs1 cells slots ls T ⟨q1, q2, q3, ai_w_set hw e1 ⟨c1, i1, _, rfl, e2, fun j => ?_⟩, hK, hP1, hD1, hS1⟩ hl hs9
              unfold va_cpy
              split
              · exact g3 _
              · exact e3 _
          · cases he
        · cases he
      · cases he
  · cases he
theorem ai_objinit_ok (hx : p.tables.exec = Jvm.exec) (hb : c.code = cc) (hd : decode cc pc = .ok (.invokespecial idx, 3)) (hown : s.vm.findClass own = some m.cls) (hlink : (Cond.methodLink own idx Lib.objectInit).before args s = true) (hinst : (Cond.instanceMethod Lib.objectInit).before args s = true) (hcode : (Cond.code Lib.objectInit ⟨#[0xb1]⟩ 1 none).before args s = true)
    (hRf : 1 ≤ R.frames) (hRl : 20 ≤ R.locals) {i : Nat} (hwt : ai_wt S ≤ 8) (k : ai_W p l e R s m args below meth c Q Z cn sa D cl A ad0 kc ks (pc + 3) L S h) : ai_W p l e R s m args below meth c Q Z cn sa D cl A ad0 kc ks pc L (.ref i :: S) h := by
  intro ad tys ws H locs cells slots ls st ha hl hs
  obtain ⟨V, T, rfl, ⟨a, -, rfl⟩, hs9⟩ := ai_vs_cons hs
  have hml : ls.size = c.maxLocals := by obtain ⟨_, lv, hlv, _⟩ := hl; exact hlv.1
  have hwT : (T.map fun v => v.category).sum ≤ 8 := by
    have := ai_vs_wt hs9
    unfold ai_wt at this hwt
    omega
  have hmr : 2 * (F0 m pc ls (.ref a :: T)).monitorRoom + (T.map fun v => v.category).sum ≤ 8 := lv_room hwT
  exact W.objInit (g := F0 m pc ls (.ref a :: T)) hx hb hown hlink hinst hcode rfl hml rfl hd hRf (by omega) (k ad tys ws H locs cells slots ls T ha hl hs9)
theorem ai_acmp_ok {ac : ACond} {off : Int} (hx : p.tables.exec = Jvm.exec) (hb : c.code = cc) (hd : decode cc pc = .ok (.if_acmp ac off, 3)) (ht : (pc : Int) + off = (pcs (ai_tgt r) : Int)) (hsa : ∀ i j ci fs fs', Z i = some (ai_obj ci fs) → Z j = some (ai_obj ci fs') → sa i = sa j → i = j) {x y : Value} {b : Bool} (hsm : ai_same x y = some b) (hz : ai_zk Z x y = true)
    (he : ai_jump (ai_ac ac b) r L S h = some (t, L', S', h')) (k : ai_W p l e R s m args below meth c Q Z cn sa D cl A ad0 kc ks (ai_nx pcs pc 3 t) L' S' h') : ai_W p l e R s m args below meth c Q Z cn sa D cl A ad0 kc ks pc L (y :: x :: S) h := by
  intro ad tys ws H locs cells slots ls st ha hl hs
  obtain ⟨V, T, rfl, hv, hs⟩ := ai_vs_cons hs
  obtain ⟨V2, T, rfl, hv2, hs9⟩ := ai_vs_cons hs
  obtain ⟨rx, ry, rfl, rfl, hiff⟩ := ai_same_v hsa ha.2.2.2.1 ha.2.2.2.2.2.2.1 hz hsm hv2 hv
  have K : (t, L', S', h') = (t, L, S, h) → W p l e R s m args below meth c H locs cells slots Q (F0 m (ai_nx pcs pc 3 t) ls T) := fun hq => by
    simp only [Prod.mk.injEq, true_and] at hq
    obtain ⟨rfl, rfl, rfl⟩ := hq
    exact k ad tys ws H locs cells slots ls T ha hl hs9
  cases ac with
  | eq => exact ai_two (C := rx = ry) hiff (fun a b => lv_acmp_eq hx hb hd ht a b) he K
  | ne => exact ai_two (C := ¬ rx = ry) (by cases b <;> simp_all [ai_ac]) (fun a b => lv_acmp_ne hx hb hd ht a (fun z => b (fun y => y z))) he K
theorem ai_nul_v {ad : List Nat} {v V : Value} {b : Bool} (hn : ai_nul v = some b) (hv : ai_v sa ad v V) : (b = true ∧ V = .null) ∨ (b = false ∧ ∃ a, V = .ref a) := by
  cases v with
  | null => simp only [ai_nul, Option.some.injEq] at hn; exact Or.inl ⟨hn.symm, hv⟩
  | ref i => simp only [ai_nul, Option.some.injEq] at hn; obtain ⟨a, -, rfl⟩ := hv; exact Or.inr ⟨hn.symm, a, rfl⟩
  | retAddr i => simp only [ai_nul, Option.some.injEq] at hn; exact Or.inr ⟨hn.symm, _, hv⟩
  | _ => simp [ai_nul] at hn
theorem ai_ifnull_ok {off : Int} (hx : p.tables.exec = Jvm.exec) (hb : c.code = cc) (hd : decode cc pc = .ok (.ifnull off, 3)) (ht : (pc : Int) + off = (pcs (ai_tgt r) : Int)) {x : Value} {b : Bool} (hn : ai_nul x = some b)
    (he : ai_jump b r L S h = some (t, L', S', h')) (k : ai_W p l e R s m args below meth c Q Z cn sa D cl A ad0 kc ks (ai_nx pcs pc 3 t) L' S' h') : ai_W p l e R s m args below meth c Q Z cn sa D cl A ad0 kc ks pc L (x :: S) h := by
  simp only [ai_jump, Option.some.injEq, Prod.mk.injEq] at he
  obtain ⟨rfl, rfl, rfl, rfl⟩ := he
  intro ad tys ws H locs cells slots ls st ha hl hs
  obtain ⟨V, T, rfl, hv, hs9⟩ := ai_vs_cons hs
  have K := k ad tys ws H locs cells slots ls T ha hl hs9
  rcases ai_nul_v hn hv with ⟨rfl, rfl⟩ | ⟨rfl, a, rfl⟩
  · exact lv_ifnullN hx hb hd ht K
  · exact lv_ifnull hx hb hd K
theorem ai_ifnonnull_ok {off : Int} (hx : p.tables.exec = Jvm.exec) (hb : c.code = cc) (hd : decode cc pc = .ok (.ifnonnull off, 3)) (ht : (pc : Int) + off = (pcs (ai_tgt r) : Int)) {x : Value} {b : Bool} (hn : ai_nul x = some b)
    (he : ai_jump (!b) r L S h = some (t, L', S', h')) (k : ai_W p l e R s m args below meth c Q Z cn sa D cl A ad0 kc ks (ai_nx pcs pc 3 t) L' S' h') : ai_W p l e R s m args below meth c Q Z cn sa D cl A ad0 kc ks pc L (x :: S) h := by
  simp only [ai_jump, Option.some.injEq, Prod.mk.injEq] at he
  obtain ⟨rfl, rfl, rfl, rfl⟩ := he
  intro ad tys ws H locs cells slots ls st ha hl hs
  obtain ⟨V, T, rfl, hv, hs9⟩ := ai_vs_cons hs
  have K := k ad tys ws H locs cells slots ls T ha hl hs9
  rcases ai_nul_v hn hv with ⟨rfl, rfl⟩ | ⟨rfl, a, rfl⟩
  · exact lv_ifnonnullN hx hb hd K
  · exact lv_ifnonnull hx hb hd ht K
end AIO
end
section
/-- what the tables must say of an instruction at pc: its length, where it leads -/
def ai_lk (s : State) (args : Array Value) (meth : Method) (own : String) (sa : Nat → Nat) (A : Nat → Prop) (zc : Nat → String × u_T) (cl : List vw_C) (pcs : Nat → Nat) (pc : Nat) (i : Instr) (len : Nat) (r : ai_R) : Prop := match i with
  | .ldc idx => len = 2 ∧ ((ai_nth r 0 = 1 ∧ (Cond.constant own idx (Int32.ofInt (ai_nth r 1))).before args s = true) ∨ (ai_nth r 0 = 2 ∧ ∃ tx, vk_R own idx tx (sa (ai_nth r 1).toNat) s))
  | .ldc_w idx => len = 3 ∧ ((ai_nth r 0 = 1 ∧ (Cond.constant own idx (Int32.ofInt (ai_nth r 1))).before args s = true) ∨ (ai_nth r 0 = 2 ∧ ∃ tx, vk_R own idx tx (sa (ai_nth r 1).toNat) s))
  | .getstatic idx => len = 3 ∧ ∃ C n d V, va_Z C n d V A s s.heap ∧ ai_fl s args own idx (C, n, d, false) ∧ ((ai_nth r 0 = 1 ∧ V = .int (Int32.ofInt (ai_nth r 1))) ∨ (ai_nth r 0 = 2 ∧ V = .ref (sa (ai_nth r 1).toNat)) ∨ (ai_nth r 0 = 3 ∧ (V = .null ∨ ∃ a, V = .ref a)))
  | .getfield idx => len = 3 ∧ (∀ q, cl[(ai_nth r 0).toNat]? = some q → (ai_nth r 1).toNat < q.2.2 ∧ ai_fl s args own idx (q.2.1 (ai_nth r 1).toNat)) ∧ (cl[(ai_nth r 0).toNat]? = none → ai_fl s args own idx ((zc (ai_nth r 0).toNat).2 (ai_nth r 1).toNat))
  | .putfield idx => len = 3 ∧ ∃ q, cl[(ai_nth r 0).toNat]? = some q ∧ (ai_nth r 1).toNat < q.2.2 ∧ (Cond.fieldLink own idx (q.2.1 (ai_nth r 1).toNat).1 (q.2.1 (ai_nth r 1).toNat).2.1 (q.2.1 (ai_nth r 1).toNat).2.2.1).before args s = true ∧ ((q.2.1 (ai_nth r 1).toNat).2.2.2 = false ∨ (meth.name = "<init>" ∧ (q.2.1 (ai_nth r 1).toNat).1 = own))
  | .new idx => len = 3 ∧ ∃ q, cl[(ai_nth r 0).toNat]? = some q ∧ (Cond.classLink own idx q.1).before args s = true ∧ (Cond.instantiable q.1 q.2.2).before args s = true ∧ (Cond.initialized q.1).before args s = true
  | .newarray t => len = 2 ∧ (ai_ty (newarray.typeOf t) ∨ newarray.typeOf t = .long) ∧ (Cond.arrayClass (newarray.typeOf t)).before args s = true
  | .anewarray idx => len = 3 ∧ (Cond.classLink own idx r.2.2).before args s = true ∧ va_AO r.2.2 s
  | .instanceof idx => len = 3 ∧ (Cond.classLink own idx r.2.2).before args s = true
  | .checkcast idx => len = 3 ∧ (Cond.classLink own idx r.2.2).before args s = true
  | .ifCond _ off => len = 3 ∧ (pc : Int) + off = (pcs (ai_tgt r) : Int)
  | .if_icmp _ off => len = 3 ∧ (pc : Int) + off = (pcs (ai_tgt r) : Int)
  | .if_acmp _ off => len = 3 ∧ (pc : Int) + off = (pcs (ai_tgt r) : Int)
  | .ifnull off => len = 3 ∧ (pc : Int) + off = (pcs (ai_tgt r) : Int)
  | .ifnonnull off => len = 3 ∧ (pc : Int) + off = (pcs (ai_tgt r) : Int)
  | .goto off => len = 3 ∧ (pc : Int) + off = (pcs (ai_tgt r) : Int)
  | .tableswitch d lo hi offs => (pc : Int) + d = (pcs (ai_tgt r) : Int) ∧ ∀ j : Nat, (j : Int) ≤ hi - lo → ∃ off, offs[j]? = some off ∧ (pc : Int) + off = (pcs (ai_nth r (j + 1)).toNat : Int)
  | .iinc _ _ => len = 3
  | .sipush _ => len = 3
  | .bipush _ => len = 2
  | .iload _ => len = 2
  | .aload _ => len = 2
  | .istore _ => len = 2
  | .astore _ => len = 2
  | _ => len = 1
section AIS
variable {p : Program} {l : Launch} {e : Env} {R : Room} {s : State} {m : MethodId} {args : Array Value} {below : List Frame} {meth : Method} {c : Code} {Q : State → Prop}
variable {Z : ai_S} {sa : Nat → Nat} {D : va_G} {cl : List vw_C} {A : Nat → Prop} {ad0 : List Nat} {kc ks : Nat}
variable {cc : ByteArray} {pc t len : Nat} {L L' : ai_L} {S S' : List Value} {h h' : ai_H} {pcs : Nat → Nat} {zc : Nat → String × u_T} {Ts : List Cond} {ty0 : Nat → Nat → FieldType} {own : String} {G : ai_G} {i : Instr} {r : ai_R}
theorem ai_ldcSW {H : Heap} {locs : List Loc} {cells slots : Nat} {ls : Array Slot} {rest : List Value} (hexec : p.tables.exec = Jvm.exec) (hb : c.code = cc) {tx : String} {index q : Nat} (hown : s.vm.findClass own = some m.cls) (hZ : vk_R own index tx q s) (hdg : decode cc pc = .ok (.ldc_w index, 3))
    (k : W p l e R s m args below meth c H locs cells slots Q (F0 m (pc + 3) ls (.ref q :: rest))) : W p l e R s m args below meth c H locs cells slots Q (F0 m pc ls rest) := by
  intro T hT X
  obtain ⟨t, a1, b1⟩ := k T hT X
  exact ⟨t, X.ldcStringW hexec hown (text := tx) (a := q) hZ.1 hZ.2 (g := F0 m pc ls rest) rfl (by rw [hb]; exact hdg) t a1, b1⟩
theorem ai_const_cases {he : ai_const r L S h = some (t, L', S', h')} : t = 0 ∧ L' = L ∧ h' = h ∧ ((ai_nth r 0 = 1 ∧ S' = .int (Int32.ofInt (ai_nth r 1)) :: S) ∨ (ai_nth r 0 = 2 ∧ S' = .retAddr (ai_nth r 1).toNat :: S) ∨ (ai_nth r 0 = 3 ∧ S' = .float 0 :: S)) := by
  unfold ai_const at he
  split at he
  · rename_i h0
    simp only [Option.some.injEq, Prod.mk.injEq] at he
    obtain ⟨rfl, rfl, rfl, rfl⟩ := he
    exact ⟨rfl, rfl, rfl, Or.inl ⟨h0, rfl⟩⟩
  · rename_i h0
    simp only [Option.some.injEq, Prod.mk.injEq] at he
    obtain ⟨rfl, rfl, rfl, rfl⟩ := he
    exact ⟨rfl, rfl, rfl, Or.inr (Or.inl ⟨h0, rfl⟩)⟩
  · rename_i h0
    simp only [Option.some.injEq, Prod.mk.injEq] at he
    obtain ⟨rfl, rfl, rfl, rfl⟩ := he
    exact ⟨rfl, rfl, rfl, Or.inr (Or.inr ⟨h0, rfl⟩)⟩
  · cases he
theorem ai_isof_ok (hZ : ∀ k x, G.1 k = some x → ai_zc zc sa x (sa k) A s s.heap) (hcn : ∀ ci, G.2.1 ci = (zc ci).1) {nm : String} {v V : Value} {ad : List Nat} {H : Heap} {locs : List Loc} (hS : va_S A s.heap H locs) (hi : ai_isof G nm v = true) (hv : ai_v sa ad v V) : ∃ a, V = .ref a ∧ ∃ cell : Cell, H[a]? = some cell ∧ cell.vm.isStatics = false ∧ s.vm.findClass nm = some cell.cls := by
  cases v with
  | retAddr k =>
    simp only [ai_isof] at hi
    split at hi
    · rename_i ci fs hz
      refine ⟨sa k, hv, ?_⟩
      obtain ⟨hO, -⟩ := hZ k _ hz
      obtain ⟨cellV, o1, o2, o3, -⟩ := va_O.kept hO hS.2.1
      have hn : G.2.1 ci = nm := of_decide_eq_true hi
      exact ⟨cellV, o1, o2, by rw [← hn, hcn]; exact o3⟩
    · cases hi
  | _ => cases hi
set_option maxHeartbeats 1000000 in
/-- a plain instruction: what the small machine does with it the large one does -/
theorem ai_eff_ok (hx : p.tables.exec = Jvm.exec) (hb : c.code = cc) (hd : decode cc pc = .ok (i, len)) (hlk : ai_lk s args meth own sa A zc cl pcs pc i len r) (hts : ∀ w ∈ Ts, w.before args s = true) (hcl : ai_clok Ts cl ty0) (hown : s.vm.findClass own = some m.cls) (hA : ∀ q, s.heap.size ≤ q → A q) (hdf : ai_dok cl ty0 G.2.2.1)
    (hG4 : G.2.2.2 = fun ci k v => ai_fit (ty0 ci k) v) (hcn : ∀ ci, G.2.1 ci = (zc ci).1)
    (hZ : ∀ k x, G.1 k = some x → ai_zc zc sa x (sa k) A s s.heap) (hcZ : ∀ j ci fs, G.1 j = some (ai_obj ci fs) → cl[ci]? = none) (hsa : ∀ i j ci fs fs', G.1 i = some (ai_obj ci fs) → G.1 j = some (ai_obj ci fs') → sa i = sa j → i = j)
    (he : ai_eff G i r L S h = some (t, L', S', h')) (hR1 : h'.2.1 ≤ kc + R.cells) (hR2 : h'.2.2 ≤ ks + R.slots) (k : ai_W p l e R s m args below meth c Q G.1 G.2.1 sa D cl A ad0 kc ks (ai_nx pcs pc len t) L' S' h') : ai_W p l e R s m args below meth c Q G.1 G.2.1 sa D cl A ad0 kc ks pc L S h := by
  cases i with
  | aconst_null =>
    have hl9 : len = 1 := hlk
    subst hl9
    simp only [ai_eff, Option.some.injEq, Prod.mk.injEq] at he
    obtain ⟨rfl, rfl, rfl, rfl⟩ := he
    exact ai_push (v := .null) (V := .null) (fun _ => rfl) (fun H locs cells slots ls st _ k9 => lv_null hx hb hd k9) k
  | iconst n =>
    have hl9 : len = 1 := hlk
    subst hl9
    simp only [ai_eff, Option.some.injEq, Prod.mk.injEq] at he
    obtain ⟨rfl, rfl, rfl, rfl⟩ := he
    exact ai_push (v := .int (Int32.ofInt n)) (V := .int (Int32.ofInt n)) (fun _ => rfl) (fun H locs cells slots ls st _ k9 => lv_iconst hx hb hd rfl k9) k
  | bipush n =>
    have hl9 : len = 2 := hlk
    subst hl9
    simp only [ai_eff, Option.some.injEq, Prod.mk.injEq] at he
    obtain ⟨rfl, rfl, rfl, rfl⟩ := he
    exact ai_push (v := .int (Int8.ofInt n).toInt32) (V := .int (Int8.ofInt n).toInt32) (fun _ => rfl) (fun H locs cells slots ls st _ k9 => lv_bipush hx hb hd rfl k9) k
  | sipush n =>
    have hl9 : len = 3 := hlk
    subst hl9
    simp only [ai_eff, Option.some.injEq, Prod.mk.injEq] at he
    obtain ⟨rfl, rfl, rfl, rfl⟩ := he
    exact ai_push (v := .int (Int16.ofInt n).toInt32) (V := .int (Int16.ofInt n).toInt32) (fun _ => rfl) (fun H locs cells slots ls st _ k9 => lv_sipush hx hb hd rfl k9) k
  | ldc idx =>
    obtain ⟨hl9, hlk⟩ := hlk
    subst hl9
    obtain ⟨rfl, rfl, rfl, hh⟩ := ai_const_cases (he := he)
    rcases hlk with ⟨z1, z2⟩ | ⟨z1, tx, z2⟩
    · rcases hh with ⟨-, rfl⟩ | ⟨y1, -⟩ | ⟨y1, -⟩
      · exact ai_push (v := .int (Int32.ofInt (ai_nth r 1))) (V := .int (Int32.ofInt (ai_nth r 1))) (fun _ => rfl) (fun H locs cells slots ls st _ k9 => lv_ldc hx hb hown z2 hd k9) k
      · rw [z1] at y1; cases y1
      · rw [z1] at y1; cases y1
    · rcases hh with ⟨y1, -⟩ | ⟨-, rfl⟩ | ⟨y1, -⟩
      · rw [z1] at y1; cases y1
      · exact ai_push (v := .retAddr (ai_nth r 1).toNat) (V := .ref (sa (ai_nth r 1).toNat)) (fun _ => rfl) (fun H locs cells slots ls st _ k9 => va_ldcS hx hb hown z2 hd k9) k
      · rw [z1] at y1; cases y1
  | ldc_w idx =>
    obtain ⟨hl9, hlk⟩ := hlk
    subst hl9
    obtain ⟨rfl, rfl, rfl, hh⟩ := ai_const_cases (he := he)
    rcases hlk with ⟨z1, z2⟩ | ⟨z1, tx, z2⟩
    · rcases hh with ⟨-, rfl⟩ | ⟨y1, -⟩ | ⟨y1, -⟩
      · exact ai_push (v := .int (Int32.ofInt (ai_nth r 1))) (V := .int (Int32.ofInt (ai_nth r 1))) (fun _ => rfl) (fun H locs cells slots ls st _ k9 => lv_ldcw hx hb hown z2 hd k9) k
      · rw [z1] at y1; cases y1
      · rw [z1] at y1; cases y1
    · rcases hh with ⟨y1, -⟩ | ⟨-, rfl⟩ | ⟨y1, -⟩
      · rw [z1] at y1; cases y1
      · exact ai_push (v := .retAddr (ai_nth r 1).toNat) (V := .ref (sa (ai_nth r 1).toNat)) (fun _ => rfl) (fun H locs cells slots ls st _ k9 => ai_ldcSW hx hb hown z2 hd k9) k
      · rw [z1] at y1; cases y1
  | getstatic idx =>
    obtain ⟨hl9, C, n, d, V, hz, hfl, hV⟩ := hlk
    subst hl9
    obtain ⟨rfl, rfl, rfl, hh⟩ := ai_const_cases (he := he)
    have row : ∀ (H : Heap) (locs : List Loc) (cells slots : Nat) (ls : Array Slot) (st : List Value), va_S A s.heap H locs → W p l e R s m args below meth c H locs cells slots Q (F0 m (pc + 3) ls (V :: st)) → W p l e R s m args below meth c H locs cells slots Q (F0 m pc ls st) := by
      intro H locs cells slots ls st hS k9
      rcases hfl with hfl | ⟨host, hfl⟩
      · exact va_gets hx hb hz hS hown hfl (fun _ h9 => h9) hd k9
      · exact va_getsN hx hb hz hS hown hfl (fun _ h9 => h9) hd k9
    rcases hV with ⟨z1, rfl⟩ | ⟨z1, rfl⟩ | ⟨z1, hV⟩
    · rcases hh with ⟨-, rfl⟩ | ⟨y1, -⟩ | ⟨y1, -⟩
      · exact ai_push (v := .int (Int32.ofInt (ai_nth r 1))) (fun _ => rfl) row k
      · rw [z1] at y1; cases y1
      · rw [z1] at y1; cases y1
    · rcases hh with ⟨y1, -⟩ | ⟨-, rfl⟩ | ⟨y1, -⟩
      · rw [z1] at y1; cases y1
      · exact ai_push (v := .retAddr (ai_nth r 1).toNat) (fun _ => rfl) row k
      · rw [z1] at y1; cases y1
    · rcases hh with ⟨y1, -⟩ | ⟨y1, -⟩ | ⟨-, rfl⟩
      · rw [z1] at y1; cases y1
      · rw [z1] at y1; cases y1
      · exact ai_push (v := .float 0) (fun _ => hV) row k
  | iload j =>
    have hl9 : len = 2 := hlk
    subst hl9
    exact ai_iload_ok (i := j) (n := 2) (fun x H locs cells slots ls st h9 k9 => lv_iload hx hb hd h9 k9) he k
  | iload_n j =>
    have hl9 : len = 1 := hlk
    subst hl9
    exact ai_iload_ok (i := j.val) (n := 1) (fun x H locs cells slots ls st h9 k9 => lv_iload_n hx hb hd rfl h9 k9) he k
  | aload j =>
    have hl9 : len = 2 := hlk
    subst hl9
    exact ai_aload_ok (i := j) (n := 2) (fun x H locs cells slots ls st h9 k9 => lv_aload hx hb hd h9 k9) (fun H locs cells slots ls st h9 k9 => lv_aloadN hx hb hd h9 k9) he k
  | aload_n j =>
    have hl9 : len = 1 := hlk
    subst hl9
    exact ai_aload_ok (i := j.val) (n := 1) (fun x H locs cells slots ls st h9 k9 => lv_aload_n hx hb hd rfl h9 k9) (fun H locs cells slots ls st h9 k9 => lv_aload_nN hx hb hd rfl h9 k9) he k
  | istore j =>
    have hl9 : len = 2 := hlk
    subst hl9
    exact ai_istore_ok (i := j) (n := 2) (fun x H locs cells slots ls lv st h8 h9 k9 => lv_istore hx hb hd h8 h9 rfl k9) he k
  | istore_n j =>
    have hl9 : len = 1 := hlk
    subst hl9
    exact ai_istore_ok (i := j.val) (n := 1) (fun x H locs cells slots ls lv st h8 h9 k9 => lv_istore_n hx hb hd rfl h8 h9 rfl k9) he k
  | astore j =>
    have hl9 : len = 2 := hlk
    subst hl9
    exact ai_astore_ok (i := j) (n := 2) (fun x H locs cells slots ls lv st h8 h9 k9 => lv_astore hx hb hd h8 h9 rfl k9) (fun H locs cells slots ls lv st h8 h9 k9 => lv_astoreN hx hb hd h8 h9 rfl k9) he k
  | astore_n j =>
    have hl9 : len = 1 := hlk
    subst hl9
    exact ai_astore_ok (i := j.val) (n := 1) (fun x H locs cells slots ls lv st h8 h9 k9 => lv_astore_n hx hb hd rfl h8 h9 rfl k9) (fun H locs cells slots ls lv st h8 h9 k9 => lv_astore_nN hx hb hd rfl h8 h9 rfl k9) he k
  | iinc j z =>
    have hl9 : len = 3 := hlk
    subst hl9
    exact ai_inc_ok hx hb hd he k
  | iadd =>
    have hl9 : len = 1 := hlk
    subst hl9
    exact ai_bin_ok (fun x y H locs cells slots ls st k9 => lv_iadd hx hb hd k9) he k
  | isub =>
    have hl9 : len = 1 := hlk
    subst hl9
    exact ai_bin_ok (fun x y H locs cells slots ls st k9 => lv_isub hx hb hd k9) he k
  | imul =>
    have hl9 : len = 1 := hlk
    subst hl9
    exact ai_bin_ok (fun x y H locs cells slots ls st k9 => lv_imul hx hb hd k9) he k
  | iand =>
    have hl9 : len = 1 := hlk
    subst hl9
    exact ai_bin_ok (fun x y H locs cells slots ls st k9 => lv_iand hx hb hd k9) he k
  | ior =>
    have hl9 : len = 1 := hlk
    subst hl9
    exact ai_bin_ok (fun x y H locs cells slots ls st k9 => lv_ior hx hb hd k9) he k
  | ixor =>
    have hl9 : len = 1 := hlk
    subst hl9
    exact ai_bin_ok (fun x y H locs cells slots ls st k9 => lv_ixor hx hb hd k9) he k
  | ishl =>
    have hl9 : len = 1 := hlk
    subst hl9
    exact ai_bin_ok (fun x y H locs cells slots ls st k9 => lv_ishl hx hb hd k9) he k
  | ishr =>
    have hl9 : len = 1 := hlk
    subst hl9
    exact ai_bin_ok (fun x y H locs cells slots ls st k9 => lv_ishr hx hb hd k9) he k
  | iushr =>
    have hl9 : len = 1 := hlk
    subst hl9
    exact ai_bin_ok (fun x y H locs cells slots ls st k9 => lv_iushr hx hb hd rfl k9) he k
  | idiv =>
    have hl9 : len = 1 := hlk
    subst hl9
    exact ai_divs_ok (fun x y H locs cells slots ls st h9 k9 => lv_idiv hx hb hd h9 k9) he k
  | irem =>
    have hl9 : len = 1 := hlk
    subst hl9
    exact ai_divs_ok (fun x y H locs cells slots ls st h9 k9 => lv_irem hx hb hd h9 k9) he k
  | ineg =>
    have hl9 : len = 1 := hlk
    subst hl9
    exact ai_un_ok (f := fun x => .int (-x)) (fun _ _ => rfl) (fun x H locs cells slots ls st k9 => lv_ineg hx hb hd k9) he k
  | i2b =>
    have hl9 : len = 1 := hlk
    subst hl9
    exact ai_un_ok (f := fun x => .int x.toInt8.toInt32) (fun _ _ => rfl) (fun x H locs cells slots ls st k9 => lv_i2b hx hb hd rfl k9) he k
  | i2s =>
    have hl9 : len = 1 := hlk
    subst hl9
    exact ai_un_ok (f := fun x => .int x.toInt16.toInt32) (fun _ _ => rfl) (fun x H locs cells slots ls st k9 => lv_i2s hx hb hd rfl k9) he k
  | i2c =>
    have hl9 : len = 1 := hlk
    subst hl9
    exact ai_un_ok (f := fun x => .int (x.toUInt32 % 65536).toInt32) (fun _ _ => rfl) (fun x H locs cells slots ls st k9 => lv_i2c hx hb hd rfl k9) he k
  | i2l =>
    have hl9 : len = 1 := hlk
    subst hl9
    exact ai_un_ok (f := fun x => .long x.toInt64) (fun _ _ => rfl) (fun x H locs cells slots ls st k9 => lv_i2l hx hb hd rfl k9) he k
  | pop =>
    have hl9 : len = 1 := hlk
    subst hl9
    simp only [ai_eff] at he
    refine ai_dup_ok (fun v r0 r' V T ad H locs cells slots ls hc hf hv hs => ?_) he k
    cases hf
    exact ⟨T, hs, fun k9 => lv_pop hx hb hd ((ai_v_cat hv).trans hc) k9⟩
  | dup =>
    have hl9 : len = 1 := hlk
    subst hl9
    simp only [ai_eff] at he
    refine ai_dup_ok (fun v r0 r' V T ad H locs cells slots ls hc hf hv hs => ?_) he k
    cases hf
    exact ⟨V :: V :: T, ⟨hv, hv, hs⟩, fun k9 => lv_dup hx hb hd ((ai_v_cat hv).trans hc) k9⟩
  | dup_x1 =>
    have hl9 : len = 1 := hlk
    subst hl9
    simp only [ai_eff] at he
    refine ai_dup_ok (fun v r0 r' V T ad H locs cells slots ls hc hf hv hs => ?_) he k
    split at hf
    · rename_i w r1
      split at hf
      · rename_i hw
        cases hf
        obtain ⟨V2, T, rfl, hv2, hs9⟩ := ai_vs_cons hs
        exact ⟨V :: V2 :: V :: T, ⟨hv, hv2, hv, hs9⟩, fun k9 => lv_dup_x1 hx hb hd ((ai_v_cat hv).trans hc) ((ai_v_cat hv2).trans hw) k9⟩
      · cases hf
    · cases hf
  | dup_x2 =>
    have hl9 : len = 1 := hlk
    subst hl9
    simp only [ai_eff] at he
    refine ai_dup_ok (fun v r0 r' V T ad H locs cells slots ls hc hf hv hs => ?_) he k
    split at hf
    · rename_i w z r1
      split at hf
      · rename_i hw
        cases hf
        obtain ⟨V2, T, rfl, hv2, hs8⟩ := ai_vs_cons hs
        obtain ⟨V3, T, rfl, hv3, hs9⟩ := ai_vs_cons hs8
        exact ⟨V :: V2 :: V3 :: V :: T, ⟨hv, hv2, hv3, hv, hs9⟩, fun k9 => lv_dup_x2 hx hb hd ((ai_v_cat hv).trans hc) ((ai_v_cat hv2).trans hw.1) ((ai_v_cat hv3).trans hw.2) k9⟩
      · cases hf
    · cases hf
  | dup2 =>
    have hl9 : len = 1 := hlk
    subst hl9
    simp only [ai_eff] at he
    refine ai_dup_ok (fun v r0 r' V T ad H locs cells slots ls hc hf hv hs => ?_) he k
    split at hf
    · rename_i w r1
      split at hf
      · rename_i hw
        cases hf
        obtain ⟨V2, T, rfl, hv2, hs9⟩ := ai_vs_cons hs
        exact ⟨V :: V2 :: V :: V2 :: T, ⟨hv, hv2, hv, hv2, hs9⟩, fun k9 => lv_dup2_11 hx hb hd ((ai_v_cat hv).trans hc) ((ai_v_cat hv2).trans hw) k9⟩
      · cases hf
    · cases hf
  | ifCond cd off =>
    obtain ⟨hl9, ht⟩ := hlk
    subst hl9
    simp only [ai_eff] at he
    split at he
    · exact ai_if_ok hx hb hd ht he k
    · cases he
  | if_icmp cd off =>
    obtain ⟨hl9, ht⟩ := hlk
    subst hl9
    simp only [ai_eff] at he
    split at he
    · exact ai_icmp_ok hx hb hd ht he k
    · cases he
  | if_acmp cd off =>
    obtain ⟨hl9, ht⟩ := hlk
    subst hl9
    simp only [ai_eff] at he
    split at he
    · split at he
      · rename_i b hsm
        split at he
        · rename_i hz
          exact ai_acmp_ok hx hb hd ht hsa hsm hz he k
        · cases he
      · cases he
    · cases he
  | ifnull off =>
    obtain ⟨hl9, ht⟩ := hlk
    subst hl9
    simp only [ai_eff] at he
    split at he
    · split at he
      · rename_i b hsm
        exact ai_ifnull_ok hx hb hd ht hsm he k
      · cases he
    · cases he
  | ifnonnull off =>
    obtain ⟨hl9, ht⟩ := hlk
    subst hl9
    simp only [ai_eff] at he
    split at he
    · split at he
      · rename_i b hsm
        exact ai_ifnonnull_ok hx hb hd ht hsm he k
      · cases he
    · cases he
  | lcmp =>
    have hl9 : len = 1 := hlk
    subst hl9
    simp only [ai_eff] at he
    split at he
    · simp only [Option.some.injEq, Prod.mk.injEq] at he
      obtain ⟨rfl, rfl, rfl, rfl⟩ := he
      exact ai_lcmp_ok hx hb hd k
    · cases he
  | goto off =>
    obtain ⟨hl9, ht⟩ := hlk
    subst hl9
    exact ai_goto_ok hx hb hd ht he k
  | tableswitch d lo hi offs =>
    obtain ⟨ht, hof⟩ := hlk
    simp only [ai_eff] at he
    split at he
    · exact ai_tsw_ok hx hb hd ht hof he k
    · cases he
  | getfield idx =>
    obtain ⟨hl9, h1, h2⟩ := hlk
    subst hl9
    exact ai_getf_ok hx hb hd hts hcl hown hZ h1 h2 (fun j fs => hcZ j _ fs) he k
  | putfield idx =>
    obtain ⟨hl9, q, h1, h2, h3, h4⟩ := hlk
    subst hl9
    simp only [ai_eff, hG4] at he
    exact ai_putf_ok hx hb hd hts hcl hown h1 h2 h3 h4 he k
  | iaload =>
    have hl9 : len = 1 := hlk
    subst hl9
    exact ai_ald_ok hZ (ty := .int) (fun D cl tys ws q0 t0 a cA n f i H locs cells slots ls st hK hP ha ht hin k9 => va_iald hx hb hK hP q0 t0 ha ht hin hd k9) (fun a N f i H locs cells slots ls st hT hS hin k9 => va_ti hx hb hT hS hin rfl hd k9) he k
  | baload =>
    have hl9 : len = 1 := hlk
    subst hl9
    exact ai_ald_ok hZ (ty := .byte) (fun D cl tys ws q0 t0 a cA n f i H locs cells slots ls st hK hP ha ht hin k9 => va_bald hx hb hK hP q0 t0 ha ht hin hd k9) (fun a N f i H locs cells slots ls st hT hS hin k9 => va_tb hx hb hT hS hin rfl hd k9) he k
  | saload =>
    have hl9 : len = 1 := hlk
    subst hl9
    exact ai_ald_ok hZ (ty := .short) (fun D cl tys ws q0 t0 a cA n f i H locs cells slots ls st hK hP ha ht hin k9 => va_sald hx hb hK hP q0 t0 ha ht hin hd k9) (fun a N f i H locs cells slots ls st hT hS hin k9 => va_ts hx hb hT hS hin rfl hd k9) he k
  | laload =>
    have hl9 : len = 1 := hlk
    subst hl9
    exact ai_lald_ok hx hb hd he k
  | aaload =>
    have hl9 : len = 1 := hlk
    subst hl9
    exact ai_aald_ok hx hb hd hZ he k
  | iastore =>
    have hl9 : len = 1 := hlk
    subst hl9
    exact ai_ast_ok (fun _ => rfl) (fun D cl tys ws q0 t0 a cA n f i x H locs cells slots ls st hK hP hD hS ha ht hin k9 => va_iast hx hb hK hP hD hS q0 t0 ha ht hin hd k9) he k
  | bastore =>
    have hl9 : len = 1 := hlk
    subst hl9
    exact ai_ast_ok (fun x => by rw [vp_nar_byte]; exact pk_fb x) (fun D cl tys ws q0 t0 a cA n f i x H locs cells slots ls st hK hP hD hS ha ht hin k9 => va_bast hx hb hK hP hD hS q0 t0 ha ht hin hd k9) he k
  | sastore =>
    have hl9 : len = 1 := hlk
    subst hl9
    exact ai_ast_ok (fun x => by rw [vp_nar_short]; exact pk_fs x) (fun D cl tys ws q0 t0 a cA n f i x H locs cells slots ls st hK hP hD hS ha ht hin k9 => va_sast hx hb hK hP hD hS q0 t0 ha ht hin hd k9) he k
  | lastore =>
    have hl9 : len = 1 := hlk
    subst hl9
    exact ai_last_ok hx hb hd he k
  | aastore =>
    have hl9 : len = 1 := hlk
    subst hl9
    exact ai_aast_ok hx hb hd hZ hcn he k
  | arraylength =>
    have hl9 : len = 1 := hlk
    subst hl9
    exact ai_alen_ok hx hb hd hZ he k
  | newarray t0 =>
    obtain ⟨hl9, h1, h2⟩ := hlk
    subst hl9
    exact ai_newa_ok hx hb hd hA h1 h2 he hR1 hR2 k
  | anewarray idx =>
    obtain ⟨hl9, h1, h2⟩ := hlk
    subst hl9
    exact ai_newq_ok hx hb hd hown hA h1 h2 he hR1 hR2 k
  | new idx =>
    obtain ⟨hl9, q, h1, h2, h3, h4⟩ := hlk
    subst hl9
    exact ai_new_ok hx hb hd hts hcl hown hA h1 hdf h2 h3 h4 he hR1 hR2 k
  | instanceof idx =>
    obtain ⟨hl9, h1⟩ := hlk
    subst hl9
    simp only [ai_eff] at he
    split at he
    · split at he
      · rename_i v S hv
        simp only [Option.some.injEq, Prod.mk.injEq] at he
        obtain ⟨rfl, rfl, rfl, rfl⟩ := he
        intro ad tys ws H locs cells slots ls st ha hl hs
        obtain ⟨V, T, rfl, hv2, hs9⟩ := ai_vs_cons hs
        obtain ⟨a, rfl, hc⟩ := ai_isof_ok hZ hcn ha.2.2.2.2.2.2.2 hv hv2
        exact va_instE hx hb hown h1 hc hd (k ad tys ws H locs cells slots ls (.int 1 :: T) ha hl ⟨rfl, hs9⟩)
      · cases he
    · cases he
  | checkcast idx =>
    obtain ⟨hl9, h1⟩ := hlk
    subst hl9
    simp only [ai_eff] at he
    split at he
    · split at he
      · rename_i v S hv
        simp only [Option.some.injEq, Prod.mk.injEq] at he
        obtain ⟨rfl, rfl, rfl, rfl⟩ := he
        intro ad tys ws H locs cells slots ls st ha hl hs
        obtain ⟨V, T, rfl, hv2, hs9⟩ := ai_vs_cons hs
        have hv3 := hv2
        obtain ⟨a, rfl, hc⟩ := ai_isof_ok hZ hcn ha.2.2.2.2.2.2.2 hv hv2
        exact va_castE hx hb hown h1 hc hd (k ad tys ws H locs cells slots ls (.ref a :: T) ha hl ⟨hv3, hs9⟩)
      · cases he
    · cases he
  | _ => cases he
end AIS
end
section
/-! CALLS: a method of ours returns or throws; either way the caller stands again. -/
/-- how an invocation ends: the tables are warmer, of the old cells only the slots L have changed, at most mc cells of ms slots are new -/
def ai_end (st t : State) (L : List Loc) (mc ms : Nat) : Prop := st.WarmedH t.vm ∧ st.sameButNew ({ t with vm := st.vm } : State) L mc ms
section AIC
variable {l : Launch} {R : Room} {p : Program} {e : Env} {below : List Frame} {s : State} {m : MethodId} {sargs : Array Value} {meth : Method} {c : Code} {U : State} {Ls : List Loc} {c0 s0 : Nat}
theorem ai_invoke (X : Stand p l e R s m sargs below meth c U Ls c0 s0) {y : MethodName} {S : Spec} {P : Array Value → State → Prop} {Q : Array Value → State → Outcome → State → Prop} (hM : MetFree l y S P (fun _ _ _ _ _ => True) Q)
    {g : JFrame} {ig : Instr} {len W9 : Nat} (hg : g.method = m) (hsize : g.locals.size = c.maxLocals) (hdg : decode c.code g.pc = .ok (ig, len)) (hW : 2 * g.monitorRoom + (g.stack.map fun v => v.category).sum ≤ W9)
    {mk : MethodId} (hn : U.methodNamed? y = some mk) {a : Array Value} {methY : Method} {cY : Code} (hmY : U.vm.method? mk = some methY) (hcY : methY.code = some cY)
    (hframes : S.room.frames + 1 ≤ R.frames) (hlocals : W9 + (cY.maxLocals + 11) + S.room.locals ≤ R.locals) (hcells : c0 + S.room.cells ≤ R.cells) (hslots : s0 + S.room.slots ≤ R.slots)
    (hinit : (Cond.initialized y.cls).before a U = true) (hpre : S.pre.before a U = true) (hP : P a (U.calling g mk a)) :
    ∃ (o : Outcome) (t : State), Steps p.tables e below (doInvoke e (U.setTop g) [] mk a).1 t ∧ Ended t (.java g :: U.frames.tail) o ∧ Q a (U.calling g mk a) o t := by
  obtain ⟨kY, hkY, -⟩ := className_of_methodNamed hn
  have hinitY : kY.init = .initialized := Cond.initialized_spec (findClass_of_methodNamed hn) hkY hinit
  have h : At U g.method c below := by rw [hg]; exact X.here
  have happ : S.appliesLoose y e.platform (U.calling g mk a) = true :=
    Spec.appliesLoose_calling (g := g) h hdg hn hkY hinitY (X.room_calling (g := g) (R' := S.room) hsize hmY hcY hframes (by omega) hcells hslots) hpre
  obtain ⟨mid, hmid⟩ := h.above
  have hfr : (U.setTop g).frames = (.java g :: mid) ++ below := by rw [State.frames_setTop' g h.top, hmid]; rfl
  obtain ⟨o, s₂, hsteps, -, hend, hq⟩ := Steps.callFree hM p X.admits X.cas X.clock (acts := []) hfr happ hP trivial
  rw [State.frames_setTop' g h.top] at hend
  exact ⟨o, s₂, hsteps, hend, hq⟩
/-- the caller's state behind the call, but for its top frame -/
def ai_behind (U t : State) : State := ({ U with heap := t.heap, slotsUsed := t.slotsUsed } : State).setVm t.vm
theorem ai_stands (X : Stand p l e R s m sargs below meth c U Ls c0 s0) {g : JFrame} {mk : MethodId} {a : Array Value} {t : State} {L : List Loc} {mc ms : Nat} (hE : ai_end (U.calling g mk a) t L mc ms) :
    Stand p l e R s m sargs below meth c (ai_behind U t) (Ls ++ L) (c0 + mc) (s0 + ms) := by
  obtain ⟨hW₂, e2, q2, q3, q4, q5, q6⟩ := hE
  have hW' : U.WarmedH t.vm := hW₂
  obtain ⟨g₀, hg0⟩ := Option.isSome_iff_exists.mp X.here.top
  obtain ⟨r, hr⟩ := State.topJava?_eq_some.mp hg0
  have hsame : U.sameButNew ({ U with heap := t.heap, slotsUsed := t.slotsUsed } : State) L mc ms := by
    refine ⟨?_, q2, q3, q4, q5, q6⟩
    obtain ⟨th, ht, -⟩ := State.frames_cons hr
    show ({ U with heap := t.heap, slotsUsed := t.slotsUsed } : State) = { U.setFrames U.frames with heap := t.heap, slotsUsed := t.slotsUsed }
    rw [State.setFrames_self ht]
  exact ⟨X.admits, X.cas, X.clock, X.frames, X.room, X.hears, X.method, X.code, (X.here.setHeapUsed t.heap t.slotsUsed).setVm hW'.alike, X.tail, State.WarmedH.trans X.warmed hW', X.limits, X.bytes, X.same.trans (hsame.setVm s.vm)⟩
theorem ai_whole {g : JFrame} {mk : MethodId} {a : Array Value} {t : State} {L : List Loc} {mc ms : Nat} (hE : ai_end (U.calling g mk a) t L mc ms) : t = ({ (U.calling g mk a).setFrames t.frames with heap := t.heap, slotsUsed := t.slotsUsed } : State).setVm t.vm := by
  have e2 := hE.2.1
  have h9 : t = ({ t with vm := (U.calling g mk a).vm } : State).setVm t.vm := rfl
  rw [e2] at h9
  exact h9
theorem ai_returned (X : Stand p l e R s m sargs below meth c U Ls c0 s0) {g : JFrame} {ig : Instr} {len : Nat} (hg : g.method = m) (hdg : decode c.code g.pc = .ok (ig, len)) {mk : MethodId} {a : Array Value} {t : State} {L : List Loc} {mc ms : Nat} {v : Option Value} (hE : ai_end (U.calling g mk a) t L mc ms) (hend : Ended t (.java g :: U.frames.tail) (.returned v)) :
    t = (ai_behind U t).setTop { g with pc := g.pc + len, stack := v.toList ++ g.stack } := by
  have h : At U g.method c below := by rw [hg]; exact X.here
  have e3 := ai_whole hE
  have hW' : U.WarmedH t.vm := hE.1
  obtain ⟨c₂, i₂, len₂, hc₂, hd₂, hf₂⟩ := hend
  have hcc : c₂ = c := by
    have h1 : t.code? g.method = U.code? g.method := by
      rw [State.code?_eq, State.code?_eq, hW'.alike.method?]
    exact Option.some.inj (hc₂.symm.trans (h1.trans h.code))
  subst hcc
  have hlen : len₂ = len := by rw [hdg] at hd₂; cases hd₂; rfl
  subst hlen
  obtain ⟨g₀, hg0⟩ := Option.isSome_iff_exists.mp h.top
  obtain ⟨r, hr⟩ := State.topJava?_eq_some.mp hg0
  have hr' : (ai_behind U t).frames = .java g₀ :: r := hr
  refine e3.trans ?_
  rw [hf₂, State.calling_eq h.top, State.setFrames_setFrames, State.setTop_of_frames _ hr', hr]
  rfl
theorem ai_thrown (X : Stand p l e R s m sargs below meth c U Ls c0 s0) {g : JFrame} (hg : g.method = m) {mk : MethodId} {a : Array Value} {t : State} {L : List Loc} {mc ms : Nat} {q : Addr} (hE : ai_end (U.calling g mk a) t L mc ms) (hend : Ended t (.java g :: U.frames.tail) (.threw q)) :
    t = ((ai_behind U t).setTop g).pushFrame (.throwing q) := by
  have h : At U g.method c below := by rw [hg]; exact X.here
  have e3 := ai_whole hE
  have hf₂ : t.frames = .throwing q :: .java g :: U.frames.tail := hend
  obtain ⟨g₀, hg0⟩ := Option.isSome_iff_exists.mp h.top
  obtain ⟨r, hr⟩ := State.topJava?_eq_some.mp hg0
  have hr' : (ai_behind U t).frames = .java g₀ :: r := hr
  refine e3.trans ?_
  rw [hf₂, State.calling_eq h.top, State.setFrames_setFrames, State.pushFrame, State.frames_setTop _ hr', State.setTop_of_frames _ hr', State.setFrames_setFrames, hr]
  rfl
end AIC
end
section
/-! THE INVOKING INSTRUCTION: from the caller's frame into the callee. -/
/-- the code of a method, with the table of what it catches -/
def ai_cd (U : State) (y : MethodName) (bytes : ByteArray) (maxL : Nat) (ret : Option FieldType) (hh : List (Nat × Nat × Nat × Nat)) : Prop :=
  ∃ m meth c, U.methodNamed? y = some m ∧ U.vm.method? m = some meth ∧ meth.code = some c ∧ c.code = bytes ∧ c.maxLocals = maxL ∧ c.exceptionTable.toList.map (fun h => (h.startPc, h.endPc, h.handlerPc, h.catchType)) = hh ∧ meth.sig.returnType = ret ∧ meth.locks = false ∧ parseMethodDescriptor y.desc = some meth.sig
/-- the word that says so -/
def ai_cw (y : MethodName) (bytes : ByteArray) (maxL : Nat) (ret : Option FieldType) (hh : List (Nat × Nat × Nat × Nat)) : Cond := match hh with
  | [] => .code y bytes maxL ret
  | _ :: _ => .codeWith y bytes maxL ret hh
theorem ai_cd_of {y : MethodName} {bytes : ByteArray} {maxL : Nat} {ret : Option FieldType} {hh : List (Nat × Nat × Nat × Nat)} {args : Array Value} {U : State} (h : (ai_cw y bytes maxL ret hh).before args U = true) : ai_cd U y bytes maxL ret hh := by
  cases hh with
  | nil =>
    have h : (Cond.code y bytes maxL ret).before args U = true := h
    obtain ⟨m, hn⟩ := Cond.code_named h
    obtain ⟨meth, c, h1, h2, h3, h4, h5, h6, h7, h8⟩ := Cond.code_spec hn h
    refine ⟨m, meth, c, hn, h1, h2, h3, h4, ?_, h5, h6, h8⟩
    have h0 : c.exceptionTable.size = 0 := by simpa [Array.isEmpty] using h7
    have h9 : c.exceptionTable.toList = [] := List.eq_nil_of_length_eq_zero (by simpa using h0)
    rw [h9]; rfl
  | cons x t =>
    have h : (Cond.codeWith y bytes maxL ret (x :: t)).before args U = true := h
    obtain ⟨m, meth, c, h0, h1, h2, h3, h4, h5, h6, h7, h8⟩ := Cond.codeWith_spec h
    exact ⟨m, meth, c, h0, h1, h2, h3, h4, h5, h6, h7, h8⟩
section AIE
variable {p : Program} {l : Launch} {e : Env} {R : Room} {s : State} {m : MethodId} {args : Array Value} {below : List Frame} {meth : Method} {c : Code} {T : State} {locs : List Loc} {cells slots : Nat}
/-- the machine enters the method y with the arguments a; what is left on the caller's stack: rest -/
def ai_enters (p : Program) (l : Launch) (e : Env) (R : Room) (s : State) (m : MethodId) (args : Array Value) (below : List Frame) (meth : Method) (c : Code) (T : State) (locs : List Loc) (cells slots : Nat) (g : JFrame) (rest : List Value) (y : MethodName) (a : Array Value) : Prop :=
  ∃ (vm₁ : Vm) (mk : MethodId), s.WarmedH vm₁ ∧ Stand p l e R s m args below meth c (T.setVm vm₁) locs cells slots ∧ (T.setVm vm₁).methodNamed? y = some mk ∧ ∀ target, Steps p.tables e below (doInvoke e ((T.setVm vm₁).setTop { g with stack := rest }) [] mk a).1 target → Steps p.tables e below (T.setTop g) target
variable {own C : String} {index : Nat} {x y : MethodName} {bytes : ByteArray} {maxL : Nat} {ret : Option FieldType} {hh : List (Nat × Nat × Nat × Nat)}
theorem ai_enterV (X : Stand p l e R s m args below meth c T locs cells slots) (hexec : p.tables.exec = Jvm.exec)
    (hown : s.vm.findClass own = some m.cls) (hlink : (Cond.methodLink own index y).before args s = true) (hinst : (Cond.instanceMethod y).before args s = true) (hsel : (Cond.selects C y y).before args s = true)
    (hcode : ai_cd s y bytes maxL ret hh) (hy : y.cls ≠ "java/lang/invoke/MethodHandle" ∧ y.cls ≠ "java/lang/invoke/VarHandle")
    {b : Addr} {cellB : Cell} (hcell : T.heap[b]? = some cellB) (hobj : cellB.vm.isStatics = false) (hcls : s.vm.findClass C = some cellB.cls)
    {g : JFrame} (hg : g.method = m) {argsL rest : List Value} (hlen : ∀ sig, parseMethodDescriptor y.desc = some sig → argsL.length = sig.parameters.length)
    (hstack : g.stack = argsL.reverse ++ .ref b :: rest) (hdg : decode c.code g.pc = .ok (.invokevirtual index, 3)) :
    ai_enters p l e R s m args below meth c T locs cells slots g rest y (Value.ref b :: argsL).toArray := by
  obtain ⟨mk, methM, hnamed, hmethM, hstM, habM⟩ := Cond.instanceMethod_spec hinst
  obtain ⟨mk', methM', cM, hn', hmethM', -, -, -, -, -, -, hsigM⟩ := hcode
  cases hnamed.symm.trans hn'
  cases hmethM.symm.trans hmethM'
  obtain ⟨c2, r2, m2, q1, q2, q3, q4, kP, hkP, hkPi⟩ := Cond.selects_spec hsel
  cases hcls.symm.trans q1
  cases (State.methodFound?_of_named hnamed hy).symm.trans q2
  cases hnamed.symm.trans q3
  have hselP : selectMethod e.platform s.vm cellB.cls mk = .method mk := by rw [Launch.admits_selectMethod X.admits]; exact q4
  obtain ⟨vm₁, X₁, hstep₁⟩ := X.invokevirtual hexec hown hlink hnamed hmethM hstM hkP hkPi hy (a := b) (cell := cellB) hcell
    (fun z h => by rw [h] at hobj; cases hobj) hselP hmethM habM hkP hkPi (g := g) hg (argsL := argsL) (rest := rest) (hlen _ hsigM) hstack hdg
  exact ⟨vm₁, mk, X₁.warmed, X₁, X₁.named hnamed, fun target h => hstep₁ _ fun acts => by rw [doInvoke_state]; exact h⟩
theorem ai_enterU {owner : String} (X : Stand p l e R s m args below meth c T locs cells slots) (hexec : p.tables.exec = Jvm.exec)
    (hown : s.vm.findClass own = some m.cls) (hlink : (Cond.methodLink own index x).before args s = true) (hsame : (Cond.sameMethod x.cls owner x.name x.desc).before args s = true)
    (hd0 : va_Decl s ⟨owner, x.name, x.desc⟩) (howner : owner ≠ "java/lang/invoke/MethodHandle" ∧ owner ≠ "java/lang/invoke/VarHandle")
    (hsel : (Cond.selects C x y).before args s = true) (hinst : (Cond.instanceMethod y).before args s = true)
    {b : Addr} {cellB : Cell} (hcell : T.heap[b]? = some cellB) (hobj : cellB.vm.isStatics = false) (hcls : s.vm.findClass C = some cellB.cls)
    {g : JFrame} (hg : g.method = m) {argsL rest : List Value} (hlen : ∀ sig, parseMethodDescriptor x.desc = some sig → argsL.length = sig.parameters.length)
    (hstack : g.stack = argsL.reverse ++ .ref b :: rest) (hdg : decode c.code g.pc = .ok (.invokevirtual index, 3)) :
    ai_enters p l e R s m args below meth c T locs cells slots g rest y (Value.ref b :: argsL).toArray := by
  obtain ⟨r0, r, hn, hrm, hstR, hsigR⟩ := hd0
  obtain ⟨cn, ck, r1, hcn, hck, hni, hf, hn1⟩ := Cond.sameMethod_found hsame
  cases hn.symm.trans hn1
  obtain ⟨mk, methM, hnamed, hmethM, -, habM⟩ := Cond.instanceMethod_spec hinst
  obtain ⟨c2, r2, m2, q1, q2, q3, q4, kP, hkP, hkPi⟩ := Cond.selects_spec hsel
  cases hcls.symm.trans q1
  cases hf.symm.trans q2
  cases hnamed.symm.trans q3
  have hselP : selectMethod e.platform s.vm cellB.cls r0 = .method mk := by rw [Launch.admits_selectMethod X.admits]; exact q4
  obtain ⟨vm₁, X₁, hstep₁⟩ := X.invokevirtualUp hexec hown hlink hsame howner hn hrm hstR (a := b) (cell := cellB) hcell
    (fun z h => by rw [h] at hobj; cases hobj) hselP hmethM habM hkP hkPi (g := g) hg (argsL := argsL) (rest := rest) (hlen _ hsigR) hstack hdg
  exact ⟨vm₁, mk, X₁.warmed, X₁, X₁.named hnamed, fun target h => hstep₁ _ fun acts => by rw [doInvoke_state]; exact h⟩
theorem ai_enterS (X : Stand p l e R s m args below meth c T locs cells slots) (hexec : p.tables.exec = Jvm.exec)
    (hown : s.vm.findClass own = some m.cls) (hlink : (Cond.methodLink own index y).before args s = true) (hstat : (Cond.static y).before args s = true) (hinit : (Cond.initialized y.cls).before args s = true)
    (hcode : ai_cd s y bytes maxL ret hh) (hy : y.cls ≠ "java/lang/invoke/MethodHandle" ∧ y.cls ≠ "java/lang/invoke/VarHandle")
    {g : JFrame} (hg : g.method = m) {argsL rest : List Value} (hlen : ∀ sig, parseMethodDescriptor y.desc = some sig → argsL.length = sig.parameters.length)
    (hstack : g.stack = argsL.reverse ++ rest) (hdg : decode c.code g.pc = .ok (.invokestatic index, 3)) :
    ai_enters p l e R s m args below meth c T locs cells slots g rest y argsL.toArray := by
  obtain ⟨mk, methM, cM, hnamed, hmethM, -, -, -, -, -, -, hsigM⟩ := hcode
  have hstatic : methM.isStatic = true := Cond.static_spec hnamed hmethM hstat
  obtain ⟨kP, hkP, -⟩ := className_of_methodNamed hnamed
  have hinitP : kP.init = .initialized := Cond.initialized_spec (findClass_of_methodNamed hnamed) hkP hinit
  obtain ⟨vm₁, X₁, hstep₁⟩ := X.invokestatic hexec hown hlink hnamed hmethM hstatic hkP hinitP hy (g := g) hg (argsL := argsL) (rest := rest) (hlen _ hsigM) hstack hdg
  exact ⟨vm₁, mk, X₁.warmed, X₁, X₁.named hnamed, fun target h => hstep₁ _ fun acts => by rw [doInvoke_state]; exact h⟩
theorem ai_enterI (X : Stand p l e R s m args below meth c T locs cells slots) (hexec : p.tables.exec = Jvm.exec)
    (hown : s.vm.findClass own = some m.cls) (hy1 : y.name = "<init>") (hlink : (Cond.methodLink own index y).before args s = true ∨ ∃ host, (Cond.methodLinkNest own index y host).before args s = true) (hinst : (Cond.instanceMethod y).before args s = true)
    (hcode : (Cond.code y bytes maxL none).before args s = true) (hy : y.cls ≠ "java/lang/invoke/MethodHandle" ∧ y.cls ≠ "java/lang/invoke/VarHandle")
    {g : JFrame} (hg : g.method = m) {a : Addr} {argsL rest : List Value} (hlen : ∀ sig, parseMethodDescriptor y.desc = some sig → argsL.length = sig.parameters.length)
    (hstack : g.stack = argsL.reverse ++ .ref a :: rest) (hdg : decode c.code g.pc = .ok (.invokespecial index, 3)) :
    ai_enters p l e R s m args below meth c T locs cells slots g rest y (Value.ref a :: argsL).toArray := by
  subst hg
  have hpl : e.platform.magicAccessors = ({} : Platform).magicAccessors := by rw [X.admits.platform]
  rcases hlink with hlink | ⟨host, hlink⟩
  · obtain ⟨mk, methM, cM, kP, vm₁, hnamed, hmethM, hcodeM, -, hlocalsM, -, hkP, -, hW₁, hstep₁⟩ := Steps.initColdArgs (e := e) X.here hexec X.warmed hpl hown hy1 hy hlink hinst hcode (f := g) rfl hlen hstack hdg
    have X₁ := X.noted hW₁
    exact ⟨vm₁, mk, X₁.warmed, X₁, X₁.named hnamed, fun target h => hstep₁ _ fun acts => by rw [doInvoke_state]; exact h⟩
  · obtain ⟨mk, methM, cM, kP, vm₁, hnamed, hmethM, hcodeM, -, hlocalsM, -, hkP, -, hW₁, hstep₁⟩ := Steps.initColdArgsNest (e := e) X.here hexec X.warmed hpl hown hy1 hy hlink hinst hcode (f := g) rfl hlen hstack hdg
    have X₁ := X.noted hW₁
    exact ⟨vm₁, mk, X₁.warmed, X₁, X₁.named hnamed, fun target h => hstep₁ _ fun acts => by rw [doInvoke_state]; exact h⟩
end AIE
end
section
/-! AN EXCEPTION OVER A FRAME: caught by the one row of the method's table, or let out. (The road is the library's own: the search through the table, the step that it ends in; said here for a table of one row, whose class may still be unresolved.) -/
section AIX
variable {p : Program} {l : Launch} {e : Env} {R : Room} {s : State} {m : MethodId} {args : Array Value} {below : List Frame} {meth : Method} {c : Code} {T : State} {locs : List Loc} {cells slots : Nat}
theorem ai_search {S : State} {f : JFrame} {q : Addr} {x : ExceptionTableEntry} {k : ClassId} {cell : Cell} {Qh : Handler → Pre} {E : CtlPost} {d : Bool} {acts : List Action} {meth : Method} {code : Code} (hm : S.vm.method? f.method = some meth) (hc : meth.code = some code) (htab : code.exceptionTable.toList = [x])
    (hx : covers x f.pc = true) (h0 : x.catchType ≠ 0) (hl : S.vm.ClassLinks e.platform f.method.cls x.catchType k) (hcell : S.heap[q]? = some cell) (hobj : ∀ z, cell.vm ≠ .statics z)
    (hk : ∃ z, S.vm.classes[cell.cls]? = some z) (hk2 : ∃ z, S.vm.classes[k]? = some z) (hfit : S.vm.assignable cell.cls k = true) :
    wp (findHandler f q) Qh E e d acts S ↔ Qh (.found x.handlerPc) d acts (S.setVm (S.vm.noted f.method.cls x.catchType (.cls k))) := by
  rw [W.findHandler_eq hm hc, htab]
  simp only [covers] at hx
  obtain ⟨ha, ht⟩ := (resolveClass_links e.toSetting hl).op (op := VmOp.resolveClass f.method.cls x.catchType) rfl
  have hal : S.vm.Alike (S.vm.noted f.method.cls x.catchType (.cls k)) := (Vm.Alike.refl S.vm).noted _ _ _
  obtain ⟨z1, hz1⟩ := hk
  obtain ⟨z2, hz2⟩ := hk2
  obtain ⟨y1, hy1, -⟩ := hal.2.2 _ _ hz1
  obtain ⟨y2, hy2, -⟩ := hal.2.2 _ _ hz2
  have hfit' : (S.vm.noted f.method.cls x.catchType (.cls k)).assignable cell.cls k = true := by rw [hal.assignable]; exact hfit
  simp [findHandler.go, hx, h0, ha, ht, hcell, hobj, hy1, hy2, hfit', VmOp.dirties, VmOp.acts]
theorem ai_caught (X : Stand p l e R s m args below meth c T locs cells slots) (q : Addr) {g : JFrame} (hg : g.method = m) {own name : String} (hown : s.vm.findClass own = some m.cls) {x : ExceptionTableEntry} (htab : c.exceptionTable.toList = [x]) (hx : covers x g.pc = true) (h0 : x.catchType ≠ 0)
    (hlink : (Cond.classLink own x.catchType name).before args s = true) {cell : Cell} (hcell : T.heap[q]? = some cell) (hv : cell.vm = .none) (hcl : s.vm.findClass name = some cell.cls) :
    ∃ vm', Stand p l e R s m args below meth c (T.setVm vm') locs cells slots ∧ ∀ target, Steps p.tables e below ((T.setVm vm').setTop { g with pc := x.handlerPc, stack := [.ref q] }) target → Steps p.tables e below ((T.setTop g).pushFrame (.throwing q)) target := by
  have hpl : e.platform.magicAccessors = ({} : Platform).magicAccessors := by rw [X.admits.platform]
  obtain ⟨c', hc', hlk⟩ := Cond.classLink_spec hown hlink e.platform hpl
  cases hcl.symm.trans hc'
  obtain ⟨dk, _, _, kt, hd, _, _, _, _, hkt, _, hopen⟩ := hlk.here
  have hlk0 := X.warmed.classLinks hlk
  have hW' : s.WarmedH (T.vm.noted m.cls x.catchType (.cls cell.cls)) := X.warmed.noted hd hopen (State.rightAt_cls hlk)
  obtain ⟨kt', hkt', -⟩ := X.warmed.alike.2.2 _ _ hkt
  refine ⟨_, X.noted hW', fun target hrest => ?_⟩
  subst hg
  have h : At T g.method c below := X.here
  obtain ⟨hgo, hw⟩ := h.throwing q
  refine Steps.head hgo hw ?_
  have hfind : ∀ (Qh : Handler → Pre) (E : CtlPost) (d : Bool) (acts : List Action), wp (findHandler g q) Qh E e d acts ((T.setTop g).pushFrame (.throwing q)) ↔ Qh (.found x.handlerPc) d acts (((T.setTop g).pushFrame (.throwing q)).setVm (T.vm.noted g.method.cls x.catchType (.cls cell.cls))) :=
    fun Qh E d acts => ai_search (S := (T.setTop g).pushFrame (.throwing q)) (meth := meth) (code := c) X.method' X.code htab hx h0 hlk0 hcell (fun z hz => by rw [hv] at hz; cases hz) ⟨kt', hkt'⟩ ⟨kt', hkt'⟩ (va_asg _ _)
  have hstep : (stepThrowing e ((T.setTop g).pushFrame (.throwing q)) q (.java g :: T.frames.tail)).Is ((((T.setTop g).pushFrame (.throwing q)).setVm (T.vm.noted g.method.cls x.catchType (.cls cell.cls))).setFrames (.java { g with pc := x.handlerPc, stack := [.ref q] } :: T.frames.tail)) [] := by
    simp only [stepThrowing, searchFrame, vmDo]
    generalize hr : Sem.go _ e false [] ((T.setTop g).pushFrame (.throwing q)) = res
    obtain ⟨as, rfl, ha⟩ := Sem.eq_ok_of hr (a := Handler.found x.handlerPc) (s' := ((T.setTop g).pushFrame (.throwing q)).setVm (T.vm.noted g.method.cls x.catchType (.cls cell.cls))) (acts' := []) (by simp [hfind _ _ _ _])
    exact ⟨rfl, ha⟩
  rw [stepThread_throwing (frames_entered h.top _), hstep.1]
  obtain ⟨g₀, hg0⟩ := Option.isSome_iff_exists.mp h.top
  obtain ⟨r, hr⟩ := State.topJava?_eq_some.mp hg0
  have hr' : (T.setVm (T.vm.noted g.method.cls x.catchType (.cls cell.cls))).frames = .java g₀ :: r := hr
  rw [State.setTop_of_frames _ hr'] at hrest
  have hsw : ∀ (u : State) (vm' : Vm) (F F2 : List Frame), ((u.setFrames F).setVm vm').setFrames F2 = (u.setVm vm').setFrames F2 := by
    intro u vm' F F2
    have h1 : (u.setFrames F).setVm vm' = (u.setVm vm').setFrames F := rfl
    rw [h1, State.setFrames_setFrames]
  rw [hr, List.tail_cons, State.pushFrame, hsw, State.setTop_of_frames _ hr, hsw]
  exact hrest
end AIX
end
section
/-! WORDS THAT STAY: what the tables say stays true while they are warmed. -/
def ai_st (w : Cond) : Bool := match w with
  | .arrayClass _ => true
  | .fieldLinkNest .. => true
  | .methodLinkNest .. => true
  | w => w.onTables && w.keepsFace
theorem ai_st_at {w : Cond} (hw : ai_st w = true) {args a' : Array Value} {s U : State} (hW : s.WarmedH U.vm) (h : w.before args s = true) : w.before a' U = true := by
  have key : (w.onTables && w.keepsFace) = true → w.before a' U = true := by
    intro hk
    rw [Bool.and_eq_true] at hk
    have h1 : w.before args (s.setVm U.vm) = true := Cond.before_shiftedFace (State.Shifted.of_warmed hW) w hk.2 h
    exact va_tabs hk.1 (rfl : (s.setVm U.vm).vm = U.vm) h1
  cases w with
  | arrayClass ty => exact word_at hW (Or.inr ⟨ty, rfl⟩) h
  | fieldLinkNest a i b n d h0 => exact va_Nw.use (A := a') rfl (va_Nw.warmF hW (va_Nw.of rfl h))
  | methodLinkNest a i x h0 => exact va_Nw.use (A := a') rfl (va_Nw.warmM hW (va_Nw.of rfl h))
  | _ => exact key hw
/-- a word that speaks of cells that nobody changes: it holds wherever the tables are alike and the heap differs inside A alone -/
def ai_stay (w : Cond) (A : Nat → Prop) (U : State) (H : Heap) : Prop := ∀ (U' : State) (a : Array Value), U.vm.Alike U'.vm → (∀ q : Nat, q < H.size → ¬ A q → U'.heap[q]? = H[q]?) → w.before a U' = true
theorem ai_stay_moved {w : Cond} {A : Nat → Prop} {u U : State} {H : Heap} (hvm : u.vm.Alike U.vm) (h : ai_stay w A u H) : ai_stay w A U H := fun U' a h1 h2 => h U' a (hvm.trans h1) h2
theorem ai_stay_kept {w : Cond} {A : Nat → Prop} {U : State} {H H1 : Heap} (hz : H.size ≤ H1.size) (h : ai_stay w A U H) (hq : ∀ a : Nat, a < H.size → ¬ A a → H1[a]? = H[a]?) : ai_stay w A U H1 := fun U' a h1 h2 => h U' a h1 (fun q h3 h4 => (h2 q (by omega) h4).trans (hq q h3 h4))
theorem ai_stay_narrow {w : Cond} {A B : Nat → Prop} {U : State} {H : Heap} (h : ai_stay w A U H) (hAB : ∀ q, B q → A q) : ai_stay w B U H := fun U' a h1 h2 => h U' a h1 (fun q h3 h4 => h2 q h3 (fun z => h4 (hAB q z)))
theorem ai_stay_here {w : Cond} {A : Nat → Prop} {U : State} {a : Array Value} (h : ai_stay w A U U.heap) : w.before a U = true := h U a (Vm.Alike.refl _) (fun _ _ _ => rfl)
/-- where a static of the machine's own lies -/
theorem ai_stay_lays {args : Array Value} {s : State} {C n d : String} {A : Nat → Prop} (h : (Cond.laysStatic C n d).before args s = true) (hA : ∀ a : Nat, a < s.heap.size → ¬ A a) : ai_stay (.laysStatic C n d) A s s.heap := by
  intro U' a hvm hq
  obtain ⟨c, k, i, f, b, cell, h1, h2, h3, h4, h5, h6, h7, h8, h9⟩ := Cond.laysStatic_spec h
  obtain ⟨k', hi', he⟩ := State.fieldFound?_setVm hvm h2
  have hb := (Array.getElem?_eq_some_iff.mp h5).1
  show (Cond.laysStatic C n d).holds a U' none U' [] = true
  exact Cond.laysStatic_of (by rw [hvm.findClass]; exact h1) hi' h3 (by rw [he]; exact h4) (by rw [hq b hb (hA b hb)]; exact h5) h6 h7 h8 (by rw [he]; exact h9)
theorem ai_isRef_of {C n d : String} {v : Value} {A : Nat → Prop} {U : State} {H : Heap} (h : va_Z C n d v A U H) (hv : v.isRef = true) : ai_stay (.isRef (.static C n d)) A U H := by
  intro U' a hvm hq
  obtain ⟨cf, kf, fi, f, b, cell, h1, h2, h3, h4, h5, h6, h7, h8⟩ := va_Z.moved hvm h
  have h5' : U'.heap[b]? = some cell := by rw [hq b (Array.getElem?_eq_some_iff.mp h5).1 h8]; exact h5
  have he : (Term.static C n d).eval a U' none [] U' = some v := by
    simp [Term.eval, State.fieldNamed?, h1, h2, h4, h5', h6, h7]
  simp only [Cond.before, Cond.holds, Cond.value, he]
  cases v <;> simp_all [Value.isRef]
theorem ai_stay_isRef {args : Array Value} {s : State} {C n d : String} {A : Nat → Prop} (hl : (Cond.laysStatic C n d).before args s = true) (hini : (Cond.initialized C).before args s = true) (h : (Cond.isRef (.static C n d)).before args s = true) (hA : ∀ a : Nat, a < s.heap.size → ¬ A a) : ai_stay (.isRef (.static C n d)) A s s.heap := by
  rcases va_Zqof hl hini h hA with h | ⟨t, h⟩
  · exact ai_isRef_of h rfl
  · exact ai_isRef_of h rfl
section AIT
variable {p : Program} {l : Launch} {e : Env} {R : Room} {s : State} {m : MethodId} {args : Array Value} {below : List Frame} {meth : Method} {c : Code} {T : State} {locs : List Loc} {cells slots : Nat}
/-- the frame as if the method had been entered with the heap as it is now -/
def ai_now (s : State) (m : MethodId) (args : Array Value) (below : List Frame) (T : State) : State := (T.setVm s.vm).setFrames (.invoking m args :: below)
theorem ai_anew (X : Stand p l e R s m args below meth c T locs cells slots) {kc ks : Nat} (hc : cells + kc ≤ R.cells) (hs : slots + ks ≤ R.slots) :
    Stand p l e { frames := R.frames, locals := R.locals, cells := kc, slots := ks } (ai_now s m args below T) m args below meth c T [] 0 0 := by
  have htop : (T.setVm s.vm).topJava?.isSome := X.here.top
  have hF : (ai_now s m args below T).frames = .invoking m args :: below := State.frames_setFrames _ (State.cur_lt_of_top htop)
  obtain ⟨g₀, hg0⟩ := Option.isSome_iff_exists.mp htop
  obtain ⟨r, hr⟩ := State.topJava?_eq_some.mp hg0
  have hl9 : e.platform.stackLimits (T.setVm s.vm).me = e.platform.stackLimits s.me := X.limits
  have hb9 : (T.setVm s.vm).me.stackBytes = s.me.stackBytes := X.bytes
  have hnil : T.heap.toList.drop T.heap.size = [] := List.drop_eq_nil_of_le (Nat.le_of_eq Array.length_toList)
  refine ⟨X.admits, X.cas, X.clock, hF, ?_, X.hears, X.method, X.code, X.here, X.tail, X.warmed, ?_, ?_, ?_⟩
  · have h := X.room
    have hU : (ai_now s m args below T).localsInUse = s.localsInUse := by
      rw [State.localsInUse_invoking hF (meth := meth) (c := c) X.method X.code, State.localsInUse_invoking X.frames X.method X.code]
    have q1 := X.heapSize
    have q2 := X.used
    unfold ai_now at hF hU ⊢
    simp only [State.hasRoom, Bool.and_eq_true, decide_eq_true_eq] at h ⊢
    obtain ⟨⟨⟨⟨h1, h2, h3, h4, h5, h6⟩, h7⟩, h8⟩, h9⟩ := h
    rw [X.frames, List.length_cons] at h2 h3
    simp only [hF, hU, List.length_cons, State.stackLimits_setFrames, State.stackBytes_setFrames, hl9, hb9]
    refine ⟨⟨⟨⟨by omega, by omega, by omega, by omega, by omega, h6⟩, ?_⟩, ?_⟩, X.book⟩
    · show T.heap.size + kc ≤ e.platform.maxCells
      omega
    · show T.slotsUsed + ks ≤ e.platform.maxSlots
      omega
  · unfold ai_now; rw [State.stackLimits_setFrames]; rfl
  · unfold ai_now; rw [State.stackBytes_setFrames]; rfl
  · refine ⟨?_, Nat.le_refl _, Nat.le_refl _, ?_, ?_, fun a c9 h9 => ⟨c9, h9, rfl, rfl, fun _ _ => rfl⟩⟩
    · obtain ⟨t, ht, -⟩ := State.frames_cons hr
      show T.setVm s.vm = { ((T.setVm s.vm).setFrames (.invoking m args :: below)).setFrames (T.setVm s.vm).frames with heap := T.heap, slotsUsed := T.slotsUsed }
      rw [State.setFrames_setFrames, State.setFrames_self ht]
      rfl
    · show T.slotsUsed = T.slotsUsed + ((T.heap.toList.drop T.heap.size).map (·.slots.size)).sum
      rw [hnil]; rfl
    · show ((T.heap.toList.drop T.heap.size).map (·.slots.size)).sum ≤ 0
      rw [hnil]; exact Nat.le_refl _
end AIT
end
section
/-! 'throw new E(..)': the object is made, its constructors run, and the method ends. -/
section AITH
variable {p : Program} {l : Launch} {e : Env} {R : Room} {s : State} {m : MethodId} {args : Array Value} {below : List Frame} {meth : Method} {c : Code} {T U : State} {locs : List Loc} {cells slots : Nat}
/-- cells that were there when the throw began are as they were; what the whole method has changed and made -/
theorem ai_thr_same (X : Stand p l e R s m args below meth c T locs cells slots) {n k : Nat} (h : (ai_now s m args below T).sameButNew ({ U with vm := (ai_now s m args below T).vm } : State) [] n k) :
    s.sameButNew ({ U with vm := s.vm } : State) locs (cells + n) (slots + k) ∧ T.heap.size ≤ U.heap.size ∧ ∀ q : Nat, q < T.heap.size → U.heap[q]? = T.heap[q]? := by
  obtain ⟨e1, e2, e3, e4, e5, e6⟩ := h
  refine ⟨?_, e2, fun q hq => ?_⟩
  · have e1' : ({ U with vm := s.vm } : State) = { ((T.setVm s.vm).setFrames (.invoking m args :: below)).setFrames U.frames with heap := U.heap, slotsUsed := U.slotsUsed } := e1
    rw [State.setFrames_setFrames] at e1'
    have h2 : (T.setVm s.vm).sameButNew ({ U with vm := s.vm } : State) [] n k := ⟨e1', e2, e3, e4, e5, e6⟩
    have h3 := X.same.trans h2
    rw [List.append_nil] at h3
    exact h3
  · obtain ⟨c9, g1, g2, g3, g4⟩ := e6 q _ (Array.getElem?_eq_getElem hq)
    have hs : c9.slots = (T.heap[q]).slots := Array.ext_getElem? fun i => g4 i (fun hm => nomatch hm)
    have h9 : c9 = T.heap[q] := by
      rw [hs] at g2
      exact g2
    have g5 : U.heap[q]? = some c9 := g1
    rw [g5, h9, Array.getElem?_eq_getElem hq]
/-- how a method of ours ends that has thrown -/
def ai_thrs (p : Program) (e : Env) (s : State) (below : List Frame) (T : State) (locs : List Loc) (cells slots : Nat) (g : JFrame) (cls : String) : Prop :=
  ∃ (U : State) (ce : Cell) (q : Addr), Steps p.tables e below (T.setTop g) U ∧ U.status = .running ∧ Ended U below (.threw q) ∧ ai_end s U locs (cells + 1) (slots + 6) ∧ T.heap.size ≤ U.heap.size ∧ (∀ q : Nat, q < T.heap.size → U.heap[q]? = T.heap[q]?) ∧ U.heap[q]? = some ce ∧ ce.vm = .none ∧ s.vm.findClass cls = some ce.cls
variable {cc : ByteArray} {pc : Nat} {own cls text : String} {names : List String} {ik is ic sa : Nat} {ls : Array Slot} {rest : List Value}
set_option maxHeartbeats 1000000 in
theorem ai_throw0 (X : Stand p l e R s m args below meth c T locs cells slots) (hexec : p.tables.exec = Jvm.exec) (hb : c.code = cc) (hl : l.stackTraces = false) (hown : s.vm.findClass own = some m.cls) (hcls : Bundle.fit cls = true) (hnames : ∀ n ∈ names, Bundle.fit n = true)
    (hk : (Cond.classLink own ik cls).before args (ai_now s m args below T) = true) (hini : (Cond.initialized cls).before args (ai_now s m args below T) = true) (h : ∀ w ∈ Bundle.ownAtoms0 own ic cls names, w.before args (ai_now s m args below T) = true) (hsize : ls.size = c.maxLocals)
    (d0 : decode cc pc = .ok (.new ik, 3)) (d3 : decode cc (pc + 3) = .ok (.dup, 1)) (d4 : decode cc (pc + 4) = .ok (.invokespecial ic, 3)) (d7 : decode cc (pc + 7) = .ok (.athrow, 1))
    (hout : ∀ x ∈ c.exceptionTable.toList, covers x (pc + 7) = false) (hRf : names.length + 3 < R.frames) (hRl : (rest.map fun v => v.category).sum + (13 * (names.length + 1) + 43) ≤ R.locals) (hRc : cells + 1 ≤ R.cells) (hRs : slots + 6 ≤ R.slots) (hlocks : meth.locks = false) :
    ai_thrs p e s below T locs cells slots (F0 m pc ls rest) cls := by
  have htr : e.platform.stackTraces = false := (show e.platform.stackTraces = l.stackTraces by rw [X.admits.platform]).trans hl
  have Y := ai_anew X (kc := 1) (ks := 6) hRc hRs
  have hown' : (ai_now s m args below T).vm.findClass own = some m.cls := hown
  have hins : (Cond.instantiable cls 6).before args (ai_now s m args below T) = true := h _ (by simp [Bundle.ownAtoms0])
  obtain ⟨vm₁, cX, kX, hfX, hkX, -, -, X₁, st1⟩ := Y.newCold hexec (own := own) (C := cls) (index := ik) (n := 6) hown' hk hins hini (g := F0 m pc ls rest) rfl (by rw [hb]; exact d0) (Nat.le_refl _) (Nat.le_refl _)
  generalize hT1 : (T.setVm vm₁).pushCell { cls := cX, slots := kX.instanceTypes.map defaultValue, vm := .none } = T1 at X₁ st1
  have hcat : (Value.ref T.heap.size).category = 1 := rfl
  have hcellA : T1.heap[T.heap.size]? = some (freshCell cX kX) := by rw [← hT1]; exact State.heap_pushCell_size _ _
  have d3' : decode c.code (pc + 3) = .ok (.dup, 1) := by rw [hb]; exact d3
  have hhp : (ai_now s m args below T).heap = T.heap := rfl
  obtain ⟨U, hsteps, hrun, hend, hW, hsame, ce, hce, hO⟩ := X₁.ctorThrow0 hexec htr (own := own) (cls := cls) (names := names) (ic := ic) hown' hcls hnames h (fun x hx => nomatch hx) hfX hkX hcellA (by rw [hhp]; exact Nat.le_refl _)
    (g := { method := m, pc := pc + 4, locals := ls, stack := .ref T.heap.size :: .ref T.heap.size :: rest, locked := none }) rfl hsize rfl rfl (rest := rest) rfl
    (by rw [hb]; exact d4) (by rw [hb]; exact d7) hout hRf (by simp only [List.map_cons, List.sum_cons, hcat]; have hz : (2 * ({ method := m, pc := pc + 4, locals := ls, stack := .ref T.heap.size :: .ref T.heap.size :: rest, locked := none } : JFrame).monitorRoom) = 0 := rfl; omega) hlocks
  obtain ⟨f1, f2, f3⟩ := ai_thr_same X hsame
  refine ⟨U, ce, T.heap.size, ?_, hrun, hend, ⟨hW, by simpa using f1⟩, f2, f3, hce, hO.vm, hO.cls⟩
  refine st1 _ ?_
  show Steps p.tables e below (T1.setTop { method := m, pc := pc + 3, locals := ls, stack := .ref T.heap.size :: rest, locked := none }) _
  jvm_step X₁.here [X₁.here.top, hexec, d3', Value.category]
  exact hsteps
set_option maxHeartbeats 1000000 in
theorem ai_throwS {ln : Nat} (X : Stand p l e R s m args below meth c T locs cells slots) (hexec : p.tables.exec = Jvm.exec) (hb : c.code = cc) (hl : l.stackTraces = false) (hown : s.vm.findClass own = some m.cls) (hcls : Bundle.fit cls = true) (hnames : ∀ n ∈ names, Bundle.fit n = true)
    (hk : (Cond.classLink own ik cls).before args (ai_now s m args below T) = true) (hini : (Cond.initialized cls).before args (ai_now s m args below T) = true) (hstr : vk_R own is text sa (ai_now s m args below T)) (h : ∀ w ∈ Bundle.ownAtoms own ic cls names, w.before args (ai_now s m args below T) = true) (hsize : ls.size = c.maxLocals)
    (d0 : decode cc pc = .ok (.new ik, 3)) (d3 : decode cc (pc + 3) = .ok (.dup, 1)) (d4 : (decode cc (pc + 4) = .ok (.ldc is, 2) ∧ ln = 2) ∨ (decode cc (pc + 4) = .ok (.ldc_w is, 3) ∧ ln = 3)) (d6 : decode cc (pc + 4 + ln) = .ok (.invokespecial ic, 3)) (d9 : decode cc (pc + 4 + ln + 3) = .ok (.athrow, 1))
    (hout : ∀ x ∈ c.exceptionTable.toList, covers x (pc + 4 + ln + 3) = false) (hRf : names.length + 3 < R.frames) (hRl : (rest.map fun v => v.category).sum + (13 * (names.length + 1) + 43) ≤ R.locals) (hRc : cells + 1 ≤ R.cells) (hRs : slots + 6 ≤ R.slots) (hlocks : meth.locks = false) :
    ai_thrs p e s below T locs cells slots (F0 m pc ls rest) cls := by
  have htr : e.platform.stackTraces = false := (show e.platform.stackTraces = l.stackTraces by rw [X.admits.platform]).trans hl
  have Y := ai_anew X (kc := 1) (ks := 6) hRc hRs
  have hown' : (ai_now s m args below T).vm.findClass own = some m.cls := hown
  have hins : (Cond.instantiable cls 6).before args (ai_now s m args below T) = true := h _ (by simp [Bundle.ownAtoms])
  obtain ⟨vm₁, cX, kX, hfX, hkX, -, -, X₁, st1⟩ := Y.newCold hexec (own := own) (C := cls) (index := ik) (n := 6) hown' hk hins hini (g := F0 m pc ls rest) rfl (by rw [hb]; exact d0) (Nat.le_refl _) (Nat.le_refl _)
  generalize hT1 : (T.setVm vm₁).pushCell { cls := cX, slots := kX.instanceTypes.map defaultValue, vm := .none } = T1 at X₁ st1
  have hcat : (Value.ref T.heap.size).category = 1 := rfl
  have hcellA : T1.heap[T.heap.size]? = some (freshCell cX kX) := by rw [← hT1]; exact State.heap_pushCell_size _ _
  have d3' : decode c.code (pc + 3) = .ok (.dup, 1) := by rw [hb]; exact d3
  have hhp : (ai_now s m args below T).heap = T.heap := rfl
  obtain ⟨U, hsteps, hrun, hend, hW, hsame, ce, hce, hO⟩ := X₁.ctorThrowS hexec htr (own := own) (cls := cls) (names := names) (ic := ic) hown' hcls hnames h (fun x hx => nomatch hx) hfX hkX hcellA (by rw [hhp]; exact Nat.le_refl _) (msg := .ref sa) rfl
    (g := { method := m, pc := pc + 4 + ln, locals := ls, stack := .ref sa :: .ref T.heap.size :: .ref T.heap.size :: rest, locked := none }) rfl hsize rfl rfl (rest := rest) rfl
    (by rw [hb]; exact d6) (by rw [hb]; exact d9) hout hRf (by simp only [List.map_cons, List.sum_cons, hcat]; have hz : (2 * ({ method := m, pc := pc + 4 + ln, locals := ls, stack := .ref sa :: .ref T.heap.size :: .ref T.heap.size :: rest, locked := none } : JFrame).monitorRoom) = 0 := rfl; omega) hlocks
  obtain ⟨f1, f2, f3⟩ := ai_thr_same X hsame
  refine ⟨U, ce, T.heap.size, ?_, hrun, hend, ⟨hW, by simpa using f1⟩, f2, f3, hce, hO.vm, hO.cls⟩
  refine st1 _ ?_
  show Steps p.tables e below (T1.setTop { method := m, pc := pc + 3, locals := ls, stack := .ref T.heap.size :: rest, locked := none }) _
  jvm_step X₁.here [X₁.here.top, hexec, d3', Value.category]
  rcases d4 with ⟨d4, rfl⟩ | ⟨d4, rfl⟩
  · have d4' : decode c.code (pc + 4) = .ok (.ldc is, 2) := by rw [hb]; exact d4
    exact X₁.ldcString hexec (own := own) (text := text) (index := is) (a := sa) hown' hstr.1 hstr.2
      (g := { method := m, pc := pc + 4, locals := ls, stack := .ref T.heap.size :: .ref T.heap.size :: rest, locked := none }) rfl d4' _ hsteps
  · have d4' : decode c.code (pc + 4) = .ok (.ldc_w is, 3) := by rw [hb]; exact d4
    exact X₁.ldcStringW hexec (own := own) (text := text) (index := is) (a := sa) hown' hstr.1 hstr.2
      (g := { method := m, pc := pc + 4, locals := ls, stack := .ref T.heap.size :: .ref T.heap.size :: rest, locked := none }) rfl d4' _ hsteps
end AITH
end
section
/-! THE CONTRACT OF A METHOD: what the small machine answers is what the large one does. -/
/-- what is given of the program: machine's constants, classes of constant objects, classes that are made, types of their fields; the entries that are String constants (class, entry, text, number), the static fields (class, name, type, what it holds), words of cells that nobody changes -/
abbrev ai_Y : Type := ai_G × (Nat → String × u_T) × List vw_C × (Nat → Nat → FieldType) × List (String × Nat × String × Nat) × List (String × String × String × Value) × List Cond
abbrev ai_yG (y : ai_Y) : ai_G := y.1
abbrev ai_yZ (y : ai_Y) : ai_S := y.1.1
abbrev ai_yN (y : ai_Y) : Nat → String := y.1.2.1
abbrev ai_yc (y : ai_Y) : Nat → String × u_T := y.2.1
abbrev ai_yl (y : ai_Y) : List vw_C := y.2.2.1
abbrev ai_yt (y : ai_Y) : Nat → Nat → FieldType := y.2.2.2.1
abbrev ai_ys (y : ai_Y) : List (String × Nat × String × Nat) := y.2.2.2.2.1
abbrev ai_yf (y : ai_Y) : List (String × String × String × Value) := y.2.2.2.2.2.1
abbrev ai_yw (y : ai_Y) : List Cond := y.2.2.2.2.2.2
/-- what holds of the constants at a state, seen by a method that changes cells of A alone -/
def ai_E (y : ai_Y) (sa : Nat → Nat) (A : Nat → Prop) (U : State) (H : Heap) : Prop :=
  (∀ k x, ai_yZ y k = some x → ai_zc (ai_yc y) sa x (sa k) A U H) ∧ (∀ q ∈ ai_ys y, vk_R q.1 q.2.1 q.2.2.1 (sa q.2.2.2) U) ∧ (∀ q ∈ ai_yf y, ∃ V, ai_v sa [] q.2.2.2 V ∧ va_Z q.1 q.2.1 q.2.2.1 V A U H) ∧ (∀ w ∈ ai_yw y, ai_stay w A U H) ∧ va_AO "QueryReader$Sort" U ∧ va_AO "java/lang/String" U
theorem ai_E_moved {y : ai_Y} {sa : Nat → Nat} {A : Nat → Prop} {u U : State} {H : Heap} (hW : u.WarmedH U.vm) (h : ai_E y sa A u H) : ai_E y sa A U H := by
  obtain ⟨h1, h2, h3, h4, h5, h6⟩ := h
  refine ⟨fun k x hk => ai_zc_moved hW.alike (h1 k x hk), fun q hq => vk_R.warm hW (h2 q hq), fun q hq => ?_, fun w hw => ai_stay_moved hW.alike (h4 w hw), va_AO.moved hW.alike h5, va_AO.moved hW.alike h6⟩
  obtain ⟨V, g1, g2⟩ := h3 q hq
  exact ⟨V, g1, va_Z.moved hW.alike g2⟩
theorem ai_E_kept {y : ai_Y} {sa : Nat → Nat} {A : Nat → Prop} {U : State} {H H1 : Heap} (hz : H.size ≤ H1.size) (h : ai_E y sa A U H) (hq : ∀ a : Nat, a < H.size → ¬ A a → H1[a]? = H[a]?) : ai_E y sa A U H1 := by
  obtain ⟨h1, h2, h3, h4, h5, h6⟩ := h
  refine ⟨fun k x hk => ai_zc_kept (h1 k x hk) hq, h2, fun q hq2 => ?_, fun w hw => ai_stay_kept hz (h4 w hw) hq, h5, h6⟩
  obtain ⟨V, g1, g2⟩ := h3 q hq2
  exact ⟨V, g1, g2.kept hq⟩
theorem ai_E_narrow {y : ai_Y} {sa : Nat → Nat} {A B : Nat → Prop} {U : State} {H : Heap} (h : ai_E y sa A U H) (hAB : ∀ q, B q → A q) : ai_E y sa B U H := by
  obtain ⟨h1, h2, h3, h4, h5, h6⟩ := h
  refine ⟨fun k x hk => ai_zc_narrow (h1 k x hk) hAB, h2, fun q hq2 => ?_, fun w hw => ai_stay_narrow (h4 w hw) hAB, h5, h6⟩
  obtain ⟨V, g1, g2⟩ := h3 q hq2
  exact ⟨V, g1, g2.narrow hAB⟩
/-- a method's start: its arguments Vs, its world ws0 in a heap of sz cells -/
def ai_Pc (y : ai_Y) (sa : Nat → Nat) (D : va_G) (tys0 : List (ClassId × FieldType)) (ws0 : va_W) (Vs : List Value) (sz : Nat) : Array Value → State → Prop := fun a U =>
  a = Vs.toArray ∧ U.heap.size = sz ∧ va_P D (ai_yl y) ws0 U.heap ∧ va_K D (ai_yl y) tys0 U ∧ va_D (fun _ => True) ws0 ∧ ai_E y sa (va_A ws0 sz) U U.heap
/-- how it ends: as the small machine says -/
def ai_res (sa : Nat → Nat) (ad : List Nat) (O : Option Value ⊕ String) (st : State) (o : Outcome) (t : State) : Prop := match O with
  | .inl none => o = .returned none
  | .inl (some v) => ∃ V, o = .returned (some V) ∧ ai_v sa ad v V
  | .inr E => ∃ (q : Addr) (ce : Cell), o = .threw q ∧ t.heap[q]? = some ce ∧ ce.vm = .none ∧ st.vm.findClass E = some ce.cls
def ai_Qc (y : ai_Y) (sa : Nat → Nat) (D : va_G) (ad0 : List Nat) (A : Nat → Prop) (kc ks : Nat) (out : ai_O) : Array Value → State → Outcome → State → Prop := fun _ st o t =>
  ∃ (ad : List Nat) (tys : List (ClassId × FieldType)) (ws : va_W) (L : List Loc), (∃ q, ad = ad0 ++ q) ∧ ai_w (ai_yZ y) (ai_yN y) sa ad tys out.2.1 ws ∧ va_K D (ai_yl y) tys t ∧ va_P D (ai_yl y) ws t.heap ∧ va_D A ws ∧ va_F A st t ∧ ai_end st t L (out.2.2.1 - kc) (out.2.2.2 - ks) ∧ (∀ z ∈ L, A z.base) ∧ ai_res sa ad out.1 st o t
/-- the room of a call that may go d deep -/
def ai_rm (d mc ms : Nat) : Room := { frames := d + 6, cells := mc, slots := ms, locals := 40 * d + 200 }
/-- the words of a method: its code, and those of the tables -/
def ai_ws (TB : List Cond) (M : ai_M) : List Cond := ai_cw (ai_Mn M) (ai_Mb M) (ai_Ml M) (ai_Mr M) (ai_Mx M) :: TB
/-- the contract of a method at one start of the small machine -/
def ai_Met (l : Launch) (TB : List Cond) (y : ai_Y) (sa : Nat → Nat) (D : va_G) (d : Nat) (M : ai_M) (As : List Value) (h : ai_H) (out : ai_O) : Prop :=
  ∀ (ad0 : List Nat) (tys0 : List (ClassId × FieldType)) (ws0 : va_W) (Vs : List Value) (sz : Nat), ai_w (ai_yZ y) (ai_yN y) sa ad0 tys0 h.1 ws0 → ai_vs sa ad0 As Vs →
    MetFree l (ai_Mn M) (headSpec (ai_ws TB M) (ai_rm d (out.2.2.1 - h.2.1) (out.2.2.2 - h.2.2))) (ai_Pc y sa D tys0 ws0 Vs sz) (fun _ _ _ _ _ => True) (ai_Qc y sa D ad0 (va_A ws0 sz) h.2.1 h.2.2 out)
/-! the numbers of cells and slots only grow -/
def ai_le (h h' : ai_H) : Prop := h.2.1 ≤ h'.2.1 ∧ h.2.2 ≤ h'.2.2
theorem ai_le_refl (h : ai_H) : ai_le h h := ⟨Nat.le_refl _, Nat.le_refl _⟩
theorem ai_le_trans {a b c : ai_H} (h1 : ai_le a b) (h2 : ai_le b c) : ai_le a c := ⟨Nat.le_trans h1.1 h2.1, Nat.le_trans h1.2 h2.2⟩
theorem ai_eff_le {G : ai_G} {i : Instr} {r : ai_R} {L L' : ai_L} {S S' : List Value} {h h' : ai_H} {t : Nat} (he : ai_eff G i r L S h = some (t, L', S', h')) : ai_le h h' := by
  have z : ∀ {t t' : Nat} {L L' : ai_L} {S S' : List Value} {g g' : ai_H}, (some (t, L, S, g) : Option ai_N) = some (t', L', S', g') → ai_le h g → ai_le h g' := by
    intro t t' L L' S S' g g' e hg
    cases e
    exact hg
  unfold ai_eff at he
  split at he <;> first
    | (cases he; done)
    | exact z he (ai_le_refl h)
    | (unfold ai_const at he; split at he <;> first | exact z he (ai_le_refl h) | cases he)
    | (unfold ai_iload at he; split at he <;> first | exact z he (ai_le_refl h) | cases he)
    | (unfold ai_aload at he; split at he <;> first | (split at he <;> first | exact z he (ai_le_refl h) | cases he) | cases he)
    | (unfold ai_istore at he; split at he <;> first | (split at he <;> first | exact z he (ai_le_refl h) | cases he) | cases he)
    | (unfold ai_astore at he; split at he <;> first | (split at he <;> first | exact z he (ai_le_refl h) | cases he) | cases he)
    | (unfold ai_inc at he; split at he <;> first | exact z he (ai_le_refl h) | cases he)
    | (unfold ai_bin at he; split at he <;> first | exact z he (ai_le_refl h) | cases he)
    | (unfold ai_divs at he; split at he <;> first | (split at he <;> first | exact z he (ai_le_refl h) | cases he) | cases he)
    | (unfold ai_un at he; split at he <;> first | exact z he (ai_le_refl h) | cases he)
    | (unfold ai_dup at he; split at he <;> first | (split at he <;> first | (split at he <;> first | exact z he (ai_le_refl h) | cases he) | cases he) | cases he)
    | (unfold ai_jump at he; exact z he (ai_le_refl h))
    | (split at he <;> first | (unfold ai_jump at he; exact z he (ai_le_refl h)) | (unfold ai_sw at he; exact z he (ai_le_refl h)) | exact z he (ai_le_refl h) | (cases he; done) | (split at he <;> first | (unfold ai_jump at he; exact z he (ai_le_refl h)) | exact z he (ai_le_refl h) | (cases he; done) | (split at he <;> first | (unfold ai_jump at he; exact z he (ai_le_refl h)) | cases he)))
    | (unfold ai_getf at he; split at he <;> first | (split at he <;> first | (split at he <;> first | (split at he <;> first | exact z he (ai_le_refl h) | cases he) | cases he) | cases he) | cases he)
    | (unfold ai_putf at he; split at he <;> first | (split at he <;> first | (split at he <;> first | exact z he (ai_le_refl h) | cases he) | cases he) | cases he)
    | (unfold ai_ald at he; split at he <;> first | (split at he <;> first | (split at he <;> first | exact z he (ai_le_refl h) | cases he) | cases he) | cases he)
    | (unfold ai_lald at he; split at he <;> first | (split at he <;> first | (split at he <;> first | exact z he (ai_le_refl h) | cases he) | cases he) | cases he)
    | (unfold ai_aald at he; split at he <;> first | (split at he <;> first | (split at he <;> first | exact z he (ai_le_refl h) | cases he) | cases he) | cases he)
    | (unfold ai_ast at he; split at he <;> first | (split at he <;> first | (split at he <;> first | exact z he (ai_le_refl h) | cases he) | cases he) | cases he)
    | (unfold ai_last at he; split at he <;> first | (split at he <;> first | (split at he <;> first | exact z he (ai_le_refl h) | cases he) | cases he) | cases he)
    | (unfold ai_aast at he; split at he <;> first | (split at he <;> first | (split at he <;> first | (split at he <;> first | exact z he (ai_le_refl h) | cases he) | cases he) | cases he) | cases he)
    | (unfold ai_alen at he; split at he <;> first | (split at he <;> first | exact z he (ai_le_refl h) | cases he) | cases he)
    | (unfold ai_newa at he; split at he <;> first | (split at he <;> first | exact z he ⟨Nat.le_succ _, Nat.le_add_right _ _⟩ | cases he) | cases he)
    | (unfold ai_newq at he; split at he <;> first | (split at he <;> first | exact z he ⟨Nat.le_succ _, Nat.le_add_right _ _⟩ | cases he) | cases he)
    | (unfold ai_new at he; exact z he ⟨Nat.le_succ _, Nat.le_add_right _ _⟩)
end
section
theorem ai_copy_le {S S' : List Value} {h h' : ai_H} (he : ai_copy S h = some (S', h')) : ai_le h h' := by
  unfold ai_copy at he
  split at he
  · split at he
    · cases he
    · split at he
      · split at he
        · split at he
          · cases he; exact ai_le_refl h
          · cases he
        · cases he
      · split at he
        · split at he
          · cases he; exact ai_le_refl h
          · cases he
        · cases he
      · cases he
  · cases he
theorem ai_go_le {G : ai_G} {rec : Nat → List Value → ai_H → Option ai_O} (hrec : ∀ mi As h out, rec mi As h = some out → ai_le h out.2) {M : ai_M} : ∀ (n k : Nat) (L : ai_L) (S : List Value) (h : ai_H) (out : ai_O), ai_go G rec M n k L S h = some out → ai_le h out.2 := by
  intro n
  induction n with
  | zero => intro k L S h out he; cases he
  | succ n ih =>
    intro k L S h out he
    simp only [ai_go] at he
    split at he
    · cases he
    · split at he
      · split at he
        · rename_i heff
          exact ai_le_trans (ai_eff_le heff) (ih _ _ _ _ _ he)
        · cases he
      · split at he
        · split at he
          · rename_i hr
            exact ai_le_trans (hrec _ _ _ _ hr) (ih _ _ _ _ _ he)
          · rename_i hr
            split at he
            · split at he
              · exact ai_le_trans (hrec _ _ _ _ hr) (ih _ _ _ _ _ he)
              · cases he
            · cases he
              exact hrec _ _ _ _ hr
          · cases he
        · cases he
      · split at he
        · cases he
          exact ⟨Nat.le_succ _, Nat.le_add_right _ _⟩
        · cases he
      · split at he
        · split at he
          · exact ih _ _ _ _ _ he
          · cases he
        · cases he
      · split at he
        · rename_i hc
          split at he
          · exact ai_le_trans (ai_copy_le hc) (ih _ _ _ _ _ he)
          · cases he
        · cases he
      · split at he
        · split at he
          · split at he
            · cases he; exact ai_le_refl h
            · cases he
          · cases he
        · cases he
      · split at he
        · split at he
          · cases he; exact ai_le_refl h
          · cases he
        · cases he
      · split at he
        · cases he; exact ai_le_refl h
        · cases he
      · cases he
theorem ai_run_le {P : Nat → Option ai_M} {G : ai_G} {F : Nat} : ∀ (d mi : Nat) (As : List Value) (h : ai_H) (out : ai_O), ai_run P G F d mi As h = some out → ai_le h out.2 := by
  intro d
  induction d with
  | zero => intro mi As h out he; cases he
  | succ d ih =>
    intro mi As h out he
    simp only [ai_run] at he
    split at he
    · split at he
      · exact ai_go_le (fun mi As h out => ih mi As h out) _ _ _ _ _ _ he
      · cases he
    · cases he
section AIR2
variable {p : Program} {l : Launch} {e : Env} {R : Room} {s : State} {m : MethodId} {args : Array Value} {below : List Frame} {meth : Method} {c : Code} {Q : State → Prop}
variable {y : ai_Y} {sa : Nat → Nat} {D : va_G} {A : Nat → Prop} {ad0 : List Nat} {kc ks : Nat} {cc : ByteArray} {pc : Nat} {L : ai_L} {h : ai_H} {out : ai_O}
/-- what a body owes -/
def ai_Zp (y : ai_Y) (sa : Nat → Nat) (D : va_G) (ad0 : List Nat) (A : Nat → Prop) (kc ks : Nat) (out : ai_O) (below : List Frame) (args : Array Value) (s : State) : State → Prop := fun t => ∃ o, t.status = .running ∧ Ended t below o ∧ ai_Qc y sa D ad0 A kc ks out args s o t
theorem ai_Wmono {Q1 Q2 : State → Prop} {H : Heap} {locs : List Loc} {cells slots : Nat} {g : JFrame} (h : ∀ t, Q1 t → Q2 t) (k : W p l e R s m args below meth c H locs cells slots Q1 g) : W p l e R s m args below meth c H locs cells slots Q2 g := by
  intro T hT X
  obtain ⟨t, a, b⟩ := k T hT X
  exact ⟨t, a, h t b⟩
/-- the world behind an end -/
theorem ai_ended {ad : List Nat} {tys : List (ClassId × FieldType)} {ws : va_W} {H : Heap} {locs L9 : List Loc} {cells slots : Nat} {t : State} {o : Outcome} {O : Option Value ⊕ String} (ha : ai_At s (ai_yZ y) (ai_yN y) sa D (ai_yl y) A ad0 kc ks h ad tys ws H locs cells slots) (hH : t.heap = H) (hW : s.WarmedH t.vm)
    (hE : s.sameButNew ({ t with vm := s.vm } : State) L9 cells slots) (hL : ∀ z ∈ L9, A z.base) (hr : ai_res sa ad O s o t) : ai_Qc y sa D ad0 A kc ks (O, h) args s o t := by
  obtain ⟨q1, q2, q3, hw, hK, hP, hD, hS⟩ := ha
  have e1 : h.2.1 - kc = cells := by omega
  have e2 : h.2.2 - ks = slots := by omega
  refine ⟨ad, tys, ws, L9, q1, hw, va_K.moved hW.alike hK, by rw [hH]; exact hP, hD, hS.F hH, ⟨hW, ?_⟩, hL, hr⟩
  show s.sameButNew _ L9 (h.2.1 - kc) (h.2.2 - ks)
  rw [e1, e2]
  exact hE
theorem ai_iret_ok (hx : p.tables.exec = Jvm.exec) (hb : c.code = cc) (hd : decode cc pc = .ok (.ireturn, 1)) (hlocks : meth.locks = false) {ty : FieldType} (hr : meth.sig.returnType = some ty) {x : Int32} (hn : narrow ty (.int x) = .int x) :
    ai_W p l e R s m args below meth c (ai_Zp y sa D ad0 A kc ks (.inl (some (.int x)), h) below args s) (ai_yZ y) (ai_yN y) sa D (ai_yl y) A ad0 kc ks pc L [.int x] h := by
  intro ad tys ws H locs cells slots ls st ha hl hs
  obtain ⟨V, T, rfl, hv, hs9⟩ := ai_vs_cons hs
  rw [ai_vs_nil hs9, show V = .int x from hv]
  refine ai_Wmono (fun t ht => ?_) (W.zret (Qc := fun _ _ o t => o = .returned (some (.int x)) ∧ t.heap = H) (free := A) hx hb hr hn (fun t h1 _ => ⟨rfl, h1⟩) ha.2.2.2.2.2.2.2.2.2 hd hlocks)
  obtain ⟨o, b1, b2, ⟨rfl, b3⟩, L9, ⟨-, b4, b5⟩, b6⟩ := ht
  exact ⟨_, b1, b2, ai_ended ha b3 b4 b5 b6 ⟨_, rfl, rfl⟩⟩
theorem ai_aret_ok (hx : p.tables.exec = Jvm.exec) (hb : c.code = cc) (hd : decode cc pc = .ok (.areturn, 1)) (hlocks : meth.locks = false) {rt : FieldType} (hr : meth.sig.returnType = some rt) (hrt : (∃ n, rt = .object n) ∨ ∃ t, rt = .array t) {v : Value} (hn : (ai_nul v).isSome = true) :
    ai_W p l e R s m args below meth c (ai_Zp y sa D ad0 A kc ks (.inl (some v), h) below args s) (ai_yZ y) (ai_yN y) sa D (ai_yl y) A ad0 kc ks pc L [v] h := by
  intro ad tys ws H locs cells slots ls st ha hl hs
  obtain ⟨V, T, rfl, hv, hs9⟩ := ai_vs_cons hs
  rw [ai_vs_nil hs9]
  obtain ⟨b, hb9⟩ := Option.isSome_iff_exists.mp hn
  have hV : V = .null ∨ ∃ a, V = .ref a := by
    rcases ai_nul_v hb9 hv with ⟨-, h1⟩ | ⟨-, h1⟩
    · exact Or.inl h1
    · exact Or.inr h1
  refine ai_Wmono (fun t ht => ?_) (W.aret (Qc := fun _ _ o t => o = .returned (some V) ∧ t.heap = H) (free := A) hx hb hr hrt hV (fun t h1 _ => ⟨rfl, h1⟩) ha.2.2.2.2.2.2.2.2.2 hd hlocks)
  obtain ⟨o, b1, b2, ⟨rfl, b3⟩, L9, ⟨-, b4, b5⟩, b6⟩ := ht
  exact ⟨_, b1, b2, ai_ended ha b3 b4 b5 b6 ⟨_, rfl, hv⟩⟩
theorem ai_vret_ok (hx : p.tables.exec = Jvm.exec) (hb : c.code = cc) (hd : decode cc pc = .ok (.return_, 1)) (hlocks : meth.locks = false) (hr : meth.sig.returnType = none) :
    ai_W p l e R s m args below meth c (ai_Zp y sa D ad0 A kc ks (.inl none, h) below args s) (ai_yZ y) (ai_yN y) sa D (ai_yl y) A ad0 kc ks pc L [] h := by
  intro ad tys ws H locs cells slots ls st ha hl hs
  rw [ai_vs_nil hs]
  refine ai_Wmono (fun t ht => ?_) (W.vret (Qc := fun _ _ o t => o = .returned none ∧ t.heap = H) (free := A) hx hb hr (fun t h1 _ => ⟨rfl, h1⟩) ha.2.2.2.2.2.2.2.2.2 hd hlocks)
  obtain ⟨o, b1, b2, ⟨rfl, b3⟩, L9, ⟨-, b4, b5⟩, b6⟩ := ht
  exact ⟨_, b1, b2, ai_ended ha b3 b4 b5 b6 rfl⟩
/-- a throw of the method's own -/
theorem ai_throw_ok {cls : String} (row : ∀ (T : State) (locs : List Loc) (cells slots : Nat) (ls : Array Slot) (st : List Value), Stand p l e R s m args below meth c T locs cells slots → va_S A s.heap T.heap locs → cells + 1 ≤ R.cells → slots + 6 ≤ R.slots → ls.size = c.maxLocals → (st.map fun v => v.category).sum ≤ 8 → ai_thrs p e s below T locs cells slots (F0 m pc ls st) cls)
    {S : List Value} (hwt : ai_wt S ≤ 8) (hR1 : h.2.1 + 1 ≤ kc + R.cells) (hR2 : h.2.2 + 6 ≤ ks + R.slots) :
    ai_W p l e R s m args below meth c (ai_Zp y sa D ad0 A kc ks (.inr cls, h.1, h.2.1 + 1, h.2.2 + 6) below args s) (ai_yZ y) (ai_yN y) sa D (ai_yl y) A ad0 kc ks pc L S h := by
  intro ad tys ws H locs cells slots ls st ha hl hs T hT X
  have hml : ls.size = c.maxLocals := by obtain ⟨_, lv, hlv, _⟩ := hl; exact hlv.1
  have hwT : (st.map fun v => v.category).sum ≤ 8 := by
    have := ai_vs_wt hs
    unfold ai_wt at this hwt
    omega
  obtain ⟨q1, q2, q3, hw, hK, hP, hD, hS⟩ := ha
  obtain ⟨U, ce, q, s1, s2, s3, s4, s5, s6, s7, s8, s9⟩ := row T locs cells slots ls st X (by rw [hT]; exact hS) (by omega) (by omega) hml hwT
  rw [hT] at s5 s6
  refine ⟨U, s1, .threw q, s2, s3, ad, tys, ws, locs, q1, hw, va_K.moved s4.1.alike hK, ?_, hD, ?_, ?_, hS.2.2, q, ce, rfl, s7, s8, s9⟩
  · intro k z hz
    exact (hP k z hz).kept (s6 _ (hP k z hz).lt)
  · exact ⟨Nat.le_trans hS.1 s5, fun z h1 h2 => (s6 z (Nat.lt_of_lt_of_le h1 hS.1)).trans (hS.2.1 z h1 h2)⟩
  · have e1 : h.2.1 + 1 - kc = cells + 1 := by omega
    have e2 : h.2.2 + 6 - ks = slots + 6 := by omega
    show ai_end s U locs (h.2.1 + 1 - kc) (h.2.2 + 6 - ks)
    rw [e1, e2]
    exact s4
end AIR2
end
section
section AICL
variable {p : Program} {l : Launch} {e : Env} {R : Room} {s : State} {m : MethodId} {args : Array Value} {below : List Frame} {meth : Method} {c : Code}
variable {y : ai_Y} {sa : Nat → Nat} {D : va_G} {A : Nat → Prop} {ad0 : List Nat} {kc ks : Nat} {cc : ByteArray} {pc n d : Nat} {L : ai_L} {S : List Value} {h : ai_H} {out out' : ai_O} {TB : List Cond} {M' : ai_M} {own : String} {i : Instr}
theorem ai_take_rev {st : List Value} {n : Nat} : st = ((st.take n).reverse).reverse ++ st.drop n := by
  rw [List.reverse_reverse, List.take_append_drop]
set_option maxHeartbeats 1000000 in
/-- a call: the callee ends as the small machine says, and the caller goes on -/
theorem ai_call_ok (hb : c.code = cc) (hd : decode cc pc = .ok (i, 3)) (hts : ∀ w ∈ TB, w.before args s = true) (hst : ∀ w ∈ TB, ai_st w = true) (hcw : ai_cw (ai_Mn M') (ai_Mb M') (ai_Ml M') (ai_Mr M') (ai_Mx M') ∈ TB) (hini : Cond.initialized (ai_Mn M').cls ∈ TB)
    (hown : s.vm.findClass own = some m.cls) (hA : ∀ q, s.heap.size ≤ q → A q) (hE : ai_E y sa A s s.heap) (hlocks : meth.locks = false)
    (hRf : d + 6 + 1 ≤ R.frames) (hRl : 8 + (ai_Ml M' + 11) + (40 * d + 200) ≤ R.locals) (hle : ai_le h out'.2) (hR1 : out'.2.2.1 ≤ kc + R.cells) (hR2 : out'.2.2.2 ≤ ks + R.slots)
    (hmet : ai_Met l TB y sa D d M' ((S.take n).reverse) h out') (hwt : ai_wt (S.drop n) ≤ 8)
    (hent : ∀ (ad : List Nat) (tys : List (ClassId × FieldType)) (ws : va_W) (T : State) (locs : List Loc) (cells slots : Nat) (ls : Array Slot) (Vs rest : List Value), ai_w (ai_yZ y) (ai_yN y) sa ad tys h.1 ws → va_K D (ai_yl y) tys s → va_P D (ai_yl y) ws T.heap → va_S A s.heap T.heap locs → ai_vs sa ad ((S.take n).reverse) Vs → Stand p l e R s m args below meth c T locs cells slots → ai_enters p l e R s m args below meth c T locs cells slots (F0 m pc ls (Vs.reverse ++ rest)) rest (ai_Mn M') Vs.toArray)
    (hkr : ∀ v, out'.1 = .inl v → ai_W p l e R s m args below meth c (ai_Zp y sa D ad0 A kc ks out below args s) (ai_yZ y) (ai_yN y) sa D (ai_yl y) A ad0 kc ks (pc + 3) L (v.toList ++ S.drop n) out'.2)
    (hkt : ∀ E, out'.1 = .inr E → (∃ x, c.exceptionTable.toList = [x] ∧ covers x pc = true ∧ x.catchType ≠ 0 ∧ (Cond.classLink own x.catchType E).before args s = true ∧ ai_W p l e R s m args below meth c (ai_Zp y sa D ad0 A kc ks out below args s) (ai_yZ y) (ai_yN y) sa D (ai_yl y) A ad0 kc ks x.handlerPc L [.float 0] out'.2) ∨ ((∀ x ∈ c.exceptionTable.toList, covers x pc = false) ∧ out = (.inr E, out'.2))) :
    ai_W p l e R s m args below meth c (ai_Zp y sa D ad0 A kc ks out below args s) (ai_yZ y) (ai_yN y) sa D (ai_yl y) A ad0 kc ks pc L S h := by
  intro ad tys ws H locs cells slots ls st ha hl hs T hT X
  obtain ⟨⟨q0, q1⟩, q2, q3, hw, hK, hP, hD, hS⟩ := ha
  subst hT
  have hml : ls.size = c.maxLocals := by obtain ⟨_, lv, hlv, _⟩ := hl; exact hlv.1
  obtain ⟨hs1, hs2⟩ := ai_vs_split n hs
  have hs3 := ai_vs_rev hs1
  have hst9 : st = ((st.take n).reverse).reverse ++ st.drop n := ai_take_rev
  generalize (st.take n).reverse = Vs at hs3 hst9
  generalize st.drop n = rest at hs2 hst9
  subst hst9
  have hwT : (rest.map fun v => v.category).sum ≤ 8 := by
    have := ai_vs_wt hs2
    unfold ai_wt at this hwt
    omega
  obtain ⟨vm₁, mk, hW₁, X₁, hn, hstep⟩ := hent ad tys ws T locs cells slots ls Vs rest hw hK hP hS hs3 X
  have htab : ∀ (a' : Array Value) (w : Cond), w ∈ TB → w.before a' (T.setVm vm₁) = true := fun a' w hw9 => ai_st_at (hst w hw9) (U := T.setVm vm₁) hW₁ (hts w hw9)
  obtain ⟨mk', methY, cY, hnY, hmY, hcY, -, hlY, -⟩ := ai_cd_of (htab #[] _ hcw)
  cases hn.symm.trans hnY
  have hMF := hmet ad tys ws Vs T.heap.size hw hs3
  have hsub : ∀ q, va_A ws T.heap.size q → A q := by
    intro q hq
    rcases hq with ⟨k, E, hk⟩ | hq
    · exact hD.2 k _ hk
    · exact hA q (Nat.le_trans hS.1 hq)
  have hE1 : ai_E y sa (va_A ws T.heap.size) (T.setVm vm₁) T.heap := ai_E_narrow (ai_E_moved (U := T.setVm vm₁) hW₁ (ai_E_kept hS.1 hE hS.2.1)) hsub
  have hPc : ai_Pc y sa D tys ws Vs T.heap.size Vs.toArray ((T.setVm vm₁).calling (F0 m pc ls rest) mk Vs.toArray) := by
    refine ⟨rfl, rfl, hP, va_K.moved (U := (T.setVm vm₁).calling (F0 m pc ls rest) mk Vs.toArray) hW₁.alike hK, hD.weaken (fun _ _ _ _ => trivial), ?_⟩
    exact ai_E_moved (u := T.setVm vm₁) (U := (T.setVm vm₁).calling (F0 m pc ls rest) mk Vs.toArray) (State.WarmedH.refl (T.setVm vm₁)) hE1
  have hrc : (ai_rm d (out'.2.2.1 - h.2.1) (out'.2.2.2 - h.2.2)).cells = out'.2.2.1 - h.2.1 := rfl
  have hle1 := hle.1
  have hle2 := hle.2
  obtain ⟨o, t, hsteps, hend, hq⟩ := ai_invoke X₁ hMF (g := F0 m pc ls rest) (ig := i) (len := 3) (W9 := 8) rfl hml (by rw [hb]; exact hd) (lv_room hwT) hn hmY hcY hRf
    (by rw [hlY]; exact hRl) (by show cells + (out'.2.2.1 - h.2.1) ≤ R.cells; omega) (by show slots + (out'.2.2.2 - h.2.2) ≤ R.slots; omega) (htab _ _ hini)
    (atoms_intro (ws := ai_ws TB M') fun w hw9 => by
      rcases List.mem_cons.mp hw9 with rfl | hw9
      · exact htab _ _ hcw
      · exact htab _ _ hw9) hPc
  obtain ⟨ad', tys', ws', L', ⟨q', g1⟩, hw', hK', hP', hD', hF', hend', hL', hres⟩ := hq
  have X' := ai_stands X₁ hend'
  have hW2 : (T.setVm vm₁).WarmedH t.vm := hend'.1
  have hal : s.vm.Alike t.vm := hW₁.alike.trans hW2.alike
  have hS' : va_S A s.heap t.heap (locs ++ L') := by
    obtain ⟨z1, z2⟩ := hF'
    refine ⟨Nat.le_trans hS.1 z1, fun q h1 h2 => ?_, fun q hq => ?_⟩
    · exact (z2 q (Nat.lt_of_lt_of_le h1 hS.1) (fun z => h2 (hsub q z))).trans (hS.2.1 q h1 h2)
    · rcases List.mem_append.mp hq with h9 | h9
      · exact hS.2.2 q h9
      · exact hsub _ (hL' q h9)
  have ha' : ai_At s (ai_yZ y) (ai_yN y) sa D (ai_yl y) A ad0 kc ks out'.2 ad' tys' ws' t.heap (locs ++ L') (cells + (out'.2.2.1 - h.2.1)) (slots + (out'.2.2.2 - h.2.2)) :=
    ⟨⟨q0 ++ q', by rw [g1, q1, List.append_assoc]⟩, by omega, by omega, hw', va_K.moved hal.symm hK', hP', hD'.weaken (fun _ _ _ hz => hsub _ hz), hS'⟩
  have hl' : ai_l sa ad' L c.maxLocals ls := by rw [g1]; exact ai_l_more hl q'
  have hs2' : ai_vs sa ad' (S.drop n) rest := by rw [g1]; exact ai_vs_more q' hs2
  rcases hO : out'.1 with v | E
  · have hkr' := hkr v hO
    rw [hO] at hres
    have hgo : ∀ V : Option Value, o = .returned V → ai_vs sa ad' (v.toList ++ S.drop n) (V.toList ++ rest) → ∃ t2, Steps p.tables e below (T.setTop (F0 m pc ls (Vs.reverse ++ rest))) t2 ∧ ai_Zp y sa D ad0 A kc ks out below args s t2 := by
      intro V hV hvs
      rw [hV] at hend
      have ht := ai_returned X₁ (g := F0 m pc ls rest) rfl (by rw [hb]; exact hd) hend' hend
      obtain ⟨t2, a1, b1⟩ := hkr' ad' tys' ws' t.heap (locs ++ L') _ _ ls (V.toList ++ rest) ha' hl' hvs (ai_behind (T.setVm vm₁) t) rfl X'
      refine ⟨t2, hstep t2 (hsteps.trans ?_), b1⟩
      rw [ht]
      exact a1
    cases v with
    | none => exact hgo none hres hs2'
    | some v =>
      obtain ⟨V, h1, h2⟩ := hres
      exact hgo (some V) h1 ⟨h2, hs2'⟩
  · rw [hO] at hres
    obtain ⟨q, ce, rfl, hce, hcv, hcl⟩ := hres
    have ht := ai_thrown X₁ (g := F0 m pc ls rest) rfl hend' hend
    have hcl' : s.vm.findClass E = some ce.cls := by
      have h9 : vm₁.findClass E = some ce.cls := hcl
      rw [hW₁.alike.findClass] at h9
      exact h9
    rcases hkt E hO with ⟨x, t1, t2, t3, t4, t5⟩ | ⟨t1, t2⟩
    · obtain ⟨vm', X'', st''⟩ := ai_caught X' q (g := F0 m pc ls rest) rfl hown t1 t2 t3 t4 hce hcv hcl'
      obtain ⟨t9, a1, b1⟩ := t5 ad' tys' ws' t.heap (locs ++ L') _ _ ls [.ref q] ha' hl' ⟨Or.inr ⟨q, rfl⟩, trivial⟩ ((ai_behind (T.setVm vm₁) t).setVm vm') rfl X''
      refine ⟨t9, hstep t9 (hsteps.trans ?_), b1⟩
      rw [ht]
      exact st'' t9 a1
    · obtain ⟨st1, hrun, hend2, hWW, hsm⟩ := X'.leaveThrown q (g := F0 m pc ls rest) rfl rfl rfl t1 hlocks
      refine ⟨_, hstep _ (hsteps.trans (by rw [ht]; exact st1)), .threw q, hrun, hend2, ?_⟩
      rw [t2]
      exact ai_ended ha' rfl hWW hsm hS'.2.2 ⟨q, ce, rfl, hce, hcv, hcl'⟩
end AICL
end
section
/-! THE TABLES OF A METHOD ARE CHECKED BY PROGRAM: every instruction's link stands among the words TB, at the place that it names. -/
def ai_tb (TB : List Cond) (j : Int) (w : Cond) : Bool := decide (TB[j.toNat]? = some w)
theorem ai_tb_ok {TB : List Cond} {j : Int} {w : Cond} {s : State} {args : Array Value} (hts : ∀ w ∈ TB, w.before args s = true) (h : ai_tb TB j w = true) : w.before args s = true := hts w (List.mem_of_getElem? (of_decide_eq_true h))
/-- where the k-th instruction stands -/
def ai_pcs (M : ai_M) (k : Nat) : Nat := match (ai_Mc M)[k]? with
  | some it => it.1
  | none => 0
def ai_flc (TB : List Cond) (own : String) (idx : Nat) (q : String × String × String × Bool) (j : Int) : Bool := match TB[j.toNat]? with
  | some (.fieldLink o ix c n d) => decide (o = own ∧ ix = idx ∧ c = q.1 ∧ n = q.2.1 ∧ d = q.2.2.1)
  | some (.fieldLinkNest o ix c n d _) => decide (o = own ∧ ix = idx ∧ c = q.1 ∧ n = q.2.1 ∧ d = q.2.2.1)
  | _ => false
theorem ai_flc_ok {TB : List Cond} {own : String} {idx : Nat} {q : String × String × String × Bool} {j : Int} {s : State} {args : Array Value} (hts : ∀ w ∈ TB, w.before args s = true) (h : ai_flc TB own idx q j = true) : ai_fl s args own idx q := by
  unfold ai_flc at h
  split at h
  · rename_i o ix c n d hj
    obtain ⟨rfl, rfl, rfl, rfl, rfl⟩ := of_decide_eq_true h
    exact Or.inl (hts _ (List.mem_of_getElem? hj))
  · rename_i o ix c n d host hj
    obtain ⟨rfl, rfl, rfl, rfl, rfl⟩ := of_decide_eq_true h
    exact Or.inr ⟨host, hts _ (List.mem_of_getElem? hj)⟩
  · cases h
def ai_brc (M : ai_M) (pc : Nat) (off : Int) (len : Nat) (r : ai_R) : Bool := decide (len = 3 ∧ (pc : Int) + off = (ai_pcs M (ai_tgt r) : Int))
def ai_ldc (TB : List Cond) (y : ai_Y) (own : String) (idx : Nat) (r : ai_R) : Bool := match ai_nth r 0 with
  | 1 => ai_tb TB (ai_nth r 2) (.constant own idx (Int32.ofInt (ai_nth r 1)))
  | 2 => (match (ai_ys y)[(ai_nth r 2).toNat]? with
    | some q => decide (q.1 = own ∧ q.2.1 = idx ∧ q.2.2.2 = (ai_nth r 1).toNat)
    | none => false)
  | _ => false
theorem ai_ldc_ok {TB : List Cond} {y : ai_Y} {own : String} {idx : Nat} {r : ai_R} {s : State} {args : Array Value} {sa : Nat → Nat} {A : Nat → Prop} (hts : ∀ w ∈ TB, w.before args s = true) (hE : ai_E y sa A s s.heap) (h : ai_ldc TB y own idx r = true) :
    (ai_nth r 0 = 1 ∧ (Cond.constant own idx (Int32.ofInt (ai_nth r 1))).before args s = true) ∨ (ai_nth r 0 = 2 ∧ ∃ tx, vk_R own idx tx (sa (ai_nth r 1).toNat) s) := by
  unfold ai_ldc at h
  split at h
  · rename_i h0
    exact Or.inl ⟨h0, ai_tb_ok hts h⟩
  · rename_i h0
    split at h
    · rename_i q hq
      obtain ⟨e1, e2, e3⟩ := of_decide_eq_true h
      refine Or.inr ⟨h0, q.2.2.1, ?_⟩
      have := hE.2.1 q (List.mem_of_getElem? hq)
      rw [e1, e2, e3] at this
      exact this
    · cases h
  · cases h
def ai_chk0 (TB : List Cond) (y : ai_Y) (M : ai_M) (pc : Nat) (i : Instr) (len : Nat) (r : ai_R) : Bool := match i with
  | .ldc idx => decide (len = 2) && ai_ldc TB y (ai_Mn M).cls idx r
  | .ldc_w idx => decide (len = 3) && ai_ldc TB y (ai_Mn M).cls idx r
  | .getstatic idx => decide (len = 3) && (match (ai_yf y)[(ai_nth r 2).toNat]? with
    | some q => ai_flc TB (ai_Mn M).cls idx (q.1, q.2.1, q.2.2.1, false) (ai_nth r 3) && decide ((ai_nth r 0 = 1 ∧ q.2.2.2 = .int (Int32.ofInt (ai_nth r 1))) ∨ (ai_nth r 0 = 2 ∧ q.2.2.2 = .retAddr (ai_nth r 1).toNat) ∨ (ai_nth r 0 = 3 ∧ q.2.2.2 = .float 0))
    | none => false)
  | .getfield idx => decide (len = 3) && (match (ai_yl y)[(ai_nth r 0).toNat]? with
    | some q => decide ((ai_nth r 1).toNat < q.2.2) && ai_flc TB (ai_Mn M).cls idx (q.2.1 (ai_nth r 1).toNat) (ai_nth r 2)
    | none => ai_flc TB (ai_Mn M).cls idx ((ai_yc y (ai_nth r 0).toNat).2 (ai_nth r 1).toNat) (ai_nth r 2))
  | .putfield idx => decide (len = 3) && (match (ai_yl y)[(ai_nth r 0).toNat]? with
    | some q => decide ((ai_nth r 1).toNat < q.2.2) && (ai_tb TB (ai_nth r 2) (.fieldLink (ai_Mn M).cls idx (q.2.1 (ai_nth r 1).toNat).1 (q.2.1 (ai_nth r 1).toNat).2.1 (q.2.1 (ai_nth r 1).toNat).2.2.1) && decide ((q.2.1 (ai_nth r 1).toNat).2.2.2 = false ∨ ((ai_Mn M).name = "<init>" ∧ (q.2.1 (ai_nth r 1).toNat).1 = (ai_Mn M).cls)))
    | none => false)
  | .new idx => decide (len = 3) && (match (ai_yl y)[(ai_nth r 0).toNat]? with
    | some q => ai_tb TB (ai_nth r 1) (.classLink (ai_Mn M).cls idx q.1) && (ai_tb TB (ai_nth r 2) (.instantiable q.1 q.2.2) && ai_tb TB (ai_nth r 3) (.initialized q.1))
    | none => false)
  | .newarray t => decide (len = 2) && (decide (newarray.typeOf t = .int ∨ newarray.typeOf t = .byte ∨ newarray.typeOf t = .short ∨ newarray.typeOf t = .long) && ai_tb TB (ai_nth r 0) (.arrayClass (newarray.typeOf t)))
  | .anewarray idx => decide (len = 3) && (ai_tb TB (ai_nth r 0) (.classLink (ai_Mn M).cls idx r.2.2) && decide (r.2.2 = "QueryReader$Sort" ∨ r.2.2 = "java/lang/String"))
  | .instanceof idx => decide (len = 3) && ai_tb TB (ai_nth r 0) (.classLink (ai_Mn M).cls idx r.2.2)
  | .checkcast idx => decide (len = 3) && ai_tb TB (ai_nth r 0) (.classLink (ai_Mn M).cls idx r.2.2)
  | .ifCond _ off => ai_brc M pc off len r
  | .if_icmp _ off => ai_brc M pc off len r
  | .if_acmp _ off => ai_brc M pc off len r
  | .ifnull off => ai_brc M pc off len r
  | .ifnonnull off => ai_brc M pc off len r
  | .goto off => ai_brc M pc off len r
  | .tableswitch d lo hi offs => decide ((pc : Int) + d = (ai_pcs M (ai_tgt r) : Int)) && (List.range ((hi - lo).toNat + 1)).all (fun j => match offs[j]? with
    | some off => decide ((pc : Int) + off = (ai_pcs M (ai_nth r (j + 1)).toNat : Int))
    | none => false)
  | .iinc _ _ => decide (len = 3)
  | .sipush _ => decide (len = 3)
  | .bipush _ => decide (len = 2)
  | .iload _ => decide (len = 2)
  | .aload _ => decide (len = 2)
  | .istore _ => decide (len = 2)
  | .astore _ => decide (len = 2)
  | _ => decide (len = 1)
theorem ai_chk0_ok {TB : List Cond} {y : ai_Y} {M : ai_M} {pc : Nat} {i : Instr} {len : Nat} {r : ai_R} {s : State} {args : Array Value} {meth : Method} {sa : Nat → Nat} {A : Nat → Prop} (hts : ∀ w ∈ TB, w.before args s = true) (hE : ai_E y sa A s s.heap) (hnm : meth.name = (ai_Mn M).name)
    (h : ai_chk0 TB y M pc i len r = true) : ai_lk s args meth (ai_Mn M).cls sa A (ai_yc y) (ai_yl y) (ai_pcs M) pc i len r := by
  cases i with
  | ldc idx => rw [ai_chk0, Bool.and_eq_true] at h; exact ⟨of_decide_eq_true h.1, ai_ldc_ok hts hE h.2⟩
  | ldc_w idx => rw [ai_chk0, Bool.and_eq_true] at h; exact ⟨of_decide_eq_true h.1, ai_ldc_ok hts hE h.2⟩
  | getstatic idx =>
    rw [ai_chk0, Bool.and_eq_true] at h
    obtain ⟨h1, h2⟩ := h
    split at h2
    · rename_i q hq
      rw [Bool.and_eq_true] at h2
      obtain ⟨V, g1, g2⟩ := hE.2.2.1 q (List.mem_of_getElem? hq)
      refine ⟨of_decide_eq_true h1, q.1, q.2.1, q.2.2.1, V, g2, ai_flc_ok hts h2.1, ?_⟩
      rcases of_decide_eq_true h2.2 with ⟨z1, z2⟩ | ⟨z1, z2⟩ | ⟨z1, z2⟩
      · rw [z2] at g1; exact Or.inl ⟨z1, g1⟩
      · rw [z2] at g1; exact Or.inr (Or.inl ⟨z1, g1⟩)
      · rw [z2] at g1; exact Or.inr (Or.inr ⟨z1, g1⟩)
    · cases h2
  | getfield idx =>
    rw [ai_chk0, Bool.and_eq_true] at h
    obtain ⟨h1, h2⟩ := h
    refine ⟨of_decide_eq_true h1, fun q hq => ?_, fun hq => ?_⟩
    · rw [hq] at h2
      simp only [Bool.and_eq_true] at h2
      exact ⟨of_decide_eq_true h2.1, ai_flc_ok hts h2.2⟩
    · rw [hq] at h2
      exact ai_flc_ok hts h2
  | putfield idx =>
    rw [ai_chk0, Bool.and_eq_true] at h
    obtain ⟨h1, h2⟩ := h
    split at h2
    · rename_i q hq
      simp only [Bool.and_eq_true] at h2
      refine ⟨of_decide_eq_true h1, q, hq, of_decide_eq_true h2.1, ai_tb_ok hts h2.2.1, ?_⟩
      rw [hnm]
      exact of_decide_eq_true h2.2.2
    · cases h2
  | new idx =>
    rw [ai_chk0, Bool.and_eq_true] at h
    obtain ⟨h1, h2⟩ := h
    split at h2
    · rename_i q hq
      simp only [Bool.and_eq_true] at h2
      exact ⟨of_decide_eq_true h1, q, hq, ai_tb_ok hts h2.1, ai_tb_ok hts h2.2.1, ai_tb_ok hts h2.2.2⟩
    · cases h2
  | newarray t =>
    rw [ai_chk0, Bool.and_eq_true, Bool.and_eq_true] at h
    obtain ⟨h1, h2, h3⟩ := h
    refine ⟨of_decide_eq_true h1, ?_, ai_tb_ok hts h3⟩
    rcases of_decide_eq_true h2 with z | z | z | z
    · exact Or.inl (Or.inl z)
    · exact Or.inl (Or.inr (Or.inl z))
    · exact Or.inl (Or.inr (Or.inr (Or.inl z)))
    · exact Or.inr z
  | anewarray idx =>
    rw [ai_chk0, Bool.and_eq_true, Bool.and_eq_true] at h
    obtain ⟨h1, h2, h3⟩ := h
    refine ⟨of_decide_eq_true h1, ai_tb_ok hts h2, ?_⟩
    rcases of_decide_eq_true h3 with z | z
    · rw [z]; exact hE.2.2.2.2.1
    · rw [z]; exact hE.2.2.2.2.2
  | instanceof idx => rw [ai_chk0, Bool.and_eq_true] at h; exact ⟨of_decide_eq_true h.1, ai_tb_ok hts h.2⟩
  | checkcast idx => rw [ai_chk0, Bool.and_eq_true] at h; exact ⟨of_decide_eq_true h.1, ai_tb_ok hts h.2⟩
  | ifCond c off => exact (show len = 3 ∧ (pc : Int) + off = (ai_pcs M (ai_tgt r) : Int) from of_decide_eq_true h)
  | if_icmp c off => exact (show len = 3 ∧ (pc : Int) + off = (ai_pcs M (ai_tgt r) : Int) from of_decide_eq_true h)
  | if_acmp c off => exact (show len = 3 ∧ (pc : Int) + off = (ai_pcs M (ai_tgt r) : Int) from of_decide_eq_true h)
  | ifnull off => exact (show len = 3 ∧ (pc : Int) + off = (ai_pcs M (ai_tgt r) : Int) from of_decide_eq_true h)
  | ifnonnull off => exact (show len = 3 ∧ (pc : Int) + off = (ai_pcs M (ai_tgt r) : Int) from of_decide_eq_true h)
  | goto off => exact (show len = 3 ∧ (pc : Int) + off = (ai_pcs M (ai_tgt r) : Int) from of_decide_eq_true h)
  | tableswitch d lo hi offs =>
    rw [ai_chk0, Bool.and_eq_true] at h
    refine ⟨of_decide_eq_true h.1, fun j hj => ?_⟩
    have h2 := List.all_eq_true.mp h.2 j (List.mem_range.mpr (by omega))
    split at h2
    · rename_i off ho
      exact ⟨off, ho, of_decide_eq_true h2⟩
    · cases h2
  | iinc _ _ => exact (show len = 3 from of_decide_eq_true h)
  | sipush _ => exact (show len = 3 from of_decide_eq_true h)
  | bipush _ => exact (show len = 2 from of_decide_eq_true h)
  | iload _ => exact (show len = 2 from of_decide_eq_true h)
  | aload _ => exact (show len = 2 from of_decide_eq_true h)
  | istore _ => exact (show len = 2 from of_decide_eq_true h)
  | astore _ => exact (show len = 2 from of_decide_eq_true h)
  | _ => exact (show len = 1 from of_decide_eq_true h)
end
section
def ai_ar (x : MethodName) (n : Nat) : Bool := decide ((parseMethodDescriptor x.desc).map (fun d => d.parameters.length) = some n)
theorem ai_ar_ok {x : MethodName} {n : Nat} (h : ai_ar x n = true) : ∀ sig, parseMethodDescriptor x.desc = some sig → n = sig.parameters.length := by
  intro sig hs
  have := of_decide_eq_true h
  rw [hs] at this
  exact (Option.some.inj this).symm
/-- a call of M' -/
def ai_chk1 (TB : List Cond) (y : ai_Y) (M M' : ai_M) (i : Instr) (len : Nat) (r : ai_R) : Bool :=
  decide (len = 3) && (match i with
  | .invokevirtual idx => decide (ai_nth r 2 = 1 ∧ 1 ≤ (ai_nth r 1).toNat) && (ai_tb TB (ai_nth r 6) (.instanceMethod (ai_Mn M')) && (match TB[(ai_nth r 4).toNat]? with
    | some (.methodLink o ix x) => decide (o = (ai_Mn M).cls ∧ ix = idx) && (ai_tb TB (ai_nth r 5) (.selects (ai_yc y (ai_nth r 3).toNat).1 x (ai_Mn M')) && (ai_ar x ((ai_nth r 1).toNat - 1) && (decide (x = ai_Mn M') || (ai_tb TB (ai_nth r 7) (.sameMethod x.cls (ai_Mn M').cls x.name x.desc) && ai_tb TB (ai_nth r 8) (.declares ⟨(ai_Mn M').cls, x.name, x.desc⟩)))))
    | _ => false))
  | .invokestatic idx => decide (ai_nth r 2 = 0) && (ai_tb TB (ai_nth r 4) (.methodLink (ai_Mn M).cls idx (ai_Mn M')) && (ai_tb TB (ai_nth r 5) (.static (ai_Mn M')) && ai_ar (ai_Mn M') (ai_nth r 1).toNat))
  | .invokespecial idx => decide (ai_nth r 2 = 2 ∧ 1 ≤ (ai_nth r 1).toNat ∧ (ai_Mn M').name = "<init>" ∧ ai_Mx M' = [] ∧ ai_Mr M' = none) && (ai_tb TB (ai_nth r 5) (.instanceMethod (ai_Mn M')) && (ai_ar (ai_Mn M') ((ai_nth r 1).toNat - 1) && (match TB[(ai_nth r 4).toNat]? with
    | some (.methodLink o ix x) => decide (o = (ai_Mn M).cls ∧ ix = idx ∧ x = ai_Mn M')
    | some (.methodLinkNest o ix x _) => decide (o = (ai_Mn M).cls ∧ ix = idx ∧ x = ai_Mn M')
    | _ => false)))
  | _ => false)
/-- a method that may be called: its code stands in the tables -/
def ai_okC (TB : List Cond) (M : ai_M) : Prop := ai_cw (ai_Mn M) (ai_Mb M) (ai_Ml M) (ai_Mr M) (ai_Mx M) ∈ TB ∧ Cond.initialized (ai_Mn M).cls ∈ TB ∧ ai_Ml M ≤ 20 ∧ (ai_Mn M).cls ≠ "java/lang/invoke/MethodHandle" ∧ (ai_Mn M).cls ≠ "java/lang/invoke/VarHandle"
/-- the exceptions' classes above those that are thrown -/
def ai_up : List String := ["java/lang/RuntimeException", "java/lang/Exception"]
def ai_xw (TB : List Cond) (y : ai_Y) (ws : List Cond) : Bool := ws.all (fun w => decide (w ∈ TB) || decide (w ∈ ai_yw y))
/-- a throw: numbers: entry of the constructor, entry of the text and its length (0: no text), where the text stands, places of two words -/
def ai_chk2 (TB : List Cond) (y : ai_Y) (M : ai_M) (pc : Nat) (i : Instr) (r : ai_R) : Bool := match i with
  | .new ik => ai_tb TB (ai_nth r 4) (.classLink (ai_Mn M).cls ik r.2.2) && (ai_tb TB (ai_nth r 5) (.initialized r.2.2) && (Bundle.fit r.2.2 && (decide (decode (ai_Mb M) (pc + 3) = .ok (.dup, 1)) &&
    (if ai_nth r 2 = 0 then
      decide (decode (ai_Mb M) (pc + 4) = .ok (.invokespecial (ai_nth r 0).toNat, 3)) && (decide (decode (ai_Mb M) (pc + 7) = .ok (.athrow, 1)) && ai_xw TB y (Bundle.ownAtoms0 (ai_Mn M).cls (ai_nth r 0).toNat r.2.2 ai_up))
    else
      decide ((decode (ai_Mb M) (pc + 4) = .ok (.ldc (ai_nth r 1).toNat, 2) ∧ ai_nth r 2 = 2) ∨ (decode (ai_Mb M) (pc + 4) = .ok (.ldc_w (ai_nth r 1).toNat, 3) ∧ ai_nth r 2 = 3)) && (decide (decode (ai_Mb M) (pc + 4 + (ai_nth r 2).toNat) = .ok (.invokespecial (ai_nth r 0).toNat, 3)) && (decide (decode (ai_Mb M) (pc + 4 + (ai_nth r 2).toNat + 3) = .ok (.athrow, 1)) && (ai_xw TB y (Bundle.ownAtoms (ai_Mn M).cls (ai_nth r 0).toNat r.2.2 ai_up) &&
        (match (ai_ys y)[(ai_nth r 3).toNat]? with
        | some q => decide (q.1 = (ai_Mn M).cls ∧ q.2.1 = (ai_nth r 1).toNat)
        | none => false))))))))
  | _ => false
def ai_chk3 (TB : List Cond) (M : ai_M) (i : Instr) (len : Nat) (r : ai_R) : Bool := match i with
  | .invokespecial idx => decide (len = 3) && (ai_tb TB (ai_nth r 0) (.methodLink (ai_Mn M).cls idx Lib.objectInit) && (ai_tb TB (ai_nth r 1) (.instanceMethod Lib.objectInit) && ai_tb TB (ai_nth r 2) (.code Lib.objectInit ⟨#[0xb1]⟩ 1 none)))
  | _ => false
def ai_chk4 (TB : List Cond) (M : ai_M) (i : Instr) (len : Nat) (r : ai_R) : Bool := match i with
  | .invokestatic idx => decide (len = 3) && (ai_tb TB (ai_nth r 0) (.methodLink (ai_Mn M).cls idx arraycopyName) && (ai_tb TB (ai_nth r 1) (.native arraycopyName) && (ai_tb TB (ai_nth r 2) (.static arraycopyName) && ai_tb TB (ai_nth r 3) (.initialized "java/lang/System"))))
  | _ => false
def ai_isro (t : Option FieldType) : Bool := match t with
  | some (.object _) => true
  | some (.array _) => true
  | _ => false
/-- the k-th instruction -/
def ai_chk (TB : List Cond) (y : ai_Y) (P : Nat → Option ai_M) (M : ai_M) (it : ai_I) : Bool := match it.2.2.2.1 with
  | 0 => ai_chk0 TB y M it.1 it.2.1 it.2.2.1 it.2.2.2
  | 1 => (match P (ai_nth it.2.2.2 0).toNat with
    | some M' => ai_chk1 TB y M M' it.2.1 it.2.2.1 it.2.2.2
    | none => false)
  | 2 => decide (it.2.2.1 = 3) && ai_chk2 TB y M it.1 it.2.1 it.2.2.2
  | 3 => ai_chk3 TB M it.2.1 it.2.2.1 it.2.2.2
  | 4 => ai_chk4 TB M it.2.1 it.2.2.1 it.2.2.2
  | 5 => decide (it.2.1 = .ireturn ∧ it.2.2.1 = 1)
  | 6 => decide (it.2.1 = .areturn ∧ it.2.2.1 = 1) && ai_isro (ai_Mr M)
  | 7 => decide (it.2.1 = .return_ ∧ it.2.2.1 = 1 ∧ ai_Mr M = none)
  | _ => true
/-- each instruction stands behind the one before -/
def ai_row : List ai_I → Bool
  | a :: b :: t => decide (b.1 = a.1 + a.2.2.1) && ai_row (b :: t)
  | _ => true
theorem ai_row_ok : ∀ {l : List ai_I} {k : Nat} {a b : ai_I}, ai_row l = true → l[k]? = some a → l[k + 1]? = some b → b.1 = a.1 + a.2.2.1
  | [], k, a, b, _, h, _ => by simp at h
  | [x], k, a, b, _, _, h => by simp at h
  | x :: z :: t, 0, a, b, hr, h1, h2 => by
    simp at h1 h2
    subst h1; subst h2
    rw [ai_row, Bool.and_eq_true] at hr
    exact of_decide_eq_true hr.1
  | x :: z :: t, k + 1, a, b, hr, h1, h2 => by
    rw [ai_row, Bool.and_eq_true] at hr
    rw [List.getElem?_cons_succ] at h1 h2
    exact ai_row_ok (l := z :: t) hr.2 h1 h2
/-- what a method catches: at most one row -/
def ai_chx (TB : List Cond) (M : ai_M) : Bool := match ai_Mx M with
  | [] => (ai_Mh M).isEmpty
  | [q] => (match ai_Mh M with
    | [z] => decide (ai_pcs M z.2.2.1 = q.2.2.1 ∧ q.2.2.2 ≠ 0) && (decide (Cond.classLink (ai_Mn M).cls q.2.2.2 z.2.2.2 ∈ TB) && (List.range (ai_Mc M).length).all (fun k => ai_cov k z == (decide (q.1 ≤ ai_pcs M k) && decide (ai_pcs M k < q.2.1))))
    | _ => false)
  | _ => false
def ai_dec (M : ai_M) : Bool := (ai_Mc M).all (fun it => decide (decode (ai_Mb M) it.1 = .ok (it.2.1, it.2.2.1)))
theorem ai_dec_ok {M : ai_M} {k : Nat} {it : ai_I} (h : ai_dec M = true) (hk : (ai_Mc M)[k]? = some it) : decode (ai_Mb M) it.1 = .ok (it.2.1, it.2.2.1) := by
  have h1 := List.all_eq_true.mp h it (List.mem_of_getElem? hk)
  exact of_decide_eq_true h1
/-- all of a method -/
def ai_okM (TB : List Cond) (y : ai_Y) (P : Nat → Option ai_M) (M : ai_M) : Prop := ai_dec M = true ∧ (ai_Mc M).all (ai_chk TB y P M) = true ∧ ai_row (ai_Mc M) = true ∧ ai_chx TB M = true ∧ plainFor (ai_Mn M) = true ∧ (ai_Mc M)[0]?.map (fun it => it.1) = some 0
/-- all of the program's tables -/
def ai_okY (TB : List Cond) (y : ai_Y) (sa : Nat → Nat) : Prop := (∀ w ∈ TB, ai_st w = true) ∧ ai_clok TB (ai_yl y) (ai_yt y) ∧ ai_dok (ai_yl y) (ai_yt y) (ai_yG y).2.2.1 ∧ ((ai_yG y).2.2.2 = fun ci k v => ai_fit (ai_yt y ci k) v) ∧ (∀ ci, ai_yN y ci = (ai_yc y ci).1) ∧ (∀ j ci fs, ai_yZ y j = some (ai_obj ci fs) → (ai_yl y)[ci]? = none) ∧ (∀ i j ci fs fs', ai_yZ y i = some (ai_obj ci fs) → ai_yZ y j = some (ai_obj ci fs') → sa i = sa j → i = j) ∧ (∀ ci q, (ai_yl y)[ci]? = some q → q.1 = (ai_yc y ci).1)
end
section
section AIEN
variable {p : Program} {l : Launch} {e : Env} {R : Room} {s : State} {m : MethodId} {args : Array Value} {below : List Frame} {meth : Method} {c : Code}
variable {y : ai_Y} {sa : Nat → Nat} {D : va_G} {A : Nat → Prop} {pc n : Nat} {S : List Value} {h : ai_H} {TB : List Cond} {M M' : ai_M} {i : Instr} {len : Nat} {r : ai_R}
/-- the receiver is an object of the class -/
theorem ai_rcv_ok (hY : ai_okY TB y sa) (hE : ai_E y sa A s s.heap) {v V : Value} {ad : List Nat} {tys : List (ClassId × FieldType)} {ws : va_W} {H : Heap} {locs : List Loc} (hw : ai_w (ai_yZ y) (ai_yN y) sa ad tys h.1 ws) (hK : va_K D (ai_yl y) tys s) (hP : va_P D (ai_yl y) ws H) (hS : va_S A s.heap H locs)
    (h2 : ai_nth r 2 = 1) (hr : ai_rcv (ai_yZ y) r (some v) h = true) (hv : ai_v sa ad v V) : ∃ b, V = .ref b ∧ ∃ cell : Cell, H[b]? = some cell ∧ cell.vm.isStatics = false ∧ s.vm.findClass (ai_yc y (ai_nth r 3).toNat).1 = some cell.cls := by
  unfold ai_rcv at hr
  rw [h2] at hr
  have hr : (match ai_look (ai_yZ y) h.1 v with
    | some (.inr (.inr (.inr (ci, _)))) => decide ((ci : Int) = ai_nth r 3)
    | _ => false) = true := hr
  split at hr
  · rename_i ci fs hlook
    have hci : (ai_nth r 3).toNat = ci := by
      have := of_decide_eq_true hr
      omega
    rw [hci]
    cases v with
    | ref j =>
      obtain ⟨a, E, rfl, g1, vs, rfl, g2⟩ := ai_w_at hw hlook hv
      obtain ⟨q, hq, -⟩ := hP j _ g1
      obtain ⟨cell, z1, z2, z3⟩ := va_recv hK hP hq g1
      refine ⟨a, rfl, cell, z1, z2, ?_⟩
      rw [← hY.2.2.2.2.2.2.2 ci q hq]
      exact z3
    | retAddr j =>
      refine ⟨sa j, hv, ?_⟩
      obtain ⟨hO, -⟩ := hE.1 j _ hlook
      obtain ⟨cellV, o1, o2, o3, -⟩ := va_O.kept hO hS.2.1
      exact ⟨cellV, o1, o2, o3⟩
    | _ => cases hlook
  · cases hr
set_option maxHeartbeats 1000000 in
theorem ai_ent_ok (hY : ai_okY TB y sa) (hx : p.tables.exec = Jvm.exec) (hb : c.code = ai_Mb M) (hd : decode (ai_Mb M) pc = .ok (i, len)) (hts : ∀ w ∈ TB, w.before args s = true) (hown : s.vm.findClass (ai_Mn M).cls = some m.cls) (hE : ai_E y sa A s s.heap)
    (hC : ai_okC TB M') (hc : ai_chk1 TB y M M' i len r = true) (hn : n = (ai_nth r 1).toNat) (hlen : n ≤ S.length) (hrv : ai_rcv (ai_yZ y) r ((S.take n).reverse).head? h = true) :
    ∀ (ad : List Nat) (tys : List (ClassId × FieldType)) (ws : va_W) (T : State) (locs : List Loc) (cells slots : Nat) (ls : Array Slot) (Vs rest : List Value), ai_w (ai_yZ y) (ai_yN y) sa ad tys h.1 ws → va_K D (ai_yl y) tys s → va_P D (ai_yl y) ws T.heap → va_S A s.heap T.heap locs → ai_vs sa ad ((S.take n).reverse) Vs → Stand p l e R s m args below meth c T locs cells slots → ai_enters p l e R s m args below meth c T locs cells slots (F0 m pc ls (Vs.reverse ++ rest)) rest (ai_Mn M') Vs.toArray := by
  intro ad tys ws T locs cells slots ls Vs rest hw hK hP hS hvs X
  have hlV : Vs.length = n := by
    rw [ai_vs_len hvs, List.length_reverse, List.length_take]
    omega
  unfold ai_chk1 at hc
  simp only [Bool.and_eq_true] at hc
  obtain ⟨c1, c6⟩ := hc
  have hlen3 : len = 3 := of_decide_eq_true c1
  subst hlen3
  have hcd : ai_cd s (ai_Mn M') (ai_Mb M') (ai_Ml M') (ai_Mr M') (ai_Mx M') := ai_cd_of (hts _ hC.1)
  have hmh : (ai_Mn M').cls ≠ "java/lang/invoke/MethodHandle" ∧ (ai_Mn M').cls ≠ "java/lang/invoke/VarHandle" := hC.2.2.2
  have hini := hts _ hC.2.1
  generalize hAs : (S.take n).reverse = As at hvs hrv
  cases i with
  | invokevirtual idx =>
    simp only [Bool.and_eq_true] at c6
    obtain ⟨d1, d2, d3⟩ := c6
    obtain ⟨d1, d0⟩ := of_decide_eq_true d1
    have hin := ai_tb_ok hts d2
    cases As with
    | nil =>
      have : Vs.length = 0 := by rw [ai_vs_nil hvs]; rfl
      omega
    | cons v0 As' =>
      obtain ⟨V0, Vs', rfl, hv0, hvs'⟩ := ai_vs_cons hvs
      obtain ⟨b, rfl, cell, z1, z2, z3⟩ := ai_rcv_ok hY hE hw hK hP hS d1 hrv hv0
      have hl' : Vs'.length = (ai_nth r 1).toNat - 1 := by
        simp only [List.length_cons] at hlV
        omega
      have hstk : (F0 m pc ls ((Value.ref b :: Vs').reverse ++ rest)).stack = Vs'.reverse ++ .ref b :: rest := by
        show (Value.ref b :: Vs').reverse ++ rest = _
        rw [List.reverse_cons, List.append_assoc]
        rfl
      split at d3
      · rename_i o ix x hj
        simp only [Bool.and_eq_true] at d3
        obtain ⟨e1, e2, e3, e4⟩ := d3
        obtain ⟨rfl, rfl⟩ := of_decide_eq_true e1
        have hlk := hts _ (List.mem_of_getElem? hj)
        have hsel := ai_tb_ok hts e2
        have har : ∀ sig, parseMethodDescriptor x.desc = some sig → Vs'.length = sig.parameters.length := fun sig hs => by rw [hl']; exact ai_ar_ok e3 sig hs
        rw [Bool.or_eq_true] at e4
        rcases e4 with e4 | e4
        · have hxe : x = ai_Mn M' := of_decide_eq_true e4
          subst hxe
          exact ai_enterV X hx hown hlk hin hsel hcd hmh z1 z2 z3 rfl har hstk (by rw [hb]; exact hd)
        · rw [Bool.and_eq_true] at e4
          exact ai_enterU X hx hown hlk (ai_tb_ok hts e4.1) (by obtain ⟨r0, r1, h1, h2, h3, h4⟩ := Cond.declares_spec (ai_tb_ok hts e4.2); exact ⟨r0, r1, h1, h2, h3, h4⟩) hmh hsel hin z1 z2 z3 rfl har hstk (by rw [hb]; exact hd)
      · cases d3
  | invokestatic idx =>
    simp only [Bool.and_eq_true] at c6
    obtain ⟨d1, d2, d3, d4⟩ := c6
    exact ai_enterS X hx hown (ai_tb_ok hts d2) (ai_tb_ok hts d3) hini hcd hmh rfl (fun sig hs => by rw [hlV, hn]; exact ai_ar_ok d4 sig hs) rfl (by rw [hb]; exact hd)
  | invokespecial idx =>
    simp only [Bool.and_eq_true] at c6
    obtain ⟨d1, d2, d3, d4⟩ := c6
    obtain ⟨d1, d0, dn, dx, dr⟩ := of_decide_eq_true d1
    have hin := ai_tb_ok hts d2
    cases As with
    | nil =>
      have : Vs.length = 0 := by rw [ai_vs_nil hvs]; rfl
      omega
    | cons v0 As' =>
      obtain ⟨V0, Vs', rfl, hv0, hvs'⟩ := ai_vs_cons hvs
      have hb0 : ∃ b, V0 = .ref b := by
        unfold ai_rcv at hrv
        rw [d1] at hrv
        cases v0 with
        | ref j => obtain ⟨a, -, rfl⟩ := hv0; exact ⟨a, rfl⟩
        | _ => cases hrv
      obtain ⟨b, rfl⟩ := hb0
      have hl' : Vs'.length = (ai_nth r 1).toNat - 1 := by
        simp only [List.length_cons] at hlV
        omega
      have hstk : (F0 m pc ls ((Value.ref b :: Vs').reverse ++ rest)).stack = Vs'.reverse ++ .ref b :: rest := by
        show (Value.ref b :: Vs').reverse ++ rest = _
        rw [List.reverse_cons, List.append_assoc]
        rfl
      have hcode : (Cond.code (ai_Mn M') (ai_Mb M') (ai_Ml M') none).before args s = true := by
        have := hts _ hC.1
        rw [dx, dr] at this
        exact this
      have hlk : (Cond.methodLink (ai_Mn M).cls idx (ai_Mn M')).before args s = true ∨ ∃ host, (Cond.methodLinkNest (ai_Mn M).cls idx (ai_Mn M') host).before args s = true := by
        split at d4
        · rename_i o ix x hj
          obtain ⟨rfl, rfl, rfl⟩ := of_decide_eq_true d4
          exact Or.inl (hts _ (List.mem_of_getElem? hj))
        · rename_i o ix x host hj
          obtain ⟨rfl, rfl, rfl⟩ := of_decide_eq_true d4
          exact Or.inr ⟨host, hts _ (List.mem_of_getElem? hj)⟩
        · cases d4
      exact ai_enterI X hx hown dn hlk hin hcode hmh rfl (fun sig hs => by rw [hl']; exact ai_ar_ok d3 sig hs) hstk (by rw [hb]; exact hd)
  | _ => cases c6
/-- the words of a throw, where the heap is as it is now -/
theorem ai_xw_ok (hY : ai_okY TB y sa) (hts : ∀ w ∈ TB, w.before args s = true) (hE : ai_E y sa A s s.heap) {T : State} {locs : List Loc} (hS : va_S A s.heap T.heap locs) {ws : List Cond} (h : ai_xw TB y ws = true) : ∀ w ∈ ws, w.before args (ai_now s m args below T) = true := by
  intro w hw
  have h1 := List.all_eq_true.mp h w hw
  rw [Bool.or_eq_true] at h1
  rcases h1 with h1 | h1
  · have hm : w ∈ TB := of_decide_eq_true h1
    exact ai_st_at (hY.1 w hm) (U := ai_now s m args below T) (State.WarmedH.refl s) (hts w hm)
  · exact hE.2.2.2.1 w (of_decide_eq_true h1) (ai_now s m args below T) args (Vm.Alike.refl _) hS.2.1
theorem ai_thr_ok (hY : ai_okY TB y sa) (hx : p.tables.exec = Jvm.exec) (hb : c.code = ai_Mb M) (hd : decode (ai_Mb M) pc = .ok (i, len)) (hts : ∀ w ∈ TB, w.before args s = true) (hown : s.vm.findClass (ai_Mn M).cls = some m.cls) (hE : ai_E y sa A s s.heap) (hlocks : meth.locks = false) (hl : l.stackTraces = false) (htab : c.exceptionTable.toList = [])
    (hRf : 7 ≤ R.frames) (hRl : 200 ≤ R.locals) (hc : ai_chk2 TB y M pc i r = true) (hlen : len = 3) :
    ∀ (T : State) (locs : List Loc) (cells slots : Nat) (ls : Array Slot) (st : List Value), Stand p l e R s m args below meth c T locs cells slots → va_S A s.heap T.heap locs → cells + 1 ≤ R.cells → slots + 6 ≤ R.slots → ls.size = c.maxLocals → (st.map fun v => v.category).sum ≤ 8 → ai_thrs p e s below T locs cells slots (F0 m pc ls st) r.2.2 := by
  intro T locs cells slots ls st X hS hR1 hR2 hsz hwt
  subst hlen
  cases i with
  | new ik =>
    simp only [ai_chk2, Bool.and_eq_true] at hc
    obtain ⟨c1, c2, c3, c4, c5⟩ := hc
    have up : ∀ w ∈ TB, w.before args (ai_now s m args below T) = true := fun w hm => ai_st_at (hY.1 w hm) (U := ai_now s m args below T) (State.WarmedH.refl s) (hts w hm)
    have hup : ∀ n ∈ ai_up, Bundle.fit n = true := by decide +kernel
    split at c5
    · simp only [Bool.and_eq_true] at c5
      obtain ⟨e1, e2, e3⟩ := c5
      exact ai_throw0 (names := ai_up) X hx hb hl hown c3 hup (ai_tb_ok up c1) (ai_tb_ok up c2) (ai_xw_ok hY hts hE hS e3) hsz hd (of_decide_eq_true c4) (of_decide_eq_true e1) (of_decide_eq_true e2) (fun x hx9 => by rw [htab] at hx9; cases hx9) (by show 2 + 3 < R.frames; omega) (by show _ + (13 * (2 + 1) + 43) ≤ R.locals; omega) hR1 hR2 hlocks
    · simp only [Bool.and_eq_true] at c5
      obtain ⟨e1, e2, e3, e4, e5⟩ := c5
      split at e5
      · rename_i q hq
        obtain ⟨f1, f2⟩ := of_decide_eq_true e5
        have hstr := hE.2.1 q (List.mem_of_getElem? hq)
        rw [f1, f2] at hstr
        have hstr2 : vk_R (ai_Mn M).cls (ai_nth r 1).toNat q.2.2.1 (sa q.2.2.2) (ai_now s m args below T) := vk_R.same rfl hstr
        refine ai_throwS (names := ai_up) (ln := (ai_nth r 2).toNat) X hx hb hl hown c3 hup (ai_tb_ok up c1) (ai_tb_ok up c2) hstr2 (ai_xw_ok hY hts hE hS e4) hsz hd (of_decide_eq_true c4) ?_ (of_decide_eq_true e2) (of_decide_eq_true e3) (fun x hx9 => by rw [htab] at hx9; cases hx9) (by show 2 + 3 < R.frames; omega) (by show _ + (13 * (2 + 1) + 43) ≤ R.locals; omega) hR1 hR2 hlocks
        rcases of_decide_eq_true e1 with ⟨g1, g2⟩ | ⟨g1, g2⟩
        · exact Or.inl ⟨g1, by rw [g2]; rfl⟩
        · exact Or.inr ⟨g1, by rw [g2]; rfl⟩
      · cases e5
  | _ => cases hc
end AIEN
end
section
theorem ai_go_some {G : ai_G} {rec : Nat → List Value → ai_H → Option ai_O} {M : ai_M} {n k : Nat} {L : ai_L} {S : List Value} {h : ai_H} {out : ai_O} (he : ai_go G rec M n k L S h = some out) : ∃ it, (ai_Mc M)[k]? = some it := by
  cases n with
  | zero => cases he
  | succ n =>
    simp only [ai_go] at he
    split at he
    · cases he
    · rename_i a b c d hk
      exact ⟨_, hk⟩
theorem ai_pcs_at {M : ai_M} {k : Nat} {it : ai_I} (h : (ai_Mc M)[k]? = some it) : ai_pcs M k = it.1 := by
  unfold ai_pcs
  rw [h]
section AISO
variable {p : Program} {l : Launch} {e : Env} {R : Room} {s : State} {m : MethodId} {args : Array Value} {below : List Frame} {meth : Method} {c : Code}
variable {y : ai_Y} {sa : Nat → Nat} {D : va_G} {A : Nat → Prop} {ad0 : List Nat} {kc ks d : Nat} {out : ai_O} {TB : List Cond} {P : Nat → Option ai_M} {M : ai_M} {rec : Nat → List Value → ai_H → Option ai_O}
set_option maxHeartbeats 2000000 in
/-- A BODY: what the small machine does in a method the large one does -/
theorem ai_go_ok (hY : ai_okY TB y sa) (hM : ai_okM TB y P M) (hx : p.tables.exec = Jvm.exec) (hb : c.code = ai_Mb M) (hts : ∀ w ∈ TB, w.before args s = true) (hown : s.vm.findClass (ai_Mn M).cls = some m.cls) (hA : ∀ q, s.heap.size ≤ q → A q) (hE : ai_E y sa A s s.heap) (hlocks : meth.locks = false) (hnm : meth.name = (ai_Mn M).name) (hrt : meth.sig.returnType = ai_Mr M)
    (htab : c.exceptionTable.toList.map (fun h => (h.startPc, h.endPc, h.handlerPc, h.catchType)) = ai_Mx M) (hl : l.stackTraces = false) (hRf : d + 7 ≤ R.frames) (hRl : 40 * (d + 1) + 200 ≤ R.locals)
    (hPC : ∀ mi M', P mi = some M' → ai_okC TB M') (hrec : ∀ mi As h out', rec mi As h = some out' → ∃ M', P mi = some M' ∧ ai_Met l TB y sa D d M' As h out') (hrle : ∀ mi As h out', rec mi As h = some out' → ai_le h out'.2) (hc1 : out.2.2.1 ≤ kc + R.cells) (hc2 : out.2.2.2 ≤ ks + R.slots) :
    ∀ (n k : Nat) (L : ai_L) (S : List Value) (h : ai_H), ai_go (ai_yG y) rec M n k L S h = some out → ai_W p l e R s m args below meth c (ai_Zp y sa D ad0 A kc ks out below args s) (ai_yZ y) (ai_yN y) sa D (ai_yl y) A ad0 kc ks (ai_pcs M k) L S h := by
  obtain ⟨m1, m2, m3, m4, m5, m6⟩ := hM
  intro n
  induction n with
  | zero => intro k L S h he; cases he
  | succ n ih =>
    intro k L S h he
    have hle0 := ai_go_le hrle _ _ _ _ _ _ he
    simp only [ai_go] at he
    split at he
    · cases he
    · rename_i pc i len r hk
      have hpc : ai_pcs M k = pc := ai_pcs_at hk
      have hdec := ai_dec_ok m1 hk
      dsimp only at hdec
      have hchk : ai_chk TB y P M (pc, i, len, r) = true := List.all_eq_true.mp m2 _ (List.mem_of_getElem? hk)
      have hnext : ∀ {L' : ai_L} {S' : List Value} {h' : ai_H}, ai_go (ai_yG y) rec M n (k + 1) L' S' h' = some out → ai_pcs M (k + 1) = pc + len := by
        intro L' S' h' h9
        obtain ⟨it, hit⟩ := ai_go_some h9
        rw [ai_pcs_at hit]
        exact ai_row_ok m3 hk hit
      rw [hpc]
      unfold ai_chk at hchk
      dsimp only at hchk
      split at he
      · rename_i h0
        rw [h0] at hchk
        split at he
        · rename_i t L' S' h' heff
          have hlk := ai_chk0_ok hts hE hnm hchk
          have hle := ai_go_le hrle _ _ _ _ _ _ he
          refine ai_eff_ok (G := ai_yG y) hx hb hdec hlk hts hY.2.1 hown hA hY.2.2.1 hY.2.2.2.1 hY.2.2.2.2.1 hE.1 hY.2.2.2.2.2.1 hY.2.2.2.2.2.2.1 heff (Nat.le_trans hle.1 hc1) (Nat.le_trans hle.2 hc2) ?_
          have K := ih _ _ _ _ he
          unfold ai_nx
          by_cases ht : t = 0
          · rw [if_pos ht] at he K ⊢
            rw [← hnext he]
            exact K
          · rw [if_neg ht] at K ⊢
            exact K
        · cases he
      · rename_i h0
        rw [h0] at hchk
        have hchk : (match P (ai_nth r 0).toNat with
          | some M' => ai_chk1 TB y M M' i len r
          | none => false) = true := hchk
        split at he
        · rename_i hcond
          obtain ⟨w1, w2, w3⟩ := hcond
          have hcall : ∀ out', rec (ai_nth r 0).toNat ((S.take (ai_nth r 1).toNat).reverse) h = some out' → ai_le out'.2 out.2 →
              (∀ v, out'.1 = .inl v → ai_W p l e R s m args below meth c (ai_Zp y sa D ad0 A kc ks out below args s) (ai_yZ y) (ai_yN y) sa D (ai_yl y) A ad0 kc ks (pc + 3) L (v.toList ++ S.drop (ai_nth r 1).toNat) out'.2) →
              (∀ E, out'.1 = .inr E → (∃ x, c.exceptionTable.toList = [x] ∧ covers x pc = true ∧ x.catchType ≠ 0 ∧ (Cond.classLink (ai_Mn M).cls x.catchType E).before args s = true ∧ ai_W p l e R s m args below meth c (ai_Zp y sa D ad0 A kc ks out below args s) (ai_yZ y) (ai_yN y) sa D (ai_yl y) A ad0 kc ks x.handlerPc L [.float 0] out'.2) ∨ ((∀ x ∈ c.exceptionTable.toList, covers x pc = false) ∧ out = (.inr E, out'.2))) →
              ai_W p l e R s m args below meth c (ai_Zp y sa D ad0 A kc ks out below args s) (ai_yZ y) (ai_yN y) sa D (ai_yl y) A ad0 kc ks pc L S h := by
            intro out' hr hle' hkr hkt
            obtain ⟨M', hP', hmet⟩ := hrec _ _ _ _ hr
            rw [hP'] at hchk
            have hent := ai_ent_ok (p := p) (l := l) (e := e) (R := R) (below := below) (meth := meth) (D := D) (n := (ai_nth r 1).toNat) hY hx hb hdec hts hown hE (hPC _ _ hP') hchk rfl w2 w3
            have hchk2 := hchk
            unfold ai_chk1 at hchk2
            simp only [Bool.and_eq_true] at hchk2
            have c1 := hchk2.1
            have hlen3 : len = 3 := of_decide_eq_true c1
            subst hlen3
            obtain ⟨k1, k2, k3, -⟩ := hPC _ _ hP'
            exact ai_call_ok (d := d) (own := (ai_Mn M).cls) hb hdec hts hY.1 k1 k2 hown hA hE hlocks (by omega) (by omega) (hrle _ _ _ _ hr) (Nat.le_trans hle'.1 hc1) (Nat.le_trans hle'.2 hc2) hmet w1 hent hkr hkt
          have hlen3 : ∀ {L' : ai_L} {S' : List Value} {h' : ai_H}, ai_go (ai_yG y) rec M n (k + 1) L' S' h' = some out → len = 3 → ai_W p l e R s m args below meth c (ai_Zp y sa D ad0 A kc ks out below args s) (ai_yZ y) (ai_yN y) sa D (ai_yl y) A ad0 kc ks (pc + 3) L' S' h' := by
            intro L' S' h' h9 h8
            have K := ih _ _ _ _ h9
            rw [hnext h9, h8] at K
            exact K
          have hl3 : len = 3 := by
            split at hchk
            · unfold ai_chk1 at hchk
              simp only [Bool.and_eq_true] at hchk
              exact of_decide_eq_true hchk.1
            · cases hchk
          have hhs : ∀ t nm, ai_catch (ai_Mh M) k = some (t, nm) → ∃ x, c.exceptionTable.toList = [x] ∧ covers x pc = true ∧ x.catchType ≠ 0 ∧ (Cond.classLink (ai_Mn M).cls x.catchType nm).before args s = true ∧ x.handlerPc = ai_pcs M t := by
            intro t nm hcat
            unfold ai_chx at m4
            split at m4
            · rw [List.isEmpty_iff.mp m4] at hcat; cases hcat
            · rename_i q hq
              split at m4
              · rename_i z hz
                simp only [Bool.and_eq_true] at m4
                obtain ⟨z1, z2, z3⟩ := m4
                obtain ⟨z1, z4⟩ := of_decide_eq_true z1
                rw [hz] at hcat
                simp only [ai_catch] at hcat
                split at hcat
                · rename_i hcov
                  cases hcat
                  rw [hq] at htab
                  obtain ⟨x, hxl, hxe⟩ := List.map_eq_singleton_iff.mp htab
                  cases hxe
                  have hkl : k < (ai_Mc M).length := (List.getElem?_eq_some_iff.mp hk).1
                  have h3 := List.all_eq_true.mp z3 k (List.mem_range.mpr hkl)
                  rw [hcov, hpc] at h3
                  refine ⟨x, hxl, ?_, z4, hts _ (of_decide_eq_true z2), z1.symm⟩
                  have h3 := (beq_iff_eq.mp h3).symm
                  exact h3
                · cases hcat
              · cases m4
            · cases m4
          have hno : ai_catch (ai_Mh M) k = none → ∀ x ∈ c.exceptionTable.toList, covers x pc = false := by
            intro hcat x hx9
            unfold ai_chx at m4
            split at m4
            · rename_i hq
              rw [hq] at htab
              rw [List.map_eq_nil_iff.mp htab] at hx9
              cases hx9
            · rename_i q hq
              split at m4
              · rename_i z hz
                simp only [Bool.and_eq_true] at m4
                obtain ⟨z1, z2, z3⟩ := m4
                rw [hz] at hcat
                simp only [ai_catch] at hcat
                split at hcat
                · cases hcat
                · rename_i hcov
                  rw [hq] at htab
                  obtain ⟨x', hxl, hxe⟩ := List.map_eq_singleton_iff.mp htab
                  rw [hxl] at hx9
                  cases List.mem_singleton.mp hx9
                  cases hxe
                  have hkl : k < (ai_Mc M).length := (List.getElem?_eq_some_iff.mp hk).1
                  have h3 := List.all_eq_true.mp z3 k (List.mem_range.mpr hkl)
                  rw [hpc, Bool.eq_false_iff.mpr hcov] at h3
                  have h3 := (beq_iff_eq.mp h3).symm
                  exact h3
              · cases m4
            · cases m4
          split at he
          · rename_i v h' hr
            have hle := ai_go_le hrle _ _ _ _ _ _ he
            refine hcall _ hr hle (fun v' hv' => ?_) (fun E hE' => by cases hE')
            cases hv'
            exact hlen3 he hl3
          · rename_i E h' hr
            split at he
            · rename_i t nm hcat
              split at he
              · rename_i hnE
                subst hnE
                have hle := ai_go_le hrle _ _ _ _ _ _ he
                refine hcall _ hr hle (fun v' hv' => by cases hv') (fun E' hE' => ?_)
                cases hE'
                obtain ⟨x, g1, g2, g3, g4, g5⟩ := hhs t _ hcat
                refine Or.inl ⟨x, g1, g2, g3, g4, ?_⟩
                rw [g5]
                exact ih _ _ _ _ he
              · cases he
            · rename_i hcat
              cases he
              refine hcall _ hr (ai_le_refl _) (fun v' hv' => by cases hv') (fun E' hE' => ?_)
              cases hE'
              exact Or.inr ⟨hno hcat, rfl⟩
          · cases he
        · cases he
      · rename_i h0
        rw [h0] at hchk
        split at he
        · rename_i hcond
          cases he
          simp only [Bool.and_eq_true] at hchk
          have hl3 : len = 3 := of_decide_eq_true hchk.1
          have htn : c.exceptionTable.toList = [] := by
            unfold ai_chx at m4
            split at m4
            · rename_i hq
              rw [hq] at htab
              exact List.map_eq_nil_iff.mp htab
            · rename_i q hq
              split at m4
              · rename_i z hz
                rw [hz] at hcond
                cases hcond.1
              · cases m4
            · cases m4
          exact ai_throw_ok (ai_thr_ok hY hx hb hdec hts hown hE hlocks hl htn (by omega) (by omega) hchk.2 hl3) hcond.2 hc1 hc2
        · cases he
      · rename_i h0
        rw [h0] at hchk
        split at he
        · rename_i j S'
          split at he
          · rename_i hwt
            cases i with
            | invokespecial idx =>
              simp only [ai_chk3, Bool.and_eq_true] at hchk
              obtain ⟨c1, c2, c3, c4⟩ := hchk
              have hl3 : len = 3 := of_decide_eq_true c1
              have K := ih _ _ _ _ he
              rw [hnext he, hl3] at K
              subst hl3
              exact ai_objinit_ok hx hb hdec hown (ai_tb_ok hts c2) (ai_tb_ok hts c3) (ai_tb_ok hts c4) (by omega) (by omega) hwt K
            | _ => cases hchk
          · cases he
        · cases he
      · rename_i h0
        rw [h0] at hchk
        split at he
        · rename_i S' h' hcp
          split at he
          · rename_i hwt
            cases i with
            | invokestatic idx =>
              simp only [ai_chk4, Bool.and_eq_true] at hchk
              obtain ⟨c1, c2, c3, c4, c5⟩ := hchk
              have hl3 : len = 3 := of_decide_eq_true c1
              have K := ih _ _ _ _ he
              rw [hnext he, hl3] at K
              subst hl3
              have hnw : nativeFrameWords "java/lang/System" "arraycopy" 5 ≤ 150 := by decide +kernel
              exact ai_copy_ok hx hb hdec hown hE.1 hY.2.2.2.2.1 (ai_tb_ok hts c2) (ai_tb_ok hts c3) (ai_tb_ok hts c4) (ai_tb_ok hts c5) (by omega) (by omega) hcp hwt K
            | _ => cases hchk
          · cases he
        · cases he
      · rename_i h0
        rw [h0] at hchk
        obtain ⟨hi, hl1⟩ := of_decide_eq_true hchk
        subst hi; subst hl1
        split at he
        · split at he
          · rename_i ty hty
            split at he
            · rename_i hn
              cases he
              exact ai_iret_ok hx hb hdec hlocks (hrt.trans hty) hn
            · cases he
          · cases he
        · cases he
      · rename_i h0
        rw [h0] at hchk
        simp only [Bool.and_eq_true] at hchk
        obtain ⟨hi, hl1⟩ := of_decide_eq_true hchk.1
        subst hi; subst hl1
        split at he
        · split at he
          · rename_i hn
            cases he
            have h2 := hchk.2
            unfold ai_isro at h2
            split at h2
            · rename_i nm hty
              exact ai_aret_ok hx hb hdec hlocks (hrt.trans hty) (Or.inl ⟨nm, rfl⟩) hn
            · rename_i nm hty
              exact ai_aret_ok hx hb hdec hlocks (hrt.trans hty) (Or.inr ⟨nm, rfl⟩) hn
            · cases h2
          · cases he
        · cases he
      · rename_i h0
        rw [h0] at hchk
        obtain ⟨hi, hl1, hl2⟩ := of_decide_eq_true hchk
        subst hi; subst hl1
        split at he
        · cases he
          exact ai_vret_ok hx hb hdec hlocks (hrt.trans hl2)
        · cases he
      · cases he
end AISO
end
section
theorem ai_lv_mem : ∀ {vs : List Value} {i k : Nat} {v : Value}, (∀ v ∈ vs, v.category = 1) → vs[k]? = some v → (i + k, v) ∈ lv_args i vs
  | [], i, k, v, _, h => by simp at h
  | w :: vs, i, 0, v, _, h => by
    simp at h; subst h
    simp [lv_args]
  | w :: vs, i, k + 1, v, hc, h => by
    rw [List.getElem?_cons_succ] at h
    have h1 : ¬ w.category = 2 := by rw [hc w List.mem_cons_self]; decide
    have h2 := ai_lv_mem (i := i + 1) (fun z hz => hc z (List.mem_cons_of_mem _ hz)) h
    rw [lv_args, if_neg h1]
    have e1 : i + (k + 1) = i + 1 + k := by omega
    rw [e1]
    exact List.mem_cons_of_mem _ h2
theorem ai_lv_cat : ∀ {vs : List Value} {i : Nat}, (∀ v ∈ vs, v.category = 1) → ∀ q ∈ lv_args i vs, q.2.category = 1
  | [], i, _, q, hq => by cases hq
  | w :: vs, i, hc, q, hq => by
    rw [lv_args] at hq
    rcases List.mem_cons.mp hq with rfl | hq
    · exact hc w List.mem_cons_self
    · exact ai_lv_cat (fun z hz => hc z (List.mem_cons_of_mem _ hz)) q hq
theorem ai_sl_len : ∀ {vs : List Value}, (∀ v ∈ vs, v.category = 1) → (lg_sl vs).length = vs.length
  | [], _ => rfl
  | w :: vs, hc => by
    have h1 : ¬ w.category = 2 := by rw [hc w List.mem_cons_self]; decide
    have h2 := ai_sl_len (vs := vs) (fun z hz => hc z (List.mem_cons_of_mem _ hz))
    unfold lg_sl at h2 ⊢
    rw [List.flatMap_cons, if_neg h1]
    simp [h2]
theorem ai_vs_catall {sa : Nat → Nat} {ad : List Nat} : ∀ {S T : List Value}, ai_vs sa ad S T → (∀ v ∈ S, v.category = 1) → ∀ v ∈ T, v.category = 1
  | [], T, h, _, v, hv => by rw [ai_vs_nil h] at hv; cases hv
  | w :: S, T, h, hc, v, hv => by
    obtain ⟨V, T', rfl, h1, h2⟩ := ai_vs_cons h
    rcases List.mem_cons.mp hv with rfl | hv
    · rw [ai_v_cat h1]; exact hc w List.mem_cons_self
    · exact ai_vs_catall h2 (fun z hz => hc z (List.mem_cons_of_mem _ hz)) v hv
/-- the locals at a method's entry -/
theorem ai_l_entry {sa : Nat → Nat} {ad : List Nat} {As Vs : List Value} {n : Nat} (hvs : ai_vs sa ad As Vs) (hok : ai_argok As n = true) : ai_l sa ad (As.map some ++ List.replicate (n - As.length) none) n ((lg_sl Vs ++ List.replicate (n - (lg_sl Vs).length) Slot.unset).toArray) := by
  unfold ai_argok at hok
  rw [Bool.and_eq_true] at hok
  have h1 : As.length ≤ n := of_decide_eq_true hok.1
  have h2 : ∀ v ∈ As, v.category = 1 := fun v hv => of_decide_eq_true (List.all_eq_true.mp hok.2 v hv)
  have h3 := ai_vs_catall hvs h2
  have h4 := ai_sl_len h3
  have h5 := ai_vs_len hvs
  refine ⟨by simp; omega, lv_args 0 Vs, lv_entry Vs (by omega), ai_lv_cat h3, fun i v hi => ?_⟩
  have hlt : i < As.length := by
    rcases Nat.lt_or_ge i As.length with q | q
    · exact q
    · rw [List.getElem?_append_right (by simpa using q)] at hi
      simp [List.getElem?_replicate] at hi
  rw [List.getElem?_append_left (by simpa using hlt), List.getElem?_map] at hi
  have hA : As[i]? = some As[i] := List.getElem?_eq_getElem hlt
  rw [hA] at hi
  simp at hi
  subst hi
  obtain ⟨V, g1, g2⟩ := ai_vs_get hvs hA
  refine ⟨V, g2, ?_⟩
  have := ai_lv_mem (i := 0) h3 g1
  rw [Nat.zero_add] at this
  exact this
section AIRN
variable {l : Launch} {y : ai_Y} {sa : Nat → Nat} {D : va_G} {TB : List Cond} {P : Nat → Option ai_M} {F : Nat}
set_option maxHeartbeats 1000000 in
/-- EVERY CALL: what the small machine answers is what the large one does -/
theorem ai_run_ok (hl : l.stackTraces = false) (hY : ai_okY TB y sa) (hP : ∀ mi M, P mi = some M → ai_okM TB y P M) (hPC : ∀ mi M, P mi = some M → ai_okC TB M) : ∀ (d mi : Nat) (M : ai_M) (As : List Value) (h : ai_H) (out : ai_O), P mi = some M → ai_run P (ai_yG y) F d mi As h = some out → ai_Met l TB y sa D d M As h out := by
  intro d
  induction d with
  | zero => intro mi M As h out _ he; cases he
  | succ d ih =>
    intro mi M As h out hPm he
    have hle := ai_run_le _ _ _ _ _ he
    simp only [ai_run, hPm] at he
    split at he
    · rename_i hok
      intro ad0 tys0 ws0 Vs sz hw hvs
      have hM := hP mi M hPm
      refine MetFree.of_bodySF (code := ai_Mb M) (maxLocals := ai_Ml M) (ret := ai_Mr M) hM.2.2.2.2.1 ?_ ?_
      · intro args s m hpre hn
        obtain ⟨m9, meth, c, h0, h1, h2, h3, h4, -, h5, h6, -⟩ := ai_cd_of (atoms_spec (ws := ai_ws TB M) hpre _ List.mem_cons_self)
        cases hn.symm.trans h0
        exact ⟨meth, c, h1, h2, h3, h4, h5, h6⟩
      · intro p e s m args below meth c s₁ B hml hPc _
        obtain ⟨rfl, hsz, hPP, hK, hD0, hE⟩ := hPc
        subst hsz
        have hh0 : s₁.heap = s.heap := by rw [B.state]; rfl
        have hall := atoms_spec (ws := ai_ws TB M) B.pre
        have hts : ∀ w ∈ TB, w.before Vs.toArray s = true := fun w hw9 => hall w (List.mem_cons_of_mem _ hw9)
        have hown : s.vm.findClass (ai_Mn M).cls = some m.cls := findClass_of_methodNamed B.named
        have X0 := Stand.of_body B
        obtain ⟨m9, meth9, c9, g0, g1, g2, g3, g4, g5, g6, g7, -⟩ := ai_cd_of (hall _ List.mem_cons_self)
        cases B.named.symm.trans g0
        cases B.method.symm.trans g1
        cases X0.code.symm.trans g2
        have hR1 : out.2.2.1 ≤ h.2.1 + (headSpec (ai_ws TB M) (ai_rm (d + 1) (out.2.2.1 - h.2.1) (out.2.2.2 - h.2.2))).room.cells := by
          show out.2.2.1 ≤ h.2.1 + (out.2.2.1 - h.2.1)
          omega
        have hR2 : out.2.2.2 ≤ h.2.2 + (headSpec (ai_ws TB M) (ai_rm (d + 1) (out.2.2.1 - h.2.1) (out.2.2.2 - h.2.2))).room.slots := by
          show out.2.2.2 ≤ h.2.2 + (out.2.2.2 - h.2.2)
          omega
        have K := ai_go_ok (p := p) (l := l) (e := e) (below := below) (D := D) (A := va_A ws0 s.heap.size) (ad0 := ad0) (kc := h.2.1) (ks := h.2.2) (d := d) (out := out) (rec := ai_run P (ai_yG y) F d) hY hM B.exec B.bytes hts hown (fun q hq => Or.inr hq) hE B.notSynchronized (name_of_methodNamed B.named B.method).1 B.returns g5 hl
          (show d + 7 ≤ d + 1 + 6 by omega) (Nat.le_refl _) hPC
          (fun mi' As' h' out' hr' => by
            have hs : ∃ M', P mi' = some M' := by
              cases d with
              | zero => cases hr'
              | succ d =>
                simp only [ai_run] at hr'
                split at hr'
                · rename_i M' hM'; exact ⟨M', hM'⟩
                · cases hr'
            obtain ⟨M', hM'⟩ := hs
            exact ⟨M', hM', ih mi' M' As' h' out' hM' hr'⟩)
          (fun mi' As' h' out' hr' => ai_run_le _ _ _ _ _ hr') hR1 hR2 F 0 _ _ h he
        have hpc0 : ai_pcs M 0 = 0 := by
          have h6 := hM.2.2.2.2.2
          unfold ai_pcs
          split
          · rename_i it hit
            rw [hit] at h6
            exact Option.some.inj h6
          · rfl
        rw [hpc0] at K
        have hent : ai_l sa ad0 (As.map some ++ List.replicate (ai_Ml M - As.length) none) c.maxLocals ((lg_sl Vs ++ List.replicate (ai_Ml M - (lg_sl Vs).length) Slot.unset).toArray) := by
          rw [hml]
          exact ai_l_entry hvs hok
        obtain ⟨t, a1, o, b1, b2, b3⟩ := K ad0 tys0 ws0 s.heap [] 0 0 _ [] ⟨⟨[], by simp⟩, rfl, rfl, hw, hK, hPP, hD0.self, va_S.rf⟩ hent trivial s₁ hh0 X0
        refine ⟨t, o, ?_, b1, b2, b3⟩
        rw [lg_entry_eq]
        exact a1
    · cases he
end AIRN
end
section
/-! PRINTED BY wip/whole/print.py: the tables of the program for the small machine. -/
def qr_TB : List Cond := lw_tbl.filter ai_st
def qr_T0 : u_T := fun k => match k with
  | 0 => ("QueryReader", "grammar", "LQueryReader$Grammar;", true)
  | 1 => ("QueryReader", "tape", "LQueryReader$Row;", true)
  | 2 => ("QueryReader", "plain", "LQueryReader$Row;", true)
  | 3 => ("QueryReader", "namesSeen", "LQueryReader$Names;", true)
  | _ => ("QueryReader", "kindRead", "I", false)
def qr_T1 : u_T := fun k => match k with
  | 0 => ("QueryReader$Grammar", "text", "LQueryReader$Row;", true)
  | 1 => ("QueryReader$Grammar", "plain", "LQueryReader$Row;", true)
  | 2 => ("QueryReader$Grammar", "tokens", "LQueryReader$Tokens;", true)
  | 3 => ("QueryReader$Grammar", "at", "I", false)
  | 4 => ("QueryReader$Grammar", "token", "LQueryReader$Sort;", false)
  | 5 => ("QueryReader$Grammar", "open", "I", false)
  | 6 => ("QueryReader$Grammar", "mostOpen", "I", false)
  | 7 => ("QueryReader$Grammar", "makes", "[I", true)
  | 8 => ("QueryReader$Grammar", "starts", "[I", true)
  | _ => ("QueryReader$Grammar", "pending", "I", false)
def qr_T2 : u_T := fun k => match k with
  | _ => ("QueryReader$Names", "slots", "[I", false)
def qr_T3 : u_T := fun k => match k with
  | 0 => ("QueryReader$Row", "bytes", "[B", false)
  | _ => ("QueryReader$Row", "size", "I", false)
def qr_T4 : u_T := fun k => match k with
  | 0 => ("QueryReader$Tokens", "sorts", "[LQueryReader$Sort;", false)
  | 1 => ("QueryReader$Tokens", "froms", "[I", false)
  | 2 => ("QueryReader$Tokens", "tos", "[I", false)
  | 3 => ("QueryReader$Tokens", "count", "I", false)
  | _ => ("QueryReader$Tokens", "reach", "I", false)
def qr_T5 : u_T := fun k => match k with
  | 0 => ("QueryReaderModel", "words", "[Ljava/lang/String;", true)
  | 1 => ("QueryReaderModel", "thrown", "I", false)
  | 2 => ("QueryReaderModel", "tape", "[B", true)
  | 3 => ("QueryReaderModel", "taped", "I", false)
  | 4 => ("QueryReaderModel", "text", "[B", true)
  | 5 => ("QueryReaderModel", "length", "I", false)
  | 6 => ("QueryReaderModel", "count", "I", false)
  | 7 => ("QueryReaderModel", "starts", "[I", true)
  | 8 => ("QueryReaderModel", "sorts", "[B", true)
  | 9 => ("QueryReaderModel", "sizes", "[S", true)
  | 10 => ("QueryReaderModel", "at", "I", false)
  | 11 => ("QueryReaderModel", "kept", "I", false)
  | 12 => ("QueryReaderModel", "row", "[I", true)
  | 13 => ("QueryReaderModel", "brackets", "[I", true)
  | 14 => ("QueryReaderModel", "open", "I", false)
  | 15 => ("QueryReaderModel", "deepest", "I", false)
  | 16 => ("QueryReaderModel", "statement", "I", false)
  | 17 => ("QueryReaderModel", "fault", "I", false)
  | 18 => ("QueryReaderModel", "begins", "I", false)
  | 19 => ("QueryReaderModel", "ends", "I", false)
  | 20 => ("QueryReaderModel", "made", "I", false)
  | 21 => ("QueryReaderModel", "waiting", "I", false)
  | 22 => ("QueryReaderModel", "waitRank", "[I", true)
  | 23 => ("QueryReaderModel", "waitFrom", "[I", true)
  | _ => ("QueryReaderModel", "seen", "[I", true)
def qr_T6 : u_T := fun k => match k with
  | 0 => ("java/lang/Enum", "ordinal", "I", false)
  | 1 => ("QueryReader$Sort", "text", "Ljava/lang/String;", false)
  | _ => ("QueryReader$Sort", "makes", "I", false)
def qr_T7 : u_T := fun k => match k with
  | 0 => ("java/lang/String", "value", "[B", false)
  | _ => ("java/lang/String", "coder", "B", false)
def qr_zc : Nat → String × u_T := fun ci => match ci with
  | 0 => ("QueryReader", qr_T0)
  | 1 => ("QueryReader$Grammar", qr_T1)
  | 2 => ("QueryReader$Names", qr_T2)
  | 3 => ("QueryReader$Row", qr_T3)
  | 4 => ("QueryReader$Tokens", qr_T4)
  | 5 => ("QueryReaderModel", qr_T5)
  | 6 => ("QueryReader$Sort", qr_T6)
  | _ => ("java/lang/String", qr_T7)
def qr_cl : List vw_C := [("QueryReader", qr_T0, 5), ("QueryReader$Grammar", qr_T1, 10), ("QueryReader$Names", qr_T2, 1), ("QueryReader$Row", qr_T3, 2), ("QueryReader$Tokens", qr_T4, 5), ("QueryReaderModel", qr_T5, 25)]
def qr_ty0 : Nat → FieldType := fun k => match k with
  | 0 => .object "QueryReader$Grammar"
  | 1 => .object "QueryReader$Row"
  | 2 => .object "QueryReader$Row"
  | 3 => .object "QueryReader$Names"
  | _ => .int
def qr_ty1 : Nat → FieldType := fun k => match k with
  | 0 => .object "QueryReader$Row"
  | 1 => .object "QueryReader$Row"
  | 2 => .object "QueryReader$Tokens"
  | 3 => .int
  | 4 => .object "QueryReader$Sort"
  | 5 => .int
  | 6 => .int
  | 7 => .array .int
  | 8 => .array .int
  | _ => .int
def qr_ty2 : Nat → FieldType := fun k => match k with
  | _ => .array .int
def qr_ty3 : Nat → FieldType := fun k => match k with
  | 0 => .array .byte
  | _ => .int
def qr_ty4 : Nat → FieldType := fun k => match k with
  | 0 => .array (.object "QueryReader$Sort")
  | 1 => .array .int
  | 2 => .array .int
  | 3 => .int
  | _ => .int
def qr_ty5 : Nat → FieldType := fun k => match k with
  | 0 => .array (.object "java/lang/String")
  | 1 => .int
  | 2 => .array .byte
  | 3 => .int
  | 4 => .array .byte
  | 5 => .int
  | 6 => .int
  | 7 => .array .int
  | 8 => .array .byte
  | 9 => .array .short
  | 10 => .int
  | 11 => .int
  | 12 => .array .int
  | 13 => .array .int
  | 14 => .int
  | 15 => .int
  | 16 => .int
  | 17 => .int
  | 18 => .int
  | 19 => .int
  | 20 => .int
  | 21 => .int
  | 22 => .array .int
  | 23 => .array .int
  | _ => .array .int
def qr_ty : Nat → Nat → FieldType := fun ci => match ci with
  | 0 => qr_ty0
  | 1 => qr_ty1
  | 2 => qr_ty2
  | 3 => qr_ty3
  | 4 => qr_ty4
  | _ => qr_ty5
def qr_df : Nat → List Value := fun ci => match ci with
  | 0 => [.null, .null, .null, .null, .int 0]
  | 1 => [.null, .null, .null, .int 0, .null, .int 0, .int 0, .null, .null, .int 0]
  | 2 => [.null]
  | 3 => [.null, .int 0]
  | 4 => [.null, .null, .null, .int 0, .int 0]
  | _ => [.null, .int 0, .null, .int 0, .null, .int 0, .int 0, .null, .null, .null, .int 0, .int 0, .null, .null, .int 0, .int 0, .int 0, .int 0, .int 0, .int 0, .int 0, .int 0, .null, .null, .null]
/-- the enum's constants: text, what it makes -/
def qr_en : List (Nat × Int32) := [(1015, 0), (1016, 0), (1017, 2), (1018, 0), (1019, 0), (1020, 0), (1021, 0), (1022, 0), (1023, 0), (1024, 0), (1025, 0), (1026, 0), (1027, 0), (1028, 0), (1029, 0), (1030, 0), (1031, 0), (1032, 0), (1033, 0), (1034, 0), (1035, 0), (1036, 0), (1037, 0), (1038, 0), (1039, 0), (1040, 0), (1041, 0), (1042, 0), (1043, 0), (1044, 0), (1045, 0), (1046, 0), (1047, 0), (1048, 0), (1049, 0), (1050, 0), (1051, 0), (1052, 0), (1053, 0), (1054, 0), (1055, 0), (1056, 0), (1057, 0), (1058, 0), (1059, 0), (1060, 0), (1061, 0), (1062, 0), (1063, 0), (1064, 0), (1065, 0), (1066, 0), (1067, 0), (1068, 0), (1069, 1), (1070, 0), (1071, 0), (1072, 0), (1073, 0), (1074, 0), (1075, 0), (1076, 0), (1077, 0), (1078, 0), (1079, 0), (1080, 0), (1010, 0), (1081, 0), (1082, 0), (1083, 0), (1084, 0), (1085, 0), (1086, 0), (1087, 0), (1088, 0), (1089, 0), (1090, 0), (1091, 0), (1092, 0), (1093, 0), (1094, 0), (1095, 0), (1005, 0), (1008, 0), (1099, 0), (1098, 0), (1110, 0), (1107, 6), (1097, 6), (1096, 7), (1108, 7), (1109, 7), (1106, 5), (1100, 4), (1101, 4), (1102, 4), (1103, 4), (1104, 4), (1105, 4), (1111, 0), (1111, 0), (1111, 0), (1111, 0), (1111, 0)]
def qr_tx : List (List Int32) := [[97, 110, 111, 116, 104, 101, 114, 32, 116, 111, 107, 101, 110, 32, 109, 117, 115, 116, 32, 115, 116, 97, 110, 100, 32, 104, 101, 114, 101], [116, 111, 111, 32, 109, 97, 110, 121, 32, 97, 114, 101, 32, 111, 112, 101, 110], [97, 32, 110, 97, 109, 101, 32, 109, 117, 115, 116, 32, 115, 116, 97, 110, 100, 32, 104, 101, 114, 101], [97, 32, 110, 117, 109, 98, 101, 114, 32, 109, 117, 115, 116, 32, 115, 116, 97, 110, 100, 32, 104, 101, 114, 101], [116, 111, 111, 32, 109, 97, 110, 121, 32, 97, 114, 101, 32, 112, 101, 110, 100, 105, 110, 103], [40], [67, 82, 79, 83, 83, 32, 74, 79, 73, 78], [110, 111, 32, 101, 120, 112, 114, 101, 115, 115, 105, 111, 110, 32, 98, 101, 103, 105, 110, 115, 32, 115, 111], [41], [79, 78, 32, 68, 69, 76, 69, 84, 69, 32, 82, 69, 83, 84, 82, 73, 67, 84], [83, 69, 82, 73, 65, 76, 73, 90, 65, 66, 76, 69], [110, 111, 32, 115, 116, 97, 116, 101, 109, 101, 110, 116, 32, 98, 101, 103, 105, 110, 115, 32, 115, 111], [110, 111, 32, 114, 111, 111, 109, 32, 102, 111, 114, 32, 116, 119, 101, 110, 116, 121, 32, 98, 121, 116, 101, 115], [116, 104, 101, 32, 116, 97, 112, 101, 32, 104, 97, 115, 32, 110, 111, 116, 32, 115, 111, 32, 109, 97, 110, 121, 32, 98, 121, 116, 101, 115], [116, 104, 101, 32, 112, 108, 97, 105, 110, 32, 102, 111, 114, 109, 32, 104, 97, 115, 32, 110, 111, 32, 115, 117, 99, 104, 32, 99, 104, 97, 114, 97, 99, 116, 101, 114], [65, 66, 83], [65, 76, 76], [65, 78, 68], [65, 83], [65, 83, 67], [65, 86, 71], [66, 69, 71, 73, 78], [66, 69, 84, 87, 69, 69, 78], [66, 89], [67, 65, 83, 67, 65, 68, 69], [67, 65, 83, 69], [67, 65, 83, 84], [67, 72, 69, 67, 75], [67, 79, 65, 76, 69, 83, 67, 69], [67, 79, 77, 77, 73, 84], [67, 79, 77, 77, 73, 84, 84, 69, 68], [67, 79, 85, 78, 84], [67, 82, 69, 65, 84, 69], [67, 82, 79, 83, 83], [68, 69, 70, 65, 85, 76, 84], [68, 69, 76, 69, 84, 69], [68, 69, 83, 67], [68, 73, 83, 84, 73, 78, 67, 84], [68, 82, 79, 80], [69, 76, 83, 69], [69, 78, 68], [69, 88, 67, 76, 85, 83, 73, 86, 69], [69, 88, 73, 83, 84, 83], [70, 82, 79, 77], [71, 82, 79, 85, 80], [72, 65, 86, 73, 78, 71], [73, 78], [73, 78, 68, 69, 88], [73, 78, 78, 69, 82], [73, 78, 83, 69, 82, 84], [73, 78, 84], [73, 78, 84, 79], [73, 83], [74, 79, 73, 78], [75, 69, 89], [76, 69, 70, 84], [76, 69, 78, 71, 84, 72], [76, 73, 75, 69], [76, 73, 77, 73, 84], [76, 79, 67, 75], [76, 79, 87, 69, 82], [77, 65, 88], [77, 73, 78], [77, 79, 68, 69], [78, 79, 84], [78, 85, 76, 76], [78, 85, 76, 76, 73, 70], [79, 70, 70, 83, 69, 84], [79, 78], [79, 82], [79, 82, 68, 69, 82], [79, 85, 84, 69, 82], [80, 82, 69, 80, 65, 82, 69], [80, 82, 69, 80, 65, 82, 69, 68], [80, 82, 73, 77, 65, 82, 89], [82, 69, 65, 68], [82, 69, 70, 69, 82, 69, 78, 67, 69, 83], [82, 69, 83, 84, 82, 73, 67, 84], [82, 79, 76, 76, 66, 65, 67, 75], [83, 65, 86, 69, 80, 79, 73, 78, 84], [83, 69, 76, 69, 67, 84], [83, 69, 84], [83, 72, 65, 82, 69], [83, 85, 66, 83, 84, 82], [83, 85, 77], [84, 65, 66, 76, 69], [84, 69, 88, 84], [84, 72, 69, 78], [84, 79], [85, 78, 67, 79, 77, 77, 73, 84, 84, 69, 68], [85, 78, 73, 81, 85, 69], [85, 80, 68, 65, 84, 69], [85, 80, 80, 69, 82], [86, 65, 76, 85, 69, 83], [87, 72, 69, 78], [87, 72, 69, 82, 69], [42], [45], [46], [44], [61], [60, 62], [60], [60, 61], [62], [62, 61], [124, 124], [43], [47], [37], [59], []]
def qr_sw : List Int32 := [20, 0, 0, 0, 0, 32, 7, 0, 0, 0, 19, 27, 0, 25, 8, 0, 28, 1, 0, 0, 5, 0, 0, 2, 0, 0, 0, 18, 0, 0, 0, 0, 0, 0, 3, 0, 0, 0, 0, 0, 0, 21, 0, 0, 11, 23, 31, 30, 0, 0, 15, 26, 0, 0, 0, 0, 0, 12, 0, 0, 0, 0, 0, 9, 10, 6, 0, 0, 0, 24, 29, 0, 0, 0, 0, 0, 0, 4, 22, 0, 0, 0, 17, 0, 0, 0, 0, 0, 0, 0, 0, 0, 0, 0, 0, 0, 0, 0, 0, 16, 13, 14, 0, 0]
/-- the constant objects: 0.. the constants of the enum, 1000.. the texts, 2000.. their bytes, 3000 the row of the constants, 3001 the table of the switches, 3002 the script -/
def qr_Z (L : Nat) (xs : Nat → Int32) : ai_S := fun k =>
  if k < 104 then some (ai_obj 6 [.int (Int32.ofNat k), .retAddr (qr_en.getD k (0, 0)).1, .int (qr_en.getD k (0, 0)).2])
  else if 1000 ≤ k ∧ k < 1112 then some (ai_obj 7 [.retAddr (k + 1000), .int 0])
  else if 2000 ≤ k ∧ k < 2112 then some (ai_num .byte (qr_tx.getD (k - 2000) []).length (fun j => (qr_tx.getD (k - 2000) []).getD j 0))
  else if k = 3000 then some (ai_refs "QueryReader$Sort" 104 (fun j => .retAddr j))
  else if k = 3001 then some (ai_num .int 104 (fun j => qr_sw.getD j 0))
  else if k = 3002 then some (ai_num .int L xs)
  else none
def qr_cn : Nat → String := fun ci => (qr_zc ci).1
def qr_G (L : Nat) (xs : Nat → Int32) : ai_G := (qr_Z L xs, qr_cn, qr_df, fun ci k v => ai_fit (qr_ty ci k) v)
def qr_ys : List (String × Nat × String × Nat) := [("QueryReader$Grammar", 180, "another token must stand here", 1000), ("QueryReader$Grammar", 172, "too many are open", 1001), ("QueryReader$Grammar", 194, "a name must stand here", 1002), ("QueryReader$Grammar", 206, "a number must stand here", 1003), ("QueryReader$Grammar", 487, "too many are pending", 1004), ("QueryReader$Grammar", 478, "(", 1005), ("QueryReader$Grammar", 412, "CROSS JOIN", 1006), ("QueryReader$Grammar", 516, "no expression begins so", 1007), ("QueryReader$Grammar", 469, ")", 1008), ("QueryReader$Grammar", 277, "ON DELETE RESTRICT", 1009), ("QueryReader$Grammar", 342, "SERIALIZABLE", 1010), ("QueryReader$Grammar", 139, "no statement begins so", 1011), ("QueryReader", 47, "no room for twenty bytes", 1012), ("QueryReader", 58, "the tape has not so many bytes", 1013), ("QueryReader", 78, "the plain form has no such character", 1014), ("QueryReaderModel", 9, "ABS", 1015), ("QueryReaderModel", 11, "ALL", 1016), ("QueryReaderModel", 13, "AND", 1017), ("QueryReaderModel", 15, "AS", 1018), ("QueryReaderModel", 17, "ASC", 1019), ("QueryReaderModel", 19, "AVG", 1020), ("QueryReaderModel", 21, "BEGIN", 1021), ("QueryReaderModel", 23, "BETWEEN", 1022), ("QueryReaderModel", 25, "BY", 1023), ("QueryReaderModel", 27, "CASCADE", 1024), ("QueryReaderModel", 29, "CASE", 1025), ("QueryReaderModel", 31, "CAST", 1026), ("QueryReaderModel", 33, "CHECK", 1027), ("QueryReaderModel", 35, "COALESCE", 1028), ("QueryReaderModel", 37, "COMMIT", 1029), ("QueryReaderModel", 39, "COMMITTED", 1030), ("QueryReaderModel", 41, "COUNT", 1031), ("QueryReaderModel", 43, "CREATE", 1032), ("QueryReaderModel", 45, "CROSS", 1033), ("QueryReaderModel", 47, "DEFAULT", 1034), ("QueryReaderModel", 49, "DELETE", 1035), ("QueryReaderModel", 51, "DESC", 1036), ("QueryReaderModel", 53, "DISTINCT", 1037), ("QueryReaderModel", 55, "DROP", 1038), ("QueryReaderModel", 57, "ELSE", 1039), ("QueryReaderModel", 59, "END", 1040), ("QueryReaderModel", 61, "EXCLUSIVE", 1041), ("QueryReaderModel", 63, "EXISTS", 1042), ("QueryReaderModel", 65, "FROM", 1043), ("QueryReaderModel", 67, "GROUP", 1044), ("QueryReaderModel", 69, "HAVING", 1045), ("QueryReaderModel", 71, "IN", 1046), ("QueryReaderModel", 73, "INDEX", 1047), ("QueryReaderModel", 75, "INNER", 1048), ("QueryReaderModel", 77, "INSERT", 1049), ("QueryReaderModel", 79, "INT", 1050), ("QueryReaderModel", 81, "INTO", 1051), ("QueryReaderModel", 83, "IS", 1052), ("QueryReaderModel", 85, "JOIN", 1053), ("QueryReaderModel", 87, "KEY", 1054), ("QueryReaderModel", 89, "LEFT", 1055), ("QueryReaderModel", 91, "LENGTH", 1056), ("QueryReaderModel", 93, "LIKE", 1057), ("QueryReaderModel", 95, "LIMIT", 1058), ("QueryReaderModel", 97, "LOCK", 1059), ("QueryReaderModel", 99, "LOWER", 1060), ("QueryReaderModel", 101, "MAX", 1061), ("QueryReaderModel", 103, "MIN", 1062), ("QueryReaderModel", 105, "MODE", 1063), ("QueryReaderModel", 107, "NOT", 1064), ("QueryReaderModel", 109, "NULL", 1065), ("QueryReaderModel", 111, "NULLIF", 1066), ("QueryReaderModel", 113, "OFFSET", 1067), ("QueryReaderModel", 115, "ON", 1068), ("QueryReaderModel", 117, "OR", 1069), ("QueryReaderModel", 119, "ORDER", 1070), ("QueryReaderModel", 121, "OUTER", 1071), ("QueryReaderModel", 123, "PREPARE", 1072), ("QueryReaderModel", 125, "PREPARED", 1073), ("QueryReaderModel", 127, "PRIMARY", 1074), ("QueryReaderModel", 129, "READ", 1075), ("QueryReaderModel", 131, "REFERENCES", 1076), ("QueryReaderModel", 133, "RESTRICT", 1077), ("QueryReaderModel", 135, "ROLLBACK", 1078), ("QueryReaderModel", 137, "SAVEPOINT", 1079), ("QueryReaderModel", 139, "SELECT", 1080), ("QueryReaderModel", 141, "SERIALIZABLE", 1010), ("QueryReaderModel", 143, "SET", 1081), ("QueryReaderModel", 145, "SHARE", 1082), ("QueryReaderModel", 147, "SUBSTR", 1083), ("QueryReaderModel", 149, "SUM", 1084), ("QueryReaderModel", 151, "TABLE", 1085), ("QueryReaderModel", 153, "TEXT", 1086), ("QueryReaderModel", 155, "THEN", 1087), ("QueryReaderModel", 157, "TO", 1088), ("QueryReaderModel", 159, "UNCOMMITTED", 1089), ("QueryReaderModel", 161, "UNIQUE", 1090), ("QueryReaderModel", 163, "UPDATE", 1091), ("QueryReaderModel", 165, "UPPER", 1092), ("QueryReaderModel", 167, "VALUES", 1093), ("QueryReaderModel", 169, "WHEN", 1094), ("QueryReaderModel", 171, "WHERE", 1095), ("QueryReaderModel", 343, "*", 1096), ("QueryReaderModel", 341, "-", 1097), ("QueryReaderModel", 305, "(", 1005), ("QueryReaderModel", 310, ")", 1008), ("QueryReaderModel", 408, ".", 1098), ("QueryReaderModel", 297, ",", 1099), ("QueryReaderModel", 325, "=", 1100), ("QueryReaderModel", 327, "<>", 1101), ("QueryReaderModel", 329, "<", 1102), ("QueryReaderModel", 331, "<=", 1103), ("QueryReaderModel", 333, ">", 1104), ("QueryReaderModel", 335, ">=", 1105), ("QueryReaderModel", 337, "||", 1106), ("QueryReaderModel", 339, "+", 1107), ("QueryReaderModel", 345, "/", 1108), ("QueryReaderModel", 347, "%", 1109), ("QueryReaderModel", 497, ";", 1110), ("QueryReader$Sort", 485, "", 1111), ("QueryReader$Sort", 464, "||", 1106), ("QueryReader$Sort", 470, "<>", 1101), ("QueryReader$Sort", 476, "<=", 1103), ("QueryReader$Sort", 482, ">=", 1105), ("QueryReader$Sort", 434, "(", 1005), ("QueryReader$Sort", 437, ")", 1008), ("QueryReader$Sort", 440, ",", 1099), ("QueryReader$Sort", 443, ".", 1098), ("QueryReader$Sort", 446, ";", 1110), ("QueryReader$Sort", 449, "+", 1107), ("QueryReader$Sort", 452, "-", 1097), ("QueryReader$Sort", 455, "*", 1096), ("QueryReader$Sort", 458, "/", 1108), ("QueryReader$Sort", 461, "%", 1109), ("QueryReader$Sort", 467, "=", 1100), ("QueryReader$Sort", 473, "<", 1102), ("QueryReader$Sort", 479, ">", 1104), ("QueryReader$Sort", 368, "CREATE", 1032), ("QueryReader$Sort", 361, "CASE", 1025), ("QueryReader$Sort", 376, "END", 1040), ("QueryReader$Sort", 422, "TABLE", 1085), ("QueryReader$Sort", 386, "INT", 1050), ("QueryReader$Sort", 423, "TEXT", 1086), ("QueryReader$Sort", 400, "NOT", 1064), ("QueryReader$Sort", 401, "NULL", 1065), ("QueryReader$Sort", 410, "PRIMARY", 1074), ("QueryReader$Sort", 390, "KEY", 1054), ("QueryReader$Sort", 370, "DEFAULT", 1034), ("QueryReader$Sort", 363, "CHECK", 1027), ("QueryReader$Sort", 378, "EXISTS", 1042), ("QueryReader$Sort", 416, "SELECT", 1080), ("QueryReader$Sort", 373, "DISTINCT", 1037), ("QueryReader$Sort", 354, "AS", 1018), ("QueryReader$Sort", 379, "FROM", 1043), ("QueryReader$Sort", 404, "ON", 1068), ("QueryReader$Sort", 369, "CROSS", 1033), ("QueryReader$Sort", 391, "LEFT", 1055), ("QueryReader$Sort", 407, "OUTER", 1071), ("QueryReader$Sort", 389, "JOIN", 1053), ("QueryReader$Sort", 384, "INNER", 1048), ("QueryReader$Sort", 432, "WHERE", 1095), ("QueryReader$Sort", 380, "GROUP", 1044), ("QueryReader$Sort", 359, "BY", 1023), ("QueryReader$Sort", 381, "HAVING", 1045), ("QueryReader$Sort", 406, "ORDER", 1070), ("QueryReader$Sort", 355, "ASC", 1019), ("QueryReader$Sort", 372, "DESC", 1036), ("QueryReader$Sort", 394, "LIMIT", 1058), ("QueryReader$Sort", 403, "OFFSET", 1067), ("QueryReader$Sort", 431, "WHEN", 1094), ("QueryReader$Sort", 424, "THEN", 1087), ("QueryReader$Sort", 375, "ELSE", 1039), ("QueryReader$Sort", 362, "CAST", 1026), ("QueryReader$Sort", 367, "COUNT", 1031), ("QueryReader$Sort", 382, "IN", 1046), ("QueryReader$Sort", 358, "BETWEEN", 1022), ("QueryReader$Sort", 393, "LIKE", 1057), ("QueryReader$Sort", 388, "IS", 1052), ("QueryReader$Sort", 353, "AND", 1017), ("QueryReader$Sort", 412, "REFERENCES", 1076), ("QueryReader$Sort", 371, "DELETE", 1035), ("QueryReader$Sort", 418, "SET", 1081), ("QueryReader$Sort", 360, "CASCADE", 1024), ("QueryReader$Sort", 413, "RESTRICT", 1077), ("QueryReader$Sort", 427, "UNIQUE", 1090), ("QueryReader$Sort", 383, "INDEX", 1047), ("QueryReader$Sort", 374, "DROP", 1038), ("QueryReader$Sort", 385, "INSERT", 1049), ("QueryReader$Sort", 387, "INTO", 1051), ("QueryReader$Sort", 430, "VALUES", 1093), ("QueryReader$Sort", 428, "UPDATE", 1091), ("QueryReader$Sort", 357, "BEGIN", 1021), ("QueryReader$Sort", 411, "READ", 1075), ("QueryReader$Sort", 366, "COMMITTED", 1030), ("QueryReader$Sort", 426, "UNCOMMITTED", 1089), ("QueryReader$Sort", 417, "SERIALIZABLE", 1010), ("QueryReader$Sort", 365, "COMMIT", 1029), ("QueryReader$Sort", 409, "PREPARED", 1073), ("QueryReader$Sort", 414, "ROLLBACK", 1078), ("QueryReader$Sort", 425, "TO", 1088), ("QueryReader$Sort", 415, "SAVEPOINT", 1079), ("QueryReader$Sort", 395, "LOCK", 1059), ("QueryReader$Sort", 419, "SHARE", 1082), ("QueryReader$Sort", 377, "EXCLUSIVE", 1041), ("QueryReader$Sort", 399, "MODE", 1063), ("QueryReader$Sort", 408, "PREPARE", 1072), ("QueryReader$Sort", 348, "ABS", 1015), ("QueryReader$Sort", 352, "ALL", 1016), ("QueryReader$Sort", 356, "AVG", 1020), ("QueryReader$Sort", 364, "COALESCE", 1028), ("QueryReader$Sort", 392, "LENGTH", 1056), ("QueryReader$Sort", 396, "LOWER", 1060), ("QueryReader$Sort", 397, "MAX", 1061), ("QueryReader$Sort", 398, "MIN", 1062), ("QueryReader$Sort", 402, "NULLIF", 1066), ("QueryReader$Sort", 405, "OR", 1069), ("QueryReader$Sort", 420, "SUBSTR", 1083), ("QueryReader$Sort", 421, "SUM", 1084), ("QueryReader$Sort", 429, "UPPER", 1092)]
def qr_yf : List (String × String × String × Value) := [("QueryReader$Sort", "ABS", "LQueryReader$Sort;", .retAddr 0), ("QueryReader$Sort", "ALL", "LQueryReader$Sort;", .retAddr 1), ("QueryReader$Sort", "AND", "LQueryReader$Sort;", .retAddr 2), ("QueryReader$Sort", "AS", "LQueryReader$Sort;", .retAddr 3), ("QueryReader$Sort", "ASC", "LQueryReader$Sort;", .retAddr 4), ("QueryReader$Sort", "AVG", "LQueryReader$Sort;", .retAddr 5), ("QueryReader$Sort", "BEGIN", "LQueryReader$Sort;", .retAddr 6), ("QueryReader$Sort", "BETWEEN", "LQueryReader$Sort;", .retAddr 7), ("QueryReader$Sort", "BY", "LQueryReader$Sort;", .retAddr 8), ("QueryReader$Sort", "CASCADE", "LQueryReader$Sort;", .retAddr 9), ("QueryReader$Sort", "CASE", "LQueryReader$Sort;", .retAddr 10), ("QueryReader$Sort", "CAST", "LQueryReader$Sort;", .retAddr 11), ("QueryReader$Sort", "CHECK", "LQueryReader$Sort;", .retAddr 12), ("QueryReader$Sort", "COALESCE", "LQueryReader$Sort;", .retAddr 13), ("QueryReader$Sort", "COMMIT", "LQueryReader$Sort;", .retAddr 14), ("QueryReader$Sort", "COMMITTED", "LQueryReader$Sort;", .retAddr 15), ("QueryReader$Sort", "COUNT", "LQueryReader$Sort;", .retAddr 16), ("QueryReader$Sort", "CREATE", "LQueryReader$Sort;", .retAddr 17), ("QueryReader$Sort", "CROSS", "LQueryReader$Sort;", .retAddr 18), ("QueryReader$Sort", "DEFAULT", "LQueryReader$Sort;", .retAddr 19), ("QueryReader$Sort", "DELETE", "LQueryReader$Sort;", .retAddr 20), ("QueryReader$Sort", "DESC", "LQueryReader$Sort;", .retAddr 21), ("QueryReader$Sort", "DISTINCT", "LQueryReader$Sort;", .retAddr 22), ("QueryReader$Sort", "DROP", "LQueryReader$Sort;", .retAddr 23), ("QueryReader$Sort", "ELSE", "LQueryReader$Sort;", .retAddr 24), ("QueryReader$Sort", "END", "LQueryReader$Sort;", .retAddr 25), ("QueryReader$Sort", "EXCLUSIVE", "LQueryReader$Sort;", .retAddr 26), ("QueryReader$Sort", "EXISTS", "LQueryReader$Sort;", .retAddr 27), ("QueryReader$Sort", "FROM", "LQueryReader$Sort;", .retAddr 28), ("QueryReader$Sort", "GROUP", "LQueryReader$Sort;", .retAddr 29), ("QueryReader$Sort", "HAVING", "LQueryReader$Sort;", .retAddr 30), ("QueryReader$Sort", "IN", "LQueryReader$Sort;", .retAddr 31), ("QueryReader$Sort", "INDEX", "LQueryReader$Sort;", .retAddr 32), ("QueryReader$Sort", "INNER", "LQueryReader$Sort;", .retAddr 33), ("QueryReader$Sort", "INSERT", "LQueryReader$Sort;", .retAddr 34), ("QueryReader$Sort", "INT", "LQueryReader$Sort;", .retAddr 35), ("QueryReader$Sort", "INTO", "LQueryReader$Sort;", .retAddr 36), ("QueryReader$Sort", "IS", "LQueryReader$Sort;", .retAddr 37), ("QueryReader$Sort", "JOIN", "LQueryReader$Sort;", .retAddr 38), ("QueryReader$Sort", "KEY", "LQueryReader$Sort;", .retAddr 39), ("QueryReader$Sort", "LEFT", "LQueryReader$Sort;", .retAddr 40), ("QueryReader$Sort", "LENGTH", "LQueryReader$Sort;", .retAddr 41), ("QueryReader$Sort", "LIKE", "LQueryReader$Sort;", .retAddr 42), ("QueryReader$Sort", "LIMIT", "LQueryReader$Sort;", .retAddr 43), ("QueryReader$Sort", "LOCK", "LQueryReader$Sort;", .retAddr 44), ("QueryReader$Sort", "LOWER", "LQueryReader$Sort;", .retAddr 45), ("QueryReader$Sort", "MAX", "LQueryReader$Sort;", .retAddr 46), ("QueryReader$Sort", "MIN", "LQueryReader$Sort;", .retAddr 47), ("QueryReader$Sort", "MODE", "LQueryReader$Sort;", .retAddr 48), ("QueryReader$Sort", "NOT", "LQueryReader$Sort;", .retAddr 49), ("QueryReader$Sort", "NULL", "LQueryReader$Sort;", .retAddr 50), ("QueryReader$Sort", "NULLIF", "LQueryReader$Sort;", .retAddr 51), ("QueryReader$Sort", "OFFSET", "LQueryReader$Sort;", .retAddr 52), ("QueryReader$Sort", "ON", "LQueryReader$Sort;", .retAddr 53), ("QueryReader$Sort", "OR", "LQueryReader$Sort;", .retAddr 54), ("QueryReader$Sort", "ORDER", "LQueryReader$Sort;", .retAddr 55), ("QueryReader$Sort", "OUTER", "LQueryReader$Sort;", .retAddr 56), ("QueryReader$Sort", "PREPARE", "LQueryReader$Sort;", .retAddr 57), ("QueryReader$Sort", "PREPARED", "LQueryReader$Sort;", .retAddr 58), ("QueryReader$Sort", "PRIMARY", "LQueryReader$Sort;", .retAddr 59), ("QueryReader$Sort", "READ", "LQueryReader$Sort;", .retAddr 60), ("QueryReader$Sort", "REFERENCES", "LQueryReader$Sort;", .retAddr 61), ("QueryReader$Sort", "RESTRICT", "LQueryReader$Sort;", .retAddr 62), ("QueryReader$Sort", "ROLLBACK", "LQueryReader$Sort;", .retAddr 63), ("QueryReader$Sort", "SAVEPOINT", "LQueryReader$Sort;", .retAddr 64), ("QueryReader$Sort", "SELECT", "LQueryReader$Sort;", .retAddr 65), ("QueryReader$Sort", "SERIALIZABLE", "LQueryReader$Sort;", .retAddr 66), ("QueryReader$Sort", "SET", "LQueryReader$Sort;", .retAddr 67), ("QueryReader$Sort", "SHARE", "LQueryReader$Sort;", .retAddr 68), ("QueryReader$Sort", "SUBSTR", "LQueryReader$Sort;", .retAddr 69), ("QueryReader$Sort", "SUM", "LQueryReader$Sort;", .retAddr 70), ("QueryReader$Sort", "TABLE", "LQueryReader$Sort;", .retAddr 71), ("QueryReader$Sort", "TEXT", "LQueryReader$Sort;", .retAddr 72), ("QueryReader$Sort", "THEN", "LQueryReader$Sort;", .retAddr 73), ("QueryReader$Sort", "TO", "LQueryReader$Sort;", .retAddr 74), ("QueryReader$Sort", "UNCOMMITTED", "LQueryReader$Sort;", .retAddr 75), ("QueryReader$Sort", "UNIQUE", "LQueryReader$Sort;", .retAddr 76), ("QueryReader$Sort", "UPDATE", "LQueryReader$Sort;", .retAddr 77), ("QueryReader$Sort", "UPPER", "LQueryReader$Sort;", .retAddr 78), ("QueryReader$Sort", "VALUES", "LQueryReader$Sort;", .retAddr 79), ("QueryReader$Sort", "WHEN", "LQueryReader$Sort;", .retAddr 80), ("QueryReader$Sort", "WHERE", "LQueryReader$Sort;", .retAddr 81), ("QueryReader$Sort", "OPEN", "LQueryReader$Sort;", .retAddr 82), ("QueryReader$Sort", "CLOSE", "LQueryReader$Sort;", .retAddr 83), ("QueryReader$Sort", "COMMA", "LQueryReader$Sort;", .retAddr 84), ("QueryReader$Sort", "DOT", "LQueryReader$Sort;", .retAddr 85), ("QueryReader$Sort", "SEMICOLON", "LQueryReader$Sort;", .retAddr 86), ("QueryReader$Sort", "PLUS", "LQueryReader$Sort;", .retAddr 87), ("QueryReader$Sort", "MINUS", "LQueryReader$Sort;", .retAddr 88), ("QueryReader$Sort", "STAR", "LQueryReader$Sort;", .retAddr 89), ("QueryReader$Sort", "SLASH", "LQueryReader$Sort;", .retAddr 90), ("QueryReader$Sort", "PERCENT", "LQueryReader$Sort;", .retAddr 91), ("QueryReader$Sort", "BARS", "LQueryReader$Sort;", .retAddr 92), ("QueryReader$Sort", "EQUAL", "LQueryReader$Sort;", .retAddr 93), ("QueryReader$Sort", "UNEQUAL", "LQueryReader$Sort;", .retAddr 94), ("QueryReader$Sort", "LESS", "LQueryReader$Sort;", .retAddr 95), ("QueryReader$Sort", "AT_MOST", "LQueryReader$Sort;", .retAddr 96), ("QueryReader$Sort", "MORE", "LQueryReader$Sort;", .retAddr 97), ("QueryReader$Sort", "AT_LEAST", "LQueryReader$Sort;", .retAddr 98), ("QueryReader$Sort", "NAME", "LQueryReader$Sort;", .retAddr 99), ("QueryReader$Sort", "NUMBER", "LQueryReader$Sort;", .retAddr 100), ("QueryReader$Sort", "STRING", "LQueryReader$Sort;", .retAddr 101), ("QueryReader$Sort", "FINISH", "LQueryReader$Sort;", .retAddr 102), ("QueryReader$Sort", "WRONG", "LQueryReader$Sort;", .retAddr 103), ("QueryReader", "SORTS", "[LQueryReader$Sort;", .retAddr 3000), ("QueryReader$1", "$SwitchMap$QueryReader$Sort", "[I", .retAddr 3001), ("java/lang/String", "COMPACT_STRINGS", "Z", .int 1), ("jdk/internal/util/Preconditions", "SIOOBE_FORMATTER", "Ljava/util/function/BiFunction;", .float 0)]
def qr_yw : List Cond := [.isRef (.static Bundle.tN "UNASSIGNED_STACK" Bundle.steD), .isRef (.static Bundle.tN "SUPPRESSED_SENTINEL" Bundle.listD), .laysStatic Bundle.tN "UNASSIGNED_STACK" Bundle.steD, .laysStatic Bundle.tN "SUPPRESSED_SENTINEL" Bundle.listD]
def qr_Y (L : Nat) (xs : Nat → Int32) : ai_Y := (qr_G L xs, qr_zc, qr_cl, qr_ty, qr_ys, qr_yf, qr_yw)
def qr_Y0 : ai_Y := qr_Y 0 (fun _ => 0)
end
section
/-! PRINTED BY wip/whole/print.py: methods. -/
set_option maxRecDepth 100000 in
/-- QueryReader.<init>()V -/
def qm_0 : ai_M := (⟨"QueryReader", "<init>", "()V"⟩, prog_1_method_1_code, 1, (Option.none : Option Jvm.ClassFile.FieldType), [], [], [
  (0, .aload_n 0, 1, 0, [], ""),
  (1, .invokespecial 1, 3, 3, [150, 151, 152], ""),
  (4, .aload_n 0, 1, 0, [], ""),
  (5, .new 7, 3, 0, [1, 153, 154, 124], ""),
  (8, .dup, 1, 0, [], ""),
  (9, .invokespecial 9, 3, 1, [1, 1, 2, 0, 155, 156], ""),
  (12, .putfield 10, 3, 0, [0, 0, 241], ""),
  (15, .aload_n 0, 1, 0, [], ""),
  (16, .aload_n 0, 1, 0, [], ""),
  (17, .getfield 10, 3, 0, [0, 0, 241], ""),
  (20, .getfield 16, 3, 0, [1, 0, 199], ""),
  (23, .putfield 20, 3, 0, [0, 1, 242], ""),
  (26, .aload_n 0, 1, 0, [], ""),
  (27, .aload_n 0, 1, 0, [], ""),
  (28, .getfield 10, 3, 0, [0, 0, 241], ""),
  (31, .getfield 23, 3, 0, [1, 1, 201], ""),
  (34, .putfield 26, 3, 0, [0, 2, 243], ""),
  (37, .aload_n 0, 1, 0, [], ""),
  (38, .new 27, 3, 0, [2, 231, 232, 129], ""),
  (41, .dup, 1, 0, [], ""),
  (42, .invokespecial 29, 3, 1, [4, 1, 2, 0, 233, 234], ""),
  (45, .putfield 30, 3, 0, [0, 3, 244], ""),
  (48, .aload_n 0, 1, 0, [], ""),
  (49, .iconst 0, 1, 0, [], ""),
  (50, .putfield 34, 3, 0, [0, 4, 245], ""),
  (53, .return_, 1, 7, [], "")])
set_option maxRecDepth 100000 in
/-- QueryReader$Grammar.<init>()V -/
def qm_1 : ai_M := (⟨"QueryReader$Grammar", "<init>", "()V"⟩, prog_3_method_1_code, 1, (Option.none : Option Jvm.ClassFile.FieldType), [], [], [
  (0, .aload_n 0, 1, 0, [], ""),
  (1, .invokespecial 3, 3, 3, [158, 151, 152], ""),
  (4, .aload_n 0, 1, 0, [], ""),
  (5, .new 9, 3, 0, [3, 159, 160, 125], ""),
  (8, .dup, 1, 0, [], ""),
  (9, .invokespecial 11, 3, 1, [2, 1, 2, 0, 161, 162], ""),
  (12, .putfield 12, 3, 0, [1, 0, 198], ""),
  (15, .aload_n 0, 1, 0, [], ""),
  (16, .new 9, 3, 0, [3, 159, 160, 125], ""),
  (19, .dup, 1, 0, [], ""),
  (20, .invokespecial 11, 3, 1, [2, 1, 2, 0, 161, 162], ""),
  (23, .putfield 18, 3, 0, [1, 1, 200], ""),
  (26, .aload_n 0, 1, 0, [], ""),
  (27, .new 21, 3, 0, [4, 173, 174, 126], ""),
  (30, .dup, 1, 0, [], ""),
  (31, .invokespecial 23, 3, 1, [3, 1, 2, 0, 175, 176], ""),
  (34, .putfield 24, 3, 0, [1, 2, 202], ""),
  (37, .aload_n 0, 1, 0, [], ""),
  (38, .iconst 0, 1, 0, [], ""),
  (39, .putfield 28, 3, 0, [1, 3, 203], ""),
  (42, .aload_n 0, 1, 0, [], ""),
  (43, .getstatic 32, 3, 0, [2, 102, 102, 197], ""),
  (46, .putfield 38, 3, 0, [1, 4, 204], ""),
  (49, .aload_n 0, 1, 0, [], ""),
  (50, .iconst 0, 1, 0, [], ""),
  (51, .putfield 41, 3, 0, [1, 5, 205], ""),
  (54, .aload_n 0, 1, 0, [], ""),
  (55, .iconst 0, 1, 0, [], ""),
  (56, .putfield 44, 3, 0, [1, 6, 206], ""),
  (59, .aload_n 0, 1, 0, [], ""),
  (60, .sipush 300, 3, 0, [], ""),
  (63, .newarray .int, 2, 0, [196], ""),
  (65, .putfield 47, 3, 0, [1, 7, 207], ""),
  (68, .aload_n 0, 1, 0, [], ""),
  (69, .sipush 300, 3, 0, [], ""),
  (72, .newarray .int, 2, 0, [196], ""),
  (74, .putfield 51, 3, 0, [1, 8, 208], ""),
  (77, .aload_n 0, 1, 0, [], ""),
  (78, .iconst 0, 1, 0, [], ""),
  (79, .putfield 54, 3, 0, [1, 9, 209], ""),
  (82, .return_, 1, 7, [], "")])
set_option maxRecDepth 100000 in
/-- QueryReader$Row.<init>()V -/
def qm_2 : ai_M := (⟨"QueryReader$Row", "<init>", "()V"⟩, prog_5_method_1_code, 1, (Option.none : Option Jvm.ClassFile.FieldType), [], [], [
  (0, .aload_n 0, 1, 0, [], ""),
  (1, .invokespecial 3, 3, 3, [164, 151, 152], ""),
  (4, .aload_n 0, 1, 0, [], ""),
  (5, .sipush 256, 3, 0, [], ""),
  (8, .newarray .byte, 2, 0, [172], ""),
  (10, .putfield 11, 3, 0, [3, 0, 165], ""),
  (13, .aload_n 0, 1, 0, [], ""),
  (14, .iconst 0, 1, 0, [], ""),
  (15, .putfield 15, 3, 0, [3, 1, 166], ""),
  (18, .return_, 1, 7, [], "")])
set_option maxRecDepth 100000 in
/-- QueryReader$Tokens.<init>()V -/
def qm_3 : ai_M := (⟨"QueryReader$Tokens", "<init>", "()V"⟩, prog_7_method_1_code, 1, (Option.none : Option Jvm.ClassFile.FieldType), [], [], [
  (0, .aload_n 0, 1, 0, [], ""),
  (1, .invokespecial 3, 3, 3, [178, 151, 152], ""),
  (4, .aload_n 0, 1, 0, [], ""),
  (5, .bipush 64, 2, 0, [], ""),
  (7, .anewarray 11, 3, 0, [179], "QueryReader$Sort"),
  (10, .putfield 13, 3, 0, [4, 0, 180], ""),
  (13, .aload_n 0, 1, 0, [], ""),
  (14, .bipush 64, 2, 0, [], ""),
  (16, .newarray .int, 2, 0, [196], ""),
  (18, .putfield 17, 3, 0, [4, 1, 181], ""),
  (21, .aload_n 0, 1, 0, [], ""),
  (22, .bipush 64, 2, 0, [], ""),
  (24, .newarray .int, 2, 0, [196], ""),
  (26, .putfield 21, 3, 0, [4, 2, 182], ""),
  (29, .aload_n 0, 1, 0, [], ""),
  (30, .iconst 0, 1, 0, [], ""),
  (31, .putfield 24, 3, 0, [4, 3, 183], ""),
  (34, .aload_n 0, 1, 0, [], ""),
  (35, .iconst 0, 1, 0, [], ""),
  (36, .putfield 28, 3, 0, [4, 4, 184], ""),
  (39, .return_, 1, 7, [], "")])
set_option maxRecDepth 100000 in
/-- QueryReader$Names.<init>()V -/
def qm_4 : ai_M := (⟨"QueryReader$Names", "<init>", "()V"⟩, prog_4_method_1_code, 1, (Option.none : Option Jvm.ClassFile.FieldType), [], [], [
  (0, .aload_n 0, 1, 0, [], ""),
  (1, .invokespecial 3, 3, 3, [236, 151, 152], ""),
  (4, .aload_n 0, 1, 0, [], ""),
  (5, .bipush 16, 2, 0, [], ""),
  (7, .newarray .int, 2, 0, [196], ""),
  (9, .putfield 11, 3, 0, [2, 0, 237], ""),
  (12, .return_, 1, 7, [], "")])
set_option maxRecDepth 100000 in
/-- QueryReader.read()I -/
def qm_5 : ai_M := (⟨"QueryReader", "read", "()I"⟩, prog_1_method_4_code, 3, (Option.some Jvm.ClassFile.FieldType.int), [(9, 27, 30, 56)], [(5, 13, 14, "java/lang/IllegalArgumentException")], [
  (0, .iconst 0, 1, 0, [], ""),
  (1, .istore_n 1, 1, 0, [], ""),
  (2, .aload_n 0, 1, 0, [], ""),
  (3, .getfield 10, 3, 0, [0, 0, 241], ""),
  (6, .invokevirtual 64, 3, 1, [6, 1, 1, 1, 262, 264, 263], ""),
  (9, .aload_n 0, 1, 0, [], ""),
  (10, .aload_n 0, 1, 0, [], ""),
  (11, .getfield 10, 3, 0, [0, 0, 241], ""),
  (14, .invokevirtual 67, 3, 1, [35, 1, 1, 1, 420, 422, 421], ""),
  (17, .putfield 34, 3, 0, [0, 4, 245], ""),
  (20, .aload_n 0, 1, 0, [], ""),
  (21, .getfield 10, 3, 0, [0, 0, 241], ""),
  (24, .invokevirtual 70, 3, 1, [90, 1, 1, 1, 798, 800, 799], ""),
  (27, .goto 27, 3, 0, [28], ""),
  (30, .astore_n 2, 1, 0, [], ""),
  (31, .aload_n 0, 1, 0, [], ""),
  (32, .iconst 0, 1, 0, [], ""),
  (33, .putfield 34, 3, 0, [0, 4, 245], ""),
  (36, .aload_n 0, 1, 0, [], ""),
  (37, .getfield 26, 3, 0, [0, 2, 243], ""),
  (40, .iconst 0, 1, 0, [], ""),
  (41, .invokevirtual 61, 3, 1, [34, 2, 1, 3, 807, 418, 417], ""),
  (44, .aload_n 0, 1, 0, [], ""),
  (45, .getfield 10, 3, 0, [0, 0, 241], ""),
  (48, .invokevirtual 73, 3, 1, [92, 1, 1, 1, 808, 810, 809], ""),
  (51, .iconst 1, 1, 0, [], ""),
  (52, .iadd, 1, 0, [], ""),
  (53, .istore_n 1, 1, 0, [], ""),
  (54, .aload_n 0, 1, 0, [], ""),
  (55, .getfield 20, 3, 0, [0, 1, 242], ""),
  (58, .iconst 0, 1, 0, [], ""),
  (59, .invokevirtual 61, 3, 1, [34, 2, 1, 3, 807, 418, 417], ""),
  (62, .iload_n 1, 1, 0, [], ""),
  (63, .ireturn, 1, 5, [], "")])
set_option maxRecDepth 100000 in
/-- QueryReader$Grammar.start()V -/
def qm_6 : ai_M := (⟨"QueryReader$Grammar", "start", "()V"⟩, prog_3_method_2_code, 1, (Option.none : Option Jvm.ClassFile.FieldType), [], [], [
  (0, .aload_n 0, 1, 0, [], ""),
  (1, .getfield 24, 3, 0, [1, 2, 202], ""),
  (4, .aload_n 0, 1, 0, [], ""),
  (5, .getfield 12, 3, 0, [1, 0, 198], ""),
  (8, .invokevirtual 57, 3, 1, [7, 2, 1, 4, 266, 268, 267], ""),
  (11, .aload_n 0, 1, 0, [], ""),
  (12, .iconst 0, 1, 0, [], ""),
  (13, .putfield 28, 3, 0, [1, 3, 203], ""),
  (16, .aload_n 0, 1, 0, [], ""),
  (17, .aload_n 0, 1, 0, [], ""),
  (18, .getfield 24, 3, 0, [1, 2, 202], ""),
  (21, .iconst 0, 1, 0, [], ""),
  (22, .invokevirtual 61, 3, 1, [33, 2, 1, 4, 412, 414, 413], ""),
  (25, .putfield 38, 3, 0, [1, 4, 204], ""),
  (28, .aload_n 0, 1, 0, [], ""),
  (29, .iconst 0, 1, 0, [], ""),
  (30, .putfield 41, 3, 0, [1, 5, 205], ""),
  (33, .aload_n 0, 1, 0, [], ""),
  (34, .iconst 0, 1, 0, [], ""),
  (35, .putfield 44, 3, 0, [1, 6, 206], ""),
  (38, .aload_n 0, 1, 0, [], ""),
  (39, .iconst 0, 1, 0, [], ""),
  (40, .putfield 54, 3, 0, [1, 9, 209], ""),
  (43, .aload_n 0, 1, 0, [], ""),
  (44, .getfield 18, 3, 0, [1, 1, 200], ""),
  (47, .iconst 0, 1, 0, [], ""),
  (48, .invokevirtual 65, 3, 1, [34, 2, 1, 3, 416, 418, 417], ""),
  (51, .return_, 1, 7, [], "")])
set_option maxRecDepth 100000 in
/-- QueryReader$Tokens.scan(LQueryReader$Row;)V -/
def qm_7 : ai_M := (⟨"QueryReader$Tokens", "scan", "(LQueryReader$Row;)V"⟩, prog_7_method_5_code, 6, (Option.none : Option Jvm.ClassFile.FieldType), [], [], [
  (0, .iconst 1, 1, 0, [], ""),
  (1, .istore_n 2, 1, 0, [], ""),
  (2, .aload_n 0, 1, 0, [], ""),
  (3, .iconst 0, 1, 0, [], ""),
  (4, .putfield 24, 3, 0, [4, 3, 183], ""),
  (7, .aload_n 0, 1, 0, [], ""),
  (8, .iconst 0, 1, 0, [], ""),
  (9, .putfield 28, 3, 0, [4, 4, 184], ""),
  (12, .iconst 0, 1, 0, [], ""),
  (13, .istore_n 3, 1, 0, [], ""),
  (14, .iload_n 3, 1, 0, [], ""),
  (15, .ldc 35, 2, 0, [1, 1000000, 270], ""),
  (17, .if_icmp .ge 62, 3, 0, [41], ""),
  (20, .iload_n 2, 1, 0, [], ""),
  (21, .ifCond .eq 58, 3, 0, [41], ""),
  (24, .aload_n 1, 1, 0, [], ""),
  (25, .aload_n 0, 1, 0, [], ""),
  (26, .getfield 28, 3, 0, [4, 4, 184], ""),
  (29, .invokestatic 36, 3, 1, [8, 2, 0, 0, 271, 272], ""),
  (32, .istore 4, 2, 0, [], ""),
  (34, .aload_n 0, 1, 0, [], ""),
  (35, .aload_n 1, 1, 0, [], ""),
  (36, .iload 4, 2, 0, [], ""),
  (38, .invokevirtual 40, 3, 1, [11, 3, 1, 4, 282, 0, 284], ""),
  (41, .astore 5, 2, 0, [], ""),
  (43, .aload_n 0, 1, 0, [], ""),
  (44, .aload 5, 2, 0, [], ""),
  (46, .iload 4, 2, 0, [], ""),
  (48, .invokevirtual 44, 3, 1, [29, 3, 1, 4, 386, 5, 388], ""),
  (51, .aload 5, 2, 0, [], ""),
  (53, .getstatic 31, 3, 0, [2, 102, 102, 286], ""),
  (56, .if_acmp .eq 15, 3, 0, [37], ""),
  (59, .aload 5, 2, 0, [], ""),
  (61, .getstatic 48, 3, 0, [2, 103, 103, 294], ""),
  (64, .if_acmp .eq 7, 3, 0, [37], ""),
  (67, .iconst 1, 1, 0, [], ""),
  (68, .goto 4, 3, 0, [38], ""),
  (71, .iconst 0, 1, 0, [], ""),
  (72, .istore_n 2, 1, 0, [], ""),
  (73, .iinc 3 1, 3, 0, [], ""),
  (76, .goto (-62), 3, 0, [10], ""),
  (79, .return_, 1, 7, [], "")])
set_option maxRecDepth 100000 in
/-- QueryReader$Tokens.behindBlanks(LQueryReader$Row;I)I -/
def qm_8 : ai_M := (⟨"QueryReader$Tokens", "behindBlanks", "(LQueryReader$Row;I)I"⟩, prog_7_method_8_code, 5, (Option.some Jvm.ClassFile.FieldType.int), [], [], [
  (0, .iconst 0, 1, 0, [], ""),
  (1, .istore_n 2, 1, 0, [], ""),
  (2, .iload_n 1, 1, 0, [], ""),
  (3, .istore_n 3, 1, 0, [], ""),
  (4, .iload_n 3, 1, 0, [], ""),
  (5, .aload_n 0, 1, 0, [], ""),
  (6, .invokevirtual 67, 3, 1, [9, 1, 1, 3, 274, 276, 275], ""),
  (9, .if_icmp .ge 90, 3, 0, [51], ""),
  (12, .aload_n 0, 1, 0, [], ""),
  (13, .iload_n 3, 1, 0, [], ""),
  (14, .invokevirtual 73, 3, 1, [10, 2, 1, 3, 278, 280, 279], ""),
  (17, .istore 4, 2, 0, [], ""),
  (19, .iload_n 2, 1, 0, [], ""),
  (20, .ifCond .eq 19, 3, 0, [22], ""),
  (23, .iload 4, 2, 0, [], ""),
  (25, .bipush 10, 2, 0, [], ""),
  (27, .if_icmp .eq 7, 3, 0, [19], ""),
  (30, .iconst 1, 1, 0, [], ""),
  (31, .goto 4, 3, 0, [20], ""),
  (34, .iconst 0, 1, 0, [], ""),
  (35, .istore_n 2, 1, 0, [], ""),
  (36, .goto 57, 3, 0, [49], ""),
  (39, .iload 4, 2, 0, [], ""),
  (41, .bipush 45, 2, 0, [], ""),
  (43, .if_icmp .ne 20, 3, 0, [35], ""),
  (46, .aload_n 0, 1, 0, [], ""),
  (47, .iload_n 3, 1, 0, [], ""),
  (48, .iconst 1, 1, 0, [], ""),
  (49, .iadd, 1, 0, [], ""),
  (50, .invokevirtual 73, 3, 1, [10, 2, 1, 3, 278, 280, 279], ""),
  (53, .bipush 45, 2, 0, [], ""),
  (55, .if_icmp .ne 8, 3, 0, [35], ""),
  (58, .iconst 1, 1, 0, [], ""),
  (59, .istore_n 2, 1, 0, [], ""),
  (60, .goto 33, 3, 0, [49], ""),
  (63, .iload 4, 2, 0, [], ""),
  (65, .bipush 9, 2, 0, [], ""),
  (67, .if_icmp .eq 26, 3, 0, [49], ""),
  (70, .iload 4, 2, 0, [], ""),
  (72, .bipush 10, 2, 0, [], ""),
  (74, .if_icmp .eq 19, 3, 0, [49], ""),
  (77, .iload 4, 2, 0, [], ""),
  (79, .bipush 13, 2, 0, [], ""),
  (81, .if_icmp .eq 12, 3, 0, [49], ""),
  (84, .iload 4, 2, 0, [], ""),
  (86, .bipush 32, 2, 0, [], ""),
  (88, .if_icmp .eq 5, 3, 0, [49], ""),
  (91, .iload_n 3, 1, 0, [], ""),
  (92, .ireturn, 1, 5, [], ""),
  (93, .iinc 3 1, 3, 0, [], ""),
  (96, .goto (-92), 3, 0, [4], ""),
  (99, .aload_n 0, 1, 0, [], ""),
  (100, .invokevirtual 67, 3, 1, [9, 1, 1, 3, 274, 276, 275], ""),
  (103, .ireturn, 1, 5, [], "")])
set_option maxRecDepth 100000 in
/-- QueryReader$Row.size()I -/
def qm_9 : ai_M := (⟨"QueryReader$Row", "size", "()I"⟩, prog_5_method_2_code, 1, (Option.some Jvm.ClassFile.FieldType.int), [], [], [
  (0, .aload_n 0, 1, 0, [], ""),
  (1, .getfield 15, 3, 0, [3, 1, 166], ""),
  (4, .ireturn, 1, 5, [], "")])
set_option maxRecDepth 100000 in
/-- QueryReader$Row.at(I)I -/
def qm_10 : ai_M := (⟨"QueryReader$Row", "at", "(I)I"⟩, prog_5_method_3_code, 2, (Option.some Jvm.ClassFile.FieldType.int), [], [], [
  (0, .iload_n 1, 1, 0, [], ""),
  (1, .ifCond .lt 33, 3, 0, [18], ""),
  (4, .iload_n 1, 1, 0, [], ""),
  (5, .aload_n 0, 1, 0, [], ""),
  (6, .getfield 15, 3, 0, [3, 1, 166], ""),
  (9, .if_icmp .ge 25, 3, 0, [18], ""),
  (12, .iload_n 1, 1, 0, [], ""),
  (13, .aload_n 0, 1, 0, [], ""),
  (14, .getfield 11, 3, 0, [3, 0, 165], ""),
  (17, .arraylength, 1, 0, [], ""),
  (18, .if_icmp .ge 16, 3, 0, [18], ""),
  (21, .aload_n 0, 1, 0, [], ""),
  (22, .getfield 11, 3, 0, [3, 0, 165], ""),
  (25, .iload_n 1, 1, 0, [], ""),
  (26, .baload, 1, 0, [], ""),
  (27, .sipush 255, 3, 0, [], ""),
  (30, .iand, 1, 0, [], ""),
  (31, .goto 4, 3, 0, [19], ""),
  (34, .iconst (-1), 1, 0, [], ""),
  (35, .ireturn, 1, 5, [], "")])
set_option maxRecDepth 100000 in
/-- QueryReader$Tokens.sortFrom(LQueryReader$Row;I)LQueryReader$Sort; -/
def qm_11 : ai_M := (⟨"QueryReader$Tokens", "sortFrom", "(LQueryReader$Row;I)LQueryReader$Sort;"⟩, prog_7_method_9_code, 4, (Option.some (Jvm.ClassFile.FieldType.object "QueryReader$Sort")), [], [], [
  (0, .aload_n 1, 1, 0, [], ""),
  (1, .iload_n 2, 1, 0, [], ""),
  (2, .invokevirtual 73, 3, 1, [10, 2, 1, 3, 278, 280, 279], ""),
  (5, .istore_n 3, 1, 0, [], ""),
  (6, .aload_n 0, 1, 0, [], ""),
  (7, .iload_n 2, 1, 0, [], ""),
  (8, .putfield 28, 3, 0, [4, 4, 184], ""),
  (11, .iload_n 3, 1, 0, [], ""),
  (12, .iconst (-1), 1, 0, [], ""),
  (13, .if_icmp .ne 7, 3, 0, [12], ""),
  (16, .getstatic 31, 3, 0, [2, 102, 102, 286], ""),
  (19, .areturn, 1, 6, [], ""),
  (20, .iload_n 3, 1, 0, [], ""),
  (21, .invokestatic 77, 3, 1, [12, 1, 0, 0, 287, 288], ""),
  (24, .ifCond .eq 10, 3, 0, [20], ""),
  (27, .aload_n 0, 1, 0, [], ""),
  (28, .aload_n 1, 1, 0, [], ""),
  (29, .iload_n 2, 1, 0, [], ""),
  (30, .invokevirtual 81, 3, 1, [13, 3, 1, 4, 290, 1, 292], ""),
  (33, .areturn, 1, 6, [], ""),
  (34, .iload_n 3, 1, 0, [], ""),
  (35, .invokestatic 84, 3, 1, [14, 1, 0, 0, 296, 297], ""),
  (38, .ifCond .eq 10, 3, 0, [28], ""),
  (41, .aload_n 0, 1, 0, [], ""),
  (42, .aload_n 1, 1, 0, [], ""),
  (43, .iload_n 2, 1, 0, [], ""),
  (44, .invokevirtual 87, 3, 1, [15, 3, 1, 4, 299, 2, 301], ""),
  (47, .areturn, 1, 6, [], ""),
  (48, .iload_n 3, 1, 0, [], ""),
  (49, .bipush 39, 2, 0, [], ""),
  (51, .if_icmp .ne 12, 3, 0, [36], ""),
  (54, .aload_n 0, 1, 0, [], ""),
  (55, .aload_n 1, 1, 0, [], ""),
  (56, .iload_n 2, 1, 0, [], ""),
  (57, .invokevirtual 90, 3, 1, [25, 3, 1, 4, 354, 3, 356], ""),
  (60, .goto 15, 3, 0, [44], ""),
  (63, .aload_n 0, 1, 0, [], ""),
  (64, .iload_n 3, 1, 0, [], ""),
  (65, .aload_n 1, 1, 0, [], ""),
  (66, .iload_n 2, 1, 0, [], ""),
  (67, .iconst 1, 1, 0, [], ""),
  (68, .iadd, 1, 0, [], ""),
  (69, .invokevirtual 73, 3, 1, [10, 2, 1, 3, 278, 280, 279], ""),
  (72, .invokevirtual 93, 3, 1, [26, 3, 1, 4, 359, 4, 361], ""),
  (75, .areturn, 1, 6, [], "")])
set_option maxRecDepth 100000 in
/-- QueryReader$Tokens.isDigit(I)Z -/
def qm_12 : ai_M := (⟨"QueryReader$Tokens", "isDigit", "(I)Z"⟩, prog_7_method_10_code, 1, (Option.some Jvm.ClassFile.FieldType.boolean), [], [], [
  (0, .iload_n 0, 1, 0, [], ""),
  (1, .bipush 48, 2, 0, [], ""),
  (3, .if_icmp .lt 13, 3, 0, [8], ""),
  (6, .iload_n 0, 1, 0, [], ""),
  (7, .bipush 57, 2, 0, [], ""),
  (9, .if_icmp .gt 7, 3, 0, [8], ""),
  (12, .iconst 1, 1, 0, [], ""),
  (13, .goto 4, 3, 0, [9], ""),
  (16, .iconst 0, 1, 0, [], ""),
  (17, .ireturn, 1, 5, [], "")])
set_option maxRecDepth 100000 in
/-- QueryReader$Tokens.digits(LQueryReader$Row;I)LQueryReader$Sort; -/
def qm_13 : ai_M := (⟨"QueryReader$Tokens", "digits", "(LQueryReader$Row;I)LQueryReader$Sort;"⟩, prog_7_method_12_code, 5, (Option.some (Jvm.ClassFile.FieldType.object "QueryReader$Sort")), [], [], [
  (0, .iload_n 2, 1, 0, [], ""),
  (1, .istore_n 3, 1, 0, [], ""),
  (2, .iload_n 2, 1, 0, [], ""),
  (3, .istore 4, 2, 0, [], ""),
  (5, .iload 4, 2, 0, [], ""),
  (7, .aload_n 1, 1, 0, [], ""),
  (8, .invokevirtual 67, 3, 1, [9, 1, 1, 3, 274, 276, 275], ""),
  (11, .if_icmp .ge 26, 3, 0, [19], ""),
  (14, .aload_n 1, 1, 0, [], ""),
  (15, .iload 4, 2, 0, [], ""),
  (17, .invokevirtual 73, 3, 1, [10, 2, 1, 3, 278, 280, 279], ""),
  (20, .invokestatic 77, 3, 1, [12, 1, 0, 0, 287, 288], ""),
  (23, .ifCond .eq 14, 3, 0, [19], ""),
  (26, .iload 4, 2, 0, [], ""),
  (28, .iconst 1, 1, 0, [], ""),
  (29, .iadd, 1, 0, [], ""),
  (30, .istore_n 3, 1, 0, [], ""),
  (31, .iinc 4 1, 3, 0, [], ""),
  (34, .goto (-29), 3, 0, [4], ""),
  (37, .aload_n 0, 1, 0, [], ""),
  (38, .iload_n 3, 1, 0, [], ""),
  (39, .putfield 28, 3, 0, [4, 4, 184], ""),
  (42, .iload_n 3, 1, 0, [], ""),
  (43, .iload_n 2, 1, 0, [], ""),
  (44, .isub, 1, 0, [], ""),
  (45, .bipush 18, 2, 0, [], ""),
  (47, .if_icmp .le 9, 3, 0, [29], ""),
  (50, .getstatic 48, 3, 0, [2, 103, 103, 294], ""),
  (53, .goto 6, 3, 0, [30], ""),
  (56, .getstatic 97, 3, 0, [2, 100, 100, 295], ""),
  (59, .areturn, 1, 6, [], "")])
set_option maxRecDepth 100000 in
/-- QueryReader$Tokens.isOfWord(I)Z -/
def qm_14 : ai_M := (⟨"QueryReader$Tokens", "isOfWord", "(I)Z"⟩, prog_7_method_11_code, 1, (Option.some Jvm.ClassFile.FieldType.boolean), [], [], [
  (0, .iload_n 0, 1, 0, [], ""),
  (1, .bipush 97, 2, 0, [], ""),
  (3, .if_icmp .lt 9, 3, 0, [6], ""),
  (6, .iload_n 0, 1, 0, [], ""),
  (7, .bipush 122, 2, 0, [], ""),
  (9, .if_icmp .le 33, 3, 0, [21], ""),
  (12, .iload_n 0, 1, 0, [], ""),
  (13, .bipush 65, 2, 0, [], ""),
  (15, .if_icmp .lt 9, 3, 0, [12], ""),
  (18, .iload_n 0, 1, 0, [], ""),
  (19, .bipush 90, 2, 0, [], ""),
  (21, .if_icmp .le 21, 3, 0, [21], ""),
  (24, .iload_n 0, 1, 0, [], ""),
  (25, .bipush 95, 2, 0, [], ""),
  (27, .if_icmp .eq 15, 3, 0, [21], ""),
  (30, .iload_n 0, 1, 0, [], ""),
  (31, .bipush 48, 2, 0, [], ""),
  (33, .if_icmp .lt 13, 3, 0, [23], ""),
  (36, .iload_n 0, 1, 0, [], ""),
  (37, .bipush 57, 2, 0, [], ""),
  (39, .if_icmp .gt 7, 3, 0, [23], ""),
  (42, .iconst 1, 1, 0, [], ""),
  (43, .goto 4, 3, 0, [24], ""),
  (46, .iconst 0, 1, 0, [], ""),
  (47, .ireturn, 1, 5, [], "")])
set_option maxRecDepth 100000 in
/-- QueryReader$Tokens.word(LQueryReader$Row;I)LQueryReader$Sort; -/
def qm_15 : ai_M := (⟨"QueryReader$Tokens", "word", "(LQueryReader$Row;I)LQueryReader$Sort;"⟩, prog_7_method_13_code, 5, (Option.some (Jvm.ClassFile.FieldType.object "QueryReader$Sort")), [], [], [
  (0, .iload_n 2, 1, 0, [], ""),
  (1, .istore_n 3, 1, 0, [], ""),
  (2, .iload_n 2, 1, 0, [], ""),
  (3, .istore 4, 2, 0, [], ""),
  (5, .iload 4, 2, 0, [], ""),
  (7, .aload_n 1, 1, 0, [], ""),
  (8, .invokevirtual 67, 3, 1, [9, 1, 1, 3, 274, 276, 275], ""),
  (11, .if_icmp .ge 26, 3, 0, [19], ""),
  (14, .aload_n 1, 1, 0, [], ""),
  (15, .iload 4, 2, 0, [], ""),
  (17, .invokevirtual 73, 3, 1, [10, 2, 1, 3, 278, 280, 279], ""),
  (20, .invokestatic 84, 3, 1, [14, 1, 0, 0, 296, 297], ""),
  (23, .ifCond .eq 14, 3, 0, [19], ""),
  (26, .iload 4, 2, 0, [], ""),
  (28, .iconst 1, 1, 0, [], ""),
  (29, .iadd, 1, 0, [], ""),
  (30, .istore_n 3, 1, 0, [], ""),
  (31, .iinc 4 1, 3, 0, [], ""),
  (34, .goto (-29), 3, 0, [4], ""),
  (37, .aload_n 0, 1, 0, [], ""),
  (38, .iload_n 3, 1, 0, [], ""),
  (39, .putfield 28, 3, 0, [4, 4, 184], ""),
  (42, .iload_n 3, 1, 0, [], ""),
  (43, .iload_n 2, 1, 0, [], ""),
  (44, .isub, 1, 0, [], ""),
  (45, .bipush 30, 2, 0, [], ""),
  (47, .if_icmp .le 9, 3, 0, [29], ""),
  (50, .getstatic 48, 3, 0, [2, 103, 103, 294], ""),
  (53, .goto 9, 3, 0, [33], ""),
  (56, .aload_n 1, 1, 0, [], ""),
  (57, .iload_n 2, 1, 0, [], ""),
  (58, .iload_n 3, 1, 0, [], ""),
  (59, .invokestatic 100, 3, 1, [16, 3, 0, 0, 303, 304], ""),
  (62, .areturn, 1, 6, [], "")])
set_option maxRecDepth 100000 in
/-- QueryReader$Tokens.keywordOrName(LQueryReader$Row;II)LQueryReader$Sort; -/
def qm_16 : ai_M := (⟨"QueryReader$Tokens", "keywordOrName", "(LQueryReader$Row;II)LQueryReader$Sort;"⟩, prog_7_method_14_code, 8, (Option.some (Jvm.ClassFile.FieldType.object "QueryReader$Sort")), [], [], [
  (0, .iconst 0, 1, 0, [], ""),
  (1, .istore_n 3, 1, 0, [], ""),
  (2, .bipush 82, 2, 0, [], ""),
  (4, .istore 4, 2, 0, [], ""),
  (6, .iconst 0, 1, 0, [], ""),
  (7, .istore 5, 2, 0, [], ""),
  (9, .iload 5, 2, 0, [], ""),
  (11, .bipush 82, 2, 0, [], ""),
  (13, .if_icmp .ge 78, 3, 0, [48], ""),
  (16, .iload_n 3, 1, 0, [], ""),
  (17, .iload 4, 2, 0, [], ""),
  (19, .if_icmp .ge 72, 3, 0, [48], ""),
  (22, .iload 4, 2, 0, [], ""),
  (24, .getstatic 104, 3, 0, [2, 3000, 104, 306], ""),
  (27, .arraylength, 1, 0, [], ""),
  (28, .if_icmp .gt 63, 3, 0, [48], ""),
  (31, .iload_n 3, 1, 0, [], ""),
  (32, .iload 4, 2, 0, [], ""),
  (34, .iadd, 1, 0, [], ""),
  (35, .iconst 1, 1, 0, [], ""),
  (36, .iushr, 1, 0, [], ""),
  (37, .istore 6, 2, 0, [], ""),
  (39, .aload_n 0, 1, 0, [], ""),
  (40, .iload_n 1, 1, 0, [], ""),
  (41, .iload_n 2, 1, 0, [], ""),
  (42, .getstatic 104, 3, 0, [2, 3000, 104, 306], ""),
  (45, .iload 6, 2, 0, [], ""),
  (47, .aaload, 1, 0, [], ""),
  (48, .getfield 107, 3, 0, [6, 1, 1372], ""),
  (51, .invokestatic 111, 3, 1, [17, 4, 0, 0, 307, 308], ""),
  (54, .istore 7, 2, 0, [], ""),
  (56, .iload 7, 2, 0, [], ""),
  (58, .ifCond .ne 10, 3, 0, [37], ""),
  (61, .getstatic 104, 3, 0, [2, 3000, 104, 306], ""),
  (64, .iload 6, 2, 0, [], ""),
  (66, .aaload, 1, 0, [], ""),
  (67, .areturn, 1, 6, [], ""),
  (68, .iload 7, 2, 0, [], ""),
  (70, .ifCond .ge 10, 3, 0, [42], ""),
  (73, .iload 6, 2, 0, [], ""),
  (75, .istore 4, 2, 0, [], ""),
  (77, .goto 8, 3, 0, [46], ""),
  (80, .iload 6, 2, 0, [], ""),
  (82, .iconst 1, 1, 0, [], ""),
  (83, .iadd, 1, 0, [], ""),
  (84, .istore_n 3, 1, 0, [], ""),
  (85, .iinc 5 1, 3, 0, [], ""),
  (88, .goto (-79), 3, 0, [6], ""),
  (91, .getstatic 115, 3, 0, [2, 99, 99, 353], ""),
  (94, .areturn, 1, 6, [], "")])
set_option maxRecDepth 100000 in
/-- QueryReader$Tokens.order(LQueryReader$Row;IILjava/lang/String;)I -/
def qm_17 : ai_M := (⟨"QueryReader$Tokens", "order", "(LQueryReader$Row;IILjava/lang/String;)I"⟩, prog_7_method_15_code, 7, (Option.some Jvm.ClassFile.FieldType.int), [], [], [
  (0, .iconst 0, 1, 0, [], ""),
  (1, .istore 4, 2, 0, [], ""),
  (3, .iload 4, 2, 0, [], ""),
  (5, .aload_n 3, 1, 0, [], ""),
  (6, .invokevirtual 118, 3, 1, [18, 1, 1, 7, 310, 312, 311], ""),
  (9, .if_icmp .ge 77, 3, 0, [44], ""),
  (12, .iload_n 1, 1, 0, [], ""),
  (13, .iload 4, 2, 0, [], ""),
  (15, .iadd, 1, 0, [], ""),
  (16, .iload_n 2, 1, 0, [], ""),
  (17, .if_icmp .ge 69, 3, 0, [44], ""),
  (20, .aload_n 0, 1, 0, [], ""),
  (21, .iload_n 1, 1, 0, [], ""),
  (22, .iload 4, 2, 0, [], ""),
  (24, .iadd, 1, 0, [], ""),
  (25, .invokevirtual 73, 3, 1, [10, 2, 1, 3, 278, 280, 279], ""),
  (28, .istore 5, 2, 0, [], ""),
  (30, .iload 5, 2, 0, [], ""),
  (32, .bipush 97, 2, 0, [], ""),
  (34, .if_icmp .lt 21, 3, 0, [29], ""),
  (37, .iload 5, 2, 0, [], ""),
  (39, .bipush 122, 2, 0, [], ""),
  (41, .if_icmp .gt 14, 3, 0, [29], ""),
  (44, .iload 5, 2, 0, [], ""),
  (46, .bipush 97, 2, 0, [], ""),
  (48, .isub, 1, 0, [], ""),
  (49, .bipush 65, 2, 0, [], ""),
  (51, .iadd, 1, 0, [], ""),
  (52, .goto 5, 3, 0, [30], ""),
  (55, .iload 5, 2, 0, [], ""),
  (57, .istore 6, 2, 0, [], ""),
  (59, .iload 6, 2, 0, [], ""),
  (61, .aload_n 3, 1, 0, [], ""),
  (62, .iload 4, 2, 0, [], ""),
  (64, .invokevirtual 123, 3, 1, [20, 2, 1, 7, 319, 321, 320], ""),
  (67, .if_icmp .eq 13, 3, 0, [42], ""),
  (70, .iload 6, 2, 0, [], ""),
  (72, .aload_n 3, 1, 0, [], ""),
  (73, .iload 4, 2, 0, [], ""),
  (75, .invokevirtual 123, 3, 1, [20, 2, 1, 7, 319, 321, 320], ""),
  (78, .isub, 1, 0, [], ""),
  (79, .ireturn, 1, 5, [], ""),
  (80, .iinc 4 1, 3, 0, [], ""),
  (83, .goto (-80), 3, 0, [2], ""),
  (86, .iload_n 2, 1, 0, [], ""),
  (87, .iload_n 1, 1, 0, [], ""),
  (88, .isub, 1, 0, [], ""),
  (89, .aload_n 3, 1, 0, [], ""),
  (90, .invokevirtual 118, 3, 1, [18, 1, 1, 7, 310, 312, 311], ""),
  (93, .isub, 1, 0, [], ""),
  (94, .ireturn, 1, 5, [], "")])
set_option maxRecDepth 100000 in
/-- java/lang/String.length()I -/
def qm_18 : ai_M := (⟨"java/lang/String", "length", "()I"⟩, prog_18_method_54_code, 1, (Option.some Jvm.ClassFile.FieldType.int), [], [], [
  (0, .aload_n 0, 1, 0, [], ""),
  (1, .getfield 9, 3, 0, [7, 0, 1373], ""),
  (4, .arraylength, 1, 0, [], ""),
  (5, .aload_n 0, 1, 0, [], ""),
  (6, .invokevirtual 335, 3, 1, [19, 1, 1, 7, 314, 316, 315], ""),
  (9, .ishr, 1, 0, [], ""),
  (10, .ireturn, 1, 5, [], "")])
set_option maxRecDepth 100000 in
/-- java/lang/String.coder()B -/
def qm_19 : ai_M := (⟨"java/lang/String", "coder", "()B"⟩, prog_18_method_152_code, 1, (Option.some Jvm.ClassFile.FieldType.byte), [], [], [
  (0, .getstatic 38, 3, 0, [1, 1, 106, 318], ""),
  (3, .ifCond .eq 10, 3, 0, [5], ""),
  (6, .aload_n 0, 1, 0, [], ""),
  (7, .getfield 15, 3, 0, [7, 1, 1374], ""),
  (10, .goto 4, 3, 0, [6], ""),
  (13, .iconst 1, 1, 0, [], ""),
  (14, .ireturn, 1, 5, [], "")])
set_option maxRecDepth 100000 in
/-- java/lang/String.charAt(I)C -/
def qm_20 : ai_M := (⟨"java/lang/String", "charAt", "(I)C"⟩, prog_18_method_56_code, 2, (Option.some Jvm.ClassFile.FieldType.char), [], [], [
  (0, .aload_n 0, 1, 0, [], ""),
  (1, .invokevirtual 492, 3, 1, [21, 1, 1, 7, 323, 325, 324], ""),
  (4, .ifCond .eq 12, 3, 0, [8], ""),
  (7, .aload_n 0, 1, 0, [], ""),
  (8, .getfield 9, 3, 0, [7, 0, 1373], ""),
  (11, .iload_n 1, 1, 0, [], ""),
  (12, .invokestatic 495, 3, 1, [22, 2, 0, 0, 327, 328], ""),
  (15, .ireturn, 1, 5, [], ""),
  (16, .aload_n 0, 1, 0, [], ""),
  (17, .getfield 9, 3, 0, [7, 0, 1373], ""),
  (20, .iload_n 1, 1, 0, [], ""),
  (21, .invokestatic 498, 3, 9, [], ""),
  (24, .ireturn, 1, 5, [], "")])
set_option maxRecDepth 100000 in
/-- java/lang/String.isLatin1()Z -/
def qm_21 : ai_M := (⟨"java/lang/String", "isLatin1", "()Z"⟩, prog_18_method_154_code, 1, (Option.some Jvm.ClassFile.FieldType.boolean), [], [], [
  (0, .getstatic 38, 3, 0, [1, 1, 106, 318], ""),
  (3, .ifCond .eq 14, 3, 0, [7], ""),
  (6, .aload_n 0, 1, 0, [], ""),
  (7, .getfield 15, 3, 0, [7, 1, 1374], ""),
  (10, .ifCond .ne 7, 3, 0, [7], ""),
  (13, .iconst 1, 1, 0, [], ""),
  (14, .goto 4, 3, 0, [8], ""),
  (17, .iconst 0, 1, 0, [], ""),
  (18, .ireturn, 1, 5, [], "")])
set_option maxRecDepth 100000 in
/-- java/lang/StringLatin1.charAt([BI)C -/
def qm_22 : ai_M := (⟨"java/lang/StringLatin1", "charAt", "([BI)C"⟩, prog_19_method_2_code, 2, (Option.some Jvm.ClassFile.FieldType.char), [], [], [
  (0, .iload_n 1, 1, 0, [], ""),
  (1, .aload_n 0, 1, 0, [], ""),
  (2, .arraylength, 1, 0, [], ""),
  (3, .invokestatic 9, 3, 1, [23, 2, 0, 0, 330, 331], ""),
  (6, .aload_n 0, 1, 0, [], ""),
  (7, .iload_n 1, 1, 0, [], ""),
  (8, .baload, 1, 0, [], ""),
  (9, .sipush 255, 3, 0, [], ""),
  (12, .iand, 1, 0, [], ""),
  (13, .i2c, 1, 0, [], ""),
  (14, .ireturn, 1, 5, [], "")])
set_option maxRecDepth 100000 in
/-- java/lang/String.checkIndex(II)V -/
def qm_23 : ai_M := (⟨"java/lang/String", "checkIndex", "(II)V"⟩, prog_18_method_155_code, 2, (Option.none : Option Jvm.ClassFile.FieldType), [], [], [
  (0, .iload_n 0, 1, 0, [], ""),
  (1, .iload_n 1, 1, 0, [], ""),
  (2, .getstatic 1053, 3, 0, [3, 0, 107, 333], ""),
  (5, .invokestatic 1059, 3, 1, [24, 3, 0, 0, 334, 335], ""),
  (8, .pop, 1, 0, [], ""),
  (9, .return_, 1, 7, [], "")])
set_option maxRecDepth 100000 in
/-- jdk/internal/util/Preconditions.checkIndex(IILjava/util/function/BiFunction;)I -/
def qm_24 : ai_M := (⟨"jdk/internal/util/Preconditions", "checkIndex", "(IILjava/util/function/BiFunction;)I"⟩, prog_24_method_11_code, 3, (Option.some Jvm.ClassFile.FieldType.int), [], [], [
  (0, .iload_n 0, 1, 0, [], ""),
  (1, .ifCond .lt 8, 3, 0, [5], ""),
  (4, .iload_n 0, 1, 0, [], ""),
  (5, .iload_n 1, 1, 0, [], ""),
  (6, .if_icmp .lt 10, 3, 0, [10], ""),
  (9, .aload_n 2, 1, 0, [], ""),
  (10, .iload_n 0, 1, 0, [], ""),
  (11, .iload_n 1, 1, 0, [], ""),
  (12, .invokestatic 95, 3, 9, [], ""),
  (15, .athrow, 1, 9, [], ""),
  (16, .iload_n 0, 1, 0, [], ""),
  (17, .ireturn, 1, 5, [], "")])
set_option maxRecDepth 100000 in
/-- QueryReader$Tokens.string(LQueryReader$Row;I)LQueryReader$Sort; -/
def qm_25 : ai_M := (⟨"QueryReader$Tokens", "string", "(LQueryReader$Row;I)LQueryReader$Sort;"⟩, prog_7_method_16_code, 6, (Option.some (Jvm.ClassFile.FieldType.object "QueryReader$Sort")), [], [], [
  (0, .iconst 0, 1, 0, [], ""),
  (1, .istore_n 3, 1, 0, [], ""),
  (2, .iload_n 2, 1, 0, [], ""),
  (3, .iconst 1, 1, 0, [], ""),
  (4, .iadd, 1, 0, [], ""),
  (5, .istore 4, 2, 0, [], ""),
  (7, .iload 4, 2, 0, [], ""),
  (9, .aload_n 1, 1, 0, [], ""),
  (10, .invokevirtual 67, 3, 1, [9, 1, 1, 3, 274, 276, 275], ""),
  (13, .if_icmp .ge 89, 3, 0, [49], ""),
  (16, .aload_n 1, 1, 0, [], ""),
  (17, .iload 4, 2, 0, [], ""),
  (19, .invokevirtual 73, 3, 1, [10, 2, 1, 3, 278, 280, 279], ""),
  (22, .istore 5, 2, 0, [], ""),
  (24, .iload 5, 2, 0, [], ""),
  (26, .bipush 39, 2, 0, [], ""),
  (28, .if_icmp .ne 47, 3, 0, [38], ""),
  (31, .aload_n 1, 1, 0, [], ""),
  (32, .iload 4, 2, 0, [], ""),
  (34, .iconst 1, 1, 0, [], ""),
  (35, .iadd, 1, 0, [], ""),
  (36, .invokevirtual 73, 3, 1, [10, 2, 1, 3, 278, 280, 279], ""),
  (39, .bipush 39, 2, 0, [], ""),
  (41, .if_icmp .eq 28, 3, 0, [36], ""),
  (44, .aload_n 0, 1, 0, [], ""),
  (45, .iload 4, 2, 0, [], ""),
  (47, .iconst 1, 1, 0, [], ""),
  (48, .iadd, 1, 0, [], ""),
  (49, .putfield 28, 3, 0, [4, 4, 184], ""),
  (52, .iload_n 3, 1, 0, [], ""),
  (53, .sipush 200, 3, 0, [], ""),
  (56, .if_icmp .le 9, 3, 0, [34], ""),
  (59, .getstatic 48, 3, 0, [2, 103, 103, 294], ""),
  (62, .goto 6, 3, 0, [35], ""),
  (65, .getstatic 127, 3, 0, [2, 101, 101, 358], ""),
  (68, .areturn, 1, 6, [], ""),
  (69, .iinc 4 1, 3, 0, [], ""),
  (72, .goto 21, 3, 0, [46], ""),
  (75, .iload 5, 2, 0, [], ""),
  (77, .bipush 32, 2, 0, [], ""),
  (79, .if_icmp .lt 10, 3, 0, [44], ""),
  (82, .iload 5, 2, 0, [], ""),
  (84, .bipush 126, 2, 0, [], ""),
  (86, .if_icmp .le 7, 3, 0, [46], ""),
  (89, .getstatic 48, 3, 0, [2, 103, 103, 294], ""),
  (92, .areturn, 1, 6, [], ""),
  (93, .iinc 3 1, 3, 0, [], ""),
  (96, .iinc 4 1, 3, 0, [], ""),
  (99, .goto (-92), 3, 0, [6], ""),
  (102, .getstatic 48, 3, 0, [2, 103, 103, 294], ""),
  (105, .areturn, 1, 6, [], "")])
set_option maxRecDepth 100000 in
/-- QueryReader$Tokens.sign(II)LQueryReader$Sort; -/
def qm_26 : ai_M := (⟨"QueryReader$Tokens", "sign", "(II)LQueryReader$Sort;"⟩, prog_7_method_17_code, 4, (Option.some (Jvm.ClassFile.FieldType.object "QueryReader$Sort")), [], [], [
  (0, .iload_n 1, 1, 0, [], ""),
  (1, .iload_n 2, 1, 0, [], ""),
  (2, .invokestatic 130, 3, 1, [27, 2, 0, 0, 363, 364], ""),
  (5, .astore_n 3, 1, 0, [], ""),
  (6, .aload_n 0, 1, 0, [], ""),
  (7, .dup, 1, 0, [], ""),
  (8, .getfield 28, 3, 0, [4, 4, 184], ""),
  (11, .aload_n 3, 1, 0, [], ""),
  (12, .getstatic 48, 3, 0, [2, 103, 103, 294], ""),
  (15, .if_acmp .ne 7, 3, 0, [12], ""),
  (18, .iconst 1, 1, 0, [], ""),
  (19, .goto 4, 3, 0, [13], ""),
  (22, .iconst 2, 1, 0, [], ""),
  (23, .iadd, 1, 0, [], ""),
  (24, .putfield 28, 3, 0, [4, 4, 184], ""),
  (27, .aload_n 3, 1, 0, [], ""),
  (28, .getstatic 48, 3, 0, [2, 103, 103, 294], ""),
  (31, .if_acmp .ne 10, 3, 0, [21], ""),
  (34, .iload_n 1, 1, 0, [], ""),
  (35, .invokestatic 133, 3, 1, [28, 1, 0, 0, 370, 371], ""),
  (38, .goto 4, 3, 0, [22], ""),
  (41, .aload_n 3, 1, 0, [], ""),
  (42, .areturn, 1, 6, [], "")])
set_option maxRecDepth 100000 in
/-- QueryReader$Tokens.twofoldSign(II)LQueryReader$Sort; -/
def qm_27 : ai_M := (⟨"QueryReader$Tokens", "twofoldSign", "(II)LQueryReader$Sort;"⟩, prog_7_method_18_code, 2, (Option.some (Jvm.ClassFile.FieldType.object "QueryReader$Sort")), [], [], [
  (0, .iload_n 0, 1, 0, [], ""),
  (1, .bipush 124, 2, 0, [], ""),
  (3, .if_icmp .ne 13, 3, 0, [8], ""),
  (6, .iload_n 1, 1, 0, [], ""),
  (7, .bipush 124, 2, 0, [], ""),
  (9, .if_icmp .ne 7, 3, 0, [8], ""),
  (12, .getstatic 137, 3, 0, [2, 92, 92, 366], ""),
  (15, .areturn, 1, 6, [], ""),
  (16, .iload_n 0, 1, 0, [], ""),
  (17, .bipush 60, 2, 0, [], ""),
  (19, .if_icmp .ne 13, 3, 0, [16], ""),
  (22, .iload_n 1, 1, 0, [], ""),
  (23, .bipush 62, 2, 0, [], ""),
  (25, .if_icmp .ne 7, 3, 0, [16], ""),
  (28, .getstatic 140, 3, 0, [2, 94, 94, 367], ""),
  (31, .areturn, 1, 6, [], ""),
  (32, .iload_n 0, 1, 0, [], ""),
  (33, .bipush 60, 2, 0, [], ""),
  (35, .if_icmp .ne 13, 3, 0, [24], ""),
  (38, .iload_n 1, 1, 0, [], ""),
  (39, .bipush 61, 2, 0, [], ""),
  (41, .if_icmp .ne 7, 3, 0, [24], ""),
  (44, .getstatic 143, 3, 0, [2, 96, 96, 368], ""),
  (47, .areturn, 1, 6, [], ""),
  (48, .iload_n 0, 1, 0, [], ""),
  (49, .bipush 62, 2, 0, [], ""),
  (51, .if_icmp .ne 15, 3, 0, [32], ""),
  (54, .iload_n 1, 1, 0, [], ""),
  (55, .bipush 61, 2, 0, [], ""),
  (57, .if_icmp .ne 9, 3, 0, [32], ""),
  (60, .getstatic 146, 3, 0, [2, 98, 98, 369], ""),
  (63, .goto 6, 3, 0, [33], ""),
  (66, .getstatic 48, 3, 0, [2, 103, 103, 294], ""),
  (69, .areturn, 1, 6, [], "")])
set_option maxRecDepth 100000 in
/-- QueryReader$Tokens.singleSign(I)LQueryReader$Sort; -/
def qm_28 : ai_M := (⟨"QueryReader$Tokens", "singleSign", "(I)LQueryReader$Sort;"⟩, prog_7_method_19_code, 1, (Option.some (Jvm.ClassFile.FieldType.object "QueryReader$Sort")), [], [], [
  (0, .iload_n 0, 1, 0, [], ""),
  (1, .tableswitch 171 37 62 #[155, 171, 171, 119, 123, 147, 139, 127, 143, 131, 151, 171, 171, 171, 171, 171, 171, 171, 171, 171, 171, 171, 135, 163, 159, 167], 119, 0, [28, 20, 28, 28, 2, 4, 16, 12, 6, 14, 8, 18, 28, 28, 28, 28, 28, 28, 28, 28, 28, 28, 28, 10, 24, 22, 26], ""),
  (120, .getstatic 149, 3, 0, [2, 82, 82, 373], ""),
  (123, .areturn, 1, 6, [], ""),
  (124, .getstatic 152, 3, 0, [2, 83, 83, 374], ""),
  (127, .areturn, 1, 6, [], ""),
  (128, .getstatic 155, 3, 0, [2, 84, 84, 375], ""),
  (131, .areturn, 1, 6, [], ""),
  (132, .getstatic 158, 3, 0, [2, 85, 85, 376], ""),
  (135, .areturn, 1, 6, [], ""),
  (136, .getstatic 161, 3, 0, [2, 86, 86, 377], ""),
  (139, .areturn, 1, 6, [], ""),
  (140, .getstatic 164, 3, 0, [2, 87, 87, 378], ""),
  (143, .areturn, 1, 6, [], ""),
  (144, .getstatic 167, 3, 0, [2, 88, 88, 379], ""),
  (147, .areturn, 1, 6, [], ""),
  (148, .getstatic 170, 3, 0, [2, 89, 89, 380], ""),
  (151, .areturn, 1, 6, [], ""),
  (152, .getstatic 173, 3, 0, [2, 90, 90, 381], ""),
  (155, .areturn, 1, 6, [], ""),
  (156, .getstatic 176, 3, 0, [2, 91, 91, 382], ""),
  (159, .areturn, 1, 6, [], ""),
  (160, .getstatic 179, 3, 0, [2, 93, 93, 383], ""),
  (163, .areturn, 1, 6, [], ""),
  (164, .getstatic 182, 3, 0, [2, 95, 95, 384], ""),
  (167, .areturn, 1, 6, [], ""),
  (168, .getstatic 185, 3, 0, [2, 97, 97, 385], ""),
  (171, .areturn, 1, 6, [], ""),
  (172, .getstatic 48, 3, 0, [2, 103, 103, 294], ""),
  (175, .areturn, 1, 6, [], "")])
set_option maxRecDepth 100000 in
/-- QueryReader$Tokens.keep(LQueryReader$Sort;I)V -/
def qm_29 : ai_M := (⟨"QueryReader$Tokens", "keep", "(LQueryReader$Sort;I)V"⟩, prog_7_method_6_code, 3, (Option.none : Option Jvm.ClassFile.FieldType), [], [], [
  (0, .aload_n 0, 1, 0, [], ""),
  (1, .getfield 24, 3, 0, [4, 3, 183], ""),
  (4, .aload_n 0, 1, 0, [], ""),
  (5, .getfield 13, 3, 0, [4, 0, 180], ""),
  (8, .arraylength, 1, 0, [], ""),
  (9, .if_icmp .lt 17, 3, 0, [13], ""),
  (12, .aload_n 0, 1, 0, [], ""),
  (13, .getfield 13, 3, 0, [4, 0, 180], ""),
  (16, .arraylength, 1, 0, [], ""),
  (17, .ldc 51, 2, 0, [1, 131072, 390], ""),
  (19, .if_icmp .ge 7, 3, 0, [13], ""),
  (22, .aload_n 0, 1, 0, [], ""),
  (23, .invokevirtual 52, 3, 1, [30, 1, 1, 4, 391, 6, 393], ""),
  (26, .aload_n 0, 1, 0, [], ""),
  (27, .getfield 24, 3, 0, [4, 3, 183], ""),
  (30, .ifCond .lt 82, 3, 0, [59], ""),
  (33, .aload_n 0, 1, 0, [], ""),
  (34, .getfield 24, 3, 0, [4, 3, 183], ""),
  (37, .aload_n 0, 1, 0, [], ""),
  (38, .getfield 13, 3, 0, [4, 0, 180], ""),
  (41, .arraylength, 1, 0, [], ""),
  (42, .if_icmp .ge 70, 3, 0, [59], ""),
  (45, .aload_n 0, 1, 0, [], ""),
  (46, .getfield 24, 3, 0, [4, 3, 183], ""),
  (49, .aload_n 0, 1, 0, [], ""),
  (50, .getfield 17, 3, 0, [4, 1, 181], ""),
  (53, .arraylength, 1, 0, [], ""),
  (54, .if_icmp .ge 58, 3, 0, [59], ""),
  (57, .aload_n 0, 1, 0, [], ""),
  (58, .getfield 24, 3, 0, [4, 3, 183], ""),
  (61, .aload_n 0, 1, 0, [], ""),
  (62, .getfield 21, 3, 0, [4, 2, 182], ""),
  (65, .arraylength, 1, 0, [], ""),
  (66, .if_icmp .ge 46, 3, 0, [59], ""),
  (69, .aload_n 0, 1, 0, [], ""),
  (70, .getfield 13, 3, 0, [4, 0, 180], ""),
  (73, .aload_n 0, 1, 0, [], ""),
  (74, .getfield 24, 3, 0, [4, 3, 183], ""),
  (77, .aload_n 1, 1, 0, [], ""),
  (78, .aastore, 1, 0, [], ""),
  (79, .aload_n 0, 1, 0, [], ""),
  (80, .getfield 17, 3, 0, [4, 1, 181], ""),
  (83, .aload_n 0, 1, 0, [], ""),
  (84, .getfield 24, 3, 0, [4, 3, 183], ""),
  (87, .iload_n 2, 1, 0, [], ""),
  (88, .iastore, 1, 0, [], ""),
  (89, .aload_n 0, 1, 0, [], ""),
  (90, .getfield 21, 3, 0, [4, 2, 182], ""),
  (93, .aload_n 0, 1, 0, [], ""),
  (94, .getfield 24, 3, 0, [4, 3, 183], ""),
  (97, .aload_n 0, 1, 0, [], ""),
  (98, .getfield 28, 3, 0, [4, 4, 184], ""),
  (101, .iastore, 1, 0, [], ""),
  (102, .aload_n 0, 1, 0, [], ""),
  (103, .dup, 1, 0, [], ""),
  (104, .getfield 24, 3, 0, [4, 3, 183], ""),
  (107, .iconst 1, 1, 0, [], ""),
  (108, .iadd, 1, 0, [], ""),
  (109, .putfield 24, 3, 0, [4, 3, 183], ""),
  (112, .return_, 1, 7, [], "")])
set_option maxRecDepth 100000 in
/-- QueryReader$Tokens.widen()V -/
def qm_30 : ai_M := (⟨"QueryReader$Tokens", "widen", "()V"⟩, prog_7_method_7_code, 2, (Option.none : Option Jvm.ClassFile.FieldType), [], [], [
  (0, .aload_n 0, 1, 0, [], ""),
  (1, .getfield 13, 3, 0, [4, 0, 180], ""),
  (4, .arraylength, 1, 0, [], ""),
  (5, .iconst 2, 1, 0, [], ""),
  (6, .imul, 1, 0, [], ""),
  (7, .anewarray 11, 3, 0, [179], "QueryReader$Sort"),
  (10, .astore_n 1, 1, 0, [], ""),
  (11, .aload_n 0, 1, 0, [], ""),
  (12, .getfield 13, 3, 0, [4, 0, 180], ""),
  (15, .iconst 0, 1, 0, [], ""),
  (16, .aload_n 1, 1, 0, [], ""),
  (17, .iconst 0, 1, 0, [], ""),
  (18, .aload_n 0, 1, 0, [], ""),
  (19, .getfield 13, 3, 0, [4, 0, 180], ""),
  (22, .arraylength, 1, 0, [], ""),
  (23, .invokestatic 55, 3, 4, [395, 397, 396, 137], ""),
  (26, .aload_n 0, 1, 0, [], ""),
  (27, .aload_n 1, 1, 0, [], ""),
  (28, .putfield 13, 3, 0, [4, 0, 180], ""),
  (31, .aload_n 0, 1, 0, [], ""),
  (32, .aload_n 0, 1, 0, [], ""),
  (33, .getfield 17, 3, 0, [4, 1, 181], ""),
  (36, .aload_n 0, 1, 0, [], ""),
  (37, .getfield 17, 3, 0, [4, 1, 181], ""),
  (40, .arraylength, 1, 0, [], ""),
  (41, .iconst 2, 1, 0, [], ""),
  (42, .imul, 1, 0, [], ""),
  (43, .invokestatic 61, 3, 1, [31, 2, 0, 0, 398, 399], ""),
  (46, .putfield 17, 3, 0, [4, 1, 181], ""),
  (49, .aload_n 0, 1, 0, [], ""),
  (50, .aload_n 0, 1, 0, [], ""),
  (51, .getfield 21, 3, 0, [4, 2, 182], ""),
  (54, .aload_n 0, 1, 0, [], ""),
  (55, .getfield 21, 3, 0, [4, 2, 182], ""),
  (58, .arraylength, 1, 0, [], ""),
  (59, .iconst 2, 1, 0, [], ""),
  (60, .imul, 1, 0, [], ""),
  (61, .invokestatic 61, 3, 1, [31, 2, 0, 0, 398, 399], ""),
  (64, .putfield 21, 3, 0, [4, 2, 182], ""),
  (67, .return_, 1, 7, [], "")])
set_option maxRecDepth 100000 in
/-- java/util/Arrays.copyOf([II)[I -/
def qm_31 : ai_M := (⟨"java/util/Arrays", "copyOf", "([II)[I"⟩, prog_23_method_123_code, 3, (Option.some (Jvm.ClassFile.FieldType.array Jvm.ClassFile.FieldType.int)), [], [], [
  (0, .iload_n 1, 1, 0, [], ""),
  (1, .aload_n 0, 1, 0, [], ""),
  (2, .arraylength, 1, 0, [], ""),
  (3, .if_icmp .ne 11, 3, 0, [8], ""),
  (6, .aload_n 0, 1, 0, [], ""),
  (7, .invokevirtual 316, 3, 9, [], ""),
  (10, .checkcast 317, 3, 0, [407], "[I"),
  (13, .areturn, 1, 6, [], ""),
  (14, .iload_n 1, 1, 0, [], ""),
  (15, .newarray .int, 2, 0, [196], ""),
  (17, .astore_n 2, 1, 0, [], ""),
  (18, .aload_n 0, 1, 0, [], ""),
  (19, .iconst 0, 1, 0, [], ""),
  (20, .aload_n 2, 1, 0, [], ""),
  (21, .iconst 0, 1, 0, [], ""),
  (22, .aload_n 0, 1, 0, [], ""),
  (23, .arraylength, 1, 0, [], ""),
  (24, .iload_n 1, 1, 0, [], ""),
  (25, .invokestatic 304, 3, 1, [32, 2, 0, 0, 408, 409], ""),
  (28, .invokestatic 150, 3, 4, [411, 397, 396, 137], ""),
  (31, .aload_n 2, 1, 0, [], ""),
  (32, .areturn, 1, 6, [], "")])
set_option maxRecDepth 100000 in
/-- java/lang/Math.min(II)I -/
def qm_32 : ai_M := (⟨"java/lang/Math", "min", "(II)I"⟩, prog_16_method_69_code, 2, (Option.some Jvm.ClassFile.FieldType.int), [], [], [
  (0, .iload_n 0, 1, 0, [], ""),
  (1, .iload_n 1, 1, 0, [], ""),
  (2, .if_icmp .gt 7, 3, 0, [5], ""),
  (5, .iload_n 0, 1, 0, [], ""),
  (6, .goto 4, 3, 0, [6], ""),
  (9, .iload_n 1, 1, 0, [], ""),
  (10, .ireturn, 1, 5, [], "")])
set_option maxRecDepth 100000 in
/-- QueryReader$Tokens.sort(I)LQueryReader$Sort; -/
def qm_33 : ai_M := (⟨"QueryReader$Tokens", "sort", "(I)LQueryReader$Sort;"⟩, prog_7_method_2_code, 3, (Option.some (Jvm.ClassFile.FieldType.object "QueryReader$Sort")), [], [], [
  (0, .iload_n 1, 1, 0, [], ""),
  (1, .ifCond .lt 29, 3, 0, [16], ""),
  (4, .iload_n 1, 1, 0, [], ""),
  (5, .aload_n 0, 1, 0, [], ""),
  (6, .getfield 24, 3, 0, [4, 3, 183], ""),
  (9, .if_icmp .ge 21, 3, 0, [16], ""),
  (12, .iload_n 1, 1, 0, [], ""),
  (13, .aload_n 0, 1, 0, [], ""),
  (14, .getfield 13, 3, 0, [4, 0, 180], ""),
  (17, .arraylength, 1, 0, [], ""),
  (18, .if_icmp .ge 12, 3, 0, [16], ""),
  (21, .aload_n 0, 1, 0, [], ""),
  (22, .getfield 13, 3, 0, [4, 0, 180], ""),
  (25, .iload_n 1, 1, 0, [], ""),
  (26, .aaload, 1, 0, [], ""),
  (27, .goto 6, 3, 0, [17], ""),
  (30, .getstatic 31, 3, 0, [2, 102, 102, 286], ""),
  (33, .astore_n 2, 1, 0, [], ""),
  (34, .aload_n 2, 1, 0, [], ""),
  (35, .ifnonnull 9, 3, 0, [22], ""),
  (38, .getstatic 31, 3, 0, [2, 102, 102, 286], ""),
  (41, .goto 4, 3, 0, [23], ""),
  (44, .aload_n 2, 1, 0, [], ""),
  (45, .areturn, 1, 6, [], "")])
set_option maxRecDepth 100000 in
/-- QueryReader$Row.cut(I)V -/
def qm_34 : ai_M := (⟨"QueryReader$Row", "cut", "(I)V"⟩, prog_5_method_6_code, 2, (Option.none : Option Jvm.ClassFile.FieldType), [], [], [
  (0, .iload_n 1, 1, 0, [], ""),
  (1, .ifCond .lt 16, 3, 0, [9], ""),
  (4, .iload_n 1, 1, 0, [], ""),
  (5, .aload_n 0, 1, 0, [], ""),
  (6, .getfield 15, 3, 0, [3, 1, 166], ""),
  (9, .if_icmp .ge 8, 3, 0, [9], ""),
  (12, .aload_n 0, 1, 0, [], ""),
  (13, .iload_n 1, 1, 0, [], ""),
  (14, .putfield 15, 3, 0, [3, 1, 166], ""),
  (17, .return_, 1, 7, [], "")])
set_option maxRecDepth 100000 in
/-- QueryReader$Grammar.statement()I -/
def qm_35 : ai_M := (⟨"QueryReader$Grammar", "statement", "()I"⟩, prog_3_method_5_code, 1, (Option.some Jvm.ClassFile.FieldType.int), [], [], [
  (0, .getstatic 73, 3, 0, [2, 3001, 105, 424], ""),
  (3, .aload_n 0, 1, 0, [], ""),
  (4, .getfield 38, 3, 0, [1, 4, 204], ""),
  (7, .invokevirtual 78, 3, 1, [36, 1, 1, 6, 425, 428, 429, 426, 427], ""),
  (10, .iaload, 1, 0, [], ""),
  (11, .tableswitch 165 1 12 #[61, 90, 95, 100, 105, 110, 117, 122, 127, 132, 146, 151], 61, 0, [61, 6, 19, 22, 25, 28, 31, 35, 38, 41, 44, 51, 54], ""),
  (72, .aload_n 0, 1, 0, [], ""),
  (73, .getstatic 82, 3, 0, [2, 17, 17, 431], ""),
  (76, .invokevirtual 85, 3, 1, [37, 2, 1, 1, 432, 7, 434], ""),
  (79, .aload_n 0, 1, 0, [], ""),
  (80, .getfield 38, 3, 0, [1, 4, 204], ""),
  (83, .getstatic 89, 3, 0, [2, 71, 71, 534], ""),
  (86, .if_acmp .ne 10, 3, 0, [16], ""),
  (89, .aload_n 0, 1, 0, [], ""),
  (90, .invokevirtual 92, 3, 1, [44, 1, 1, 1, 535, 11, 537], ""),
  (93, .goto 7, 3, 0, [18], ""),
  (96, .aload_n 0, 1, 0, [], ""),
  (97, .invokevirtual 95, 3, 1, [81, 1, 1, 1, 740, 42, 742], ""),
  (100, .ireturn, 1, 5, [], ""),
  (101, .aload_n 0, 1, 0, [], ""),
  (102, .invokevirtual 98, 3, 1, [82, 1, 1, 1, 745, 43, 747], ""),
  (105, .ireturn, 1, 5, [], ""),
  (106, .aload_n 0, 1, 0, [], ""),
  (107, .invokevirtual 101, 3, 1, [83, 1, 1, 1, 750, 44, 752], ""),
  (110, .ireturn, 1, 5, [], ""),
  (111, .aload_n 0, 1, 0, [], ""),
  (112, .invokevirtual 104, 3, 1, [84, 1, 1, 1, 757, 45, 759], ""),
  (115, .ireturn, 1, 5, [], ""),
  (116, .aload_n 0, 1, 0, [], ""),
  (117, .invokevirtual 107, 3, 1, [85, 1, 1, 1, 763, 46, 765], ""),
  (120, .ireturn, 1, 5, [], ""),
  (121, .aload_n 0, 1, 0, [], ""),
  (122, .invokevirtual 110, 3, 1, [62, 1, 1, 1, 625, 25, 627], ""),
  (125, .bipush 8, 2, 0, [], ""),
  (127, .ireturn, 1, 5, [], ""),
  (128, .aload_n 0, 1, 0, [], ""),
  (129, .invokevirtual 113, 3, 1, [86, 1, 1, 1, 767, 47, 769], ""),
  (132, .ireturn, 1, 5, [], ""),
  (133, .aload_n 0, 1, 0, [], ""),
  (134, .invokevirtual 116, 3, 1, [87, 1, 1, 1, 776, 48, 778], ""),
  (137, .ireturn, 1, 5, [], ""),
  (138, .aload_n 0, 1, 0, [], ""),
  (139, .invokevirtual 119, 3, 1, [88, 1, 1, 1, 782, 49, 784], ""),
  (142, .ireturn, 1, 5, [], ""),
  (143, .aload_n 0, 1, 0, [], ""),
  (144, .getstatic 122, 3, 0, [2, 64, 64, 788], ""),
  (147, .invokevirtual 85, 3, 1, [37, 2, 1, 1, 432, 7, 434], ""),
  (150, .aload_n 0, 1, 0, [], ""),
  (151, .invokevirtual 125, 3, 1, [45, 1, 1, 1, 539, 12, 541], ""),
  (154, .bipush 12, 2, 0, [], ""),
  (156, .ireturn, 1, 5, [], ""),
  (157, .aload_n 0, 1, 0, [], ""),
  (158, .invokevirtual 128, 3, 1, [89, 1, 1, 1, 789, 50, 791], ""),
  (161, .ireturn, 1, 5, [], ""),
  (162, .aload_n 0, 1, 0, [], ""),
  (163, .getstatic 131, 3, 0, [2, 57, 57, 797], ""),
  (166, .invokevirtual 85, 3, 1, [37, 2, 1, 1, 432, 7, 434], ""),
  (169, .aload_n 0, 1, 0, [], ""),
  (170, .invokevirtual 134, 3, 1, [54, 1, 1, 1, 587, 17, 589], ""),
  (173, .bipush 15, 2, 0, [], ""),
  (175, .ireturn, 1, 5, [], ""),
  (176, .new 137, 3, 2, [141, 139, 2, 11, 436, 138], "java/lang/IllegalArgumentException"),
  (179, .dup, 1, 0, [], ""),
  (180, .ldc 139, 2, 0, [2, 1011, 11], ""),
  (182, .invokespecial 141, 3, 9, [], ""),
  (185, .athrow, 1, 9, [], "")])
set_option maxRecDepth 100000 in
/-- java/lang/Enum.ordinal()I -/
def qm_36 : ai_M := (⟨"java/lang/Enum", "ordinal", "()I"⟩, prog_11_method_2_code, 1, (Option.some Jvm.ClassFile.FieldType.int), [], [], [
  (0, .aload_n 0, 1, 0, [], ""),
  (1, .getfield 7, 3, 0, [6, 0, 1375], ""),
  (4, .ireturn, 1, 5, [], "")])
set_option maxRecDepth 100000 in
/-- QueryReader$Grammar.copy(LQueryReader$Sort;)V -/
def qm_37 : ai_M := (⟨"QueryReader$Grammar", "copy", "(LQueryReader$Sort;)V"⟩, prog_3_method_11_code, 2, (Option.none : Option Jvm.ClassFile.FieldType), [], [], [
  (0, .aload_n 0, 1, 0, [], ""),
  (1, .getfield 38, 3, 0, [1, 4, 204], ""),
  (4, .aload_n 1, 1, 0, [], ""),
  (5, .if_acmp .eq 13, 3, 0, [9], ""),
  (8, .new 137, 3, 2, [141, 180, 2, 0, 436, 138], "java/lang/IllegalArgumentException"),
  (11, .dup, 1, 0, [], ""),
  (12, .ldc 180, 2, 0, [2, 1000, 0], ""),
  (14, .invokespecial 141, 3, 9, [], ""),
  (17, .athrow, 1, 9, [], ""),
  (18, .aload_n 0, 1, 0, [], ""),
  (19, .getfield 18, 3, 0, [1, 1, 200], ""),
  (22, .aload_n 1, 1, 0, [], ""),
  (23, .getfield 185, 3, 0, [6, 1, 1376], ""),
  (26, .invokevirtual 188, 3, 1, [38, 2, 1, 3, 500, 502, 501], ""),
  (29, .aload_n 0, 1, 0, [], ""),
  (30, .invokevirtual 182, 3, 1, [41, 1, 1, 1, 519, 9, 521], ""),
  (33, .return_, 1, 7, [], "")])
set_option maxRecDepth 100000 in
/-- QueryReader$Row.word(Ljava/lang/String;)V -/
def qm_38 : ai_M := (⟨"QueryReader$Row", "word", "(Ljava/lang/String;)V"⟩, prog_5_method_8_code, 3, (Option.none : Option Jvm.ClassFile.FieldType), [], [], [
  (0, .iconst 0, 1, 0, [], ""),
  (1, .istore_n 2, 1, 0, [], ""),
  (2, .iload_n 2, 1, 0, [], ""),
  (3, .aload_n 1, 1, 0, [], ""),
  (4, .invokevirtual 36, 3, 1, [18, 1, 1, 7, 504, 312, 311], ""),
  (7, .if_icmp .ge 18, 3, 0, [13], ""),
  (10, .aload_n 0, 1, 0, [], ""),
  (11, .aload_n 1, 1, 0, [], ""),
  (12, .iload_n 2, 1, 0, [], ""),
  (13, .invokevirtual 42, 3, 1, [20, 2, 1, 7, 505, 321, 320], ""),
  (16, .invokevirtual 26, 3, 1, [39, 2, 1, 3, 506, 508, 507], ""),
  (19, .iinc 2 1, 3, 0, [], ""),
  (22, .goto (-20), 3, 0, [2], ""),
  (25, .aload_n 0, 1, 0, [], ""),
  (26, .bipush 32, 2, 0, [], ""),
  (28, .invokevirtual 26, 3, 1, [39, 2, 1, 3, 506, 508, 507], ""),
  (31, .return_, 1, 7, [], "")])
set_option maxRecDepth 100000 in
/-- QueryReader$Row.add(I)V -/
def qm_39 : ai_M := (⟨"QueryReader$Row", "add", "(I)V"⟩, prog_5_method_4_code, 2, (Option.none : Option Jvm.ClassFile.FieldType), [], [], [
  (0, .aload_n 0, 1, 0, [], ""),
  (1, .getfield 15, 3, 0, [3, 1, 166], ""),
  (4, .aload_n 0, 1, 0, [], ""),
  (5, .getfield 11, 3, 0, [3, 0, 165], ""),
  (8, .arraylength, 1, 0, [], ""),
  (9, .if_icmp .lt 31, 3, 0, [21], ""),
  (12, .aload_n 0, 1, 0, [], ""),
  (13, .getfield 11, 3, 0, [3, 0, 165], ""),
  (16, .arraylength, 1, 0, [], ""),
  (17, .ldc 19, 2, 0, [1, 524288, 510], ""),
  (19, .if_icmp .ge 21, 3, 0, [21], ""),
  (22, .aload_n 0, 1, 0, [], ""),
  (23, .aload_n 0, 1, 0, [], ""),
  (24, .getfield 11, 3, 0, [3, 0, 165], ""),
  (27, .aload_n 0, 1, 0, [], ""),
  (28, .getfield 11, 3, 0, [3, 0, 165], ""),
  (31, .arraylength, 1, 0, [], ""),
  (32, .iconst 2, 1, 0, [], ""),
  (33, .imul, 1, 0, [], ""),
  (34, .invokestatic 20, 3, 1, [40, 2, 0, 0, 511, 512], ""),
  (37, .putfield 11, 3, 0, [3, 0, 165], ""),
  (40, .aload_n 0, 1, 0, [], ""),
  (41, .getfield 15, 3, 0, [3, 1, 166], ""),
  (44, .ifCond .lt 36, 3, 0, [43], ""),
  (47, .aload_n 0, 1, 0, [], ""),
  (48, .getfield 15, 3, 0, [3, 1, 166], ""),
  (51, .aload_n 0, 1, 0, [], ""),
  (52, .getfield 11, 3, 0, [3, 0, 165], ""),
  (55, .arraylength, 1, 0, [], ""),
  (56, .if_icmp .ge 24, 3, 0, [43], ""),
  (59, .aload_n 0, 1, 0, [], ""),
  (60, .getfield 11, 3, 0, [3, 0, 165], ""),
  (63, .aload_n 0, 1, 0, [], ""),
  (64, .getfield 15, 3, 0, [3, 1, 166], ""),
  (67, .iload_n 1, 1, 0, [], ""),
  (68, .i2b, 1, 0, [], ""),
  (69, .bastore, 1, 0, [], ""),
  (70, .aload_n 0, 1, 0, [], ""),
  (71, .dup, 1, 0, [], ""),
  (72, .getfield 15, 3, 0, [3, 1, 166], ""),
  (75, .iconst 1, 1, 0, [], ""),
  (76, .iadd, 1, 0, [], ""),
  (77, .putfield 15, 3, 0, [3, 1, 166], ""),
  (80, .return_, 1, 7, [], "")])
end
section
/-! PRINTED BY wip/whole/print.py: methods. -/
set_option maxRecDepth 100000 in
/-- java/util/Arrays.copyOf([BI)[B -/
def qm_40 : ai_M := (⟨"java/util/Arrays", "copyOf", "([BI)[B"⟩, prog_23_method_121_code, 3, (Option.some (Jvm.ClassFile.FieldType.array Jvm.ClassFile.FieldType.byte)), [], [], [
  (0, .iload_n 1, 1, 0, [], ""),
  (1, .aload_n 0, 1, 0, [], ""),
  (2, .arraylength, 1, 0, [], ""),
  (3, .if_icmp .ne 11, 3, 0, [8], ""),
  (6, .aload_n 0, 1, 0, [], ""),
  (7, .invokevirtual 310, 3, 9, [], ""),
  (10, .checkcast 311, 3, 0, [518], "[B"),
  (13, .areturn, 1, 6, [], ""),
  (14, .iload_n 1, 1, 0, [], ""),
  (15, .newarray .byte, 2, 0, [172], ""),
  (17, .astore_n 2, 1, 0, [], ""),
  (18, .aload_n 0, 1, 0, [], ""),
  (19, .iconst 0, 1, 0, [], ""),
  (20, .aload_n 2, 1, 0, [], ""),
  (21, .iconst 0, 1, 0, [], ""),
  (22, .aload_n 0, 1, 0, [], ""),
  (23, .arraylength, 1, 0, [], ""),
  (24, .iload_n 1, 1, 0, [], ""),
  (25, .invokestatic 304, 3, 1, [32, 2, 0, 0, 408, 409], ""),
  (28, .invokestatic 150, 3, 4, [411, 397, 396, 137], ""),
  (31, .aload_n 2, 1, 0, [], ""),
  (32, .areturn, 1, 6, [], "")])
set_option maxRecDepth 100000 in
/-- QueryReader$Grammar.step()V -/
def qm_41 : ai_M := (⟨"QueryReader$Grammar", "step", "()V"⟩, prog_3_method_7_code, 1, (Option.none : Option Jvm.ClassFile.FieldType), [], [], [
  (0, .aload_n 0, 1, 0, [], ""),
  (1, .getfield 38, 3, 0, [1, 4, 204], ""),
  (4, .getstatic 157, 3, 0, [2, 82, 82, 523], ""),
  (7, .if_acmp .eq 13, 3, 0, [8], ""),
  (10, .aload_n 0, 1, 0, [], ""),
  (11, .getfield 38, 3, 0, [1, 4, 204], ""),
  (14, .getstatic 160, 3, 0, [2, 10, 10, 524], ""),
  (17, .if_acmp .ne 10, 3, 0, [11], ""),
  (20, .aload_n 0, 1, 0, [], ""),
  (21, .invokevirtual 163, 3, 1, [42, 1, 1, 1, 525, 10, 527], ""),
  (24, .goto 33, 3, 0, [25], ""),
  (27, .aload_n 0, 1, 0, [], ""),
  (28, .getfield 38, 3, 0, [1, 4, 204], ""),
  (31, .getstatic 166, 3, 0, [2, 83, 83, 532], ""),
  (34, .if_acmp .eq 13, 3, 0, [19], ""),
  (37, .aload_n 0, 1, 0, [], ""),
  (38, .getfield 38, 3, 0, [1, 4, 204], ""),
  (41, .getstatic 169, 3, 0, [2, 25, 25, 533], ""),
  (44, .if_acmp .ne 13, 3, 0, [25], ""),
  (47, .aload_n 0, 1, 0, [], ""),
  (48, .dup, 1, 0, [], ""),
  (49, .getfield 41, 3, 0, [1, 5, 205], ""),
  (52, .iconst 1, 1, 0, [], ""),
  (53, .isub, 1, 0, [], ""),
  (54, .putfield 41, 3, 0, [1, 5, 205], ""),
  (57, .aload_n 0, 1, 0, [], ""),
  (58, .dup, 1, 0, [], ""),
  (59, .getfield 28, 3, 0, [1, 3, 203], ""),
  (62, .iconst 1, 1, 0, [], ""),
  (63, .iadd, 1, 0, [], ""),
  (64, .putfield 28, 3, 0, [1, 3, 203], ""),
  (67, .aload_n 0, 1, 0, [], ""),
  (68, .aload_n 0, 1, 0, [], ""),
  (69, .getfield 24, 3, 0, [1, 2, 202], ""),
  (72, .aload_n 0, 1, 0, [], ""),
  (73, .getfield 28, 3, 0, [1, 3, 203], ""),
  (76, .invokevirtual 61, 3, 1, [33, 2, 1, 4, 412, 414, 413], ""),
  (79, .putfield 38, 3, 0, [1, 4, 204], ""),
  (82, .return_, 1, 7, [], "")])
set_option maxRecDepth 100000 in
/-- QueryReader$Grammar.rise()V -/
def qm_42 : ai_M := (⟨"QueryReader$Grammar", "rise", "()V"⟩, prog_3_method_8_code, 1, (Option.none : Option Jvm.ClassFile.FieldType), [], [], [
  (0, .aload_n 0, 1, 0, [], ""),
  (1, .getfield 41, 3, 0, [1, 5, 205], ""),
  (4, .bipush 40, 2, 0, [], ""),
  (6, .if_icmp .lt 13, 3, 0, [9], ""),
  (9, .new 137, 3, 2, [141, 172, 2, 1, 436, 138], "java/lang/IllegalArgumentException"),
  (12, .dup, 1, 0, [], ""),
  (13, .ldc 172, 2, 0, [2, 1001, 1], ""),
  (15, .invokespecial 141, 3, 9, [], ""),
  (18, .athrow, 1, 9, [], ""),
  (19, .aload_n 0, 1, 0, [], ""),
  (20, .dup, 1, 0, [], ""),
  (21, .getfield 41, 3, 0, [1, 5, 205], ""),
  (24, .iconst 1, 1, 0, [], ""),
  (25, .iadd, 1, 0, [], ""),
  (26, .putfield 41, 3, 0, [1, 5, 205], ""),
  (29, .aload_n 0, 1, 0, [], ""),
  (30, .aload_n 0, 1, 0, [], ""),
  (31, .getfield 44, 3, 0, [1, 6, 206], ""),
  (34, .aload_n 0, 1, 0, [], ""),
  (35, .getfield 41, 3, 0, [1, 5, 205], ""),
  (38, .invokestatic 174, 3, 1, [43, 2, 0, 0, 529, 530], ""),
  (41, .putfield 44, 3, 0, [1, 6, 206], ""),
  (44, .return_, 1, 7, [], "")])
set_option maxRecDepth 100000 in
/-- java/lang/Math.max(II)I -/
def qm_43 : ai_M := (⟨"java/lang/Math", "max", "(II)I"⟩, prog_16_method_65_code, 2, (Option.some Jvm.ClassFile.FieldType.int), [], [], [
  (0, .iload_n 0, 1, 0, [], ""),
  (1, .iload_n 1, 1, 0, [], ""),
  (2, .if_icmp .lt 7, 3, 0, [5], ""),
  (5, .iload_n 0, 1, 0, [], ""),
  (6, .goto 4, 3, 0, [6], ""),
  (9, .iload_n 1, 1, 0, [], ""),
  (10, .ireturn, 1, 5, [], "")])
set_option maxRecDepth 100000 in
/-- QueryReader$Grammar.table()I -/
def qm_44 : ai_M := (⟨"QueryReader$Grammar", "table", "()I"⟩, prog_3_method_17_code, 3, (Option.some Jvm.ClassFile.FieldType.int), [], [], [
  (0, .iconst 1, 1, 0, [], ""),
  (1, .istore_n 1, 1, 0, [], ""),
  (2, .aload_n 0, 1, 0, [], ""),
  (3, .getstatic 89, 3, 0, [2, 71, 71, 534], ""),
  (6, .invokevirtual 85, 3, 1, [37, 2, 1, 1, 432, 7, 434], ""),
  (9, .aload_n 0, 1, 0, [], ""),
  (10, .invokevirtual 125, 3, 1, [45, 1, 1, 1, 539, 12, 541], ""),
  (13, .aload_n 0, 1, 0, [], ""),
  (14, .getstatic 157, 3, 0, [2, 82, 82, 523], ""),
  (17, .invokevirtual 85, 3, 1, [37, 2, 1, 1, 432, 7, 434], ""),
  (20, .iconst 0, 1, 0, [], ""),
  (21, .istore_n 2, 1, 0, [], ""),
  (22, .iload_n 2, 1, 0, [], ""),
  (23, .ldc 213, 2, 0, [1, 1000000, 557], ""),
  (25, .if_icmp .ge 98, 3, 0, [56], ""),
  (28, .iload_n 1, 1, 0, [], ""),
  (29, .ifCond .eq 94, 3, 0, [56], ""),
  (32, .aload_n 0, 1, 0, [], ""),
  (33, .getfield 38, 3, 0, [1, 4, 204], ""),
  (36, .getstatic 191, 3, 0, [2, 99, 99, 543], ""),
  (39, .if_acmp .ne 10, 3, 0, [24], ""),
  (42, .aload_n 0, 1, 0, [], ""),
  (43, .invokevirtual 220, 3, 1, [49, 1, 1, 1, 558, 13, 560], ""),
  (46, .goto 63, 3, 0, [50], ""),
  (49, .aload_n 0, 1, 0, [], ""),
  (50, .getstatic 223, 3, 0, [2, 12, 12, 593], ""),
  (53, .invokevirtual 217, 3, 1, [50, 2, 1, 1, 563, 14, 565], ""),
  (56, .ifCond .eq 25, 3, 0, [38], ""),
  (59, .aload_n 0, 1, 0, [], ""),
  (60, .getstatic 157, 3, 0, [2, 82, 82, 523], ""),
  (63, .invokevirtual 85, 3, 1, [37, 2, 1, 1, 432, 7, 434], ""),
  (66, .aload_n 0, 1, 0, [], ""),
  (67, .invokevirtual 226, 3, 1, [55, 1, 1, 1, 594, 18, 596], ""),
  (70, .pop, 1, 0, [], ""),
  (71, .aload_n 0, 1, 0, [], ""),
  (72, .getstatic 166, 3, 0, [2, 83, 83, 532], ""),
  (75, .invokevirtual 85, 3, 1, [37, 2, 1, 1, 432, 7, 434], ""),
  (78, .goto 31, 3, 0, [50], ""),
  (81, .aload_n 0, 1, 0, [], ""),
  (82, .getstatic 229, 3, 0, [2, 76, 76, 735], ""),
  (85, .invokevirtual 217, 3, 1, [50, 2, 1, 1, 563, 14, 565], ""),
  (88, .ifCond .ne 17, 3, 0, [48], ""),
  (91, .aload_n 0, 1, 0, [], ""),
  (92, .getstatic 232, 3, 0, [2, 59, 59, 570], ""),
  (95, .invokevirtual 85, 3, 1, [37, 2, 1, 1, 432, 7, 434], ""),
  (98, .aload_n 0, 1, 0, [], ""),
  (99, .getstatic 235, 3, 0, [2, 39, 39, 571], ""),
  (102, .invokevirtual 85, 3, 1, [37, 2, 1, 1, 432, 7, 434], ""),
  (105, .aload_n 0, 1, 0, [], ""),
  (106, .invokevirtual 238, 3, 1, [80, 1, 1, 1, 736, 41, 738], ""),
  (109, .aload_n 0, 1, 0, [], ""),
  (110, .getstatic 214, 3, 0, [2, 84, 84, 637], ""),
  (113, .invokevirtual 217, 3, 1, [50, 2, 1, 1, 563, 14, 565], ""),
  (116, .istore_n 1, 1, 0, [], ""),
  (117, .iinc 2 1, 3, 0, [], ""),
  (120, .goto (-98), 3, 0, [12], ""),
  (123, .aload_n 0, 1, 0, [], ""),
  (124, .getstatic 166, 3, 0, [2, 83, 83, 532], ""),
  (127, .invokevirtual 85, 3, 1, [37, 2, 1, 1, 432, 7, 434], ""),
  (130, .iconst 1, 1, 0, [], ""),
  (131, .ireturn, 1, 5, [], "")])
set_option maxRecDepth 100000 in
/-- QueryReader$Grammar.name()V -/
def qm_45 : ai_M := (⟨"QueryReader$Grammar", "name", "()V"⟩, prog_3_method_13_code, 1, (Option.none : Option Jvm.ClassFile.FieldType), [], [], [
  (0, .aload_n 0, 1, 0, [], ""),
  (1, .getfield 38, 3, 0, [1, 4, 204], ""),
  (4, .getstatic 191, 3, 0, [2, 99, 99, 543], ""),
  (7, .if_acmp .eq 13, 3, 0, [9], ""),
  (10, .new 137, 3, 2, [141, 194, 2, 2, 436, 138], "java/lang/IllegalArgumentException"),
  (13, .dup, 1, 0, [], ""),
  (14, .ldc 194, 2, 0, [2, 1002, 2], ""),
  (16, .invokespecial 141, 3, 9, [], ""),
  (19, .athrow, 1, 9, [], ""),
  (20, .aload_n 0, 1, 0, [], ""),
  (21, .getfield 18, 3, 0, [1, 1, 200], ""),
  (24, .aload_n 0, 1, 0, [], ""),
  (25, .getfield 12, 3, 0, [1, 0, 198], ""),
  (28, .aload_n 0, 1, 0, [], ""),
  (29, .getfield 24, 3, 0, [1, 2, 202], ""),
  (32, .aload_n 0, 1, 0, [], ""),
  (33, .getfield 28, 3, 0, [1, 3, 203], ""),
  (36, .invokevirtual 69, 3, 1, [46, 2, 1, 4, 544, 546, 545], ""),
  (39, .aload_n 0, 1, 0, [], ""),
  (40, .getfield 24, 3, 0, [1, 2, 202], ""),
  (43, .aload_n 0, 1, 0, [], ""),
  (44, .getfield 28, 3, 0, [1, 3, 203], ""),
  (47, .invokevirtual 196, 3, 1, [47, 2, 1, 4, 548, 550, 549], ""),
  (50, .invokevirtual 199, 3, 1, [48, 4, 1, 3, 552, 554, 553], ""),
  (53, .aload_n 0, 1, 0, [], ""),
  (54, .invokevirtual 182, 3, 1, [41, 1, 1, 1, 519, 9, 521], ""),
  (57, .return_, 1, 7, [], "")])
set_option maxRecDepth 100000 in
/-- QueryReader$Tokens.from(I)I -/
def qm_46 : ai_M := (⟨"QueryReader$Tokens", "from", "(I)I"⟩, prog_7_method_3_code, 2, (Option.some Jvm.ClassFile.FieldType.int), [], [], [
  (0, .iload_n 1, 1, 0, [], ""),
  (1, .ifCond .lt 29, 3, 0, [16], ""),
  (4, .iload_n 1, 1, 0, [], ""),
  (5, .aload_n 0, 1, 0, [], ""),
  (6, .getfield 24, 3, 0, [4, 3, 183], ""),
  (9, .if_icmp .ge 21, 3, 0, [16], ""),
  (12, .iload_n 1, 1, 0, [], ""),
  (13, .aload_n 0, 1, 0, [], ""),
  (14, .getfield 17, 3, 0, [4, 1, 181], ""),
  (17, .arraylength, 1, 0, [], ""),
  (18, .if_icmp .ge 12, 3, 0, [16], ""),
  (21, .aload_n 0, 1, 0, [], ""),
  (22, .getfield 17, 3, 0, [4, 1, 181], ""),
  (25, .iload_n 1, 1, 0, [], ""),
  (26, .iaload, 1, 0, [], ""),
  (27, .goto 4, 3, 0, [17], ""),
  (30, .iconst 0, 1, 0, [], ""),
  (31, .ireturn, 1, 5, [], "")])
set_option maxRecDepth 100000 in
/-- QueryReader$Tokens.to(I)I -/
def qm_47 : ai_M := (⟨"QueryReader$Tokens", "to", "(I)I"⟩, prog_7_method_4_code, 2, (Option.some Jvm.ClassFile.FieldType.int), [], [], [
  (0, .iload_n 1, 1, 0, [], ""),
  (1, .ifCond .lt 29, 3, 0, [16], ""),
  (4, .iload_n 1, 1, 0, [], ""),
  (5, .aload_n 0, 1, 0, [], ""),
  (6, .getfield 24, 3, 0, [4, 3, 183], ""),
  (9, .if_icmp .ge 21, 3, 0, [16], ""),
  (12, .iload_n 1, 1, 0, [], ""),
  (13, .aload_n 0, 1, 0, [], ""),
  (14, .getfield 21, 3, 0, [4, 2, 182], ""),
  (17, .arraylength, 1, 0, [], ""),
  (18, .if_icmp .ge 12, 3, 0, [16], ""),
  (21, .aload_n 0, 1, 0, [], ""),
  (22, .getfield 21, 3, 0, [4, 2, 182], ""),
  (25, .iload_n 1, 1, 0, [], ""),
  (26, .iaload, 1, 0, [], ""),
  (27, .goto 4, 3, 0, [17], ""),
  (30, .iconst 0, 1, 0, [], ""),
  (31, .ireturn, 1, 5, [], "")])
set_option maxRecDepth 100000 in
/-- QueryReader$Row.inSmallLetters(LQueryReader$Row;II)V -/
def qm_48 : ai_M := (⟨"QueryReader$Row", "inSmallLetters", "(LQueryReader$Row;II)V"⟩, prog_5_method_10_code, 6, (Option.none : Option Jvm.ClassFile.FieldType), [], [], [
  (0, .iload_n 2, 1, 0, [], ""),
  (1, .istore 4, 2, 0, [], ""),
  (3, .iload 4, 2, 0, [], ""),
  (5, .iload_n 3, 1, 0, [], ""),
  (6, .if_icmp .ge 48, 3, 0, [26], ""),
  (9, .aload_n 1, 1, 0, [], ""),
  (10, .iload 4, 2, 0, [], ""),
  (12, .invokevirtual 46, 3, 1, [10, 2, 1, 3, 556, 280, 279], ""),
  (15, .istore 5, 2, 0, [], ""),
  (17, .aload_n 0, 1, 0, [], ""),
  (18, .iload 5, 2, 0, [], ""),
  (20, .bipush 65, 2, 0, [], ""),
  (22, .if_icmp .lt 21, 3, 0, [22], ""),
  (25, .iload 5, 2, 0, [], ""),
  (27, .bipush 90, 2, 0, [], ""),
  (29, .if_icmp .gt 14, 3, 0, [22], ""),
  (32, .iload 5, 2, 0, [], ""),
  (34, .bipush 65, 2, 0, [], ""),
  (36, .isub, 1, 0, [], ""),
  (37, .bipush 97, 2, 0, [], ""),
  (39, .iadd, 1, 0, [], ""),
  (40, .goto 5, 3, 0, [23], ""),
  (43, .iload 5, 2, 0, [], ""),
  (45, .invokevirtual 26, 3, 1, [39, 2, 1, 3, 506, 508, 507], ""),
  (48, .iinc 4 1, 3, 0, [], ""),
  (51, .goto (-48), 3, 0, [2], ""),
  (54, .aload_n 0, 1, 0, [], ""),
  (55, .bipush 32, 2, 0, [], ""),
  (57, .invokevirtual 26, 3, 1, [39, 2, 1, 3, 506, 508, 507], ""),
  (60, .return_, 1, 7, [], "")])
set_option maxRecDepth 100000 in
/-- QueryReader$Grammar.column()V -/
def qm_49 : ai_M := (⟨"QueryReader$Grammar", "column", "()V"⟩, prog_3_method_18_code, 3, (Option.none : Option Jvm.ClassFile.FieldType), [], [], [
  (0, .iconst 1, 1, 0, [], ""),
  (1, .istore_n 1, 1, 0, [], ""),
  (2, .aload_n 0, 1, 0, [], ""),
  (3, .invokevirtual 125, 3, 1, [45, 1, 1, 1, 539, 12, 541], ""),
  (6, .aload_n 0, 1, 0, [], ""),
  (7, .getstatic 241, 3, 0, [2, 35, 35, 562], ""),
  (10, .invokevirtual 217, 3, 1, [50, 2, 1, 1, 563, 14, 565], ""),
  (13, .ifCond .ne 10, 3, 0, [11], ""),
  (16, .aload_n 0, 1, 0, [], ""),
  (17, .getstatic 244, 3, 0, [2, 72, 72, 567], ""),
  (20, .invokevirtual 85, 3, 1, [37, 2, 1, 1, 432, 7, 434], ""),
  (23, .iconst 0, 1, 0, [], ""),
  (24, .istore_n 2, 1, 0, [], ""),
  (25, .iload_n 2, 1, 0, [], ""),
  (26, .ldc 213, 2, 0, [1, 1000000, 557], ""),
  (28, .if_icmp .ge 127, 3, 0, [68], ""),
  (31, .iload_n 1, 1, 0, [], ""),
  (32, .ifCond .eq 123, 3, 0, [68], ""),
  (35, .aload_n 0, 1, 0, [], ""),
  (36, .getstatic 247, 3, 0, [2, 49, 49, 568], ""),
  (39, .invokevirtual 217, 3, 1, [50, 2, 1, 1, 563, 14, 565], ""),
  (42, .ifCond .eq 13, 3, 0, [26], ""),
  (45, .aload_n 0, 1, 0, [], ""),
  (46, .getstatic 250, 3, 0, [2, 50, 50, 569], ""),
  (49, .invokevirtual 85, 3, 1, [37, 2, 1, 1, 432, 7, 434], ""),
  (52, .goto 97, 3, 0, [66], ""),
  (55, .aload_n 0, 1, 0, [], ""),
  (56, .getstatic 232, 3, 0, [2, 59, 59, 570], ""),
  (59, .invokevirtual 217, 3, 1, [50, 2, 1, 1, 563, 14, 565], ""),
  (62, .ifCond .eq 13, 3, 0, [34], ""),
  (65, .aload_n 0, 1, 0, [], ""),
  (66, .getstatic 235, 3, 0, [2, 39, 39, 571], ""),
  (69, .invokevirtual 85, 3, 1, [37, 2, 1, 1, 432, 7, 434], ""),
  (72, .goto 77, 3, 0, [66], ""),
  (75, .aload_n 0, 1, 0, [], ""),
  (76, .getstatic 253, 3, 0, [2, 19, 19, 572], ""),
  (79, .invokevirtual 217, 3, 1, [50, 2, 1, 1, 563, 14, 565], ""),
  (82, .ifCond .eq 10, 3, 0, [41], ""),
  (85, .aload_n 0, 1, 0, [], ""),
  (86, .invokevirtual 256, 3, 1, [51, 1, 1, 1, 573, 15, 575], ""),
  (89, .goto 60, 3, 0, [66], ""),
  (92, .aload_n 0, 1, 0, [], ""),
  (93, .getstatic 223, 3, 0, [2, 12, 12, 593], ""),
  (96, .invokevirtual 217, 3, 1, [50, 2, 1, 1, 563, 14, 565], ""),
  (99, .ifCond .eq 25, 3, 0, [55], ""),
  (102, .aload_n 0, 1, 0, [], ""),
  (103, .getstatic 157, 3, 0, [2, 82, 82, 523], ""),
  (106, .invokevirtual 85, 3, 1, [37, 2, 1, 1, 432, 7, 434], ""),
  (109, .aload_n 0, 1, 0, [], ""),
  (110, .invokevirtual 226, 3, 1, [55, 1, 1, 1, 594, 18, 596], ""),
  (113, .pop, 1, 0, [], ""),
  (114, .aload_n 0, 1, 0, [], ""),
  (115, .getstatic 166, 3, 0, [2, 83, 83, 532], ""),
  (118, .invokevirtual 85, 3, 1, [37, 2, 1, 1, 432, 7, 434], ""),
  (121, .goto 28, 3, 0, [66], ""),
  (124, .aload_n 0, 1, 0, [], ""),
  (125, .getstatic 259, 3, 0, [2, 61, 61, 726], ""),
  (128, .invokevirtual 217, 3, 1, [50, 2, 1, 1, 563, 14, 565], ""),
  (131, .ifCond .eq 10, 3, 0, [62], ""),
  (134, .aload_n 0, 1, 0, [], ""),
  (135, .invokevirtual 262, 3, 1, [79, 1, 1, 1, 727, 40, 729], ""),
  (138, .goto 11, 3, 0, [66], ""),
  (141, .aload_n 0, 1, 0, [], ""),
  (142, .getstatic 229, 3, 0, [2, 76, 76, 735], ""),
  (145, .invokevirtual 217, 3, 1, [50, 2, 1, 1, 563, 14, 565], ""),
  (148, .istore_n 1, 1, 0, [], ""),
  (149, .iinc 2 1, 3, 0, [], ""),
  (152, .goto (-127), 3, 0, [13], ""),
  (155, .return_, 1, 7, [], "")])
set_option maxRecDepth 100000 in
/-- QueryReader$Grammar.copyIf(LQueryReader$Sort;)Z -/
def qm_50 : ai_M := (⟨"QueryReader$Grammar", "copyIf", "(LQueryReader$Sort;)Z"⟩, prog_3_method_12_code, 3, (Option.some Jvm.ClassFile.FieldType.boolean), [], [], [
  (0, .aload_n 0, 1, 0, [], ""),
  (1, .getfield 38, 3, 0, [1, 4, 204], ""),
  (4, .aload_n 1, 1, 0, [], ""),
  (5, .if_acmp .ne 7, 3, 0, [6], ""),
  (8, .iconst 1, 1, 0, [], ""),
  (9, .goto 4, 3, 0, [7], ""),
  (12, .iconst 0, 1, 0, [], ""),
  (13, .istore_n 2, 1, 0, [], ""),
  (14, .iload_n 2, 1, 0, [], ""),
  (15, .ifCond .eq 18, 3, 0, [17], ""),
  (18, .aload_n 0, 1, 0, [], ""),
  (19, .getfield 18, 3, 0, [1, 1, 200], ""),
  (22, .aload_n 1, 1, 0, [], ""),
  (23, .getfield 185, 3, 0, [6, 1, 1376], ""),
  (26, .invokevirtual 188, 3, 1, [38, 2, 1, 3, 500, 502, 501], ""),
  (29, .aload_n 0, 1, 0, [], ""),
  (30, .invokevirtual 182, 3, 1, [41, 1, 1, 1, 519, 9, 521], ""),
  (33, .iload_n 2, 1, 0, [], ""),
  (34, .ireturn, 1, 5, [], "")])
set_option maxRecDepth 100000 in
/-- QueryReader$Grammar.presetValue()V -/
def qm_51 : ai_M := (⟨"QueryReader$Grammar", "presetValue", "()V"⟩, prog_3_method_19_code, 1, (Option.none : Option Jvm.ClassFile.FieldType), [], [], [
  (0, .aload_n 0, 1, 0, [], ""),
  (1, .getfield 38, 3, 0, [1, 4, 204], ""),
  (4, .getstatic 265, 3, 0, [2, 101, 101, 577], ""),
  (7, .if_acmp .ne 10, 3, 0, [7], ""),
  (10, .aload_n 0, 1, 0, [], ""),
  (11, .invokevirtual 268, 3, 1, [52, 1, 1, 1, 578, 16, 580], ""),
  (14, .goto 25, 3, 0, [17], ""),
  (17, .aload_n 0, 1, 0, [], ""),
  (18, .getstatic 250, 3, 0, [2, 50, 50, 569], ""),
  (21, .invokevirtual 217, 3, 1, [50, 2, 1, 1, 563, 14, 565], ""),
  (24, .ifCond .ne 15, 3, 0, [17], ""),
  (27, .aload_n 0, 1, 0, [], ""),
  (28, .getstatic 271, 3, 0, [2, 88, 88, 586], ""),
  (31, .invokevirtual 217, 3, 1, [50, 2, 1, 1, 563, 14, 565], ""),
  (34, .pop, 1, 0, [], ""),
  (35, .aload_n 0, 1, 0, [], ""),
  (36, .invokevirtual 134, 3, 1, [54, 1, 1, 1, 587, 17, 589], ""),
  (39, .return_, 1, 7, [], "")])
set_option maxRecDepth 100000 in
/-- QueryReader$Grammar.string()V -/
def qm_52 : ai_M := (⟨"QueryReader$Grammar", "string", "()V"⟩, prog_3_method_15_code, 1, (Option.none : Option Jvm.ClassFile.FieldType), [], [], [
  (0, .aload_n 0, 1, 0, [], ""),
  (1, .getfield 18, 3, 0, [1, 1, 200], ""),
  (4, .aload_n 0, 1, 0, [], ""),
  (5, .getfield 12, 3, 0, [1, 0, 198], ""),
  (8, .aload_n 0, 1, 0, [], ""),
  (9, .getfield 24, 3, 0, [1, 2, 202], ""),
  (12, .aload_n 0, 1, 0, [], ""),
  (13, .getfield 28, 3, 0, [1, 3, 203], ""),
  (16, .invokevirtual 69, 3, 1, [46, 2, 1, 4, 544, 546, 545], ""),
  (19, .aload_n 0, 1, 0, [], ""),
  (20, .getfield 24, 3, 0, [1, 2, 202], ""),
  (23, .aload_n 0, 1, 0, [], ""),
  (24, .getfield 28, 3, 0, [1, 3, 203], ""),
  (27, .invokevirtual 196, 3, 1, [47, 2, 1, 4, 548, 550, 549], ""),
  (30, .invokevirtual 210, 3, 1, [53, 4, 1, 3, 582, 584, 583], ""),
  (33, .aload_n 0, 1, 0, [], ""),
  (34, .invokevirtual 182, 3, 1, [41, 1, 1, 1, 519, 9, 521], ""),
  (37, .return_, 1, 7, [], "")])
set_option maxRecDepth 100000 in
/-- QueryReader$Row.copied(LQueryReader$Row;II)V -/
def qm_53 : ai_M := (⟨"QueryReader$Row", "copied", "(LQueryReader$Row;II)V"⟩, prog_5_method_9_code, 5, (Option.none : Option Jvm.ClassFile.FieldType), [], [], [
  (0, .iload_n 2, 1, 0, [], ""),
  (1, .istore 4, 2, 0, [], ""),
  (3, .iload 4, 2, 0, [], ""),
  (5, .iload_n 3, 1, 0, [], ""),
  (6, .if_icmp .ge 19, 3, 0, [12], ""),
  (9, .aload_n 0, 1, 0, [], ""),
  (10, .aload_n 1, 1, 0, [], ""),
  (11, .iload 4, 2, 0, [], ""),
  (13, .invokevirtual 46, 3, 1, [10, 2, 1, 3, 556, 280, 279], ""),
  (16, .invokevirtual 26, 3, 1, [39, 2, 1, 3, 506, 508, 507], ""),
  (19, .iinc 4 1, 3, 0, [], ""),
  (22, .goto (-19), 3, 0, [2], ""),
  (25, .aload_n 0, 1, 0, [], ""),
  (26, .bipush 32, 2, 0, [], ""),
  (28, .invokevirtual 26, 3, 1, [39, 2, 1, 3, 506, 508, 507], ""),
  (31, .return_, 1, 7, [], "")])
set_option maxRecDepth 100000 in
/-- QueryReader$Grammar.number()V -/
def qm_54 : ai_M := (⟨"QueryReader$Grammar", "number", "()V"⟩, prog_3_method_14_code, 4, (Option.none : Option Jvm.ClassFile.FieldType), [], [], [
  (0, .aload_n 0, 1, 0, [], ""),
  (1, .getfield 38, 3, 0, [1, 4, 204], ""),
  (4, .getstatic 203, 3, 0, [2, 100, 100, 591], ""),
  (7, .if_acmp .eq 13, 3, 0, [9], ""),
  (10, .new 137, 3, 2, [141, 206, 2, 3, 436, 138], "java/lang/IllegalArgumentException"),
  (13, .dup, 1, 0, [], ""),
  (14, .ldc 206, 2, 0, [2, 1003, 3], ""),
  (16, .invokespecial 141, 3, 9, [], ""),
  (19, .athrow, 1, 9, [], ""),
  (20, .aload_n 0, 1, 0, [], ""),
  (21, .getfield 24, 3, 0, [1, 2, 202], ""),
  (24, .aload_n 0, 1, 0, [], ""),
  (25, .getfield 28, 3, 0, [1, 3, 203], ""),
  (28, .invokevirtual 196, 3, 1, [47, 2, 1, 4, 548, 550, 549], ""),
  (31, .istore_n 1, 1, 0, [], ""),
  (32, .aload_n 0, 1, 0, [], ""),
  (33, .getfield 24, 3, 0, [1, 2, 202], ""),
  (36, .aload_n 0, 1, 0, [], ""),
  (37, .getfield 28, 3, 0, [1, 3, 203], ""),
  (40, .invokevirtual 69, 3, 1, [46, 2, 1, 4, 544, 546, 545], ""),
  (43, .istore_n 2, 1, 0, [], ""),
  (44, .iload_n 2, 1, 0, [], ""),
  (45, .istore_n 3, 1, 0, [], ""),
  (46, .iload_n 3, 1, 0, [], ""),
  (47, .iload_n 1, 1, 0, [], ""),
  (48, .iconst 1, 1, 0, [], ""),
  (49, .isub, 1, 0, [], ""),
  (50, .if_icmp .ge 26, 3, 0, [40], ""),
  (53, .aload_n 0, 1, 0, [], ""),
  (54, .getfield 12, 3, 0, [1, 0, 198], ""),
  (57, .iload_n 3, 1, 0, [], ""),
  (58, .invokevirtual 208, 3, 1, [10, 2, 1, 3, 592, 280, 279], ""),
  (61, .bipush 48, 2, 0, [], ""),
  (63, .if_icmp .ne 13, 3, 0, [40], ""),
  (66, .iload_n 3, 1, 0, [], ""),
  (67, .iconst 1, 1, 0, [], ""),
  (68, .iadd, 1, 0, [], ""),
  (69, .istore_n 2, 1, 0, [], ""),
  (70, .iinc 3 1, 3, 0, [], ""),
  (73, .goto (-27), 3, 0, [23], ""),
  (76, .aload_n 0, 1, 0, [], ""),
  (77, .getfield 18, 3, 0, [1, 1, 200], ""),
  (80, .aload_n 0, 1, 0, [], ""),
  (81, .getfield 12, 3, 0, [1, 0, 198], ""),
  (84, .iload_n 2, 1, 0, [], ""),
  (85, .iload_n 1, 1, 0, [], ""),
  (86, .invokevirtual 210, 3, 1, [53, 4, 1, 3, 582, 584, 583], ""),
  (89, .aload_n 0, 1, 0, [], ""),
  (90, .invokevirtual 182, 3, 1, [41, 1, 1, 1, 519, 9, 521], ""),
  (93, .return_, 1, 7, [], "")])
set_option maxRecDepth 100000 in
/-- QueryReader$Grammar.expression()I -/
def qm_55 : ai_M := (⟨"QueryReader$Grammar", "expression", "()I"⟩, prog_3_method_36_code, 7, (Option.some Jvm.ClassFile.FieldType.int), [], [], [
  (0, .aload_n 0, 1, 0, [], ""),
  (1, .getfield 54, 3, 0, [1, 9, 209], ""),
  (4, .istore_n 1, 1, 0, [], ""),
  (5, .iconst 0, 1, 0, [], ""),
  (6, .istore_n 2, 1, 0, [], ""),
  (7, .iconst 1, 1, 0, [], ""),
  (8, .istore_n 3, 1, 0, [], ""),
  (9, .iconst 0, 1, 0, [], ""),
  (10, .istore 4, 2, 0, [], ""),
  (12, .iload 4, 2, 0, [], ""),
  (14, .ldc 213, 2, 0, [1, 1000000, 557], ""),
  (16, .if_icmp .ge 92, 3, 0, [56], ""),
  (19, .iload_n 3, 1, 0, [], ""),
  (20, .ifCond .eq 88, 3, 0, [56], ""),
  (23, .aload_n 0, 1, 0, [], ""),
  (24, .getstatic 247, 3, 0, [2, 49, 49, 568], ""),
  (27, .iconst 3, 1, 0, [], ""),
  (28, .invokevirtual 432, 3, 1, [56, 3, 1, 1, 598, 19, 600], ""),
  (31, .aload_n 0, 1, 0, [], ""),
  (32, .getfield 18, 3, 0, [1, 1, 200], ""),
  (35, .invokevirtual 436, 3, 1, [9, 1, 1, 3, 602, 276, 275], ""),
  (38, .istore 5, 2, 0, [], ""),
  (40, .aload_n 0, 1, 0, [], ""),
  (41, .invokevirtual 439, 3, 1, [58, 1, 1, 1, 607, 21, 609], ""),
  (44, .istore_n 2, 1, 0, [], ""),
  (45, .aload_n 0, 1, 0, [], ""),
  (46, .getfield 38, 3, 0, [1, 4, 204], ""),
  (49, .getfield 442, 3, 0, [6, 2, 1377], ""),
  (52, .iconst 2, 1, 0, [], ""),
  (53, .if_icmp .gt 13, 3, 0, [34], ""),
  (56, .aload_n 0, 1, 0, [], ""),
  (57, .getfield 38, 3, 0, [1, 4, 204], ""),
  (60, .getfield 442, 3, 0, [6, 2, 1377], ""),
  (63, .goto 4, 3, 0, [35], ""),
  (66, .iconst 0, 1, 0, [], ""),
  (67, .istore 6, 2, 0, [], ""),
  (69, .aload_n 0, 1, 0, [], ""),
  (70, .iload_n 1, 1, 0, [], ""),
  (71, .iload 5, 2, 0, [], ""),
  (73, .iload_n 2, 1, 0, [], ""),
  (74, .iload 6, 2, 0, [], ""),
  (76, .invokevirtual 444, 3, 1, [74, 5, 1, 1, 699, 37, 701], ""),
  (79, .istore_n 2, 1, 0, [], ""),
  (80, .iload 6, 2, 0, [], ""),
  (82, .ifCond .eq 18, 3, 0, [52], ""),
  (85, .aload_n 0, 1, 0, [], ""),
  (86, .aload_n 0, 1, 0, [], ""),
  (87, .getfield 38, 3, 0, [1, 4, 204], ""),
  (90, .invokevirtual 217, 3, 1, [50, 2, 1, 1, 563, 14, 565], ""),
  (93, .ifCond .eq 7, 3, 0, [52], ""),
  (96, .iconst 1, 1, 0, [], ""),
  (97, .goto 4, 3, 0, [53], ""),
  (100, .iconst 0, 1, 0, [], ""),
  (101, .istore_n 3, 1, 0, [], ""),
  (102, .iinc 4 1, 3, 0, [], ""),
  (105, .goto (-93), 3, 0, [9], ""),
  (108, .iload_n 2, 1, 0, [], ""),
  (109, .ireturn, 1, 5, [], "")])
set_option maxRecDepth 100000 in
/-- QueryReader$Grammar.prefixes(LQueryReader$Sort;I)V -/
def qm_56 : ai_M := (⟨"QueryReader$Grammar", "prefixes", "(LQueryReader$Sort;I)V"⟩, prog_3_method_40_code, 4, (Option.none : Option Jvm.ClassFile.FieldType), [], [], [
  (0, .iconst 0, 1, 0, [], ""),
  (1, .istore_n 3, 1, 0, [], ""),
  (2, .iload_n 3, 1, 0, [], ""),
  (3, .bipush 40, 2, 0, [], ""),
  (5, .if_icmp .gt 58, 3, 0, [30], ""),
  (8, .aload_n 0, 1, 0, [], ""),
  (9, .getfield 38, 3, 0, [1, 4, 204], ""),
  (12, .aload_n 1, 1, 0, [], ""),
  (13, .if_acmp .ne 50, 3, 0, [30], ""),
  (16, .aload_n 0, 1, 0, [], ""),
  (17, .invokevirtual 163, 3, 1, [42, 1, 1, 1, 525, 10, 527], ""),
  (20, .aload_n 0, 1, 0, [], ""),
  (21, .aload_n 0, 1, 0, [], ""),
  (22, .getfield 18, 3, 0, [1, 1, 200], ""),
  (25, .invokevirtual 436, 3, 1, [9, 1, 1, 3, 602, 276, 275], ""),
  (28, .iload_n 2, 1, 0, [], ""),
  (29, .invokevirtual 474, 3, 1, [57, 3, 1, 1, 603, 20, 605], ""),
  (32, .aload_n 0, 1, 0, [], ""),
  (33, .getfield 18, 3, 0, [1, 1, 200], ""),
  (36, .ldc_w 478, 3, 0, [2, 1005, 5], ""),
  (39, .invokevirtual 188, 3, 1, [38, 2, 1, 3, 500, 502, 501], ""),
  (42, .aload_n 0, 1, 0, [], ""),
  (43, .getfield 18, 3, 0, [1, 1, 200], ""),
  (46, .aload_n 1, 1, 0, [], ""),
  (47, .getfield 185, 3, 0, [6, 1, 1376], ""),
  (50, .invokevirtual 188, 3, 1, [38, 2, 1, 3, 500, 502, 501], ""),
  (53, .aload_n 0, 1, 0, [], ""),
  (54, .invokevirtual 182, 3, 1, [41, 1, 1, 1, 519, 9, 521], ""),
  (57, .iinc 3 1, 3, 0, [], ""),
  (60, .goto (-58), 3, 0, [2], ""),
  (63, .return_, 1, 7, [], "")])
set_option maxRecDepth 100000 in
/-- QueryReader$Grammar.push(II)V -/
def qm_57 : ai_M := (⟨"QueryReader$Grammar", "push", "(II)V"⟩, prog_3_method_43_code, 3, (Option.none : Option Jvm.ClassFile.FieldType), [], [], [
  (0, .aload_n 0, 1, 0, [], ""),
  (1, .getfield 54, 3, 0, [1, 9, 209], ""),
  (4, .ifCond .lt 27, 3, 0, [15], ""),
  (7, .aload_n 0, 1, 0, [], ""),
  (8, .getfield 54, 3, 0, [1, 9, 209], ""),
  (11, .aload_n 0, 1, 0, [], ""),
  (12, .getfield 47, 3, 0, [1, 7, 207], ""),
  (15, .arraylength, 1, 0, [], ""),
  (16, .if_icmp .ge 15, 3, 0, [15], ""),
  (19, .aload_n 0, 1, 0, [], ""),
  (20, .getfield 54, 3, 0, [1, 9, 209], ""),
  (23, .aload_n 0, 1, 0, [], ""),
  (24, .getfield 51, 3, 0, [1, 8, 208], ""),
  (27, .arraylength, 1, 0, [], ""),
  (28, .if_icmp .lt 14, 3, 0, [20], ""),
  (31, .new 137, 3, 2, [141, 487, 3, 4, 436, 138], "java/lang/IllegalArgumentException"),
  (34, .dup, 1, 0, [], ""),
  (35, .ldc_w 487, 3, 0, [2, 1004, 4], ""),
  (38, .invokespecial 141, 3, 9, [], ""),
  (41, .athrow, 1, 9, [], ""),
  (42, .aload_n 0, 1, 0, [], ""),
  (43, .getfield 51, 3, 0, [1, 8, 208], ""),
  (46, .aload_n 0, 1, 0, [], ""),
  (47, .getfield 54, 3, 0, [1, 9, 209], ""),
  (50, .iload_n 1, 1, 0, [], ""),
  (51, .iastore, 1, 0, [], ""),
  (52, .aload_n 0, 1, 0, [], ""),
  (53, .getfield 47, 3, 0, [1, 7, 207], ""),
  (56, .aload_n 0, 1, 0, [], ""),
  (57, .getfield 54, 3, 0, [1, 9, 209], ""),
  (60, .iload_n 2, 1, 0, [], ""),
  (61, .iastore, 1, 0, [], ""),
  (62, .aload_n 0, 1, 0, [], ""),
  (63, .dup, 1, 0, [], ""),
  (64, .getfield 54, 3, 0, [1, 9, 209], ""),
  (67, .iconst 1, 1, 0, [], ""),
  (68, .iadd, 1, 0, [], ""),
  (69, .putfield 54, 3, 0, [1, 9, 209], ""),
  (72, .return_, 1, 7, [], "")])
set_option maxRecDepth 100000 in
/-- QueryReader$Grammar.comparison()I -/
def qm_58 : ai_M := (⟨"QueryReader$Grammar", "comparison", "()I"⟩, prog_3_method_37_code, 5, (Option.some Jvm.ClassFile.FieldType.int), [], [], [
  (0, .aload_n 0, 1, 0, [], ""),
  (1, .getfield 18, 3, 0, [1, 1, 200], ""),
  (4, .invokevirtual 436, 3, 1, [9, 1, 1, 3, 602, 276, 275], ""),
  (7, .istore_n 1, 1, 0, [], ""),
  (8, .aload_n 0, 1, 0, [], ""),
  (9, .invokevirtual 448, 3, 1, [59, 1, 1, 1, 611, 22, 613], ""),
  (12, .istore_n 2, 1, 0, [], ""),
  (13, .aload_n 0, 1, 0, [], ""),
  (14, .getfield 38, 3, 0, [1, 4, 204], ""),
  (17, .getfield 442, 3, 0, [6, 2, 1377], ""),
  (20, .iconst 4, 1, 0, [], ""),
  (21, .if_icmp .ne 7, 3, 0, [14], ""),
  (24, .iconst 1, 1, 0, [], ""),
  (25, .goto 4, 3, 0, [15], ""),
  (28, .iconst 0, 1, 0, [], ""),
  (29, .istore_n 3, 1, 0, [], ""),
  (30, .aload_n 0, 1, 0, [], ""),
  (31, .getfield 38, 3, 0, [1, 4, 204], ""),
  (34, .getstatic 247, 3, 0, [2, 49, 49, 568], ""),
  (37, .if_acmp .eq 33, 3, 0, [32], ""),
  (40, .aload_n 0, 1, 0, [], ""),
  (41, .getfield 38, 3, 0, [1, 4, 204], ""),
  (44, .getstatic 358, 3, 0, [2, 31, 31, 717], ""),
  (47, .if_acmp .eq 23, 3, 0, [32], ""),
  (50, .aload_n 0, 1, 0, [], ""),
  (51, .getfield 38, 3, 0, [1, 4, 204], ""),
  (54, .getstatic 451, 3, 0, [2, 7, 7, 718], ""),
  (57, .if_acmp .eq 13, 3, 0, [32], ""),
  (60, .aload_n 0, 1, 0, [], ""),
  (61, .getfield 38, 3, 0, [1, 4, 204], ""),
  (64, .getstatic 454, 3, 0, [2, 42, 42, 719], ""),
  (67, .if_acmp .ne 7, 3, 0, [34], ""),
  (70, .iconst 1, 1, 0, [], ""),
  (71, .goto 4, 3, 0, [35], ""),
  (74, .iconst 0, 1, 0, [], ""),
  (75, .istore 4, 2, 0, [], ""),
  (77, .iload_n 3, 1, 0, [], ""),
  (78, .ifCond .ne 20, 3, 0, [46], ""),
  (81, .iload 4, 2, 0, [], ""),
  (83, .ifCond .ne 15, 3, 0, [46], ""),
  (86, .aload_n 0, 1, 0, [], ""),
  (87, .getfield 38, 3, 0, [1, 4, 204], ""),
  (90, .getstatic 457, 3, 0, [2, 37, 37, 720], ""),
  (93, .if_acmp .eq 5, 3, 0, [46], ""),
  (96, .iload_n 2, 1, 0, [], ""),
  (97, .ireturn, 1, 5, [], ""),
  (98, .aload_n 0, 1, 0, [], ""),
  (99, .getfield 18, 3, 0, [1, 1, 200], ""),
  (102, .iload_n 1, 1, 0, [], ""),
  (103, .invokevirtual 460, 3, 1, [77, 2, 1, 3, 712, 714, 713], ""),
  (106, .iload_n 3, 1, 0, [], ""),
  (107, .ifCond .eq 19, 3, 0, [60], ""),
  (110, .aload_n 0, 1, 0, [], ""),
  (111, .aload_n 0, 1, 0, [], ""),
  (112, .getfield 38, 3, 0, [1, 4, 204], ""),
  (115, .invokevirtual 85, 3, 1, [37, 2, 1, 1, 432, 7, 434], ""),
  (118, .aload_n 0, 1, 0, [], ""),
  (119, .invokevirtual 448, 3, 1, [59, 1, 1, 1, 611, 22, 613], ""),
  (122, .pop, 1, 0, [], ""),
  (123, .goto 98, 3, 0, [103], ""),
  (126, .aload_n 0, 1, 0, [], ""),
  (127, .getstatic 457, 3, 0, [2, 37, 37, 720], ""),
  (130, .invokevirtual 217, 3, 1, [50, 2, 1, 1, 563, 14, 565], ""),
  (133, .ifCond .eq 21, 3, 0, [72], ""),
  (136, .aload_n 0, 1, 0, [], ""),
  (137, .getstatic 247, 3, 0, [2, 49, 49, 568], ""),
  (140, .invokevirtual 217, 3, 1, [50, 2, 1, 1, 563, 14, 565], ""),
  (143, .pop, 1, 0, [], ""),
  (144, .aload_n 0, 1, 0, [], ""),
  (145, .getstatic 250, 3, 0, [2, 50, 50, 569], ""),
  (148, .invokevirtual 85, 3, 1, [37, 2, 1, 1, 432, 7, 434], ""),
  (151, .goto 70, 3, 0, [103], ""),
  (154, .aload_n 0, 1, 0, [], ""),
  (155, .getstatic 247, 3, 0, [2, 49, 49, 568], ""),
  (158, .invokevirtual 217, 3, 1, [50, 2, 1, 1, 563, 14, 565], ""),
  (161, .pop, 1, 0, [], ""),
  (162, .aload_n 0, 1, 0, [], ""),
  (163, .getstatic 358, 3, 0, [2, 31, 31, 717], ""),
  (166, .invokevirtual 217, 3, 1, [50, 2, 1, 1, 563, 14, 565], ""),
  (169, .ifCond .eq 10, 3, 0, [83], ""),
  (172, .aload_n 0, 1, 0, [], ""),
  (173, .invokevirtual 463, 3, 1, [78, 1, 1, 1, 721, 39, 723], ""),
  (176, .goto 45, 3, 0, [103], ""),
  (179, .aload_n 0, 1, 0, [], ""),
  (180, .getstatic 451, 3, 0, [2, 7, 7, 718], ""),
  (183, .invokevirtual 217, 3, 1, [50, 2, 1, 1, 563, 14, 565], ""),
  (186, .ifCond .eq 23, 3, 0, [97], ""),
  (189, .aload_n 0, 1, 0, [], ""),
  (190, .invokevirtual 448, 3, 1, [59, 1, 1, 1, 611, 22, 613], ""),
  (193, .pop, 1, 0, [], ""),
  (194, .aload_n 0, 1, 0, [], ""),
  (195, .getstatic 466, 3, 0, [2, 2, 2, 725], ""),
  (198, .invokevirtual 85, 3, 1, [37, 2, 1, 1, 432, 7, 434], ""),
  (201, .aload_n 0, 1, 0, [], ""),
  (202, .invokevirtual 448, 3, 1, [59, 1, 1, 1, 611, 22, 613], ""),
  (205, .pop, 1, 0, [], ""),
  (206, .goto 15, 3, 0, [103], ""),
  (209, .aload_n 0, 1, 0, [], ""),
  (210, .getstatic 454, 3, 0, [2, 42, 42, 719], ""),
  (213, .invokevirtual 85, 3, 1, [37, 2, 1, 1, 432, 7, 434], ""),
  (216, .aload_n 0, 1, 0, [], ""),
  (217, .invokevirtual 448, 3, 1, [59, 1, 1, 1, 611, 22, 613], ""),
  (220, .pop, 1, 0, [], ""),
  (221, .aload_n 0, 1, 0, [], ""),
  (222, .getfield 18, 3, 0, [1, 1, 200], ""),
  (225, .ldc_w 469, 3, 0, [2, 1008, 8], ""),
  (228, .invokevirtual 188, 3, 1, [38, 2, 1, 3, 500, 502, 501], ""),
  (231, .iconst 4, 1, 0, [], ""),
  (232, .ireturn, 1, 5, [], "")])
set_option maxRecDepth 100000 in
/-- QueryReader$Grammar.sum()I -/
def qm_59 : ai_M := (⟨"QueryReader$Grammar", "sum", "()I"⟩, prog_3_method_39_code, 7, (Option.some Jvm.ClassFile.FieldType.int), [], [], [
  (0, .aload_n 0, 1, 0, [], ""),
  (1, .getfield 54, 3, 0, [1, 9, 209], ""),
  (4, .istore_n 1, 1, 0, [], ""),
  (5, .iconst 0, 1, 0, [], ""),
  (6, .istore_n 2, 1, 0, [], ""),
  (7, .iconst 1, 1, 0, [], ""),
  (8, .istore_n 3, 1, 0, [], ""),
  (9, .iconst 0, 1, 0, [], ""),
  (10, .istore 4, 2, 0, [], ""),
  (12, .iload 4, 2, 0, [], ""),
  (14, .ldc 213, 2, 0, [1, 1000000, 557], ""),
  (16, .if_icmp .ge 93, 3, 0, [56], ""),
  (19, .iload_n 3, 1, 0, [], ""),
  (20, .ifCond .eq 89, 3, 0, [56], ""),
  (23, .aload_n 0, 1, 0, [], ""),
  (24, .getstatic 271, 3, 0, [2, 88, 88, 586], ""),
  (27, .bipush 8, 2, 0, [], ""),
  (29, .invokevirtual 432, 3, 1, [56, 3, 1, 1, 598, 19, 600], ""),
  (32, .aload_n 0, 1, 0, [], ""),
  (33, .getfield 18, 3, 0, [1, 1, 200], ""),
  (36, .invokevirtual 436, 3, 1, [9, 1, 1, 3, 602, 276, 275], ""),
  (39, .istore 5, 2, 0, [], ""),
  (41, .aload_n 0, 1, 0, [], ""),
  (42, .invokevirtual 471, 3, 1, [60, 1, 1, 1, 615, 23, 617], ""),
  (45, .istore_n 2, 1, 0, [], ""),
  (46, .aload_n 0, 1, 0, [], ""),
  (47, .getfield 38, 3, 0, [1, 4, 204], ""),
  (50, .getfield 442, 3, 0, [6, 2, 1377], ""),
  (53, .iconst 5, 1, 0, [], ""),
  (54, .if_icmp .lt 13, 3, 0, [34], ""),
  (57, .aload_n 0, 1, 0, [], ""),
  (58, .getfield 38, 3, 0, [1, 4, 204], ""),
  (61, .getfield 442, 3, 0, [6, 2, 1377], ""),
  (64, .goto 4, 3, 0, [35], ""),
  (67, .iconst 0, 1, 0, [], ""),
  (68, .istore 6, 2, 0, [], ""),
  (70, .aload_n 0, 1, 0, [], ""),
  (71, .iload_n 1, 1, 0, [], ""),
  (72, .iload 5, 2, 0, [], ""),
  (74, .iload_n 2, 1, 0, [], ""),
  (75, .iload 6, 2, 0, [], ""),
  (77, .invokevirtual 444, 3, 1, [74, 5, 1, 1, 699, 37, 701], ""),
  (80, .istore_n 2, 1, 0, [], ""),
  (81, .iload 6, 2, 0, [], ""),
  (83, .ifCond .eq 18, 3, 0, [52], ""),
  (86, .aload_n 0, 1, 0, [], ""),
  (87, .aload_n 0, 1, 0, [], ""),
  (88, .getfield 38, 3, 0, [1, 4, 204], ""),
  (91, .invokevirtual 217, 3, 1, [50, 2, 1, 1, 563, 14, 565], ""),
  (94, .ifCond .eq 7, 3, 0, [52], ""),
  (97, .iconst 1, 1, 0, [], ""),
  (98, .goto 4, 3, 0, [53], ""),
  (101, .iconst 0, 1, 0, [], ""),
  (102, .istore_n 3, 1, 0, [], ""),
  (103, .iinc 4 1, 3, 0, [], ""),
  (106, .goto (-94), 3, 0, [9], ""),
  (109, .iload_n 2, 1, 0, [], ""),
  (110, .ireturn, 1, 5, [], "")])
set_option maxRecDepth 100000 in
/-- QueryReader$Grammar.primary()I -/
def qm_60 : ai_M := (⟨"QueryReader$Grammar", "primary", "()I"⟩, prog_3_method_44_code, 2, (Option.some Jvm.ClassFile.FieldType.int), [], [], [
  (0, .iconst 0, 1, 0, [], ""),
  (1, .istore_n 1, 1, 0, [], ""),
  (2, .getstatic 73, 3, 0, [2, 3001, 105, 424], ""),
  (5, .aload_n 0, 1, 0, [], ""),
  (6, .getfield 38, 3, 0, [1, 4, 204], ""),
  (9, .invokevirtual 78, 3, 1, [36, 1, 1, 6, 425, 428, 429, 426, 427], ""),
  (12, .iaload, 1, 0, [], ""),
  (13, .tableswitch 145 13 19 #[43, 50, 57, 67, 88, 110, 138], 43, 0, [52, 8, 11, 14, 18, 27, 37, 49], ""),
  (56, .aload_n 0, 1, 0, [], ""),
  (57, .invokevirtual 134, 3, 1, [54, 1, 1, 1, 587, 17, 589], ""),
  (60, .goto 102, 3, 0, [54], ""),
  (63, .aload_n 0, 1, 0, [], ""),
  (64, .invokevirtual 268, 3, 1, [52, 1, 1, 1, 578, 16, 580], ""),
  (67, .goto 95, 3, 0, [54], ""),
  (70, .aload_n 0, 1, 0, [], ""),
  (71, .getstatic 250, 3, 0, [2, 50, 50, 569], ""),
  (74, .invokevirtual 85, 3, 1, [37, 2, 1, 1, 432, 7, 434], ""),
  (77, .goto 85, 3, 0, [54], ""),
  (80, .aload_n 0, 1, 0, [], ""),
  (81, .invokevirtual 125, 3, 1, [45, 1, 1, 1, 539, 12, 541], ""),
  (84, .aload_n 0, 1, 0, [], ""),
  (85, .getstatic 403, 3, 0, [2, 85, 85, 619], ""),
  (88, .invokevirtual 217, 3, 1, [50, 2, 1, 1, 563, 14, 565], ""),
  (91, .ifCond .eq 71, 3, 0, [54], ""),
  (94, .aload_n 0, 1, 0, [], ""),
  (95, .invokevirtual 125, 3, 1, [45, 1, 1, 1, 539, 12, 541], ""),
  (98, .goto 64, 3, 0, [54], ""),
  (101, .aload_n 0, 1, 0, [], ""),
  (102, .getstatic 157, 3, 0, [2, 82, 82, 523], ""),
  (105, .invokevirtual 151, 3, 1, [61, 2, 1, 1, 620, 24, 622], ""),
  (108, .aload_n 0, 1, 0, [], ""),
  (109, .invokevirtual 226, 3, 1, [55, 1, 1, 1, 594, 18, 596], ""),
  (112, .istore_n 1, 1, 0, [], ""),
  (113, .aload_n 0, 1, 0, [], ""),
  (114, .getstatic 166, 3, 0, [2, 83, 83, 532], ""),
  (117, .invokevirtual 151, 3, 1, [61, 2, 1, 1, 620, 24, 622], ""),
  (120, .goto 42, 3, 0, [54], ""),
  (123, .aload_n 0, 1, 0, [], ""),
  (124, .getstatic 489, 3, 0, [2, 27, 27, 624], ""),
  (127, .invokevirtual 85, 3, 1, [37, 2, 1, 1, 432, 7, 434], ""),
  (130, .aload_n 0, 1, 0, [], ""),
  (131, .getstatic 157, 3, 0, [2, 82, 82, 523], ""),
  (134, .invokevirtual 85, 3, 1, [37, 2, 1, 1, 432, 7, 434], ""),
  (137, .aload_n 0, 1, 0, [], ""),
  (138, .invokevirtual 110, 3, 1, [62, 1, 1, 1, 625, 25, 627], ""),
  (141, .aload_n 0, 1, 0, [], ""),
  (142, .getstatic 166, 3, 0, [2, 83, 83, 532], ""),
  (145, .invokevirtual 85, 3, 1, [37, 2, 1, 1, 432, 7, 434], ""),
  (148, .goto 14, 3, 0, [54], ""),
  (151, .aload_n 0, 1, 0, [], ""),
  (152, .invokevirtual 492, 3, 1, [69, 1, 1, 1, 674, 32, 676], ""),
  (155, .goto 7, 3, 0, [54], ""),
  (158, .aload_n 0, 1, 0, [], ""),
  (159, .invokevirtual 495, 3, 1, [70, 1, 1, 1, 681, 33, 683], ""),
  (162, .iload_n 1, 1, 0, [], ""),
  (163, .ireturn, 1, 5, [], "")])
set_option maxRecDepth 100000 in
/-- QueryReader$Grammar.skip(LQueryReader$Sort;)V -/
def qm_61 : ai_M := (⟨"QueryReader$Grammar", "skip", "(LQueryReader$Sort;)V"⟩, prog_3_method_9_code, 2, (Option.none : Option Jvm.ClassFile.FieldType), [], [], [
  (0, .aload_n 0, 1, 0, [], ""),
  (1, .getfield 38, 3, 0, [1, 4, 204], ""),
  (4, .aload_n 1, 1, 0, [], ""),
  (5, .if_acmp .eq 13, 3, 0, [9], ""),
  (8, .new 137, 3, 2, [141, 180, 2, 0, 436, 138], "java/lang/IllegalArgumentException"),
  (11, .dup, 1, 0, [], ""),
  (12, .ldc 180, 2, 0, [2, 1000, 0], ""),
  (14, .invokespecial 141, 3, 9, [], ""),
  (17, .athrow, 1, 9, [], ""),
  (18, .aload_n 0, 1, 0, [], ""),
  (19, .invokevirtual 182, 3, 1, [41, 1, 1, 1, 519, 9, 521], ""),
  (22, .return_, 1, 7, [], "")])
set_option maxRecDepth 100000 in
/-- QueryReader$Grammar.query()V -/
def qm_62 : ai_M := (⟨"QueryReader$Grammar", "query", "()V"⟩, prog_3_method_31_code, 1, (Option.none : Option Jvm.ClassFile.FieldType), [], [], [
  (0, .aload_n 0, 1, 0, [], ""),
  (1, .getstatic 303, 3, 0, [2, 65, 65, 629], ""),
  (4, .invokevirtual 85, 3, 1, [37, 2, 1, 1, 432, 7, 434], ""),
  (7, .aload_n 0, 1, 0, [], ""),
  (8, .getstatic 370, 3, 0, [2, 22, 22, 630], ""),
  (11, .invokevirtual 217, 3, 1, [50, 2, 1, 1, 563, 14, 565], ""),
  (14, .pop, 1, 0, [], ""),
  (15, .aload_n 0, 1, 0, [], ""),
  (16, .getstatic 373, 3, 0, [2, 89, 89, 631], ""),
  (19, .invokevirtual 217, 3, 1, [50, 2, 1, 1, 563, 14, 565], ""),
  (22, .ifCond .ne 7, 3, 0, [13], ""),
  (25, .aload_n 0, 1, 0, [], ""),
  (26, .invokevirtual 376, 3, 1, [63, 1, 1, 1, 632, 26, 634], ""),
  (29, .aload_n 0, 1, 0, [], ""),
  (30, .getstatic 321, 3, 0, [2, 28, 28, 638], ""),
  (33, .invokevirtual 217, 3, 1, [50, 2, 1, 1, 563, 14, 565], ""),
  (36, .ifCond .eq 7, 3, 0, [19], ""),
  (39, .aload_n 0, 1, 0, [], ""),
  (40, .invokevirtual 379, 3, 1, [64, 1, 1, 1, 639, 27, 641], ""),
  (43, .aload_n 0, 1, 0, [], ""),
  (44, .invokevirtual 318, 3, 1, [66, 1, 1, 1, 653, 29, 655], ""),
  (47, .aload_n 0, 1, 0, [], ""),
  (48, .getstatic 382, 3, 0, [2, 29, 29, 658], ""),
  (51, .invokevirtual 217, 3, 1, [50, 2, 1, 1, 563, 14, 565], ""),
  (54, .ifCond .eq 14, 3, 0, [30], ""),
  (57, .aload_n 0, 1, 0, [], ""),
  (58, .getstatic 385, 3, 0, [2, 8, 8, 659], ""),
  (61, .invokevirtual 85, 3, 1, [37, 2, 1, 1, 432, 7, 434], ""),
  (64, .aload_n 0, 1, 0, [], ""),
  (65, .invokevirtual 309, 3, 1, [67, 1, 1, 1, 660, 30, 662], ""),
  (68, .aload_n 0, 1, 0, [], ""),
  (69, .getstatic 388, 3, 0, [2, 30, 30, 664], ""),
  (72, .invokevirtual 217, 3, 1, [50, 2, 1, 1, 563, 14, 565], ""),
  (75, .ifCond .eq 8, 3, 0, [37], ""),
  (78, .aload_n 0, 1, 0, [], ""),
  (79, .invokevirtual 226, 3, 1, [55, 1, 1, 1, 594, 18, 596], ""),
  (82, .pop, 1, 0, [], ""),
  (83, .aload_n 0, 1, 0, [], ""),
  (84, .getstatic 391, 3, 0, [2, 55, 55, 665], ""),
  (87, .invokevirtual 217, 3, 1, [50, 2, 1, 1, 563, 14, 565], ""),
  (90, .ifCond .eq 14, 3, 0, [46], ""),
  (93, .aload_n 0, 1, 0, [], ""),
  (94, .getstatic 385, 3, 0, [2, 8, 8, 659], ""),
  (97, .invokevirtual 85, 3, 1, [37, 2, 1, 1, 432, 7, 434], ""),
  (100, .aload_n 0, 1, 0, [], ""),
  (101, .invokevirtual 394, 3, 1, [68, 1, 1, 1, 666, 31, 668], ""),
  (104, .aload_n 0, 1, 0, [], ""),
  (105, .getstatic 397, 3, 0, [2, 43, 43, 672], ""),
  (108, .invokevirtual 217, 3, 1, [50, 2, 1, 1, 563, 14, 565], ""),
  (111, .ifCond .eq 21, 3, 0, [58], ""),
  (114, .aload_n 0, 1, 0, [], ""),
  (115, .invokevirtual 134, 3, 1, [54, 1, 1, 1, 587, 17, 589], ""),
  (118, .aload_n 0, 1, 0, [], ""),
  (119, .getstatic 400, 3, 0, [2, 52, 52, 673], ""),
  (122, .invokevirtual 217, 3, 1, [50, 2, 1, 1, 563, 14, 565], ""),
  (125, .ifCond .eq 7, 3, 0, [58], ""),
  (128, .aload_n 0, 1, 0, [], ""),
  (129, .invokevirtual 134, 3, 1, [54, 1, 1, 1, 587, 17, 589], ""),
  (132, .return_, 1, 7, [], "")])
set_option maxRecDepth 100000 in
/-- QueryReader$Grammar.items()V -/
def qm_63 : ai_M := (⟨"QueryReader$Grammar", "items", "()V"⟩, prog_3_method_32_code, 3, (Option.none : Option Jvm.ClassFile.FieldType), [], [], [
  (0, .iconst 1, 1, 0, [], ""),
  (1, .istore_n 1, 1, 0, [], ""),
  (2, .iconst 0, 1, 0, [], ""),
  (3, .istore_n 2, 1, 0, [], ""),
  (4, .iload_n 2, 1, 0, [], ""),
  (5, .ldc 213, 2, 0, [1, 1000000, 557], ""),
  (7, .if_icmp .ge 109, 3, 0, [55], ""),
  (10, .iload_n 1, 1, 0, [], ""),
  (11, .ifCond .eq 105, 3, 0, [55], ""),
  (14, .aload_n 0, 1, 0, [], ""),
  (15, .getfield 38, 3, 0, [1, 4, 204], ""),
  (18, .getstatic 191, 3, 0, [2, 99, 99, 543], ""),
  (21, .if_acmp .ne 62, 3, 0, [40], ""),
  (24, .aload_n 0, 1, 0, [], ""),
  (25, .getfield 24, 3, 0, [1, 2, 202], ""),
  (28, .aload_n 0, 1, 0, [], ""),
  (29, .getfield 28, 3, 0, [1, 3, 203], ""),
  (32, .iconst 1, 1, 0, [], ""),
  (33, .iadd, 1, 0, [], ""),
  (34, .invokevirtual 61, 3, 1, [33, 2, 1, 4, 412, 414, 413], ""),
  (37, .getstatic 403, 3, 0, [2, 85, 85, 619], ""),
  (40, .if_acmp .ne 43, 3, 0, [40], ""),
  (43, .aload_n 0, 1, 0, [], ""),
  (44, .getfield 24, 3, 0, [1, 2, 202], ""),
  (47, .aload_n 0, 1, 0, [], ""),
  (48, .getfield 28, 3, 0, [1, 3, 203], ""),
  (51, .iconst 2, 1, 0, [], ""),
  (52, .iadd, 1, 0, [], ""),
  (53, .invokevirtual 61, 3, 1, [33, 2, 1, 4, 412, 414, 413], ""),
  (56, .getstatic 373, 3, 0, [2, 89, 89, 631], ""),
  (59, .if_acmp .ne 24, 3, 0, [40], ""),
  (62, .aload_n 0, 1, 0, [], ""),
  (63, .invokevirtual 125, 3, 1, [45, 1, 1, 1, 539, 12, 541], ""),
  (66, .aload_n 0, 1, 0, [], ""),
  (67, .getstatic 403, 3, 0, [2, 85, 85, 619], ""),
  (70, .invokevirtual 85, 3, 1, [37, 2, 1, 1, 432, 7, 434], ""),
  (73, .aload_n 0, 1, 0, [], ""),
  (74, .getstatic 373, 3, 0, [2, 89, 89, 631], ""),
  (77, .invokevirtual 85, 3, 1, [37, 2, 1, 1, 432, 7, 434], ""),
  (80, .goto 22, 3, 0, [49], ""),
  (83, .aload_n 0, 1, 0, [], ""),
  (84, .invokevirtual 226, 3, 1, [55, 1, 1, 1, 594, 18, 596], ""),
  (87, .pop, 1, 0, [], ""),
  (88, .aload_n 0, 1, 0, [], ""),
  (89, .getstatic 406, 3, 0, [2, 3, 3, 636], ""),
  (92, .invokevirtual 217, 3, 1, [50, 2, 1, 1, 563, 14, 565], ""),
  (95, .ifCond .eq 7, 3, 0, [49], ""),
  (98, .aload_n 0, 1, 0, [], ""),
  (99, .invokevirtual 125, 3, 1, [45, 1, 1, 1, 539, 12, 541], ""),
  (102, .aload_n 0, 1, 0, [], ""),
  (103, .getstatic 214, 3, 0, [2, 84, 84, 637], ""),
  (106, .invokevirtual 217, 3, 1, [50, 2, 1, 1, 563, 14, 565], ""),
  (109, .istore_n 1, 1, 0, [], ""),
  (110, .iinc 2 1, 3, 0, [], ""),
  (113, .goto (-109), 3, 0, [4], ""),
  (116, .return_, 1, 7, [], "")])
set_option maxRecDepth 100000 in
/-- QueryReader$Grammar.sources()V -/
def qm_64 : ai_M := (⟨"QueryReader$Grammar", "sources", "()V"⟩, prog_3_method_33_code, 4, (Option.none : Option Jvm.ClassFile.FieldType), [], [], [
  (0, .iconst 1, 1, 0, [], ""),
  (1, .istore_n 1, 1, 0, [], ""),
  (2, .iconst 0, 1, 0, [], ""),
  (3, .istore_n 2, 1, 0, [], ""),
  (4, .iconst 0, 1, 0, [], ""),
  (5, .istore_n 3, 1, 0, [], ""),
  (6, .iload_n 3, 1, 0, [], ""),
  (7, .ldc 213, 2, 0, [1, 1000000, 557], ""),
  (9, .if_icmp .ge 166, 3, 0, [80], ""),
  (12, .iload_n 1, 1, 0, [], ""),
  (13, .ifCond .eq 162, 3, 0, [80], ""),
  (16, .aload_n 0, 1, 0, [], ""),
  (17, .invokevirtual 125, 3, 1, [45, 1, 1, 1, 539, 12, 541], ""),
  (20, .aload_n 0, 1, 0, [], ""),
  (21, .getstatic 406, 3, 0, [2, 3, 3, 636], ""),
  (24, .invokevirtual 217, 3, 1, [50, 2, 1, 1, 563, 14, 565], ""),
  (27, .ifCond .eq 7, 3, 0, [19], ""),
  (30, .aload_n 0, 1, 0, [], ""),
  (31, .invokevirtual 125, 3, 1, [45, 1, 1, 1, 539, 12, 541], ""),
  (34, .iload_n 2, 1, 0, [], ""),
  (35, .ifCond .eq 15, 3, 0, [27], ""),
  (38, .aload_n 0, 1, 0, [], ""),
  (39, .getstatic 274, 3, 0, [2, 53, 53, 643], ""),
  (42, .invokevirtual 85, 3, 1, [37, 2, 1, 1, 432, 7, 434], ""),
  (45, .aload_n 0, 1, 0, [], ""),
  (46, .invokevirtual 226, 3, 1, [55, 1, 1, 1, 594, 18, 596], ""),
  (49, .pop, 1, 0, [], ""),
  (50, .aload_n 0, 1, 0, [], ""),
  (51, .getfield 38, 3, 0, [1, 4, 204], ""),
  (54, .getstatic 214, 3, 0, [2, 84, 84, 637], ""),
  (57, .if_acmp .eq 17, 3, 0, [37], ""),
  (60, .aload_n 0, 1, 0, [], ""),
  (61, .getfield 38, 3, 0, [1, 4, 204], ""),
  (64, .getstatic 409, 3, 0, [2, 18, 18, 644], ""),
  (67, .if_acmp .eq 7, 3, 0, [37], ""),
  (70, .iconst 1, 1, 0, [], ""),
  (71, .goto 4, 3, 0, [38], ""),
  (74, .iconst 0, 1, 0, [], ""),
  (75, .istore_n 2, 1, 0, [], ""),
  (76, .aload_n 0, 1, 0, [], ""),
  (77, .getstatic 214, 3, 0, [2, 84, 84, 637], ""),
  (80, .invokevirtual 147, 3, 1, [65, 2, 1, 1, 645, 28, 647], ""),
  (83, .ifCond .eq 16, 3, 0, [48], ""),
  (86, .aload_n 0, 1, 0, [], ""),
  (87, .getfield 18, 3, 0, [1, 1, 200], ""),
  (90, .ldc_w 412, 3, 0, [2, 1006, 6], ""),
  (93, .invokevirtual 188, 3, 1, [38, 2, 1, 3, 500, 502, 501], ""),
  (96, .goto 73, 3, 0, [78], ""),
  (99, .aload_n 0, 1, 0, [], ""),
  (100, .getstatic 414, 3, 0, [2, 40, 40, 649], ""),
  (103, .invokevirtual 217, 3, 1, [50, 2, 1, 1, 563, 14, 565], ""),
  (106, .ifCond .eq 21, 3, 0, [60], ""),
  (109, .aload_n 0, 1, 0, [], ""),
  (110, .getstatic 417, 3, 0, [2, 56, 56, 650], ""),
  (113, .invokevirtual 147, 3, 1, [65, 2, 1, 1, 645, 28, 647], ""),
  (116, .pop, 1, 0, [], ""),
  (117, .aload_n 0, 1, 0, [], ""),
  (118, .getstatic 420, 3, 0, [2, 38, 38, 651], ""),
  (121, .invokevirtual 85, 3, 1, [37, 2, 1, 1, 432, 7, 434], ""),
  (124, .goto 45, 3, 0, [78], ""),
  (127, .aload_n 0, 1, 0, [], ""),
  (128, .getstatic 409, 3, 0, [2, 18, 18, 644], ""),
  (131, .invokevirtual 217, 3, 1, [50, 2, 1, 1, 563, 14, 565], ""),
  (134, .ifCond .ne 23, 3, 0, [72], ""),
  (137, .aload_n 0, 1, 0, [], ""),
  (138, .getstatic 423, 3, 0, [2, 33, 33, 652], ""),
  (141, .invokevirtual 147, 3, 1, [65, 2, 1, 1, 645, 28, 647], ""),
  (144, .ifCond .ne 13, 3, 0, [72], ""),
  (147, .aload_n 0, 1, 0, [], ""),
  (148, .getfield 38, 3, 0, [1, 4, 204], ""),
  (151, .getstatic 420, 3, 0, [2, 38, 38, 651], ""),
  (154, .if_acmp .ne 13, 3, 0, [76], ""),
  (157, .aload_n 0, 1, 0, [], ""),
  (158, .getstatic 420, 3, 0, [2, 38, 38, 651], ""),
  (161, .invokevirtual 85, 3, 1, [37, 2, 1, 1, 432, 7, 434], ""),
  (164, .goto 5, 3, 0, [78], ""),
  (167, .iconst 0, 1, 0, [], ""),
  (168, .istore_n 1, 1, 0, [], ""),
  (169, .iinc 3 1, 3, 0, [], ""),
  (172, .goto (-166), 3, 0, [6], ""),
  (175, .return_, 1, 7, [], "")])
set_option maxRecDepth 100000 in
/-- QueryReader$Grammar.skipIf(LQueryReader$Sort;)Z -/
def qm_65 : ai_M := (⟨"QueryReader$Grammar", "skipIf", "(LQueryReader$Sort;)Z"⟩, prog_3_method_10_code, 3, (Option.some Jvm.ClassFile.FieldType.boolean), [], [], [
  (0, .aload_n 0, 1, 0, [], ""),
  (1, .getfield 38, 3, 0, [1, 4, 204], ""),
  (4, .aload_n 1, 1, 0, [], ""),
  (5, .if_acmp .ne 7, 3, 0, [6], ""),
  (8, .iconst 1, 1, 0, [], ""),
  (9, .goto 4, 3, 0, [7], ""),
  (12, .iconst 0, 1, 0, [], ""),
  (13, .istore_n 2, 1, 0, [], ""),
  (14, .iload_n 2, 1, 0, [], ""),
  (15, .ifCond .eq 7, 3, 0, [12], ""),
  (18, .aload_n 0, 1, 0, [], ""),
  (19, .invokevirtual 182, 3, 1, [41, 1, 1, 1, 519, 9, 521], ""),
  (22, .iload_n 2, 1, 0, [], ""),
  (23, .ireturn, 1, 5, [], "")])
set_option maxRecDepth 100000 in
/-- QueryReader$Grammar.condition()V -/
def qm_66 : ai_M := (⟨"QueryReader$Grammar", "condition", "()V"⟩, prog_3_method_26_code, 1, (Option.none : Option Jvm.ClassFile.FieldType), [], [], [
  (0, .aload_n 0, 1, 0, [], ""),
  (1, .getstatic 324, 3, 0, [2, 81, 81, 657], ""),
  (4, .invokevirtual 217, 3, 1, [50, 2, 1, 1, 563, 14, 565], ""),
  (7, .ifCond .eq 8, 3, 0, [7], ""),
  (10, .aload_n 0, 1, 0, [], ""),
  (11, .invokevirtual 226, 3, 1, [55, 1, 1, 1, 594, 18, 596], ""),
  (14, .pop, 1, 0, [], ""),
  (15, .return_, 1, 7, [], "")])
set_option maxRecDepth 100000 in
/-- QueryReader$Grammar.expressions()V -/
def qm_67 : ai_M := (⟨"QueryReader$Grammar", "expressions", "()V"⟩, prog_3_method_35_code, 2, (Option.none : Option Jvm.ClassFile.FieldType), [], [], [
  (0, .aload_n 0, 1, 0, [], ""),
  (1, .invokevirtual 226, 3, 1, [55, 1, 1, 1, 594, 18, 596], ""),
  (4, .pop, 1, 0, [], ""),
  (5, .iconst 0, 1, 0, [], ""),
  (6, .istore_n 1, 1, 0, [], ""),
  (7, .iload_n 1, 1, 0, [], ""),
  (8, .ldc 213, 2, 0, [1, 1000000, 557], ""),
  (10, .if_icmp .ge 24, 3, 0, [17], ""),
  (13, .aload_n 0, 1, 0, [], ""),
  (14, .getstatic 214, 3, 0, [2, 84, 84, 637], ""),
  (17, .invokevirtual 217, 3, 1, [50, 2, 1, 1, 563, 14, 565], ""),
  (20, .ifCond .eq 14, 3, 0, [17], ""),
  (23, .aload_n 0, 1, 0, [], ""),
  (24, .invokevirtual 226, 3, 1, [55, 1, 1, 1, 594, 18, 596], ""),
  (27, .pop, 1, 0, [], ""),
  (28, .iinc 1 1, 3, 0, [], ""),
  (31, .goto (-24), 3, 0, [5], ""),
  (34, .return_, 1, 7, [], "")])
set_option maxRecDepth 100000 in
/-- QueryReader$Grammar.orders()V -/
def qm_68 : ai_M := (⟨"QueryReader$Grammar", "orders", "()V"⟩, prog_3_method_34_code, 3, (Option.none : Option Jvm.ClassFile.FieldType), [], [], [
  (0, .iconst 1, 1, 0, [], ""),
  (1, .istore_n 1, 1, 0, [], ""),
  (2, .iconst 0, 1, 0, [], ""),
  (3, .istore_n 2, 1, 0, [], ""),
  (4, .iload_n 2, 1, 0, [], ""),
  (5, .ldc 213, 2, 0, [1, 1000000, 557], ""),
  (7, .if_icmp .ge 44, 3, 0, [26], ""),
  (10, .iload_n 1, 1, 0, [], ""),
  (11, .ifCond .eq 40, 3, 0, [26], ""),
  (14, .aload_n 0, 1, 0, [], ""),
  (15, .invokevirtual 226, 3, 1, [55, 1, 1, 1, 594, 18, 596], ""),
  (18, .pop, 1, 0, [], ""),
  (19, .aload_n 0, 1, 0, [], ""),
  (20, .getstatic 426, 3, 0, [2, 4, 4, 670], ""),
  (23, .invokevirtual 147, 3, 1, [65, 2, 1, 1, 645, 28, 647], ""),
  (26, .ifCond .ne 11, 3, 0, [20], ""),
  (29, .aload_n 0, 1, 0, [], ""),
  (30, .getstatic 429, 3, 0, [2, 21, 21, 671], ""),
  (33, .invokevirtual 217, 3, 1, [50, 2, 1, 1, 563, 14, 565], ""),
  (36, .pop, 1, 0, [], ""),
  (37, .aload_n 0, 1, 0, [], ""),
  (38, .getstatic 214, 3, 0, [2, 84, 84, 637], ""),
  (41, .invokevirtual 217, 3, 1, [50, 2, 1, 1, 563, 14, 565], ""),
  (44, .istore_n 1, 1, 0, [], ""),
  (45, .iinc 2 1, 3, 0, [], ""),
  (48, .goto (-44), 3, 0, [4], ""),
  (51, .return_, 1, 7, [], "")])
set_option maxRecDepth 100000 in
/-- QueryReader$Grammar.cases()V -/
def qm_69 : ai_M := (⟨"QueryReader$Grammar", "cases", "()V"⟩, prog_3_method_45_code, 3, (Option.none : Option Jvm.ClassFile.FieldType), [], [], [
  (0, .iconst 1, 1, 0, [], ""),
  (1, .istore_n 1, 1, 0, [], ""),
  (2, .aload_n 0, 1, 0, [], ""),
  (3, .getstatic 160, 3, 0, [2, 10, 10, 524], ""),
  (6, .invokevirtual 85, 3, 1, [37, 2, 1, 1, 432, 7, 434], ""),
  (9, .iconst 0, 1, 0, [], ""),
  (10, .istore_n 2, 1, 0, [], ""),
  (11, .iload_n 2, 1, 0, [], ""),
  (12, .ldc 213, 2, 0, [1, 1000000, 557], ""),
  (14, .if_icmp .ge 53, 3, 0, [34], ""),
  (17, .iload_n 1, 1, 0, [], ""),
  (18, .ifCond .eq 49, 3, 0, [34], ""),
  (21, .aload_n 0, 1, 0, [], ""),
  (22, .getstatic 498, 3, 0, [2, 80, 80, 678], ""),
  (25, .invokevirtual 85, 3, 1, [37, 2, 1, 1, 432, 7, 434], ""),
  (28, .aload_n 0, 1, 0, [], ""),
  (29, .invokevirtual 226, 3, 1, [55, 1, 1, 1, 594, 18, 596], ""),
  (32, .pop, 1, 0, [], ""),
  (33, .aload_n 0, 1, 0, [], ""),
  (34, .getstatic 501, 3, 0, [2, 73, 73, 679], ""),
  (37, .invokevirtual 85, 3, 1, [37, 2, 1, 1, 432, 7, 434], ""),
  (40, .aload_n 0, 1, 0, [], ""),
  (41, .invokevirtual 226, 3, 1, [55, 1, 1, 1, 594, 18, 596], ""),
  (44, .pop, 1, 0, [], ""),
  (45, .aload_n 0, 1, 0, [], ""),
  (46, .getfield 38, 3, 0, [1, 4, 204], ""),
  (49, .getstatic 498, 3, 0, [2, 80, 80, 678], ""),
  (52, .if_acmp .ne 7, 3, 0, [30], ""),
  (55, .iconst 1, 1, 0, [], ""),
  (56, .goto 4, 3, 0, [31], ""),
  (59, .iconst 0, 1, 0, [], ""),
  (60, .istore_n 1, 1, 0, [], ""),
  (61, .iinc 2 1, 3, 0, [], ""),
  (64, .goto (-53), 3, 0, [7], ""),
  (67, .aload_n 0, 1, 0, [], ""),
  (68, .getstatic 504, 3, 0, [2, 24, 24, 680], ""),
  (71, .invokevirtual 217, 3, 1, [50, 2, 1, 1, 563, 14, 565], ""),
  (74, .ifCond .eq 8, 3, 0, [41], ""),
  (77, .aload_n 0, 1, 0, [], ""),
  (78, .invokevirtual 226, 3, 1, [55, 1, 1, 1, 594, 18, 596], ""),
  (81, .pop, 1, 0, [], ""),
  (82, .aload_n 0, 1, 0, [], ""),
  (83, .getstatic 169, 3, 0, [2, 25, 25, 533], ""),
  (86, .invokevirtual 85, 3, 1, [37, 2, 1, 1, 432, 7, 434], ""),
  (89, .return_, 1, 7, [], "")])
set_option maxRecDepth 100000 in
/-- QueryReader$Grammar.function()V -/
def qm_70 : ai_M := (⟨"QueryReader$Grammar", "function", "()V"⟩, prog_3_method_46_code, 1, (Option.none : Option Jvm.ClassFile.FieldType), [], [], [
  (0, .getstatic 73, 3, 0, [2, 3001, 105, 424], ""),
  (3, .aload_n 0, 1, 0, [], ""),
  (4, .getfield 38, 3, 0, [1, 4, 204], ""),
  (7, .invokevirtual 78, 3, 1, [36, 1, 1, 6, 425, 428, 429, 426, 427], ""),
  (10, .iaload, 1, 0, [], ""),
  (11, .tableswitch 116 20 32 #[65, 65, 65, 65, 74, 83, 93, 102, 109, 109, 109, 109, 109], 65, 0, [32, 6, 6, 6, 6, 11, 16, 21, 26, 29, 29, 29, 29, 29], ""),
  (76, .aload_n 0, 1, 0, [], ""),
  (77, .iconst 1, 1, 0, [], ""),
  (78, .iconst 1, 1, 0, [], ""),
  (79, .invokevirtual 507, 3, 1, [71, 3, 1, 1, 685, 34, 687], ""),
  (82, .goto 56, 3, 0, [37], ""),
  (85, .aload_n 0, 1, 0, [], ""),
  (86, .iconst 2, 1, 0, [], ""),
  (87, .iconst 3, 1, 0, [], ""),
  (88, .invokevirtual 507, 3, 1, [71, 3, 1, 1, 685, 34, 687], ""),
  (91, .goto 47, 3, 0, [37], ""),
  (94, .aload_n 0, 1, 0, [], ""),
  (95, .iconst 1, 1, 0, [], ""),
  (96, .ldc 213, 2, 0, [1, 1000000, 557], ""),
  (98, .invokevirtual 507, 3, 1, [71, 3, 1, 1, 685, 34, 687], ""),
  (101, .goto 37, 3, 0, [37], ""),
  (104, .aload_n 0, 1, 0, [], ""),
  (105, .iconst 2, 1, 0, [], ""),
  (106, .iconst 2, 1, 0, [], ""),
  (107, .invokevirtual 507, 3, 1, [71, 3, 1, 1, 685, 34, 687], ""),
  (110, .goto 28, 3, 0, [37], ""),
  (113, .aload_n 0, 1, 0, [], ""),
  (114, .invokevirtual 510, 3, 1, [72, 1, 1, 1, 689, 35, 691], ""),
  (117, .goto 21, 3, 0, [37], ""),
  (120, .aload_n 0, 1, 0, [], ""),
  (121, .invokevirtual 513, 3, 1, [73, 1, 1, 1, 694, 36, 696], ""),
  (124, .goto 14, 3, 0, [37], ""),
  (127, .new 137, 3, 2, [141, 516, 3, 7, 436, 138], "java/lang/IllegalArgumentException"),
  (130, .dup, 1, 0, [], ""),
  (131, .ldc_w 516, 3, 0, [2, 1007, 7], ""),
  (134, .invokespecial 141, 3, 9, [], ""),
  (137, .athrow, 1, 9, [], ""),
  (138, .return_, 1, 7, [], "")])
set_option maxRecDepth 100000 in
/-- QueryReader$Grammar.arguments(II)V -/
def qm_71 : ai_M := (⟨"QueryReader$Grammar", "arguments", "(II)V"⟩, prog_3_method_47_code, 5, (Option.none : Option Jvm.ClassFile.FieldType), [], [], [
  (0, .iconst 1, 1, 0, [], ""),
  (1, .istore_n 3, 1, 0, [], ""),
  (2, .aload_n 0, 1, 0, [], ""),
  (3, .aload_n 0, 1, 0, [], ""),
  (4, .getfield 38, 3, 0, [1, 4, 204], ""),
  (7, .invokevirtual 85, 3, 1, [37, 2, 1, 1, 432, 7, 434], ""),
  (10, .aload_n 0, 1, 0, [], ""),
  (11, .getstatic 157, 3, 0, [2, 82, 82, 523], ""),
  (14, .invokevirtual 85, 3, 1, [37, 2, 1, 1, 432, 7, 434], ""),
  (17, .iconst 1, 1, 0, [], ""),
  (18, .istore 4, 2, 0, [], ""),
  (20, .iload 4, 2, 0, [], ""),
  (22, .iload_n 2, 1, 0, [], ""),
  (23, .if_icmp .gt 57, 3, 0, [40], ""),
  (26, .iload_n 3, 1, 0, [], ""),
  (27, .ifCond .eq 53, 3, 0, [40], ""),
  (30, .aload_n 0, 1, 0, [], ""),
  (31, .invokevirtual 226, 3, 1, [55, 1, 1, 1, 594, 18, 596], ""),
  (34, .pop, 1, 0, [], ""),
  (35, .iload 4, 2, 0, [], ""),
  (37, .iload_n 2, 1, 0, [], ""),
  (38, .if_icmp .ge 23, 3, 0, [31], ""),
  (41, .iload 4, 2, 0, [], ""),
  (43, .iload_n 1, 1, 0, [], ""),
  (44, .if_icmp .lt 13, 3, 0, [29], ""),
  (47, .aload_n 0, 1, 0, [], ""),
  (48, .getfield 38, 3, 0, [1, 4, 204], ""),
  (51, .getstatic 214, 3, 0, [2, 84, 84, 637], ""),
  (54, .if_acmp .ne 7, 3, 0, [31], ""),
  (57, .iconst 1, 1, 0, [], ""),
  (58, .goto 4, 3, 0, [32], ""),
  (61, .iconst 0, 1, 0, [], ""),
  (62, .istore_n 3, 1, 0, [], ""),
  (63, .iload_n 3, 1, 0, [], ""),
  (64, .ifCond .eq 10, 3, 0, [38], ""),
  (67, .aload_n 0, 1, 0, [], ""),
  (68, .getstatic 214, 3, 0, [2, 84, 84, 637], ""),
  (71, .invokevirtual 85, 3, 1, [37, 2, 1, 1, 432, 7, 434], ""),
  (74, .iinc 4 1, 3, 0, [], ""),
  (77, .goto (-57), 3, 0, [11], ""),
  (80, .aload_n 0, 1, 0, [], ""),
  (81, .getstatic 166, 3, 0, [2, 83, 83, 532], ""),
  (84, .invokevirtual 85, 3, 1, [37, 2, 1, 1, 432, 7, 434], ""),
  (87, .return_, 1, 7, [], "")])
set_option maxRecDepth 100000 in
/-- QueryReader$Grammar.cast()V -/
def qm_72 : ai_M := (⟨"QueryReader$Grammar", "cast", "()V"⟩, prog_3_method_48_code, 1, (Option.none : Option Jvm.ClassFile.FieldType), [], [], [
  (0, .aload_n 0, 1, 0, [], ""),
  (1, .getstatic 518, 3, 0, [2, 11, 11, 693], ""),
  (4, .invokevirtual 85, 3, 1, [37, 2, 1, 1, 432, 7, 434], ""),
  (7, .aload_n 0, 1, 0, [], ""),
  (8, .getstatic 157, 3, 0, [2, 82, 82, 523], ""),
  (11, .invokevirtual 85, 3, 1, [37, 2, 1, 1, 432, 7, 434], ""),
  (14, .aload_n 0, 1, 0, [], ""),
  (15, .invokevirtual 226, 3, 1, [55, 1, 1, 1, 594, 18, 596], ""),
  (18, .pop, 1, 0, [], ""),
  (19, .aload_n 0, 1, 0, [], ""),
  (20, .getstatic 406, 3, 0, [2, 3, 3, 636], ""),
  (23, .invokevirtual 85, 3, 1, [37, 2, 1, 1, 432, 7, 434], ""),
  (26, .aload_n 0, 1, 0, [], ""),
  (27, .getstatic 241, 3, 0, [2, 35, 35, 562], ""),
  (30, .invokevirtual 217, 3, 1, [50, 2, 1, 1, 563, 14, 565], ""),
  (33, .ifCond .ne 10, 3, 0, [19], ""),
  (36, .aload_n 0, 1, 0, [], ""),
  (37, .getstatic 244, 3, 0, [2, 72, 72, 567], ""),
  (40, .invokevirtual 85, 3, 1, [37, 2, 1, 1, 432, 7, 434], ""),
  (43, .aload_n 0, 1, 0, [], ""),
  (44, .getstatic 166, 3, 0, [2, 83, 83, 532], ""),
  (47, .invokevirtual 85, 3, 1, [37, 2, 1, 1, 432, 7, 434], ""),
  (50, .return_, 1, 7, [], "")])
set_option maxRecDepth 100000 in
/-- QueryReader$Grammar.aggregate()V -/
def qm_73 : ai_M := (⟨"QueryReader$Grammar", "aggregate", "()V"⟩, prog_3_method_49_code, 2, (Option.none : Option Jvm.ClassFile.FieldType), [], [], [
  (0, .aload_n 0, 1, 0, [], ""),
  (1, .getfield 38, 3, 0, [1, 4, 204], ""),
  (4, .getstatic 521, 3, 0, [2, 16, 16, 698], ""),
  (7, .if_acmp .ne 7, 3, 0, [6], ""),
  (10, .iconst 1, 1, 0, [], ""),
  (11, .goto 4, 3, 0, [7], ""),
  (14, .iconst 0, 1, 0, [], ""),
  (15, .istore_n 1, 1, 0, [], ""),
  (16, .aload_n 0, 1, 0, [], ""),
  (17, .aload_n 0, 1, 0, [], ""),
  (18, .getfield 38, 3, 0, [1, 4, 204], ""),
  (21, .invokevirtual 85, 3, 1, [37, 2, 1, 1, 432, 7, 434], ""),
  (24, .aload_n 0, 1, 0, [], ""),
  (25, .getstatic 157, 3, 0, [2, 82, 82, 523], ""),
  (28, .invokevirtual 85, 3, 1, [37, 2, 1, 1, 432, 7, 434], ""),
  (31, .iload_n 1, 1, 0, [], ""),
  (32, .ifCond .eq 13, 3, 0, [21], ""),
  (35, .aload_n 0, 1, 0, [], ""),
  (36, .getstatic 373, 3, 0, [2, 89, 89, 631], ""),
  (39, .invokevirtual 217, 3, 1, [50, 2, 1, 1, 563, 14, 565], ""),
  (42, .ifCond .ne 16, 3, 0, [28], ""),
  (45, .aload_n 0, 1, 0, [], ""),
  (46, .getstatic 370, 3, 0, [2, 22, 22, 630], ""),
  (49, .invokevirtual 217, 3, 1, [50, 2, 1, 1, 563, 14, 565], ""),
  (52, .pop, 1, 0, [], ""),
  (53, .aload_n 0, 1, 0, [], ""),
  (54, .invokevirtual 226, 3, 1, [55, 1, 1, 1, 594, 18, 596], ""),
  (57, .pop, 1, 0, [], ""),
  (58, .aload_n 0, 1, 0, [], ""),
  (59, .getstatic 166, 3, 0, [2, 83, 83, 532], ""),
  (62, .invokevirtual 85, 3, 1, [37, 2, 1, 1, 432, 7, 434], ""),
  (65, .return_, 1, 7, [], "")])
set_option maxRecDepth 100000 in
/-- QueryReader$Grammar.combine(IIII)I -/
def qm_74 : ai_M := (⟨"QueryReader$Grammar", "combine", "(IIII)I"⟩, prog_3_method_41_code, 8, (Option.some Jvm.ClassFile.FieldType.int), [], [], [
  (0, .iload_n 2, 1, 0, [], ""),
  (1, .istore 5, 2, 0, [], ""),
  (3, .iload_n 3, 1, 0, [], ""),
  (4, .istore 6, 2, 0, [], ""),
  (6, .iconst 0, 1, 0, [], ""),
  (7, .istore 7, 2, 0, [], ""),
  (9, .iload 7, 2, 0, [], ""),
  (11, .sipush 300, 3, 0, [], ""),
  (14, .if_icmp .ge 84, 3, 0, [50], ""),
  (17, .aload_n 0, 1, 0, [], ""),
  (18, .iload_n 1, 1, 0, [], ""),
  (19, .iload 4, 2, 0, [], ""),
  (21, .invokevirtual 480, 3, 1, [75, 3, 1, 1, 703, 38, 705], ""),
  (24, .ifCond .eq 74, 3, 0, [50], ""),
  (27, .aload_n 0, 1, 0, [], ""),
  (28, .dup, 1, 0, [], ""),
  (29, .getfield 54, 3, 0, [1, 9, 209], ""),
  (32, .iconst 1, 1, 0, [], ""),
  (33, .isub, 1, 0, [], ""),
  (34, .putfield 54, 3, 0, [1, 9, 209], ""),
  (37, .aload_n 0, 1, 0, [], ""),
  (38, .getfield 51, 3, 0, [1, 8, 208], ""),
  (41, .aload_n 0, 1, 0, [], ""),
  (42, .getfield 54, 3, 0, [1, 9, 209], ""),
  (45, .iaload, 1, 0, [], ""),
  (46, .istore 5, 2, 0, [], ""),
  (48, .aload_n 0, 1, 0, [], ""),
  (49, .getfield 47, 3, 0, [1, 7, 207], ""),
  (52, .aload_n 0, 1, 0, [], ""),
  (53, .getfield 54, 3, 0, [1, 9, 209], ""),
  (56, .iaload, 1, 0, [], ""),
  (57, .istore 6, 2, 0, [], ""),
  (59, .aload_n 0, 1, 0, [], ""),
  (60, .getfield 18, 3, 0, [1, 1, 200], ""),
  (63, .ldc_w 469, 3, 0, [2, 1008, 8], ""),
  (66, .invokevirtual 188, 3, 1, [38, 2, 1, 3, 500, 502, 501], ""),
  (69, .iload 6, 2, 0, [], ""),
  (71, .iconst 3, 1, 0, [], ""),
  (72, .if_icmp .eq 10, 3, 0, [42], ""),
  (75, .iload 6, 2, 0, [], ""),
  (77, .bipush 8, 2, 0, [], ""),
  (79, .if_icmp .ne 13, 3, 0, [48], ""),
  (82, .aload_n 0, 1, 0, [], ""),
  (83, .dup, 1, 0, [], ""),
  (84, .getfield 41, 3, 0, [1, 5, 205], ""),
  (87, .iconst 1, 1, 0, [], ""),
  (88, .isub, 1, 0, [], ""),
  (89, .putfield 41, 3, 0, [1, 5, 205], ""),
  (92, .iinc 7 1, 3, 0, [], ""),
  (95, .goto (-86), 3, 0, [6], ""),
  (98, .iload 4, 2, 0, [], ""),
  (100, .ifCond .eq 37, 3, 0, [67], ""),
  (103, .aload_n 0, 1, 0, [], ""),
  (104, .iload 5, 2, 0, [], ""),
  (106, .iload 4, 2, 0, [], ""),
  (108, .invokevirtual 474, 3, 1, [57, 3, 1, 1, 603, 20, 605], ""),
  (111, .iload 6, 2, 0, [], ""),
  (113, .iload 4, 2, 0, [], ""),
  (115, .if_icmp .ne 13, 3, 0, [63], ""),
  (118, .aload_n 0, 1, 0, [], ""),
  (119, .getfield 18, 3, 0, [1, 1, 200], ""),
  (122, .invokevirtual 484, 3, 1, [76, 1, 1, 3, 707, 709, 708], ""),
  (125, .goto 12, 3, 0, [67], ""),
  (128, .aload_n 0, 1, 0, [], ""),
  (129, .getfield 18, 3, 0, [1, 1, 200], ""),
  (132, .iload 5, 2, 0, [], ""),
  (134, .invokevirtual 460, 3, 1, [77, 2, 1, 3, 712, 714, 713], ""),
  (137, .iload 6, 2, 0, [], ""),
  (139, .ireturn, 1, 5, [], "")])
set_option maxRecDepth 100000 in
/-- QueryReader$Grammar.isPendingAbove(II)Z -/
def qm_75 : ai_M := (⟨"QueryReader$Grammar", "isPendingAbove", "(II)Z"⟩, prog_3_method_42_code, 3, (Option.some Jvm.ClassFile.FieldType.boolean), [], [], [
  (0, .aload_n 0, 1, 0, [], ""),
  (1, .getfield 54, 3, 0, [1, 9, 209], ""),
  (4, .iload_n 1, 1, 0, [], ""),
  (5, .if_icmp .le 53, 3, 0, [30], ""),
  (8, .aload_n 0, 1, 0, [], ""),
  (9, .getfield 54, 3, 0, [1, 9, 209], ""),
  (12, .ifCond .le 46, 3, 0, [30], ""),
  (15, .aload_n 0, 1, 0, [], ""),
  (16, .getfield 54, 3, 0, [1, 9, 209], ""),
  (19, .aload_n 0, 1, 0, [], ""),
  (20, .getfield 47, 3, 0, [1, 7, 207], ""),
  (23, .arraylength, 1, 0, [], ""),
  (24, .if_icmp .gt 34, 3, 0, [30], ""),
  (27, .aload_n 0, 1, 0, [], ""),
  (28, .getfield 54, 3, 0, [1, 9, 209], ""),
  (31, .aload_n 0, 1, 0, [], ""),
  (32, .getfield 51, 3, 0, [1, 8, 208], ""),
  (35, .arraylength, 1, 0, [], ""),
  (36, .if_icmp .gt 22, 3, 0, [30], ""),
  (39, .aload_n 0, 1, 0, [], ""),
  (40, .getfield 47, 3, 0, [1, 7, 207], ""),
  (43, .aload_n 0, 1, 0, [], ""),
  (44, .getfield 54, 3, 0, [1, 9, 209], ""),
  (47, .iconst 1, 1, 0, [], ""),
  (48, .isub, 1, 0, [], ""),
  (49, .iaload, 1, 0, [], ""),
  (50, .iload_n 2, 1, 0, [], ""),
  (51, .if_icmp .lt 7, 3, 0, [30], ""),
  (54, .iconst 1, 1, 0, [], ""),
  (55, .goto 4, 3, 0, [31], ""),
  (58, .iconst 0, 1, 0, [], ""),
  (59, .ireturn, 1, 5, [], "")])
set_option maxRecDepth 100000 in
/-- QueryReader$Row.reopen()V -/
def qm_76 : ai_M := (⟨"QueryReader$Row", "reopen", "()V"⟩, prog_5_method_12_code, 1, (Option.none : Option Jvm.ClassFile.FieldType), [], [], [
  (0, .aload_n 0, 1, 0, [], ""),
  (1, .aload_n 0, 1, 0, [], ""),
  (2, .getfield 15, 3, 0, [3, 1, 166], ""),
  (5, .iconst 2, 1, 0, [], ""),
  (6, .isub, 1, 0, [], ""),
  (7, .invokevirtual 50, 3, 1, [34, 2, 1, 3, 711, 418, 417], ""),
  (10, .return_, 1, 7, [], "")])
set_option maxRecDepth 100000 in
/-- QueryReader$Row.openAt(I)V -/
def qm_77 : ai_M := (⟨"QueryReader$Row", "openAt", "(I)V"⟩, prog_5_method_11_code, 3, (Option.none : Option Jvm.ClassFile.FieldType), [], [], [
  (0, .aload_n 0, 1, 0, [], ""),
  (1, .getfield 15, 3, 0, [3, 1, 166], ""),
  (4, .iload_n 1, 1, 0, [], ""),
  (5, .isub, 1, 0, [], ""),
  (6, .istore_n 2, 1, 0, [], ""),
  (7, .aload_n 0, 1, 0, [], ""),
  (8, .bipush 32, 2, 0, [], ""),
  (10, .invokevirtual 26, 3, 1, [39, 2, 1, 3, 506, 508, 507], ""),
  (13, .aload_n 0, 1, 0, [], ""),
  (14, .bipush 32, 2, 0, [], ""),
  (16, .invokevirtual 26, 3, 1, [39, 2, 1, 3, 506, 508, 507], ""),
  (19, .iload_n 1, 1, 0, [], ""),
  (20, .ifCond .lt 53, 3, 0, [43], ""),
  (23, .iload_n 2, 1, 0, [], ""),
  (24, .ifCond .lt 49, 3, 0, [43], ""),
  (27, .aload_n 0, 1, 0, [], ""),
  (28, .getfield 15, 3, 0, [3, 1, 166], ""),
  (31, .aload_n 0, 1, 0, [], ""),
  (32, .getfield 11, 3, 0, [3, 0, 165], ""),
  (35, .arraylength, 1, 0, [], ""),
  (36, .if_icmp .gt 37, 3, 0, [43], ""),
  (39, .aload_n 0, 1, 0, [], ""),
  (40, .getfield 11, 3, 0, [3, 0, 165], ""),
  (43, .iload_n 1, 1, 0, [], ""),
  (44, .aload_n 0, 1, 0, [], ""),
  (45, .getfield 11, 3, 0, [3, 0, 165], ""),
  (48, .iload_n 1, 1, 0, [], ""),
  (49, .iconst 2, 1, 0, [], ""),
  (50, .iadd, 1, 0, [], ""),
  (51, .iload_n 2, 1, 0, [], ""),
  (52, .invokestatic 30, 3, 4, [716, 397, 396, 137], ""),
  (55, .aload_n 0, 1, 0, [], ""),
  (56, .getfield 11, 3, 0, [3, 0, 165], ""),
  (59, .iload_n 1, 1, 0, [], ""),
  (60, .bipush 40, 2, 0, [], ""),
  (62, .bastore, 1, 0, [], ""),
  (63, .aload_n 0, 1, 0, [], ""),
  (64, .getfield 11, 3, 0, [3, 0, 165], ""),
  (67, .iload_n 1, 1, 0, [], ""),
  (68, .iconst 1, 1, 0, [], ""),
  (69, .iadd, 1, 0, [], ""),
  (70, .bipush 32, 2, 0, [], ""),
  (72, .bastore, 1, 0, [], ""),
  (73, .return_, 1, 7, [], "")])
set_option maxRecDepth 100000 in
/-- QueryReader$Grammar.members()V -/
def qm_78 : ai_M := (⟨"QueryReader$Grammar", "members", "()V"⟩, prog_3_method_38_code, 1, (Option.none : Option Jvm.ClassFile.FieldType), [], [], [
  (0, .aload_n 0, 1, 0, [], ""),
  (1, .getstatic 157, 3, 0, [2, 82, 82, 523], ""),
  (4, .invokevirtual 85, 3, 1, [37, 2, 1, 1, 432, 7, 434], ""),
  (7, .aload_n 0, 1, 0, [], ""),
  (8, .getfield 38, 3, 0, [1, 4, 204], ""),
  (11, .getstatic 303, 3, 0, [2, 65, 65, 629], ""),
  (14, .if_acmp .ne 10, 3, 0, [10], ""),
  (17, .aload_n 0, 1, 0, [], ""),
  (18, .invokevirtual 110, 3, 1, [62, 1, 1, 1, 625, 25, 627], ""),
  (21, .goto 7, 3, 0, [12], ""),
  (24, .aload_n 0, 1, 0, [], ""),
  (25, .invokevirtual 309, 3, 1, [67, 1, 1, 1, 660, 30, 662], ""),
  (28, .aload_n 0, 1, 0, [], ""),
  (29, .getstatic 166, 3, 0, [2, 83, 83, 532], ""),
  (32, .invokevirtual 85, 3, 1, [37, 2, 1, 1, 432, 7, 434], ""),
  (35, .return_, 1, 7, [], "")])
set_option maxRecDepth 100000 in
/-- QueryReader$Grammar.reference()V -/
def qm_79 : ai_M := (⟨"QueryReader$Grammar", "reference", "()V"⟩, prog_3_method_20_code, 1, (Option.none : Option Jvm.ClassFile.FieldType), [], [], [
  (0, .aload_n 0, 1, 0, [], ""),
  (1, .invokevirtual 125, 3, 1, [45, 1, 1, 1, 539, 12, 541], ""),
  (4, .aload_n 0, 1, 0, [], ""),
  (5, .getstatic 274, 3, 0, [2, 53, 53, 643], ""),
  (8, .invokevirtual 217, 3, 1, [50, 2, 1, 1, 563, 14, 565], ""),
  (11, .ifCond .ne 14, 3, 0, [11], ""),
  (14, .aload_n 0, 1, 0, [], ""),
  (15, .getfield 18, 3, 0, [1, 1, 200], ""),
  (18, .ldc_w 277, 3, 0, [2, 1009, 9], ""),
  (21, .invokevirtual 188, 3, 1, [38, 2, 1, 3, 500, 502, 501], ""),
  (24, .return_, 1, 7, [], ""),
  (25, .aload_n 0, 1, 0, [], ""),
  (26, .getstatic 279, 3, 0, [2, 20, 20, 731], ""),
  (29, .invokevirtual 85, 3, 1, [37, 2, 1, 1, 432, 7, 434], ""),
  (32, .aload_n 0, 1, 0, [], ""),
  (33, .getstatic 282, 3, 0, [2, 67, 67, 732], ""),
  (36, .invokevirtual 217, 3, 1, [50, 2, 1, 1, 563, 14, 565], ""),
  (39, .ifCond .eq 13, 3, 0, [22], ""),
  (42, .aload_n 0, 1, 0, [], ""),
  (43, .getstatic 250, 3, 0, [2, 50, 50, 569], ""),
  (46, .invokevirtual 85, 3, 1, [37, 2, 1, 1, 432, 7, 434], ""),
  (49, .goto 20, 3, 0, [29], ""),
  (52, .aload_n 0, 1, 0, [], ""),
  (53, .getstatic 285, 3, 0, [2, 9, 9, 733], ""),
  (56, .invokevirtual 217, 3, 1, [50, 2, 1, 1, 563, 14, 565], ""),
  (59, .ifCond .ne 10, 3, 0, [29], ""),
  (62, .aload_n 0, 1, 0, [], ""),
  (63, .getstatic 288, 3, 0, [2, 62, 62, 734], ""),
  (66, .invokevirtual 85, 3, 1, [37, 2, 1, 1, 432, 7, 434], ""),
  (69, .return_, 1, 7, [], "")])
end
section
/-! PRINTED BY wip/whole/print.py: methods. -/
set_option maxRecDepth 100000 in
/-- QueryReader$Grammar.namesInBrackets()V -/
def qm_80 : ai_M := (⟨"QueryReader$Grammar", "namesInBrackets", "()V"⟩, prog_3_method_16_code, 2, (Option.none : Option Jvm.ClassFile.FieldType), [], [], [
  (0, .aload_n 0, 1, 0, [], ""),
  (1, .getstatic 157, 3, 0, [2, 82, 82, 523], ""),
  (4, .invokevirtual 85, 3, 1, [37, 2, 1, 1, 432, 7, 434], ""),
  (7, .aload_n 0, 1, 0, [], ""),
  (8, .invokevirtual 125, 3, 1, [45, 1, 1, 1, 539, 12, 541], ""),
  (11, .iconst 0, 1, 0, [], ""),
  (12, .istore_n 1, 1, 0, [], ""),
  (13, .iload_n 1, 1, 0, [], ""),
  (14, .ldc 213, 2, 0, [1, 1000000, 557], ""),
  (16, .if_icmp .ge 23, 3, 0, [18], ""),
  (19, .aload_n 0, 1, 0, [], ""),
  (20, .getstatic 214, 3, 0, [2, 84, 84, 637], ""),
  (23, .invokevirtual 217, 3, 1, [50, 2, 1, 1, 563, 14, 565], ""),
  (26, .ifCond .eq 13, 3, 0, [18], ""),
  (29, .aload_n 0, 1, 0, [], ""),
  (30, .invokevirtual 125, 3, 1, [45, 1, 1, 1, 539, 12, 541], ""),
  (33, .iinc 1 1, 3, 0, [], ""),
  (36, .goto (-23), 3, 0, [7], ""),
  (39, .aload_n 0, 1, 0, [], ""),
  (40, .getstatic 166, 3, 0, [2, 83, 83, 532], ""),
  (43, .invokevirtual 85, 3, 1, [37, 2, 1, 1, 432, 7, 434], ""),
  (46, .return_, 1, 7, [], "")])
set_option maxRecDepth 100000 in
/-- QueryReader$Grammar.index()I -/
def qm_81 : ai_M := (⟨"QueryReader$Grammar", "index", "()I"⟩, prog_3_method_21_code, 1, (Option.some Jvm.ClassFile.FieldType.int), [], [], [
  (0, .aload_n 0, 1, 0, [], ""),
  (1, .getstatic 229, 3, 0, [2, 76, 76, 735], ""),
  (4, .invokevirtual 217, 3, 1, [50, 2, 1, 1, 563, 14, 565], ""),
  (7, .pop, 1, 0, [], ""),
  (8, .aload_n 0, 1, 0, [], ""),
  (9, .getstatic 291, 3, 0, [2, 32, 32, 744], ""),
  (12, .invokevirtual 85, 3, 1, [37, 2, 1, 1, 432, 7, 434], ""),
  (15, .aload_n 0, 1, 0, [], ""),
  (16, .invokevirtual 125, 3, 1, [45, 1, 1, 1, 539, 12, 541], ""),
  (19, .aload_n 0, 1, 0, [], ""),
  (20, .getstatic 274, 3, 0, [2, 53, 53, 643], ""),
  (23, .invokevirtual 85, 3, 1, [37, 2, 1, 1, 432, 7, 434], ""),
  (26, .aload_n 0, 1, 0, [], ""),
  (27, .invokevirtual 125, 3, 1, [45, 1, 1, 1, 539, 12, 541], ""),
  (30, .aload_n 0, 1, 0, [], ""),
  (31, .invokevirtual 238, 3, 1, [80, 1, 1, 1, 736, 41, 738], ""),
  (34, .iconst 2, 1, 0, [], ""),
  (35, .ireturn, 1, 5, [], "")])
set_option maxRecDepth 100000 in
/-- QueryReader$Grammar.drop()I -/
def qm_82 : ai_M := (⟨"QueryReader$Grammar", "drop", "()I"⟩, prog_3_method_22_code, 2, (Option.some Jvm.ClassFile.FieldType.int), [], [], [
  (0, .aload_n 0, 1, 0, [], ""),
  (1, .getstatic 294, 3, 0, [2, 23, 23, 749], ""),
  (4, .invokevirtual 85, 3, 1, [37, 2, 1, 1, 432, 7, 434], ""),
  (7, .aload_n 0, 1, 0, [], ""),
  (8, .getfield 38, 3, 0, [1, 4, 204], ""),
  (11, .getstatic 291, 3, 0, [2, 32, 32, 744], ""),
  (14, .if_acmp .ne 7, 3, 0, [9], ""),
  (17, .iconst 1, 1, 0, [], ""),
  (18, .goto 4, 3, 0, [10], ""),
  (21, .iconst 0, 1, 0, [], ""),
  (22, .istore_n 1, 1, 0, [], ""),
  (23, .aload_n 0, 1, 0, [], ""),
  (24, .iload_n 1, 1, 0, [], ""),
  (25, .ifCond .eq 9, 3, 0, [16], ""),
  (28, .getstatic 291, 3, 0, [2, 32, 32, 744], ""),
  (31, .goto 6, 3, 0, [17], ""),
  (34, .getstatic 89, 3, 0, [2, 71, 71, 534], ""),
  (37, .invokevirtual 85, 3, 1, [37, 2, 1, 1, 432, 7, 434], ""),
  (40, .aload_n 0, 1, 0, [], ""),
  (41, .invokevirtual 125, 3, 1, [45, 1, 1, 1, 539, 12, 541], ""),
  (44, .iload_n 1, 1, 0, [], ""),
  (45, .ifCond .eq 7, 3, 0, [24], ""),
  (48, .iconst 4, 1, 0, [], ""),
  (49, .goto 4, 3, 0, [25], ""),
  (52, .iconst 3, 1, 0, [], ""),
  (53, .ireturn, 1, 5, [], "")])
set_option maxRecDepth 100000 in
/-- QueryReader$Grammar.insert()I -/
def qm_83 : ai_M := (⟨"QueryReader$Grammar", "insert", "()I"⟩, prog_3_method_23_code, 3, (Option.some Jvm.ClassFile.FieldType.int), [], [], [
  (0, .aload_n 0, 1, 0, [], ""),
  (1, .getstatic 297, 3, 0, [2, 34, 34, 754], ""),
  (4, .invokevirtual 85, 3, 1, [37, 2, 1, 1, 432, 7, 434], ""),
  (7, .aload_n 0, 1, 0, [], ""),
  (8, .getstatic 300, 3, 0, [2, 36, 36, 755], ""),
  (11, .invokevirtual 85, 3, 1, [37, 2, 1, 1, 432, 7, 434], ""),
  (14, .aload_n 0, 1, 0, [], ""),
  (15, .invokevirtual 125, 3, 1, [45, 1, 1, 1, 539, 12, 541], ""),
  (18, .aload_n 0, 1, 0, [], ""),
  (19, .getfield 38, 3, 0, [1, 4, 204], ""),
  (22, .getstatic 157, 3, 0, [2, 82, 82, 523], ""),
  (25, .if_acmp .ne 7, 3, 0, [14], ""),
  (28, .aload_n 0, 1, 0, [], ""),
  (29, .invokevirtual 238, 3, 1, [80, 1, 1, 1, 736, 41, 738], ""),
  (32, .aload_n 0, 1, 0, [], ""),
  (33, .getfield 38, 3, 0, [1, 4, 204], ""),
  (36, .getstatic 303, 3, 0, [2, 65, 65, 629], ""),
  (39, .if_acmp .ne 9, 3, 0, [22], ""),
  (42, .aload_n 0, 1, 0, [], ""),
  (43, .invokevirtual 110, 3, 1, [62, 1, 1, 1, 625, 25, 627], ""),
  (46, .iconst 5, 1, 0, [], ""),
  (47, .ireturn, 1, 5, [], ""),
  (48, .iconst 1, 1, 0, [], ""),
  (49, .istore_n 1, 1, 0, [], ""),
  (50, .aload_n 0, 1, 0, [], ""),
  (51, .getstatic 306, 3, 0, [2, 79, 79, 756], ""),
  (54, .invokevirtual 85, 3, 1, [37, 2, 1, 1, 432, 7, 434], ""),
  (57, .iconst 0, 1, 0, [], ""),
  (58, .istore_n 2, 1, 0, [], ""),
  (59, .iload_n 2, 1, 0, [], ""),
  (60, .ldc 213, 2, 0, [1, 1000000, 557], ""),
  (62, .if_icmp .ge 39, 3, 0, [48], ""),
  (65, .iload_n 1, 1, 0, [], ""),
  (66, .ifCond .eq 35, 3, 0, [48], ""),
  (69, .aload_n 0, 1, 0, [], ""),
  (70, .getstatic 157, 3, 0, [2, 82, 82, 523], ""),
  (73, .invokevirtual 85, 3, 1, [37, 2, 1, 1, 432, 7, 434], ""),
  (76, .aload_n 0, 1, 0, [], ""),
  (77, .invokevirtual 309, 3, 1, [67, 1, 1, 1, 660, 30, 662], ""),
  (80, .aload_n 0, 1, 0, [], ""),
  (81, .getstatic 166, 3, 0, [2, 83, 83, 532], ""),
  (84, .invokevirtual 85, 3, 1, [37, 2, 1, 1, 432, 7, 434], ""),
  (87, .aload_n 0, 1, 0, [], ""),
  (88, .getstatic 214, 3, 0, [2, 84, 84, 637], ""),
  (91, .invokevirtual 217, 3, 1, [50, 2, 1, 1, 563, 14, 565], ""),
  (94, .istore_n 1, 1, 0, [], ""),
  (95, .iinc 2 1, 3, 0, [], ""),
  (98, .goto (-39), 3, 0, [29], ""),
  (101, .iconst 5, 1, 0, [], ""),
  (102, .ireturn, 1, 5, [], "")])
set_option maxRecDepth 100000 in
/-- QueryReader$Grammar.update()I -/
def qm_84 : ai_M := (⟨"QueryReader$Grammar", "update", "()I"⟩, prog_3_method_24_code, 3, (Option.some Jvm.ClassFile.FieldType.int), [], [], [
  (0, .iconst 1, 1, 0, [], ""),
  (1, .istore_n 1, 1, 0, [], ""),
  (2, .aload_n 0, 1, 0, [], ""),
  (3, .getstatic 312, 3, 0, [2, 77, 77, 761], ""),
  (6, .invokevirtual 85, 3, 1, [37, 2, 1, 1, 432, 7, 434], ""),
  (9, .aload_n 0, 1, 0, [], ""),
  (10, .invokevirtual 125, 3, 1, [45, 1, 1, 1, 539, 12, 541], ""),
  (13, .aload_n 0, 1, 0, [], ""),
  (14, .getstatic 282, 3, 0, [2, 67, 67, 732], ""),
  (17, .invokevirtual 85, 3, 1, [37, 2, 1, 1, 432, 7, 434], ""),
  (20, .iconst 0, 1, 0, [], ""),
  (21, .istore_n 2, 1, 0, [], ""),
  (22, .iload_n 2, 1, 0, [], ""),
  (23, .ldc 213, 2, 0, [1, 1000000, 557], ""),
  (25, .if_icmp .ge 37, 3, 0, [31], ""),
  (28, .iload_n 1, 1, 0, [], ""),
  (29, .ifCond .eq 33, 3, 0, [31], ""),
  (32, .aload_n 0, 1, 0, [], ""),
  (33, .invokevirtual 125, 3, 1, [45, 1, 1, 1, 539, 12, 541], ""),
  (36, .aload_n 0, 1, 0, [], ""),
  (37, .getstatic 315, 3, 0, [2, 93, 93, 762], ""),
  (40, .invokevirtual 85, 3, 1, [37, 2, 1, 1, 432, 7, 434], ""),
  (43, .aload_n 0, 1, 0, [], ""),
  (44, .invokevirtual 226, 3, 1, [55, 1, 1, 1, 594, 18, 596], ""),
  (47, .pop, 1, 0, [], ""),
  (48, .aload_n 0, 1, 0, [], ""),
  (49, .getstatic 214, 3, 0, [2, 84, 84, 637], ""),
  (52, .invokevirtual 217, 3, 1, [50, 2, 1, 1, 563, 14, 565], ""),
  (55, .istore_n 1, 1, 0, [], ""),
  (56, .iinc 2 1, 3, 0, [], ""),
  (59, .goto (-37), 3, 0, [12], ""),
  (62, .aload_n 0, 1, 0, [], ""),
  (63, .invokevirtual 318, 3, 1, [66, 1, 1, 1, 653, 29, 655], ""),
  (66, .bipush 6, 2, 0, [], ""),
  (68, .ireturn, 1, 5, [], "")])
set_option maxRecDepth 100000 in
/-- QueryReader$Grammar.delete()I -/
def qm_85 : ai_M := (⟨"QueryReader$Grammar", "delete", "()I"⟩, prog_3_method_25_code, 1, (Option.some Jvm.ClassFile.FieldType.int), [], [], [
  (0, .aload_n 0, 1, 0, [], ""),
  (1, .getstatic 279, 3, 0, [2, 20, 20, 731], ""),
  (4, .invokevirtual 85, 3, 1, [37, 2, 1, 1, 432, 7, 434], ""),
  (7, .aload_n 0, 1, 0, [], ""),
  (8, .getstatic 321, 3, 0, [2, 28, 28, 638], ""),
  (11, .invokevirtual 85, 3, 1, [37, 2, 1, 1, 432, 7, 434], ""),
  (14, .aload_n 0, 1, 0, [], ""),
  (15, .invokevirtual 125, 3, 1, [45, 1, 1, 1, 539, 12, 541], ""),
  (18, .aload_n 0, 1, 0, [], ""),
  (19, .invokevirtual 318, 3, 1, [66, 1, 1, 1, 653, 29, 655], ""),
  (22, .bipush 7, 2, 0, [], ""),
  (24, .ireturn, 1, 5, [], "")])
set_option maxRecDepth 100000 in
/-- QueryReader$Grammar.beginning()I -/
def qm_86 : ai_M := (⟨"QueryReader$Grammar", "beginning", "()I"⟩, prog_3_method_27_code, 1, (Option.some Jvm.ClassFile.FieldType.int), [], [], [
  (0, .aload_n 0, 1, 0, [], ""),
  (1, .getstatic 327, 3, 0, [2, 6, 6, 771], ""),
  (4, .invokevirtual 85, 3, 1, [37, 2, 1, 1, 432, 7, 434], ""),
  (7, .aload_n 0, 1, 0, [], ""),
  (8, .getstatic 330, 3, 0, [2, 60, 60, 772], ""),
  (11, .invokevirtual 217, 3, 1, [50, 2, 1, 1, 563, 14, 565], ""),
  (14, .ifCond .eq 23, 3, 0, [15], ""),
  (17, .aload_n 0, 1, 0, [], ""),
  (18, .getstatic 333, 3, 0, [2, 15, 15, 773], ""),
  (21, .invokevirtual 217, 3, 1, [50, 2, 1, 1, 563, 14, 565], ""),
  (24, .ifCond .ne 33, 3, 0, [23], ""),
  (27, .aload_n 0, 1, 0, [], ""),
  (28, .getstatic 336, 3, 0, [2, 75, 75, 774], ""),
  (31, .invokevirtual 85, 3, 1, [37, 2, 1, 1, 432, 7, 434], ""),
  (34, .goto 23, 3, 0, [23], ""),
  (37, .aload_n 0, 1, 0, [], ""),
  (38, .getstatic 339, 3, 0, [2, 66, 66, 775], ""),
  (41, .invokevirtual 217, 3, 1, [50, 2, 1, 1, 563, 14, 565], ""),
  (44, .ifCond .ne 13, 3, 0, [23], ""),
  (47, .aload_n 0, 1, 0, [], ""),
  (48, .getfield 18, 3, 0, [1, 1, 200], ""),
  (51, .ldc_w 342, 3, 0, [2, 1010, 10], ""),
  (54, .invokevirtual 188, 3, 1, [38, 2, 1, 3, 500, 502, 501], ""),
  (57, .bipush 9, 2, 0, [], ""),
  (59, .ireturn, 1, 5, [], "")])
set_option maxRecDepth 100000 in
/-- QueryReader$Grammar.commit()I -/
def qm_87 : ai_M := (⟨"QueryReader$Grammar", "commit", "()I"⟩, prog_3_method_28_code, 1, (Option.some Jvm.ClassFile.FieldType.int), [], [], [
  (0, .aload_n 0, 1, 0, [], ""),
  (1, .getstatic 343, 3, 0, [2, 14, 14, 780], ""),
  (4, .invokevirtual 85, 3, 1, [37, 2, 1, 1, 432, 7, 434], ""),
  (7, .aload_n 0, 1, 0, [], ""),
  (8, .getstatic 346, 3, 0, [2, 58, 58, 781], ""),
  (11, .invokevirtual 217, 3, 1, [50, 2, 1, 1, 563, 14, 565], ""),
  (14, .ifCond .ne 6, 3, 0, [9], ""),
  (17, .bipush 10, 2, 0, [], ""),
  (19, .ireturn, 1, 5, [], ""),
  (20, .aload_n 0, 1, 0, [], ""),
  (21, .invokevirtual 134, 3, 1, [54, 1, 1, 1, 587, 17, 589], ""),
  (24, .bipush 16, 2, 0, [], ""),
  (26, .ireturn, 1, 5, [], "")])
set_option maxRecDepth 100000 in
/-- QueryReader$Grammar.rollback()I -/
def qm_88 : ai_M := (⟨"QueryReader$Grammar", "rollback", "()I"⟩, prog_3_method_29_code, 1, (Option.some Jvm.ClassFile.FieldType.int), [], [], [
  (0, .aload_n 0, 1, 0, [], ""),
  (1, .getstatic 349, 3, 0, [2, 63, 63, 786], ""),
  (4, .invokevirtual 85, 3, 1, [37, 2, 1, 1, 432, 7, 434], ""),
  (7, .aload_n 0, 1, 0, [], ""),
  (8, .getstatic 352, 3, 0, [2, 74, 74, 787], ""),
  (11, .invokevirtual 217, 3, 1, [50, 2, 1, 1, 563, 14, 565], ""),
  (14, .ifCond .eq 10, 3, 0, [11], ""),
  (17, .aload_n 0, 1, 0, [], ""),
  (18, .invokevirtual 125, 3, 1, [45, 1, 1, 1, 539, 12, 541], ""),
  (21, .bipush 13, 2, 0, [], ""),
  (23, .ireturn, 1, 5, [], ""),
  (24, .aload_n 0, 1, 0, [], ""),
  (25, .getstatic 346, 3, 0, [2, 58, 58, 781], ""),
  (28, .invokevirtual 217, 3, 1, [50, 2, 1, 1, 563, 14, 565], ""),
  (31, .ifCond .eq 10, 3, 0, [19], ""),
  (34, .aload_n 0, 1, 0, [], ""),
  (35, .invokevirtual 134, 3, 1, [54, 1, 1, 1, 587, 17, 589], ""),
  (38, .bipush 17, 2, 0, [], ""),
  (40, .ireturn, 1, 5, [], ""),
  (41, .bipush 11, 2, 0, [], ""),
  (43, .ireturn, 1, 5, [], "")])
set_option maxRecDepth 100000 in
/-- QueryReader$Grammar.lock()I -/
def qm_89 : ai_M := (⟨"QueryReader$Grammar", "lock", "()I"⟩, prog_3_method_30_code, 1, (Option.some Jvm.ClassFile.FieldType.int), [], [], [
  (0, .aload_n 0, 1, 0, [], ""),
  (1, .getstatic 355, 3, 0, [2, 44, 44, 793], ""),
  (4, .invokevirtual 85, 3, 1, [37, 2, 1, 1, 432, 7, 434], ""),
  (7, .aload_n 0, 1, 0, [], ""),
  (8, .getstatic 89, 3, 0, [2, 71, 71, 534], ""),
  (11, .invokevirtual 85, 3, 1, [37, 2, 1, 1, 432, 7, 434], ""),
  (14, .aload_n 0, 1, 0, [], ""),
  (15, .invokevirtual 125, 3, 1, [45, 1, 1, 1, 539, 12, 541], ""),
  (18, .aload_n 0, 1, 0, [], ""),
  (19, .getstatic 358, 3, 0, [2, 31, 31, 717], ""),
  (22, .invokevirtual 85, 3, 1, [37, 2, 1, 1, 432, 7, 434], ""),
  (25, .aload_n 0, 1, 0, [], ""),
  (26, .getstatic 361, 3, 0, [2, 68, 68, 794], ""),
  (29, .invokevirtual 217, 3, 1, [50, 2, 1, 1, 563, 14, 565], ""),
  (32, .ifCond .ne 10, 3, 0, [18], ""),
  (35, .aload_n 0, 1, 0, [], ""),
  (36, .getstatic 364, 3, 0, [2, 26, 26, 795], ""),
  (39, .invokevirtual 85, 3, 1, [37, 2, 1, 1, 432, 7, 434], ""),
  (42, .aload_n 0, 1, 0, [], ""),
  (43, .getstatic 367, 3, 0, [2, 48, 48, 796], ""),
  (46, .invokevirtual 85, 3, 1, [37, 2, 1, 1, 432, 7, 434], ""),
  (49, .bipush 14, 2, 0, [], ""),
  (51, .ireturn, 1, 5, [], "")])
set_option maxRecDepth 100000 in
/-- QueryReader$Grammar.finish()V -/
def qm_90 : ai_M := (⟨"QueryReader$Grammar", "finish", "()V"⟩, prog_3_method_6_code, 1, (Option.none : Option Jvm.ClassFile.FieldType), [], [], [
  (0, .aload_n 0, 1, 0, [], ""),
  (1, .getstatic 144, 3, 0, [2, 86, 86, 802], ""),
  (4, .invokevirtual 147, 3, 1, [65, 2, 1, 1, 645, 28, 647], ""),
  (7, .pop, 1, 0, [], ""),
  (8, .aload_n 0, 1, 0, [], ""),
  (9, .getstatic 32, 3, 0, [2, 102, 102, 197], ""),
  (12, .invokevirtual 151, 3, 1, [61, 2, 1, 1, 620, 24, 622], ""),
  (15, .aload_n 0, 1, 0, [], ""),
  (16, .getfield 18, 3, 0, [1, 1, 200], ""),
  (19, .invokevirtual 154, 3, 1, [91, 1, 1, 3, 803, 805, 804], ""),
  (22, .return_, 1, 7, [], "")])
set_option maxRecDepth 100000 in
/-- QueryReader$Row.dropLastBlank()V -/
def qm_91 : ai_M := (⟨"QueryReader$Row", "dropLastBlank", "()V"⟩, prog_5_method_13_code, 1, (Option.none : Option Jvm.ClassFile.FieldType), [], [], [
  (0, .aload_n 0, 1, 0, [], ""),
  (1, .aload_n 0, 1, 0, [], ""),
  (2, .getfield 15, 3, 0, [3, 1, 166], ""),
  (5, .iconst 1, 1, 0, [], ""),
  (6, .isub, 1, 0, [], ""),
  (7, .invokevirtual 50, 3, 1, [34, 2, 1, 3, 711, 418, 417], ""),
  (10, .return_, 1, 7, [], "")])
set_option maxRecDepth 100000 in
/-- QueryReader$Grammar.place()I -/
def qm_92 : ai_M := (⟨"QueryReader$Grammar", "place", "()I"⟩, prog_3_method_3_code, 1, (Option.some Jvm.ClassFile.FieldType.int), [], [], [
  (0, .aload_n 0, 1, 0, [], ""),
  (1, .getfield 24, 3, 0, [1, 2, 202], ""),
  (4, .aload_n 0, 1, 0, [], ""),
  (5, .getfield 28, 3, 0, [1, 3, 203], ""),
  (8, .invokevirtual 69, 3, 1, [46, 2, 1, 4, 544, 546, 545], ""),
  (11, .ireturn, 1, 5, [], "")])
set_option maxRecDepth 100000 in
/-- QueryReader.kind()I -/
def qm_93 : ai_M := (⟨"QueryReader", "kind", "()I"⟩, prog_1_method_5_code, 1, (Option.some Jvm.ClassFile.FieldType.int), [], [], [
  (0, .aload_n 0, 1, 0, [], ""),
  (1, .getfield 34, 3, 0, [0, 4, 245], ""),
  (4, .ireturn, 1, 5, [], "")])
set_option maxRecDepth 100000 in
/-- QueryReader.length()I -/
def qm_94 : ai_M := (⟨"QueryReader", "length", "()I"⟩, prog_1_method_6_code, 1, (Option.some Jvm.ClassFile.FieldType.int), [], [], [
  (0, .aload_n 0, 1, 0, [], ""),
  (1, .getfield 26, 3, 0, [0, 2, 243], ""),
  (4, .invokevirtual 38, 3, 1, [9, 1, 1, 3, 820, 276, 275], ""),
  (7, .ireturn, 1, 5, [], "")])
set_option maxRecDepth 100000 in
/-- QueryReader.mark()I -/
def qm_95 : ai_M := (⟨"QueryReader", "mark", "()I"⟩, prog_1_method_8_code, 1, (Option.some Jvm.ClassFile.FieldType.int), [], [], [
  (0, .aload_n 0, 1, 0, [], ""),
  (1, .getfield 26, 3, 0, [0, 2, 243], ""),
  (4, .invokevirtual 85, 3, 1, [96, 1, 1, 3, 825, 827, 826], ""),
  (7, .ireturn, 1, 5, [], "")])
set_option maxRecDepth 100000 in
/-- QueryReader$Row.folded()I -/
def qm_96 : ai_M := (⟨"QueryReader$Row", "folded", "()I"⟩, prog_5_method_14_code, 3, (Option.some Jvm.ClassFile.FieldType.int), [], [], [
  (0, .iconst 0, 1, 0, [], ""),
  (1, .istore_n 1, 1, 0, [], ""),
  (2, .iconst 0, 1, 0, [], ""),
  (3, .istore_n 2, 1, 0, [], ""),
  (4, .iload_n 2, 1, 0, [], ""),
  (5, .aload_n 0, 1, 0, [], ""),
  (6, .getfield 15, 3, 0, [3, 1, 166], ""),
  (9, .if_icmp .ge 20, 3, 0, [18], ""),
  (12, .bipush 31, 2, 0, [], ""),
  (14, .iload_n 1, 1, 0, [], ""),
  (15, .imul, 1, 0, [], ""),
  (16, .aload_n 0, 1, 0, [], ""),
  (17, .iload_n 2, 1, 0, [], ""),
  (18, .invokevirtual 46, 3, 1, [10, 2, 1, 3, 556, 280, 279], ""),
  (21, .iadd, 1, 0, [], ""),
  (22, .istore_n 1, 1, 0, [], ""),
  (23, .iinc 2 1, 3, 0, [], ""),
  (26, .goto (-22), 3, 0, [4], ""),
  (29, .iload_n 1, 1, 0, [], ""),
  (30, .ireturn, 1, 5, [], "")])
set_option maxRecDepth 100000 in
/-- QueryReader.names()I -/
def qm_97 : ai_M := (⟨"QueryReader", "names", "()I"⟩, prog_1_method_9_code, 1, (Option.some Jvm.ClassFile.FieldType.int), [], [], [
  (0, .aload_n 0, 1, 0, [], ""),
  (1, .getfield 30, 3, 0, [0, 3, 244], ""),
  (4, .aload_n 0, 1, 0, [], ""),
  (5, .getfield 26, 3, 0, [0, 2, 243], ""),
  (8, .invokevirtual 88, 3, 1, [98, 2, 1, 2, 833, 835, 834], ""),
  (11, .ireturn, 1, 5, [], "")])
set_option maxRecDepth 100000 in
/-- QueryReader$Names.different(LQueryReader$Row;)I -/
def qm_98 : ai_M := (⟨"QueryReader$Names", "different", "(LQueryReader$Row;)I"⟩, prog_4_method_2_code, 9, (Option.some Jvm.ClassFile.FieldType.int), [], [], [
  (0, .aload_n 0, 1, 0, [], ""),
  (1, .aload_n 1, 1, 0, [], ""),
  (2, .invokevirtual 15, 3, 1, [9, 1, 1, 3, 837, 276, 275], ""),
  (5, .invokevirtual 21, 3, 1, [99, 2, 1, 2, 838, 51, 840], ""),
  (8, .istore_n 2, 1, 0, [], ""),
  (9, .iconst 0, 1, 0, [], ""),
  (10, .istore_n 3, 1, 0, [], ""),
  (11, .bipush 32, 2, 0, [], ""),
  (13, .istore 4, 2, 0, [], ""),
  (15, .iconst 0, 1, 0, [], ""),
  (16, .istore 5, 2, 0, [], ""),
  (18, .iconst 0, 1, 0, [], ""),
  (19, .istore 6, 2, 0, [], ""),
  (21, .iload 6, 2, 0, [], ""),
  (23, .aload_n 1, 1, 0, [], ""),
  (24, .invokevirtual 15, 3, 1, [9, 1, 1, 3, 837, 276, 275], ""),
  (27, .if_icmp .ge 99, 3, 0, [61], ""),
  (30, .aload_n 1, 1, 0, [], ""),
  (31, .iload 6, 2, 0, [], ""),
  (33, .invokevirtual 25, 3, 1, [10, 2, 1, 3, 842, 280, 279], ""),
  (36, .istore 7, 2, 0, [], ""),
  (38, .iload 7, 2, 0, [], ""),
  (40, .bipush 39, 2, 0, [], ""),
  (42, .if_icmp .ne 15, 3, 0, [30], ""),
  (45, .iload 5, 2, 0, [], ""),
  (47, .ifCond .ne 7, 3, 0, [28], ""),
  (50, .iconst 1, 1, 0, [], ""),
  (51, .goto 4, 3, 0, [29], ""),
  (54, .iconst 0, 1, 0, [], ""),
  (55, .istore 5, 2, 0, [], ""),
  (57, .iload 4, 2, 0, [], ""),
  (59, .bipush 32, 2, 0, [], ""),
  (61, .if_icmp .ne 28, 3, 0, [44], ""),
  (64, .iload 7, 2, 0, [], ""),
  (66, .bipush 95, 2, 0, [], ""),
  (68, .if_icmp .eq 17, 3, 0, [42], ""),
  (71, .iload 7, 2, 0, [], ""),
  (73, .bipush 97, 2, 0, [], ""),
  (75, .if_icmp .lt 14, 3, 0, [44], ""),
  (78, .iload 7, 2, 0, [], ""),
  (80, .bipush 122, 2, 0, [], ""),
  (82, .if_icmp .gt 7, 3, 0, [44], ""),
  (85, .iconst 1, 1, 0, [], ""),
  (86, .goto 4, 3, 0, [45], ""),
  (89, .iconst 0, 1, 0, [], ""),
  (90, .istore 8, 2, 0, [], ""),
  (92, .iload 8, 2, 0, [], ""),
  (94, .ifCond .eq 22, 3, 0, [57], ""),
  (97, .iload 5, 2, 0, [], ""),
  (99, .ifCond .ne 17, 3, 0, [57], ""),
  (102, .aload_n 0, 1, 0, [], ""),
  (103, .aload_n 1, 1, 0, [], ""),
  (104, .iload 6, 2, 0, [], ""),
  (106, .iload_n 2, 1, 0, [], ""),
  (107, .invokevirtual 28, 3, 1, [100, 4, 1, 2, 843, 52, 845], ""),
  (110, .ifCond .eq 6, 3, 0, [57], ""),
  (113, .iinc 3 1, 3, 0, [], ""),
  (116, .iload 7, 2, 0, [], ""),
  (118, .istore 4, 2, 0, [], ""),
  (120, .iinc 6 1, 3, 0, [], ""),
  (123, .goto (-102), 3, 0, [13], ""),
  (126, .iload_n 3, 1, 0, [], ""),
  (127, .ireturn, 1, 5, [], "")])
set_option maxRecDepth 100000 in
/-- QueryReader$Names.clearSlots(I)I -/
def qm_99 : ai_M := (⟨"QueryReader$Names", "clearSlots", "(I)I"⟩, prog_4_method_3_code, 4, (Option.some Jvm.ClassFile.FieldType.int), [], [], [
  (0, .bipush 16, 2, 0, [], ""),
  (2, .istore_n 2, 1, 0, [], ""),
  (3, .iconst 0, 1, 0, [], ""),
  (4, .istore_n 3, 1, 0, [], ""),
  (5, .iload_n 3, 1, 0, [], ""),
  (6, .bipush 25, 2, 0, [], ""),
  (8, .if_icmp .ge 18, 3, 0, [16], ""),
  (11, .iload_n 2, 1, 0, [], ""),
  (12, .iload_n 1, 1, 0, [], ""),
  (13, .if_icmp .gt 13, 3, 0, [16], ""),
  (16, .iload_n 2, 1, 0, [], ""),
  (17, .iconst 2, 1, 0, [], ""),
  (18, .imul, 1, 0, [], ""),
  (19, .istore_n 2, 1, 0, [], ""),
  (20, .iinc 3 1, 3, 0, [], ""),
  (23, .goto (-18), 3, 0, [4], ""),
  (26, .aload_n 0, 1, 0, [], ""),
  (27, .getfield 11, 3, 0, [2, 0, 237], ""),
  (30, .arraylength, 1, 0, [], ""),
  (31, .iload_n 2, 1, 0, [], ""),
  (32, .if_icmp .ge 10, 3, 0, [25], ""),
  (35, .aload_n 0, 1, 0, [], ""),
  (36, .iload_n 2, 1, 0, [], ""),
  (37, .newarray .int, 2, 0, [196], ""),
  (39, .putfield 11, 3, 0, [2, 0, 237], ""),
  (42, .iconst 0, 1, 0, [], ""),
  (43, .istore_n 3, 1, 0, [], ""),
  (44, .iload_n 3, 1, 0, [], ""),
  (45, .iload_n 2, 1, 0, [], ""),
  (46, .if_icmp .ge 25, 3, 0, [42], ""),
  (49, .iload_n 3, 1, 0, [], ""),
  (50, .aload_n 0, 1, 0, [], ""),
  (51, .getfield 11, 3, 0, [2, 0, 237], ""),
  (54, .arraylength, 1, 0, [], ""),
  (55, .if_icmp .ge 16, 3, 0, [42], ""),
  (58, .aload_n 0, 1, 0, [], ""),
  (59, .getfield 11, 3, 0, [2, 0, 237], ""),
  (62, .iload_n 3, 1, 0, [], ""),
  (63, .iconst 0, 1, 0, [], ""),
  (64, .iastore, 1, 0, [], ""),
  (65, .iinc 3 1, 3, 0, [], ""),
  (68, .goto (-24), 3, 0, [27], ""),
  (71, .iload_n 2, 1, 0, [], ""),
  (72, .ireturn, 1, 5, [], "")])
set_option maxRecDepth 100000 in
/-- QueryReader$Names.isNew(LQueryReader$Row;II)Z -/
def qm_100 : ai_M := (⟨"QueryReader$Names", "isNew", "(LQueryReader$Row;II)Z"⟩, prog_4_method_4_code, 6, (Option.some Jvm.ClassFile.FieldType.boolean), [], [], [
  (0, .aload_n 1, 1, 0, [], ""),
  (1, .iload_n 2, 1, 0, [], ""),
  (2, .invokestatic 32, 3, 1, [101, 2, 0, 0, 847, 848], ""),
  (5, .iload_n 3, 1, 0, [], ""),
  (6, .iconst 1, 1, 0, [], ""),
  (7, .isub, 1, 0, [], ""),
  (8, .iand, 1, 0, [], ""),
  (9, .istore 4, 2, 0, [], ""),
  (11, .iconst 0, 1, 0, [], ""),
  (12, .istore 5, 2, 0, [], ""),
  (14, .iload 5, 2, 0, [], ""),
  (16, .iload_n 3, 1, 0, [], ""),
  (17, .if_icmp .ge 75, 3, 0, [56], ""),
  (20, .iload 4, 2, 0, [], ""),
  (22, .ifCond .lt 70, 3, 0, [56], ""),
  (25, .iload 4, 2, 0, [], ""),
  (27, .aload_n 0, 1, 0, [], ""),
  (28, .getfield 11, 3, 0, [2, 0, 237], ""),
  (31, .arraylength, 1, 0, [], ""),
  (32, .if_icmp .ge 60, 3, 0, [56], ""),
  (35, .aload_n 0, 1, 0, [], ""),
  (36, .getfield 11, 3, 0, [2, 0, 237], ""),
  (39, .iload 4, 2, 0, [], ""),
  (41, .iaload, 1, 0, [], ""),
  (42, .ifCond .ne 15, 3, 0, [34], ""),
  (45, .aload_n 0, 1, 0, [], ""),
  (46, .getfield 11, 3, 0, [2, 0, 237], ""),
  (49, .iload 4, 2, 0, [], ""),
  (51, .iload_n 2, 1, 0, [], ""),
  (52, .iconst 1, 1, 0, [], ""),
  (53, .iadd, 1, 0, [], ""),
  (54, .iastore, 1, 0, [], ""),
  (55, .iconst 1, 1, 0, [], ""),
  (56, .ireturn, 1, 5, [], ""),
  (57, .aload_n 1, 1, 0, [], ""),
  (58, .aload_n 0, 1, 0, [], ""),
  (59, .getfield 11, 3, 0, [2, 0, 237], ""),
  (62, .iload 4, 2, 0, [], ""),
  (64, .iaload, 1, 0, [], ""),
  (65, .iconst 1, 1, 0, [], ""),
  (66, .isub, 1, 0, [], ""),
  (67, .iload_n 2, 1, 0, [], ""),
  (68, .invokestatic 36, 3, 1, [102, 3, 0, 0, 850, 851], ""),
  (71, .ifCond .eq 5, 3, 0, [46], ""),
  (74, .iconst 0, 1, 0, [], ""),
  (75, .ireturn, 1, 5, [], ""),
  (76, .iload 4, 2, 0, [], ""),
  (78, .iconst 1, 1, 0, [], ""),
  (79, .iadd, 1, 0, [], ""),
  (80, .iload_n 3, 1, 0, [], ""),
  (81, .iconst 1, 1, 0, [], ""),
  (82, .isub, 1, 0, [], ""),
  (83, .iand, 1, 0, [], ""),
  (84, .istore 4, 2, 0, [], ""),
  (86, .iinc 5 1, 3, 0, [], ""),
  (89, .goto (-75), 3, 0, [10], ""),
  (92, .iconst 0, 1, 0, [], ""),
  (93, .ireturn, 1, 5, [], "")])
set_option maxRecDepth 100000 in
/-- QueryReader$Names.hash(LQueryReader$Row;I)I -/
def qm_101 : ai_M := (⟨"QueryReader$Names", "hash", "(LQueryReader$Row;I)I"⟩, prog_4_method_5_code, 4, (Option.some Jvm.ClassFile.FieldType.int), [], [], [
  (0, .iconst 0, 1, 0, [], ""),
  (1, .istore_n 2, 1, 0, [], ""),
  (2, .iload_n 1, 1, 0, [], ""),
  (3, .istore_n 3, 1, 0, [], ""),
  (4, .iload_n 3, 1, 0, [], ""),
  (5, .aload_n 0, 1, 0, [], ""),
  (6, .invokevirtual 15, 3, 1, [9, 1, 1, 3, 837, 276, 275], ""),
  (9, .if_icmp .ge 30, 3, 0, [23], ""),
  (12, .aload_n 0, 1, 0, [], ""),
  (13, .iload_n 3, 1, 0, [], ""),
  (14, .invokevirtual 25, 3, 1, [10, 2, 1, 3, 842, 280, 279], ""),
  (17, .bipush 32, 2, 0, [], ""),
  (19, .if_icmp .eq 20, 3, 0, [23], ""),
  (22, .bipush 31, 2, 0, [], ""),
  (24, .iload_n 2, 1, 0, [], ""),
  (25, .imul, 1, 0, [], ""),
  (26, .aload_n 0, 1, 0, [], ""),
  (27, .iload_n 3, 1, 0, [], ""),
  (28, .invokevirtual 25, 3, 1, [10, 2, 1, 3, 842, 280, 279], ""),
  (31, .iadd, 1, 0, [], ""),
  (32, .istore_n 2, 1, 0, [], ""),
  (33, .iinc 3 1, 3, 0, [], ""),
  (36, .goto (-32), 3, 0, [4], ""),
  (39, .iload_n 2, 1, 0, [], ""),
  (40, .iload_n 2, 1, 0, [], ""),
  (41, .bipush 15, 2, 0, [], ""),
  (43, .iushr, 1, 0, [], ""),
  (44, .ixor, 1, 0, [], ""),
  (45, .ireturn, 1, 5, [], "")])
set_option maxRecDepth 100000 in
/-- QueryReader$Names.isSame(LQueryReader$Row;II)Z -/
def qm_102 : ai_M := (⟨"QueryReader$Names", "isSame", "(LQueryReader$Row;II)Z"⟩, prog_4_method_6_code, 8, (Option.some Jvm.ClassFile.FieldType.boolean), [], [], [
  (0, .iconst 0, 1, 0, [], ""),
  (1, .istore_n 3, 1, 0, [], ""),
  (2, .iload_n 3, 1, 0, [], ""),
  (3, .aload_n 0, 1, 0, [], ""),
  (4, .invokevirtual 15, 3, 1, [9, 1, 1, 3, 837, 276, 275], ""),
  (7, .if_icmp .ge 102, 3, 0, [57], ""),
  (10, .aload_n 0, 1, 0, [], ""),
  (11, .iload_n 1, 1, 0, [], ""),
  (12, .iload_n 3, 1, 0, [], ""),
  (13, .iadd, 1, 0, [], ""),
  (14, .invokevirtual 25, 3, 1, [10, 2, 1, 3, 842, 280, 279], ""),
  (17, .istore 4, 2, 0, [], ""),
  (19, .aload_n 0, 1, 0, [], ""),
  (20, .iload_n 2, 1, 0, [], ""),
  (21, .iload_n 3, 1, 0, [], ""),
  (22, .iadd, 1, 0, [], ""),
  (23, .invokevirtual 25, 3, 1, [10, 2, 1, 3, 842, 280, 279], ""),
  (26, .istore 5, 2, 0, [], ""),
  (28, .iload 4, 2, 0, [], ""),
  (30, .bipush 32, 2, 0, [], ""),
  (32, .if_icmp .eq 9, 3, 0, [24], ""),
  (35, .iload 4, 2, 0, [], ""),
  (37, .iconst (-1), 1, 0, [], ""),
  (38, .if_icmp .ne 7, 3, 0, [26], ""),
  (41, .iconst 1, 1, 0, [], ""),
  (42, .goto 4, 3, 0, [27], ""),
  (45, .iconst 0, 1, 0, [], ""),
  (46, .istore 6, 2, 0, [], ""),
  (48, .iload 5, 2, 0, [], ""),
  (50, .bipush 32, 2, 0, [], ""),
  (52, .if_icmp .eq 9, 3, 0, [34], ""),
  (55, .iload 5, 2, 0, [], ""),
  (57, .iconst (-1), 1, 0, [], ""),
  (58, .if_icmp .ne 7, 3, 0, [36], ""),
  (61, .iconst 1, 1, 0, [], ""),
  (62, .goto 4, 3, 0, [37], ""),
  (65, .iconst 0, 1, 0, [], ""),
  (66, .istore 7, 2, 0, [], ""),
  (68, .iload 6, 2, 0, [], ""),
  (70, .ifCond .ne 8, 3, 0, [42], ""),
  (73, .iload 7, 2, 0, [], ""),
  (75, .ifCond .eq 19, 3, 0, [50], ""),
  (78, .iload 6, 2, 0, [], ""),
  (80, .ifCond .eq 12, 3, 0, [48], ""),
  (83, .iload 7, 2, 0, [], ""),
  (85, .ifCond .eq 7, 3, 0, [48], ""),
  (88, .iconst 1, 1, 0, [], ""),
  (89, .goto 4, 3, 0, [49], ""),
  (92, .iconst 0, 1, 0, [], ""),
  (93, .ireturn, 1, 5, [], ""),
  (94, .iload 4, 2, 0, [], ""),
  (96, .iload 5, 2, 0, [], ""),
  (98, .if_icmp .eq 5, 3, 0, [55], ""),
  (101, .iconst 0, 1, 0, [], ""),
  (102, .ireturn, 1, 5, [], ""),
  (103, .iinc 3 1, 3, 0, [], ""),
  (106, .goto (-104), 3, 0, [2], ""),
  (109, .iconst 0, 1, 0, [], ""),
  (110, .ireturn, 1, 5, [], "")])
set_option maxRecDepth 100000 in
/-- QueryReader.depth()I -/
def qm_103 : ai_M := (⟨"QueryReader", "depth", "()I"⟩, prog_1_method_10_code, 1, (Option.some Jvm.ClassFile.FieldType.int), [], [], [
  (0, .aload_n 0, 1, 0, [], ""),
  (1, .getfield 10, 3, 0, [0, 0, 241], ""),
  (4, .invokevirtual 92, 3, 1, [104, 1, 1, 1, 857, 859, 858], ""),
  (7, .ireturn, 1, 5, [], "")])
set_option maxRecDepth 100000 in
/-- QueryReader$Grammar.most()I -/
def qm_104 : ai_M := (⟨"QueryReader$Grammar", "most", "()I"⟩, prog_3_method_4_code, 1, (Option.some Jvm.ClassFile.FieldType.int), [], [], [
  (0, .aload_n 0, 1, 0, [], ""),
  (1, .getfield 44, 3, 0, [1, 6, 206], ""),
  (4, .ireturn, 1, 5, [], "")])
set_option maxRecDepth 100000 in
/-- QueryReader.again()Z -/
def qm_105 : ai_M := (⟨"QueryReader", "again", "()Z"⟩, prog_1_method_11_code, 2, (Option.some Jvm.ClassFile.FieldType.boolean), [], [], [
  (0, .aload_n 0, 1, 0, [], ""),
  (1, .getfield 26, 3, 0, [0, 2, 243], ""),
  (4, .invokevirtual 38, 3, 1, [9, 1, 1, 3, 820, 276, 275], ""),
  (7, .ifCond .le 19, 3, 0, [11], ""),
  (10, .aload_n 0, 1, 0, [], ""),
  (11, .getfield 26, 3, 0, [0, 2, 243], ""),
  (14, .invokevirtual 38, 3, 1, [9, 1, 1, 3, 820, 276, 275], ""),
  (17, .ldc 95, 2, 0, [1, 65536, 865], ""),
  (19, .if_icmp .gt 7, 3, 0, [11], ""),
  (22, .iconst 1, 1, 0, [], ""),
  (23, .goto 4, 3, 0, [12], ""),
  (26, .iconst 0, 1, 0, [], ""),
  (27, .istore_n 1, 1, 0, [], ""),
  (28, .iload_n 1, 1, 0, [], ""),
  (29, .ifCond .eq 14, 3, 0, [20], ""),
  (32, .aload_n 0, 1, 0, [], ""),
  (33, .getfield 20, 3, 0, [0, 1, 242], ""),
  (36, .aload_n 0, 1, 0, [], ""),
  (37, .getfield 26, 3, 0, [0, 2, 243], ""),
  (40, .invokevirtual 96, 3, 1, [106, 2, 1, 3, 866, 868, 867], ""),
  (43, .iload_n 1, 1, 0, [], ""),
  (44, .ireturn, 1, 5, [], "")])
set_option maxRecDepth 100000 in
/-- QueryReader$Row.become(LQueryReader$Row;)V -/
def qm_106 : ai_M := (⟨"QueryReader$Row", "become", "(LQueryReader$Row;)V"⟩, prog_5_method_7_code, 2, (Option.none : Option Jvm.ClassFile.FieldType), [], [], [
  (0, .aload_n 0, 1, 0, [], ""),
  (1, .getfield 11, 3, 0, [3, 0, 165], ""),
  (4, .arraylength, 1, 0, [], ""),
  (5, .aload_n 1, 1, 0, [], ""),
  (6, .getfield 15, 3, 0, [3, 1, 166], ""),
  (9, .if_icmp .ge 14, 3, 0, [12], ""),
  (12, .aload_n 0, 1, 0, [], ""),
  (13, .aload_n 1, 1, 0, [], ""),
  (14, .getfield 11, 3, 0, [3, 0, 165], ""),
  (17, .arraylength, 1, 0, [], ""),
  (18, .newarray .byte, 2, 0, [172], ""),
  (20, .putfield 11, 3, 0, [3, 0, 165], ""),
  (23, .aload_n 1, 1, 0, [], ""),
  (24, .getfield 15, 3, 0, [3, 1, 166], ""),
  (27, .aload_n 0, 1, 0, [], ""),
  (28, .getfield 11, 3, 0, [3, 0, 165], ""),
  (31, .arraylength, 1, 0, [], ""),
  (32, .if_icmp .gt 40, 3, 0, [37], ""),
  (35, .aload_n 1, 1, 0, [], ""),
  (36, .getfield 15, 3, 0, [3, 1, 166], ""),
  (39, .aload_n 1, 1, 0, [], ""),
  (40, .getfield 11, 3, 0, [3, 0, 165], ""),
  (43, .arraylength, 1, 0, [], ""),
  (44, .if_icmp .gt 28, 3, 0, [37], ""),
  (47, .aload_n 1, 1, 0, [], ""),
  (48, .getfield 11, 3, 0, [3, 0, 165], ""),
  (51, .iconst 0, 1, 0, [], ""),
  (52, .aload_n 0, 1, 0, [], ""),
  (53, .getfield 11, 3, 0, [3, 0, 165], ""),
  (56, .iconst 0, 1, 0, [], ""),
  (57, .aload_n 1, 1, 0, [], ""),
  (58, .getfield 15, 3, 0, [3, 1, 166], ""),
  (61, .invokestatic 30, 3, 4, [716, 397, 396, 137], ""),
  (64, .aload_n 0, 1, 0, [], ""),
  (65, .aload_n 1, 1, 0, [], ""),
  (66, .getfield 15, 3, 0, [3, 1, 166], ""),
  (69, .putfield 15, 3, 0, [3, 1, 166], ""),
  (72, .return_, 1, 7, [], "")])
set_option maxRecDepth 100000 in
/-- QueryReaderLaw.feed(LQueryReader;IIIII)I -/
def qm_107 : ai_M := (⟨"QueryReaderLaw", "feed", "(LQueryReader;IIIII)I"⟩, method_3_code, 7, (Option.some Jvm.ClassFile.FieldType.int), [(0, 11, 14, 13)], [(0, 7, 8, "java/lang/IllegalStateException")], [
  (0, .aload_n 0, 1, 0, [], ""),
  (1, .iload_n 1, 1, 0, [], ""),
  (2, .iload_n 2, 1, 0, [], ""),
  (3, .iload_n 3, 1, 0, [], ""),
  (4, .iload 4, 2, 0, [], ""),
  (6, .iload 5, 2, 0, [], ""),
  (8, .invokevirtual 7, 3, 1, [108, 6, 1, 0, 874, 876, 875], ""),
  (11, .goto 7, 3, 0, [11], ""),
  (14, .astore 6, 2, 0, [], ""),
  (16, .iconst 1, 1, 0, [], ""),
  (17, .ireturn, 1, 5, [], ""),
  (18, .iconst 0, 1, 0, [], ""),
  (19, .ireturn, 1, 5, [], "")])
set_option maxRecDepth 100000 in
/-- QueryReader.feed(IIIII)V -/
def qm_108 : ai_M := (⟨"QueryReader", "feed", "(IIIII)V"⟩, prog_1_method_2_code, 6, (Option.none : Option Jvm.ClassFile.FieldType), [], [], [
  (0, .aload_n 0, 1, 0, [], ""),
  (1, .getfield 20, 3, 0, [0, 1, 242], ""),
  (4, .invokevirtual 38, 3, 1, [9, 1, 1, 3, 820, 276, 275], ""),
  (7, .ldc 44, 2, 0, [1, 65516, 878], ""),
  (9, .if_icmp .le 13, 3, 0, [10], ""),
  (12, .new 45, 3, 2, [49, 47, 2, 12, 879, 134], "java/lang/IllegalStateException"),
  (15, .dup, 1, 0, [], ""),
  (16, .ldc 47, 2, 0, [2, 1012, 12], ""),
  (18, .invokespecial 49, 3, 9, [], ""),
  (21, .athrow, 1, 9, [], ""),
  (22, .aload_n 0, 1, 0, [], ""),
  (23, .getfield 20, 3, 0, [0, 1, 242], ""),
  (26, .iload_n 1, 1, 0, [], ""),
  (27, .invokevirtual 52, 3, 1, [109, 2, 1, 3, 894, 896, 895], ""),
  (30, .aload_n 0, 1, 0, [], ""),
  (31, .getfield 20, 3, 0, [0, 1, 242], ""),
  (34, .iload_n 2, 1, 0, [], ""),
  (35, .invokevirtual 52, 3, 1, [109, 2, 1, 3, 894, 896, 895], ""),
  (38, .aload_n 0, 1, 0, [], ""),
  (39, .getfield 20, 3, 0, [0, 1, 242], ""),
  (42, .iload_n 3, 1, 0, [], ""),
  (43, .invokevirtual 52, 3, 1, [109, 2, 1, 3, 894, 896, 895], ""),
  (46, .aload_n 0, 1, 0, [], ""),
  (47, .getfield 20, 3, 0, [0, 1, 242], ""),
  (50, .iload 4, 2, 0, [], ""),
  (52, .invokevirtual 52, 3, 1, [109, 2, 1, 3, 894, 896, 895], ""),
  (55, .aload_n 0, 1, 0, [], ""),
  (56, .getfield 20, 3, 0, [0, 1, 242], ""),
  (59, .iload 5, 2, 0, [], ""),
  (61, .invokevirtual 52, 3, 1, [109, 2, 1, 3, 894, 896, 895], ""),
  (64, .return_, 1, 7, [], "")])
set_option maxRecDepth 100000 in
/-- QueryReader$Row.addFour(I)V -/
def qm_109 : ai_M := (⟨"QueryReader$Row", "addFour", "(I)V"⟩, prog_5_method_5_code, 2, (Option.none : Option Jvm.ClassFile.FieldType), [], [], [
  (0, .aload_n 0, 1, 0, [], ""),
  (1, .iload_n 1, 1, 0, [], ""),
  (2, .bipush 24, 2, 0, [], ""),
  (4, .iushr, 1, 0, [], ""),
  (5, .invokevirtual 26, 3, 1, [39, 2, 1, 3, 506, 508, 507], ""),
  (8, .aload_n 0, 1, 0, [], ""),
  (9, .iload_n 1, 1, 0, [], ""),
  (10, .bipush 16, 2, 0, [], ""),
  (12, .iushr, 1, 0, [], ""),
  (13, .invokevirtual 26, 3, 1, [39, 2, 1, 3, 506, 508, 507], ""),
  (16, .aload_n 0, 1, 0, [], ""),
  (17, .iload_n 1, 1, 0, [], ""),
  (18, .bipush 8, 2, 0, [], ""),
  (20, .iushr, 1, 0, [], ""),
  (21, .invokevirtual 26, 3, 1, [39, 2, 1, 3, 506, 508, 507], ""),
  (24, .aload_n 0, 1, 0, [], ""),
  (25, .iload_n 1, 1, 0, [], ""),
  (26, .invokevirtual 26, 3, 1, [39, 2, 1, 3, 506, 508, 507], ""),
  (29, .return_, 1, 7, [], "")])
set_option maxRecDepth 100000 in
/-- QueryReaderLaw.end(LQueryReader;I)I -/
def qm_110 : ai_M := (⟨"QueryReaderLaw", "end", "(LQueryReader;I)I"⟩, method_4_code, 3, (Option.some Jvm.ClassFile.FieldType.int), [(0, 5, 8, 19)], [(0, 3, 4, "java/lang/IllegalArgumentException")], [
  (0, .aload_n 0, 1, 0, [], ""),
  (1, .iload_n 1, 1, 0, [], ""),
  (2, .invokevirtual 15, 3, 1, [111, 2, 1, 0, 902, 904, 903], ""),
  (5, .goto 6, 3, 0, [7], ""),
  (8, .astore_n 2, 1, 0, [], ""),
  (9, .iconst 1, 1, 0, [], ""),
  (10, .ireturn, 1, 5, [], ""),
  (11, .iconst 0, 1, 0, [], ""),
  (12, .ireturn, 1, 5, [], "")])
set_option maxRecDepth 100000 in
/-- QueryReader.end(I)V -/
def qm_111 : ai_M := (⟨"QueryReader", "end", "(I)V"⟩, prog_1_method_3_code, 2, (Option.none : Option Jvm.ClassFile.FieldType), [], [], [
  (0, .iload_n 1, 1, 0, [], ""),
  (1, .ifCond .lt 14, 3, 0, [7], ""),
  (4, .iload_n 1, 1, 0, [], ""),
  (5, .aload_n 0, 1, 0, [], ""),
  (6, .getfield 20, 3, 0, [0, 1, 242], ""),
  (9, .invokevirtual 38, 3, 1, [9, 1, 1, 3, 820, 276, 275], ""),
  (12, .if_icmp .le 13, 3, 0, [12], ""),
  (15, .new 56, 3, 2, [60, 58, 2, 13, 261, 138], "java/lang/IllegalArgumentException"),
  (18, .dup, 1, 0, [], ""),
  (19, .ldc 58, 2, 0, [2, 1013, 13], ""),
  (21, .invokespecial 60, 3, 9, [], ""),
  (24, .athrow, 1, 9, [], ""),
  (25, .aload_n 0, 1, 0, [], ""),
  (26, .getfield 20, 3, 0, [0, 1, 242], ""),
  (29, .iload_n 1, 1, 0, [], ""),
  (30, .invokevirtual 61, 3, 1, [34, 2, 1, 3, 807, 418, 417], ""),
  (33, .return_, 1, 7, [], "")])
set_option maxRecDepth 100000 in
/-- QueryReaderLaw.letter(LQueryReader;I[J)I -/
def qm_112 : ai_M := (⟨"QueryReaderLaw", "letter", "(LQueryReader;I[J)I"⟩, method_5_code, 4, (Option.some Jvm.ClassFile.FieldType.int), [(0, 9, 12, 25)], [(0, 7, 8, "java/lang/IndexOutOfBoundsException")], [
  (0, .aload_n 2, 1, 0, [], ""),
  (1, .iconst 0, 1, 0, [], ""),
  (2, .aload_n 0, 1, 0, [], ""),
  (3, .iload_n 1, 1, 0, [], ""),
  (4, .invokevirtual 21, 3, 1, [113, 2, 1, 0, 911, 913, 912], ""),
  (7, .i2l, 1, 0, [], ""),
  (8, .lastore, 1, 0, [], ""),
  (9, .goto 6, 3, 0, [11], ""),
  (12, .astore_n 3, 1, 0, [], ""),
  (13, .iconst 1, 1, 0, [], ""),
  (14, .ireturn, 1, 5, [], ""),
  (15, .iconst 0, 1, 0, [], ""),
  (16, .ireturn, 1, 5, [], "")])
set_option maxRecDepth 100000 in
/-- QueryReader.letter(I)I -/
def qm_113 : ai_M := (⟨"QueryReader", "letter", "(I)I"⟩, prog_1_method_7_code, 2, (Option.some Jvm.ClassFile.FieldType.int), [], [], [
  (0, .iload_n 1, 1, 0, [], ""),
  (1, .ifCond .lt 14, 3, 0, [7], ""),
  (4, .iload_n 1, 1, 0, [], ""),
  (5, .aload_n 0, 1, 0, [], ""),
  (6, .getfield 26, 3, 0, [0, 2, 243], ""),
  (9, .invokevirtual 38, 3, 1, [9, 1, 1, 3, 820, 276, 275], ""),
  (12, .if_icmp .lt 13, 3, 0, [12], ""),
  (15, .new 76, 3, 2, [80, 78, 2, 14, 915, 144], "java/lang/IndexOutOfBoundsException"),
  (18, .dup, 1, 0, [], ""),
  (19, .ldc 78, 2, 0, [2, 1014, 14], ""),
  (21, .invokespecial 80, 3, 9, [], ""),
  (24, .athrow, 1, 9, [], ""),
  (25, .aload_n 0, 1, 0, [], ""),
  (26, .getfield 26, 3, 0, [0, 2, 243], ""),
  (29, .iload_n 1, 1, 0, [], ""),
  (30, .invokevirtual 81, 3, 1, [10, 2, 1, 3, 930, 280, 279], ""),
  (33, .ireturn, 1, 5, [], "")])
set_option maxRecDepth 100000 in
/-- QueryReaderModel.<init>()V -/
def qm_114 : ai_M := (⟨"QueryReaderModel", "<init>", "()V"⟩, prog_9_method_1_code, 1, (Option.none : Option Jvm.ClassFile.FieldType), [], [], [
  (0, .aload_n 0, 1, 0, [], ""),
  (1, .invokespecial 1, 3, 3, [936, 151, 152], ""),
  (4, .aload_n 0, 1, 0, [], ""),
  (5, .bipush 82, 2, 0, [], ""),
  (7, .anewarray 7, 3, 0, [937], "java/lang/String"),
  (10, .dup, 1, 0, [], ""),
  (11, .iconst 0, 1, 0, [], ""),
  (12, .ldc 9, 2, 0, [2, 1015, 15], ""),
  (14, .aastore, 1, 0, [], ""),
  (15, .dup, 1, 0, [], ""),
  (16, .iconst 1, 1, 0, [], ""),
  (17, .ldc 11, 2, 0, [2, 1016, 16], ""),
  (19, .aastore, 1, 0, [], ""),
  (20, .dup, 1, 0, [], ""),
  (21, .iconst 2, 1, 0, [], ""),
  (22, .ldc 13, 2, 0, [2, 1017, 17], ""),
  (24, .aastore, 1, 0, [], ""),
  (25, .dup, 1, 0, [], ""),
  (26, .iconst 3, 1, 0, [], ""),
  (27, .ldc 15, 2, 0, [2, 1018, 18], ""),
  (29, .aastore, 1, 0, [], ""),
  (30, .dup, 1, 0, [], ""),
  (31, .iconst 4, 1, 0, [], ""),
  (32, .ldc 17, 2, 0, [2, 1019, 19], ""),
  (34, .aastore, 1, 0, [], ""),
  (35, .dup, 1, 0, [], ""),
  (36, .iconst 5, 1, 0, [], ""),
  (37, .ldc 19, 2, 0, [2, 1020, 20], ""),
  (39, .aastore, 1, 0, [], ""),
  (40, .dup, 1, 0, [], ""),
  (41, .bipush 6, 2, 0, [], ""),
  (43, .ldc 21, 2, 0, [2, 1021, 21], ""),
  (45, .aastore, 1, 0, [], ""),
  (46, .dup, 1, 0, [], ""),
  (47, .bipush 7, 2, 0, [], ""),
  (49, .ldc 23, 2, 0, [2, 1022, 22], ""),
  (51, .aastore, 1, 0, [], ""),
  (52, .dup, 1, 0, [], ""),
  (53, .bipush 8, 2, 0, [], ""),
  (55, .ldc 25, 2, 0, [2, 1023, 23], ""),
  (57, .aastore, 1, 0, [], ""),
  (58, .dup, 1, 0, [], ""),
  (59, .bipush 9, 2, 0, [], ""),
  (61, .ldc 27, 2, 0, [2, 1024, 24], ""),
  (63, .aastore, 1, 0, [], ""),
  (64, .dup, 1, 0, [], ""),
  (65, .bipush 10, 2, 0, [], ""),
  (67, .ldc 29, 2, 0, [2, 1025, 25], ""),
  (69, .aastore, 1, 0, [], ""),
  (70, .dup, 1, 0, [], ""),
  (71, .bipush 11, 2, 0, [], ""),
  (73, .ldc 31, 2, 0, [2, 1026, 26], ""),
  (75, .aastore, 1, 0, [], ""),
  (76, .dup, 1, 0, [], ""),
  (77, .bipush 12, 2, 0, [], ""),
  (79, .ldc 33, 2, 0, [2, 1027, 27], ""),
  (81, .aastore, 1, 0, [], ""),
  (82, .dup, 1, 0, [], ""),
  (83, .bipush 13, 2, 0, [], ""),
  (85, .ldc 35, 2, 0, [2, 1028, 28], ""),
  (87, .aastore, 1, 0, [], ""),
  (88, .dup, 1, 0, [], ""),
  (89, .bipush 14, 2, 0, [], ""),
  (91, .ldc 37, 2, 0, [2, 1029, 29], ""),
  (93, .aastore, 1, 0, [], ""),
  (94, .dup, 1, 0, [], ""),
  (95, .bipush 15, 2, 0, [], ""),
  (97, .ldc 39, 2, 0, [2, 1030, 30], ""),
  (99, .aastore, 1, 0, [], ""),
  (100, .dup, 1, 0, [], ""),
  (101, .bipush 16, 2, 0, [], ""),
  (103, .ldc 41, 2, 0, [2, 1031, 31], ""),
  (105, .aastore, 1, 0, [], ""),
  (106, .dup, 1, 0, [], ""),
  (107, .bipush 17, 2, 0, [], ""),
  (109, .ldc 43, 2, 0, [2, 1032, 32], ""),
  (111, .aastore, 1, 0, [], ""),
  (112, .dup, 1, 0, [], ""),
  (113, .bipush 18, 2, 0, [], ""),
  (115, .ldc 45, 2, 0, [2, 1033, 33], ""),
  (117, .aastore, 1, 0, [], ""),
  (118, .dup, 1, 0, [], ""),
  (119, .bipush 19, 2, 0, [], ""),
  (121, .ldc 47, 2, 0, [2, 1034, 34], ""),
  (123, .aastore, 1, 0, [], ""),
  (124, .dup, 1, 0, [], ""),
  (125, .bipush 20, 2, 0, [], ""),
  (127, .ldc 49, 2, 0, [2, 1035, 35], ""),
  (129, .aastore, 1, 0, [], ""),
  (130, .dup, 1, 0, [], ""),
  (131, .bipush 21, 2, 0, [], ""),
  (133, .ldc 51, 2, 0, [2, 1036, 36], ""),
  (135, .aastore, 1, 0, [], ""),
  (136, .dup, 1, 0, [], ""),
  (137, .bipush 22, 2, 0, [], ""),
  (139, .ldc 53, 2, 0, [2, 1037, 37], ""),
  (141, .aastore, 1, 0, [], ""),
  (142, .dup, 1, 0, [], ""),
  (143, .bipush 23, 2, 0, [], ""),
  (145, .ldc 55, 2, 0, [2, 1038, 38], ""),
  (147, .aastore, 1, 0, [], ""),
  (148, .dup, 1, 0, [], ""),
  (149, .bipush 24, 2, 0, [], ""),
  (151, .ldc 57, 2, 0, [2, 1039, 39], ""),
  (153, .aastore, 1, 0, [], ""),
  (154, .dup, 1, 0, [], ""),
  (155, .bipush 25, 2, 0, [], ""),
  (157, .ldc 59, 2, 0, [2, 1040, 40], ""),
  (159, .aastore, 1, 0, [], ""),
  (160, .dup, 1, 0, [], ""),
  (161, .bipush 26, 2, 0, [], ""),
  (163, .ldc 61, 2, 0, [2, 1041, 41], ""),
  (165, .aastore, 1, 0, [], ""),
  (166, .dup, 1, 0, [], ""),
  (167, .bipush 27, 2, 0, [], ""),
  (169, .ldc 63, 2, 0, [2, 1042, 42], ""),
  (171, .aastore, 1, 0, [], ""),
  (172, .dup, 1, 0, [], ""),
  (173, .bipush 28, 2, 0, [], ""),
  (175, .ldc 65, 2, 0, [2, 1043, 43], ""),
  (177, .aastore, 1, 0, [], ""),
  (178, .dup, 1, 0, [], ""),
  (179, .bipush 29, 2, 0, [], ""),
  (181, .ldc 67, 2, 0, [2, 1044, 44], ""),
  (183, .aastore, 1, 0, [], ""),
  (184, .dup, 1, 0, [], ""),
  (185, .bipush 30, 2, 0, [], ""),
  (187, .ldc 69, 2, 0, [2, 1045, 45], ""),
  (189, .aastore, 1, 0, [], ""),
  (190, .dup, 1, 0, [], ""),
  (191, .bipush 31, 2, 0, [], ""),
  (193, .ldc 71, 2, 0, [2, 1046, 46], ""),
  (195, .aastore, 1, 0, [], ""),
  (196, .dup, 1, 0, [], ""),
  (197, .bipush 32, 2, 0, [], ""),
  (199, .ldc 73, 2, 0, [2, 1047, 47], ""),
  (201, .aastore, 1, 0, [], ""),
  (202, .dup, 1, 0, [], ""),
  (203, .bipush 33, 2, 0, [], ""),
  (205, .ldc 75, 2, 0, [2, 1048, 48], ""),
  (207, .aastore, 1, 0, [], ""),
  (208, .dup, 1, 0, [], ""),
  (209, .bipush 34, 2, 0, [], ""),
  (211, .ldc 77, 2, 0, [2, 1049, 49], ""),
  (213, .aastore, 1, 0, [], ""),
  (214, .dup, 1, 0, [], ""),
  (215, .bipush 35, 2, 0, [], ""),
  (217, .ldc 79, 2, 0, [2, 1050, 50], ""),
  (219, .aastore, 1, 0, [], ""),
  (220, .dup, 1, 0, [], ""),
  (221, .bipush 36, 2, 0, [], ""),
  (223, .ldc 81, 2, 0, [2, 1051, 51], ""),
  (225, .aastore, 1, 0, [], ""),
  (226, .dup, 1, 0, [], ""),
  (227, .bipush 37, 2, 0, [], ""),
  (229, .ldc 83, 2, 0, [2, 1052, 52], ""),
  (231, .aastore, 1, 0, [], ""),
  (232, .dup, 1, 0, [], ""),
  (233, .bipush 38, 2, 0, [], ""),
  (235, .ldc 85, 2, 0, [2, 1053, 53], ""),
  (237, .aastore, 1, 0, [], ""),
  (238, .dup, 1, 0, [], ""),
  (239, .bipush 39, 2, 0, [], ""),
  (241, .ldc 87, 2, 0, [2, 1054, 54], ""),
  (243, .aastore, 1, 0, [], ""),
  (244, .dup, 1, 0, [], ""),
  (245, .bipush 40, 2, 0, [], ""),
  (247, .ldc 89, 2, 0, [2, 1055, 55], ""),
  (249, .aastore, 1, 0, [], ""),
  (250, .dup, 1, 0, [], ""),
  (251, .bipush 41, 2, 0, [], ""),
  (253, .ldc 91, 2, 0, [2, 1056, 56], ""),
  (255, .aastore, 1, 0, [], ""),
  (256, .dup, 1, 0, [], ""),
  (257, .bipush 42, 2, 0, [], ""),
  (259, .ldc 93, 2, 0, [2, 1057, 57], ""),
  (261, .aastore, 1, 0, [], ""),
  (262, .dup, 1, 0, [], ""),
  (263, .bipush 43, 2, 0, [], ""),
  (265, .ldc 95, 2, 0, [2, 1058, 58], ""),
  (267, .aastore, 1, 0, [], ""),
  (268, .dup, 1, 0, [], ""),
  (269, .bipush 44, 2, 0, [], ""),
  (271, .ldc 97, 2, 0, [2, 1059, 59], ""),
  (273, .aastore, 1, 0, [], ""),
  (274, .dup, 1, 0, [], ""),
  (275, .bipush 45, 2, 0, [], ""),
  (277, .ldc 99, 2, 0, [2, 1060, 60], ""),
  (279, .aastore, 1, 0, [], ""),
  (280, .dup, 1, 0, [], ""),
  (281, .bipush 46, 2, 0, [], ""),
  (283, .ldc 101, 2, 0, [2, 1061, 61], ""),
  (285, .aastore, 1, 0, [], ""),
  (286, .dup, 1, 0, [], ""),
  (287, .bipush 47, 2, 0, [], ""),
  (289, .ldc 103, 2, 0, [2, 1062, 62], ""),
  (291, .aastore, 1, 0, [], ""),
  (292, .dup, 1, 0, [], ""),
  (293, .bipush 48, 2, 0, [], ""),
  (295, .ldc 105, 2, 0, [2, 1063, 63], ""),
  (297, .aastore, 1, 0, [], ""),
  (298, .dup, 1, 0, [], ""),
  (299, .bipush 49, 2, 0, [], ""),
  (301, .ldc 107, 2, 0, [2, 1064, 64], ""),
  (303, .aastore, 1, 0, [], ""),
  (304, .dup, 1, 0, [], ""),
  (305, .bipush 50, 2, 0, [], ""),
  (307, .ldc 109, 2, 0, [2, 1065, 65], ""),
  (309, .aastore, 1, 0, [], ""),
  (310, .dup, 1, 0, [], ""),
  (311, .bipush 51, 2, 0, [], ""),
  (313, .ldc 111, 2, 0, [2, 1066, 66], ""),
  (315, .aastore, 1, 0, [], ""),
  (316, .dup, 1, 0, [], ""),
  (317, .bipush 52, 2, 0, [], ""),
  (319, .ldc 113, 2, 0, [2, 1067, 67], ""),
  (321, .aastore, 1, 0, [], ""),
  (322, .dup, 1, 0, [], ""),
  (323, .bipush 53, 2, 0, [], ""),
  (325, .ldc 115, 2, 0, [2, 1068, 68], ""),
  (327, .aastore, 1, 0, [], ""),
  (328, .dup, 1, 0, [], ""),
  (329, .bipush 54, 2, 0, [], ""),
  (331, .ldc 117, 2, 0, [2, 1069, 69], ""),
  (333, .aastore, 1, 0, [], ""),
  (334, .dup, 1, 0, [], ""),
  (335, .bipush 55, 2, 0, [], ""),
  (337, .ldc 119, 2, 0, [2, 1070, 70], ""),
  (339, .aastore, 1, 0, [], ""),
  (340, .dup, 1, 0, [], ""),
  (341, .bipush 56, 2, 0, [], ""),
  (343, .ldc 121, 2, 0, [2, 1071, 71], ""),
  (345, .aastore, 1, 0, [], ""),
  (346, .dup, 1, 0, [], ""),
  (347, .bipush 57, 2, 0, [], ""),
  (349, .ldc 123, 2, 0, [2, 1072, 72], ""),
  (351, .aastore, 1, 0, [], ""),
  (352, .dup, 1, 0, [], ""),
  (353, .bipush 58, 2, 0, [], ""),
  (355, .ldc 125, 2, 0, [2, 1073, 73], ""),
  (357, .aastore, 1, 0, [], ""),
  (358, .dup, 1, 0, [], ""),
  (359, .bipush 59, 2, 0, [], ""),
  (361, .ldc 127, 2, 0, [2, 1074, 74], ""),
  (363, .aastore, 1, 0, [], ""),
  (364, .dup, 1, 0, [], ""),
  (365, .bipush 60, 2, 0, [], ""),
  (367, .ldc 129, 2, 0, [2, 1075, 75], ""),
  (369, .aastore, 1, 0, [], ""),
  (370, .dup, 1, 0, [], ""),
  (371, .bipush 61, 2, 0, [], ""),
  (373, .ldc 131, 2, 0, [2, 1076, 76], ""),
  (375, .aastore, 1, 0, [], ""),
  (376, .dup, 1, 0, [], ""),
  (377, .bipush 62, 2, 0, [], ""),
  (379, .ldc 133, 2, 0, [2, 1077, 77], ""),
  (381, .aastore, 1, 0, [], ""),
  (382, .dup, 1, 0, [], ""),
  (383, .bipush 63, 2, 0, [], ""),
  (385, .ldc 135, 2, 0, [2, 1078, 78], ""),
  (387, .aastore, 1, 0, [], ""),
  (388, .dup, 1, 0, [], ""),
  (389, .bipush 64, 2, 0, [], ""),
  (391, .ldc 137, 2, 0, [2, 1079, 79], ""),
  (393, .aastore, 1, 0, [], ""),
  (394, .dup, 1, 0, [], ""),
  (395, .bipush 65, 2, 0, [], ""),
  (397, .ldc 139, 2, 0, [2, 1080, 80], ""),
  (399, .aastore, 1, 0, [], ""),
  (400, .dup, 1, 0, [], ""),
  (401, .bipush 66, 2, 0, [], ""),
  (403, .ldc 141, 2, 0, [2, 1010, 81], ""),
  (405, .aastore, 1, 0, [], ""),
  (406, .dup, 1, 0, [], ""),
  (407, .bipush 67, 2, 0, [], ""),
  (409, .ldc 143, 2, 0, [2, 1081, 82], ""),
  (411, .aastore, 1, 0, [], ""),
  (412, .dup, 1, 0, [], ""),
  (413, .bipush 68, 2, 0, [], ""),
  (415, .ldc 145, 2, 0, [2, 1082, 83], ""),
  (417, .aastore, 1, 0, [], ""),
  (418, .dup, 1, 0, [], ""),
  (419, .bipush 69, 2, 0, [], ""),
  (421, .ldc 147, 2, 0, [2, 1083, 84], ""),
  (423, .aastore, 1, 0, [], ""),
  (424, .dup, 1, 0, [], ""),
  (425, .bipush 70, 2, 0, [], ""),
  (427, .ldc 149, 2, 0, [2, 1084, 85], ""),
  (429, .aastore, 1, 0, [], ""),
  (430, .dup, 1, 0, [], ""),
  (431, .bipush 71, 2, 0, [], ""),
  (433, .ldc 151, 2, 0, [2, 1085, 86], ""),
  (435, .aastore, 1, 0, [], ""),
  (436, .dup, 1, 0, [], ""),
  (437, .bipush 72, 2, 0, [], ""),
  (439, .ldc 153, 2, 0, [2, 1086, 87], ""),
  (441, .aastore, 1, 0, [], ""),
  (442, .dup, 1, 0, [], ""),
  (443, .bipush 73, 2, 0, [], ""),
  (445, .ldc 155, 2, 0, [2, 1087, 88], ""),
  (447, .aastore, 1, 0, [], ""),
  (448, .dup, 1, 0, [], ""),
  (449, .bipush 74, 2, 0, [], ""),
  (451, .ldc 157, 2, 0, [2, 1088, 89], ""),
  (453, .aastore, 1, 0, [], ""),
  (454, .dup, 1, 0, [], ""),
  (455, .bipush 75, 2, 0, [], ""),
  (457, .ldc 159, 2, 0, [2, 1089, 90], ""),
  (459, .aastore, 1, 0, [], ""),
  (460, .dup, 1, 0, [], ""),
  (461, .bipush 76, 2, 0, [], ""),
  (463, .ldc 161, 2, 0, [2, 1090, 91], ""),
  (465, .aastore, 1, 0, [], ""),
  (466, .dup, 1, 0, [], ""),
  (467, .bipush 77, 2, 0, [], ""),
  (469, .ldc 163, 2, 0, [2, 1091, 92], ""),
  (471, .aastore, 1, 0, [], ""),
  (472, .dup, 1, 0, [], ""),
  (473, .bipush 78, 2, 0, [], ""),
  (475, .ldc 165, 2, 0, [2, 1092, 93], ""),
  (477, .aastore, 1, 0, [], ""),
  (478, .dup, 1, 0, [], ""),
  (479, .bipush 79, 2, 0, [], ""),
  (481, .ldc 167, 2, 0, [2, 1093, 94], ""),
  (483, .aastore, 1, 0, [], ""),
  (484, .dup, 1, 0, [], ""),
  (485, .bipush 80, 2, 0, [], ""),
  (487, .ldc 169, 2, 0, [2, 1094, 95], ""),
  (489, .aastore, 1, 0, [], ""),
  (490, .dup, 1, 0, [], ""),
  (491, .bipush 81, 2, 0, [], ""),
  (493, .ldc 171, 2, 0, [2, 1095, 96], ""),
  (495, .aastore, 1, 0, [], ""),
  (496, .putfield 173, 3, 0, [5, 0, 941], ""),
  (499, .aload_n 0, 1, 0, [], ""),
  (500, .ldc 179, 2, 0, [1, 65536, 938], ""),
  (502, .newarray .byte, 2, 0, [172], ""),
  (504, .putfield 180, 3, 0, [5, 2, 943], ""),
  (507, .aload_n 0, 1, 0, [], ""),
  (508, .ldc 179, 2, 0, [1, 65536, 938], ""),
  (510, .newarray .byte, 2, 0, [172], ""),
  (512, .putfield 184, 3, 0, [5, 4, 945], ""),
  (515, .aload_n 0, 1, 0, [], ""),
  (516, .ldc 187, 2, 0, [1, 65538, 939], ""),
  (518, .newarray .int, 2, 0, [196], ""),
  (520, .putfield 188, 3, 0, [5, 7, 948], ""),
  (523, .aload_n 0, 1, 0, [], ""),
  (524, .ldc 187, 2, 0, [1, 65538, 939], ""),
  (526, .newarray .byte, 2, 0, [172], ""),
  (528, .putfield 192, 3, 0, [5, 8, 949], ""),
  (531, .aload_n 0, 1, 0, [], ""),
  (532, .ldc 187, 2, 0, [1, 65538, 939], ""),
  (534, .newarray .short, 2, 0, [1017], ""),
  (536, .putfield 195, 3, 0, [5, 9, 950], ""),
  (539, .aload_n 0, 1, 0, [], ""),
  (540, .ldc 199, 2, 0, [1, 131072, 940], ""),
  (542, .newarray .int, 2, 0, [196], ""),
  (544, .putfield 200, 3, 0, [5, 12, 953], ""),
  (547, .aload_n 0, 1, 0, [], ""),
  (548, .ldc 199, 2, 0, [1, 131072, 940], ""),
  (550, .newarray .int, 2, 0, [196], ""),
  (552, .putfield 203, 3, 0, [5, 13, 954], ""),
  (555, .aload_n 0, 1, 0, [], ""),
  (556, .sipush 512, 3, 0, [], ""),
  (559, .newarray .int, 2, 0, [196], ""),
  (561, .putfield 206, 3, 0, [5, 22, 963], ""),
  (564, .aload_n 0, 1, 0, [], ""),
  (565, .sipush 512, 3, 0, [], ""),
  (568, .newarray .int, 2, 0, [196], ""),
  (570, .putfield 209, 3, 0, [5, 23, 964], ""),
  (573, .aload_n 0, 1, 0, [], ""),
  (574, .ldc 179, 2, 0, [1, 65536, 938], ""),
  (576, .newarray .int, 2, 0, [196], ""),
  (578, .putfield 212, 3, 0, [5, 24, 965], ""),
  (581, .aload_n 0, 1, 0, [], ""),
  (582, .iconst 0, 1, 0, [], ""),
  (583, .putfield 215, 3, 0, [5, 3, 944], ""),
  (586, .return_, 1, 7, [], "")])
set_option maxRecDepth 100000 in
/-- QueryReaderModel.thrown()I -/
def qm_115 : ai_M := (⟨"QueryReaderModel", "thrown", "()I"⟩, prog_9_method_2_code, 1, (Option.some Jvm.ClassFile.FieldType.int), [], [], [
  (0, .aload_n 0, 1, 0, [], ""),
  (1, .getfield 219, 3, 0, [5, 1, 942], ""),
  (4, .ireturn, 1, 5, [], "")])
set_option maxRecDepth 100000 in
/-- QueryReaderModel.feed(IIIII)V -/
def qm_116 : ai_M := (⟨"QueryReaderModel", "feed", "(IIIII)V"⟩, prog_9_method_3_code, 8, (Option.none : Option Jvm.ClassFile.FieldType), [], [], [
  (0, .aload_n 0, 1, 0, [], ""),
  (1, .aload_n 0, 1, 0, [], ""),
  (2, .getfield 215, 3, 0, [5, 3, 944], ""),
  (5, .bipush 20, 2, 0, [], ""),
  (7, .iadd, 1, 0, [], ""),
  (8, .ldc 179, 2, 0, [1, 65536, 938], ""),
  (10, .if_icmp .le 7, 3, 0, [9], ""),
  (13, .iconst 1, 1, 0, [], ""),
  (14, .goto 4, 3, 0, [10], ""),
  (17, .iconst 0, 1, 0, [], ""),
  (18, .putfield 219, 3, 0, [5, 1, 942], ""),
  (21, .aload_n 0, 1, 0, [], ""),
  (22, .getfield 219, 3, 0, [5, 1, 942], ""),
  (25, .ifCond .le 4, 3, 0, [15], ""),
  (28, .return_, 1, 7, [], ""),
  (29, .iconst 0, 1, 0, [], ""),
  (30, .istore 6, 2, 0, [], ""),
  (32, .iload 6, 2, 0, [], ""),
  (34, .bipush 20, 2, 0, [], ""),
  (36, .if_icmp .ge 90, 3, 0, [65], ""),
  (39, .iload 6, 2, 0, [], ""),
  (41, .iconst 4, 1, 0, [], ""),
  (42, .if_icmp .ge 7, 3, 0, [25], ""),
  (45, .iload_n 1, 1, 0, [], ""),
  (46, .goto 39, 3, 0, [41], ""),
  (49, .iload 6, 2, 0, [], ""),
  (51, .bipush 8, 2, 0, [], ""),
  (53, .if_icmp .ge 7, 3, 0, [30], ""),
  (56, .iload_n 2, 1, 0, [], ""),
  (57, .goto 28, 3, 0, [41], ""),
  (60, .iload 6, 2, 0, [], ""),
  (62, .bipush 12, 2, 0, [], ""),
  (64, .if_icmp .ge 7, 3, 0, [35], ""),
  (67, .iload_n 3, 1, 0, [], ""),
  (68, .goto 17, 3, 0, [41], ""),
  (71, .iload 6, 2, 0, [], ""),
  (73, .bipush 16, 2, 0, [], ""),
  (75, .if_icmp .ge 8, 3, 0, [40], ""),
  (78, .iload 4, 2, 0, [], ""),
  (80, .goto 5, 3, 0, [41], ""),
  (83, .iload 5, 2, 0, [], ""),
  (85, .istore 7, 2, 0, [], ""),
  (87, .aload_n 0, 1, 0, [], ""),
  (88, .getfield 180, 3, 0, [5, 2, 943], ""),
  (91, .aload_n 0, 1, 0, [], ""),
  (92, .getfield 215, 3, 0, [5, 3, 944], ""),
  (95, .iload 7, 2, 0, [], ""),
  (97, .bipush 24, 2, 0, [], ""),
  (99, .bipush 8, 2, 0, [], ""),
  (101, .iload 6, 2, 0, [], ""),
  (103, .iconst 4, 1, 0, [], ""),
  (104, .irem, 1, 0, [], ""),
  (105, .imul, 1, 0, [], ""),
  (106, .isub, 1, 0, [], ""),
  (107, .ishr, 1, 0, [], ""),
  (108, .i2b, 1, 0, [], ""),
  (109, .bastore, 1, 0, [], ""),
  (110, .aload_n 0, 1, 0, [], ""),
  (111, .dup, 1, 0, [], ""),
  (112, .getfield 215, 3, 0, [5, 3, 944], ""),
  (115, .iconst 1, 1, 0, [], ""),
  (116, .iadd, 1, 0, [], ""),
  (117, .putfield 215, 3, 0, [5, 3, 944], ""),
  (120, .iinc 6 1, 3, 0, [], ""),
  (123, .goto (-91), 3, 0, [17], ""),
  (126, .return_, 1, 7, [], "")])
set_option maxRecDepth 100000 in
/-- QueryReaderModel.end(I)V -/
def qm_117 : ai_M := (⟨"QueryReaderModel", "end", "(I)V"⟩, prog_9_method_4_code, 2, (Option.none : Option Jvm.ClassFile.FieldType), [], [], [
  (0, .aload_n 0, 1, 0, [], ""),
  (1, .iload_n 1, 1, 0, [], ""),
  (2, .ifCond .lt 11, 3, 0, [7], ""),
  (5, .iload_n 1, 1, 0, [], ""),
  (6, .aload_n 0, 1, 0, [], ""),
  (7, .getfield 215, 3, 0, [5, 3, 944], ""),
  (10, .if_icmp .le 7, 3, 0, [9], ""),
  (13, .iconst 1, 1, 0, [], ""),
  (14, .goto 4, 3, 0, [10], ""),
  (17, .iconst 0, 1, 0, [], ""),
  (18, .putfield 219, 3, 0, [5, 1, 942], ""),
  (21, .aload_n 0, 1, 0, [], ""),
  (22, .aload_n 0, 1, 0, [], ""),
  (23, .getfield 219, 3, 0, [5, 1, 942], ""),
  (26, .ifCond .le 10, 3, 0, [18], ""),
  (29, .aload_n 0, 1, 0, [], ""),
  (30, .getfield 215, 3, 0, [5, 3, 944], ""),
  (33, .goto 4, 3, 0, [19], ""),
  (36, .iload_n 1, 1, 0, [], ""),
  (37, .putfield 215, 3, 0, [5, 3, 944], ""),
  (40, .return_, 1, 7, [], "")])
set_option maxRecDepth 100000 in
/-- QueryReaderModel.read()I -/
def qm_118 : ai_M := (⟨"QueryReaderModel", "read", "()I"⟩, prog_9_method_69_code, 2, (Option.some Jvm.ClassFile.FieldType.int), [(85, 93, 96, 273)], [(49, 53, 54, "java/lang/IllegalArgumentException")], [
  (0, .aload_n 0, 1, 0, [], ""),
  (1, .iconst 0, 1, 0, [], ""),
  (2, .putfield 219, 3, 0, [5, 1, 942], ""),
  (5, .aload_n 0, 1, 0, [], ""),
  (6, .aload_n 0, 1, 0, [], ""),
  (7, .getfield 215, 3, 0, [5, 3, 944], ""),
  (10, .putfield 222, 3, 0, [5, 5, 946], ""),
  (13, .iconst 0, 1, 0, [], ""),
  (14, .istore_n 1, 1, 0, [], ""),
  (15, .iload_n 1, 1, 0, [], ""),
  (16, .aload_n 0, 1, 0, [], ""),
  (17, .getfield 215, 3, 0, [5, 3, 944], ""),
  (20, .if_icmp .ge 21, 3, 0, [23], ""),
  (23, .aload_n 0, 1, 0, [], ""),
  (24, .getfield 184, 3, 0, [5, 4, 945], ""),
  (27, .iload_n 1, 1, 0, [], ""),
  (28, .aload_n 0, 1, 0, [], ""),
  (29, .getfield 180, 3, 0, [5, 2, 943], ""),
  (32, .iload_n 1, 1, 0, [], ""),
  (33, .baload, 1, 0, [], ""),
  (34, .bastore, 1, 0, [], ""),
  (35, .iinc 1 1, 3, 0, [], ""),
  (38, .goto (-23), 3, 0, [9], ""),
  (41, .aload_n 0, 1, 0, [], ""),
  (42, .iconst 0, 1, 0, [], ""),
  (43, .putfield 215, 3, 0, [5, 3, 944], ""),
  (46, .aload_n 0, 1, 0, [], ""),
  (47, .invokevirtual 499, 3, 1, [119, 1, 1, 5, 1035, 53, 1037], ""),
  (50, .aload_n 0, 1, 0, [], ""),
  (51, .iconst 0, 1, 0, [], ""),
  (52, .putfield 270, 3, 0, [5, 10, 951], ""),
  (55, .aload_n 0, 1, 0, [], ""),
  (56, .iconst 0, 1, 0, [], ""),
  (57, .putfield 276, 3, 0, [5, 11, 952], ""),
  (60, .aload_n 0, 1, 0, [], ""),
  (61, .iconst 0, 1, 0, [], ""),
  (62, .putfield 299, 3, 0, [5, 14, 955], ""),
  (65, .aload_n 0, 1, 0, [], ""),
  (66, .iconst 0, 1, 0, [], ""),
  (67, .putfield 349, 3, 0, [5, 21, 962], ""),
  (70, .aload_n 0, 1, 0, [], ""),
  (71, .iconst 0, 1, 0, [], ""),
  (72, .putfield 302, 3, 0, [5, 15, 956], ""),
  (75, .aload_n 0, 1, 0, [], ""),
  (76, .iconst 0, 1, 0, [], ""),
  (77, .putfield 502, 3, 0, [5, 16, 957], ""),
  (80, .aload_n 0, 1, 0, [], ""),
  (81, .iconst 0, 1, 0, [], ""),
  (82, .putfield 505, 3, 0, [5, 17, 958], ""),
  (85, .aload_n 0, 1, 0, [], ""),
  (86, .aload_n 0, 1, 0, [], ""),
  (87, .invokevirtual 508, 3, 1, [130, 1, 1, 5, 1079, 61, 1081], ""),
  (90, .putfield 502, 3, 0, [5, 16, 957], ""),
  (93, .goto 24, 3, 0, [67], ""),
  (96, .astore_n 1, 1, 0, [], ""),
  (97, .aload_n 0, 1, 0, [], ""),
  (98, .aload_n 0, 1, 0, [], ""),
  (99, .getfield 188, 3, 0, [5, 7, 948], ""),
  (102, .aload_n 0, 1, 0, [], ""),
  (103, .getfield 270, 3, 0, [5, 10, 951], ""),
  (106, .iaload, 1, 0, [], ""),
  (107, .iconst 1, 1, 0, [], ""),
  (108, .iadd, 1, 0, [], ""),
  (109, .putfield 505, 3, 0, [5, 17, 958], ""),
  (112, .aload_n 0, 1, 0, [], ""),
  (113, .iconst 0, 1, 0, [], ""),
  (114, .putfield 276, 3, 0, [5, 11, 952], ""),
  (117, .aload_n 0, 1, 0, [], ""),
  (118, .getfield 505, 3, 0, [5, 17, 958], ""),
  (121, .ireturn, 1, 5, [], "")])
set_option maxRecDepth 100000 in
/-- QueryReaderModel.readTokens()V -/
def qm_119 : ai_M := (⟨"QueryReaderModel", "readTokens", "()V"⟩, prog_9_method_15_code, 2, (Option.none : Option Jvm.ClassFile.FieldType), [], [], [
  (0, .aload_n 0, 1, 0, [], ""),
  (1, .iconst 0, 1, 0, [], ""),
  (2, .putfield 229, 3, 0, [5, 6, 947], ""),
  (5, .aload_n 0, 1, 0, [], ""),
  (6, .iconst 0, 1, 0, [], ""),
  (7, .invokevirtual 264, 3, 1, [120, 2, 1, 5, 1039, 54, 1041], ""),
  (10, .istore_n 1, 1, 0, [], ""),
  (11, .iload_n 1, 1, 0, [], ""),
  (12, .aload_n 0, 1, 0, [], ""),
  (13, .getfield 222, 3, 0, [5, 5, 946], ""),
  (16, .if_icmp .ge 28, 3, 0, [25], ""),
  (19, .aload_n 0, 1, 0, [], ""),
  (20, .iload_n 1, 1, 0, [], ""),
  (21, .invokevirtual 267, 3, 1, [122, 2, 1, 5, 1047, 56, 1049], ""),
  (24, .istore_n 1, 1, 0, [], ""),
  (25, .iload_n 1, 1, 0, [], ""),
  (26, .ldc 179, 2, 0, [1, 65536, 938], ""),
  (28, .if_icmp .le 7, 3, 0, [20], ""),
  (31, .iload_n 1, 1, 0, [], ""),
  (32, .goto 8, 3, 0, [23], ""),
  (35, .aload_n 0, 1, 0, [], ""),
  (36, .iload_n 1, 1, 0, [], ""),
  (37, .invokevirtual 264, 3, 1, [120, 2, 1, 5, 1039, 54, 1041], ""),
  (40, .istore_n 1, 1, 0, [], ""),
  (41, .goto (-30), 3, 0, [7], ""),
  (44, .aload_n 0, 1, 0, [], ""),
  (45, .aload_n 0, 1, 0, [], ""),
  (46, .getfield 222, 3, 0, [5, 5, 946], ""),
  (49, .iconst 0, 1, 0, [], ""),
  (50, .bipush 7, 2, 0, [], ""),
  (52, .invokevirtual 256, 3, 1, [126, 4, 1, 5, 1061, 58, 1063], ""),
  (55, .return_, 1, 7, [], "")])
end
section
/-! PRINTED BY wip/whole/print.py: methods. -/
set_option maxRecDepth 100000 in
/-- QueryReaderModel.skipBlanks(I)I -/
def qm_120 : ai_M := (⟨"QueryReaderModel", "skipBlanks", "(I)I"⟩, prog_9_method_9_code, 5, (Option.some Jvm.ClassFile.FieldType.int), [], [], [
  (0, .iload_n 1, 1, 0, [], ""),
  (1, .istore_n 2, 1, 0, [], ""),
  (2, .iconst 1, 1, 0, [], ""),
  (3, .istore_n 3, 1, 0, [], ""),
  (4, .iload_n 3, 1, 0, [], ""),
  (5, .ifCond .eq 93, 3, 0, [49], ""),
  (8, .aload_n 0, 1, 0, [], ""),
  (9, .iload_n 2, 1, 0, [], ""),
  (10, .invokevirtual 225, 3, 1, [121, 2, 1, 5, 1043, 55, 1045], ""),
  (13, .istore 4, 2, 0, [], ""),
  (15, .iload 4, 2, 0, [], ""),
  (17, .bipush 9, 2, 0, [], ""),
  (19, .if_icmp .eq 24, 3, 0, [22], ""),
  (22, .iload 4, 2, 0, [], ""),
  (24, .bipush 10, 2, 0, [], ""),
  (26, .if_icmp .eq 17, 3, 0, [22], ""),
  (29, .iload 4, 2, 0, [], ""),
  (31, .bipush 13, 2, 0, [], ""),
  (33, .if_icmp .eq 10, 3, 0, [22], ""),
  (36, .iload 4, 2, 0, [], ""),
  (38, .bipush 32, 2, 0, [], ""),
  (40, .if_icmp .ne 9, 3, 0, [24], ""),
  (43, .iinc 2 1, 3, 0, [], ""),
  (46, .goto 49, 3, 0, [48], ""),
  (49, .iload 4, 2, 0, [], ""),
  (51, .bipush 45, 2, 0, [], ""),
  (53, .if_icmp .ne 40, 3, 0, [46], ""),
  (56, .aload_n 0, 1, 0, [], ""),
  (57, .iload_n 2, 1, 0, [], ""),
  (58, .iconst 1, 1, 0, [], ""),
  (59, .iadd, 1, 0, [], ""),
  (60, .invokevirtual 225, 3, 1, [121, 2, 1, 5, 1043, 55, 1045], ""),
  (63, .bipush 45, 2, 0, [], ""),
  (65, .if_icmp .ne 28, 3, 0, [46], ""),
  (68, .iload_n 2, 1, 0, [], ""),
  (69, .aload_n 0, 1, 0, [], ""),
  (70, .getfield 222, 3, 0, [5, 5, 946], ""),
  (73, .if_icmp .ge 22, 3, 0, [48], ""),
  (76, .aload_n 0, 1, 0, [], ""),
  (77, .getfield 184, 3, 0, [5, 4, 945], ""),
  (80, .iload_n 2, 1, 0, [], ""),
  (81, .baload, 1, 0, [], ""),
  (82, .bipush 10, 2, 0, [], ""),
  (84, .if_icmp .eq 11, 3, 0, [48], ""),
  (87, .iinc 2 1, 3, 0, [], ""),
  (90, .goto (-22), 3, 0, [34], ""),
  (93, .iconst 0, 1, 0, [], ""),
  (94, .istore_n 3, 1, 0, [], ""),
  (95, .goto (-91), 3, 0, [4], ""),
  (98, .iload_n 2, 1, 0, [], ""),
  (99, .ireturn, 1, 5, [], "")])
set_option maxRecDepth 100000 in
/-- QueryReaderModel.byteAt(I)I -/
def qm_121 : ai_M := (⟨"QueryReaderModel", "byteAt", "(I)I"⟩, prog_9_method_8_code, 2, (Option.some Jvm.ClassFile.FieldType.int), [], [], [
  (0, .iload_n 1, 1, 0, [], ""),
  (1, .aload_n 0, 1, 0, [], ""),
  (2, .getfield 222, 3, 0, [5, 5, 946], ""),
  (5, .if_icmp .ge 12, 3, 0, [9], ""),
  (8, .aload_n 0, 1, 0, [], ""),
  (9, .getfield 184, 3, 0, [5, 4, 945], ""),
  (12, .iload_n 1, 1, 0, [], ""),
  (13, .baload, 1, 0, [], ""),
  (14, .goto 4, 3, 0, [10], ""),
  (17, .iconst (-1), 1, 0, [], ""),
  (18, .ireturn, 1, 5, [], "")])
set_option maxRecDepth 100000 in
/-- QueryReaderModel.readToken(I)I -/
def qm_122 : ai_M := (⟨"QueryReaderModel", "readToken", "(I)I"⟩, prog_9_method_14_code, 6, (Option.some Jvm.ClassFile.FieldType.int), [], [], [
  (0, .aload_n 0, 1, 0, [], ""),
  (1, .iload_n 1, 1, 0, [], ""),
  (2, .invokevirtual 225, 3, 1, [121, 2, 1, 5, 1043, 55, 1045], ""),
  (5, .istore_n 2, 1, 0, [], ""),
  (6, .iconst 1, 1, 0, [], ""),
  (7, .istore_n 3, 1, 0, [], ""),
  (8, .bipush 6, 2, 0, [], ""),
  (10, .istore 4, 2, 0, [], ""),
  (12, .iload_n 2, 1, 0, [], ""),
  (13, .invokestatic 246, 3, 1, [123, 1, 0, 0, 1051, 1052], ""),
  (16, .ifCond .eq 52, 3, 0, [35], ""),
  (19, .aload_n 0, 1, 0, [], ""),
  (20, .iload_n 1, 1, 0, [], ""),
  (21, .iload_n 3, 1, 0, [], ""),
  (22, .iadd, 1, 0, [], ""),
  (23, .invokevirtual 225, 3, 1, [121, 2, 1, 5, 1043, 55, 1045], ""),
  (26, .invokestatic 246, 3, 1, [123, 1, 0, 0, 1051, 1052], ""),
  (29, .ifCond .ne 16, 3, 0, [25], ""),
  (32, .aload_n 0, 1, 0, [], ""),
  (33, .iload_n 1, 1, 0, [], ""),
  (34, .iload_n 3, 1, 0, [], ""),
  (35, .iadd, 1, 0, [], ""),
  (36, .invokevirtual 225, 3, 1, [121, 2, 1, 5, 1043, 55, 1045], ""),
  (39, .invokestatic 250, 3, 1, [124, 1, 0, 0, 1054, 1055], ""),
  (42, .ifCond .eq 9, 3, 0, [27], ""),
  (45, .iinc 3 1, 3, 0, [], ""),
  (48, .goto (-29), 3, 0, [11], ""),
  (51, .iload_n 3, 1, 0, [], ""),
  (52, .bipush 30, 2, 0, [], ""),
  (54, .if_icmp .gt 7, 3, 0, [32], ""),
  (57, .iconst 2, 1, 0, [], ""),
  (58, .goto 5, 3, 0, [33], ""),
  (61, .bipush 6, 2, 0, [], ""),
  (63, .istore 4, 2, 0, [], ""),
  (65, .goto 226, 3, 0, [149], ""),
  (68, .iload_n 2, 1, 0, [], ""),
  (69, .invokestatic 250, 3, 1, [124, 1, 0, 0, 1054, 1055], ""),
  (72, .ifCond .eq 39, 3, 0, [55], ""),
  (75, .aload_n 0, 1, 0, [], ""),
  (76, .iload_n 1, 1, 0, [], ""),
  (77, .iload_n 3, 1, 0, [], ""),
  (78, .iadd, 1, 0, [], ""),
  (79, .invokevirtual 225, 3, 1, [121, 2, 1, 5, 1043, 55, 1045], ""),
  (82, .invokestatic 250, 3, 1, [124, 1, 0, 0, 1054, 1055], ""),
  (85, .ifCond .eq 9, 3, 0, [47], ""),
  (88, .iinc 3 1, 3, 0, [], ""),
  (91, .goto (-16), 3, 0, [38], ""),
  (94, .iload_n 3, 1, 0, [], ""),
  (95, .bipush 18, 2, 0, [], ""),
  (97, .if_icmp .gt 7, 3, 0, [52], ""),
  (100, .iconst 3, 1, 0, [], ""),
  (101, .goto 5, 3, 0, [53], ""),
  (104, .bipush 6, 2, 0, [], ""),
  (106, .istore 4, 2, 0, [], ""),
  (108, .goto 183, 3, 0, [149], ""),
  (111, .iload_n 2, 1, 0, [], ""),
  (112, .bipush 39, 2, 0, [], ""),
  (114, .if_icmp .ne 24, 3, 0, [69], ""),
  (117, .aload_n 0, 1, 0, [], ""),
  (118, .iload_n 1, 1, 0, [], ""),
  (119, .invokevirtual 253, 3, 1, [125, 2, 1, 5, 1057, 57, 1059], ""),
  (122, .istore_n 3, 1, 0, [], ""),
  (123, .iload_n 3, 1, 0, [], ""),
  (124, .ifCond .le 7, 3, 0, [66], ""),
  (127, .iconst 4, 1, 0, [], ""),
  (128, .goto 5, 3, 0, [67], ""),
  (131, .bipush 6, 2, 0, [], ""),
  (133, .istore 4, 2, 0, [], ""),
  (135, .goto 156, 3, 0, [149], ""),
  (138, .iload_n 2, 1, 0, [], ""),
  (139, .bipush 124, 2, 0, [], ""),
  (141, .if_icmp .ne 28, 3, 0, [86], ""),
  (144, .aload_n 0, 1, 0, [], ""),
  (145, .iload_n 1, 1, 0, [], ""),
  (146, .iconst 1, 1, 0, [], ""),
  (147, .iadd, 1, 0, [], ""),
  (148, .invokevirtual 225, 3, 1, [121, 2, 1, 5, 1043, 55, 1045], ""),
  (151, .bipush 124, 2, 0, [], ""),
  (153, .if_icmp .ne 7, 3, 0, [81], ""),
  (156, .iconst 5, 1, 0, [], ""),
  (157, .goto 5, 3, 0, [82], ""),
  (160, .bipush 6, 2, 0, [], ""),
  (162, .istore 4, 2, 0, [], ""),
  (164, .iconst 2, 1, 0, [], ""),
  (165, .istore_n 3, 1, 0, [], ""),
  (166, .goto 125, 3, 0, [149], ""),
  (169, .iload_n 2, 1, 0, [], ""),
  (170, .bipush 60, 2, 0, [], ""),
  (172, .if_icmp .eq 9, 3, 0, [92], ""),
  (175, .iload_n 2, 1, 0, [], ""),
  (176, .bipush 62, 2, 0, [], ""),
  (178, .if_icmp .ne 44, 3, 0, [114], ""),
  (181, .aload_n 0, 1, 0, [], ""),
  (182, .iload_n 1, 1, 0, [], ""),
  (183, .iconst 1, 1, 0, [], ""),
  (184, .iadd, 1, 0, [], ""),
  (185, .invokevirtual 225, 3, 1, [121, 2, 1, 5, 1043, 55, 1045], ""),
  (188, .istore 5, 2, 0, [], ""),
  (190, .iload 5, 2, 0, [], ""),
  (192, .bipush 61, 2, 0, [], ""),
  (194, .if_icmp .eq 16, 3, 0, [107], ""),
  (197, .iload_n 2, 1, 0, [], ""),
  (198, .bipush 60, 2, 0, [], ""),
  (200, .if_icmp .ne 14, 3, 0, [109], ""),
  (203, .iload 5, 2, 0, [], ""),
  (205, .bipush 62, 2, 0, [], ""),
  (207, .if_icmp .ne 7, 3, 0, [109], ""),
  (210, .iconst 2, 1, 0, [], ""),
  (211, .goto 4, 3, 0, [110], ""),
  (214, .iconst 1, 1, 0, [], ""),
  (215, .istore_n 3, 1, 0, [], ""),
  (216, .iconst 5, 1, 0, [], ""),
  (217, .istore 4, 2, 0, [], ""),
  (219, .goto 72, 3, 0, [149], ""),
  (222, .iload_n 2, 1, 0, [], ""),
  (223, .bipush 40, 2, 0, [], ""),
  (225, .if_icmp .eq 63, 3, 0, [147], ""),
  (228, .iload_n 2, 1, 0, [], ""),
  (229, .bipush 41, 2, 0, [], ""),
  (231, .if_icmp .eq 57, 3, 0, [147], ""),
  (234, .iload_n 2, 1, 0, [], ""),
  (235, .bipush 44, 2, 0, [], ""),
  (237, .if_icmp .eq 51, 3, 0, [147], ""),
  (240, .iload_n 2, 1, 0, [], ""),
  (241, .bipush 46, 2, 0, [], ""),
  (243, .if_icmp .eq 45, 3, 0, [147], ""),
  (246, .iload_n 2, 1, 0, [], ""),
  (247, .bipush 59, 2, 0, [], ""),
  (249, .if_icmp .eq 39, 3, 0, [147], ""),
  (252, .iload_n 2, 1, 0, [], ""),
  (253, .bipush 43, 2, 0, [], ""),
  (255, .if_icmp .eq 33, 3, 0, [147], ""),
  (258, .iload_n 2, 1, 0, [], ""),
  (259, .bipush 45, 2, 0, [], ""),
  (261, .if_icmp .eq 27, 3, 0, [147], ""),
  (264, .iload_n 2, 1, 0, [], ""),
  (265, .bipush 42, 2, 0, [], ""),
  (267, .if_icmp .eq 21, 3, 0, [147], ""),
  (270, .iload_n 2, 1, 0, [], ""),
  (271, .bipush 47, 2, 0, [], ""),
  (273, .if_icmp .eq 15, 3, 0, [147], ""),
  (276, .iload_n 2, 1, 0, [], ""),
  (277, .bipush 37, 2, 0, [], ""),
  (279, .if_icmp .eq 9, 3, 0, [147], ""),
  (282, .iload_n 2, 1, 0, [], ""),
  (283, .bipush 61, 2, 0, [], ""),
  (285, .if_icmp .ne 6, 3, 0, [149], ""),
  (288, .iconst 5, 1, 0, [], ""),
  (289, .istore 4, 2, 0, [], ""),
  (291, .iload 4, 2, 0, [], ""),
  (293, .bipush 6, 2, 0, [], ""),
  (295, .if_icmp .ne 15, 3, 0, [159], ""),
  (298, .aload_n 0, 1, 0, [], ""),
  (299, .iload_n 1, 1, 0, [], ""),
  (300, .iconst 0, 1, 0, [], ""),
  (301, .bipush 6, 2, 0, [], ""),
  (303, .invokevirtual 256, 3, 1, [126, 4, 1, 5, 1061, 58, 1063], ""),
  (306, .ldc_w 260, 3, 0, [1, 65537, 1065], ""),
  (309, .ireturn, 1, 5, [], ""),
  (310, .aload_n 0, 1, 0, [], ""),
  (311, .iload_n 1, 1, 0, [], ""),
  (312, .iload_n 3, 1, 0, [], ""),
  (313, .iload 4, 2, 0, [], ""),
  (315, .invokevirtual 256, 3, 1, [126, 4, 1, 5, 1061, 58, 1063], ""),
  (318, .iload 4, 2, 0, [], ""),
  (320, .iconst 2, 1, 0, [], ""),
  (321, .if_icmp .ne 28, 3, 0, [182], ""),
  (324, .aload_n 0, 1, 0, [], ""),
  (325, .aload_n 0, 1, 0, [], ""),
  (326, .getfield 229, 3, 0, [5, 6, 947], ""),
  (329, .iconst 1, 1, 0, [], ""),
  (330, .isub, 1, 0, [], ""),
  (331, .invokevirtual 261, 3, 1, [127, 2, 1, 5, 1066, 59, 1068], ""),
  (334, .ifCond .lt 15, 3, 0, [182], ""),
  (337, .aload_n 0, 1, 0, [], ""),
  (338, .getfield 192, 3, 0, [5, 8, 949], ""),
  (341, .aload_n 0, 1, 0, [], ""),
  (342, .getfield 229, 3, 0, [5, 6, 947], ""),
  (345, .iconst 1, 1, 0, [], ""),
  (346, .isub, 1, 0, [], ""),
  (347, .iconst 1, 1, 0, [], ""),
  (348, .bastore, 1, 0, [], ""),
  (349, .iload_n 1, 1, 0, [], ""),
  (350, .iload_n 3, 1, 0, [], ""),
  (351, .iadd, 1, 0, [], ""),
  (352, .ireturn, 1, 5, [], "")])
set_option maxRecDepth 100000 in
/-- QueryReaderModel.isLetter(I)Z -/
def qm_123 : ai_M := (⟨"QueryReaderModel", "isLetter", "(I)Z"⟩, prog_9_method_5_code, 1, (Option.some Jvm.ClassFile.FieldType.boolean), [], [], [
  (0, .iload_n 0, 1, 0, [], ""),
  (1, .bipush 97, 2, 0, [], ""),
  (3, .if_icmp .lt 9, 3, 0, [6], ""),
  (6, .iload_n 0, 1, 0, [], ""),
  (7, .bipush 122, 2, 0, [], ""),
  (9, .if_icmp .le 21, 3, 0, [15], ""),
  (12, .iload_n 0, 1, 0, [], ""),
  (13, .bipush 65, 2, 0, [], ""),
  (15, .if_icmp .lt 9, 3, 0, [12], ""),
  (18, .iload_n 0, 1, 0, [], ""),
  (19, .bipush 90, 2, 0, [], ""),
  (21, .if_icmp .le 9, 3, 0, [15], ""),
  (24, .iload_n 0, 1, 0, [], ""),
  (25, .bipush 95, 2, 0, [], ""),
  (27, .if_icmp .ne 7, 3, 0, [17], ""),
  (30, .iconst 1, 1, 0, [], ""),
  (31, .goto 4, 3, 0, [18], ""),
  (34, .iconst 0, 1, 0, [], ""),
  (35, .ireturn, 1, 5, [], "")])
set_option maxRecDepth 100000 in
/-- QueryReaderModel.isDigit(I)Z -/
def qm_124 : ai_M := (⟨"QueryReaderModel", "isDigit", "(I)Z"⟩, prog_9_method_6_code, 1, (Option.some Jvm.ClassFile.FieldType.boolean), [], [], [
  (0, .iload_n 0, 1, 0, [], ""),
  (1, .bipush 48, 2, 0, [], ""),
  (3, .if_icmp .lt 13, 3, 0, [8], ""),
  (6, .iload_n 0, 1, 0, [], ""),
  (7, .bipush 57, 2, 0, [], ""),
  (9, .if_icmp .gt 7, 3, 0, [8], ""),
  (12, .iconst 1, 1, 0, [], ""),
  (13, .goto 4, 3, 0, [9], ""),
  (16, .iconst 0, 1, 0, [], ""),
  (17, .ireturn, 1, 5, [], "")])
set_option maxRecDepth 100000 in
/-- QueryReaderModel.stringAt(I)I -/
def qm_125 : ai_M := (⟨"QueryReaderModel", "stringAt", "(I)I"⟩, prog_9_method_13_code, 5, (Option.some Jvm.ClassFile.FieldType.int), [], [], [
  (0, .iload_n 1, 1, 0, [], ""),
  (1, .iconst 1, 1, 0, [], ""),
  (2, .iadd, 1, 0, [], ""),
  (3, .istore_n 2, 1, 0, [], ""),
  (4, .iconst 0, 1, 0, [], ""),
  (5, .istore_n 3, 1, 0, [], ""),
  (6, .iload_n 3, 1, 0, [], ""),
  (7, .sipush 200, 3, 0, [], ""),
  (10, .if_icmp .gt 74, 3, 0, [50], ""),
  (13, .aload_n 0, 1, 0, [], ""),
  (14, .iload_n 2, 1, 0, [], ""),
  (15, .invokevirtual 225, 3, 1, [121, 2, 1, 5, 1043, 55, 1045], ""),
  (18, .istore 4, 2, 0, [], ""),
  (20, .iload 4, 2, 0, [], ""),
  (22, .bipush 39, 2, 0, [], ""),
  (24, .if_icmp .ne 21, 3, 0, [29], ""),
  (27, .aload_n 0, 1, 0, [], ""),
  (28, .iload_n 2, 1, 0, [], ""),
  (29, .iconst 1, 1, 0, [], ""),
  (30, .iadd, 1, 0, [], ""),
  (31, .invokevirtual 225, 3, 1, [121, 2, 1, 5, 1043, 55, 1045], ""),
  (34, .bipush 39, 2, 0, [], ""),
  (36, .if_icmp .eq 9, 3, 0, [29], ""),
  (39, .iload_n 2, 1, 0, [], ""),
  (40, .iconst 1, 1, 0, [], ""),
  (41, .iadd, 1, 0, [], ""),
  (42, .iload_n 1, 1, 0, [], ""),
  (43, .isub, 1, 0, [], ""),
  (44, .ireturn, 1, 5, [], ""),
  (45, .iload 4, 2, 0, [], ""),
  (47, .bipush 32, 2, 0, [], ""),
  (49, .if_icmp .lt 10, 3, 0, [35], ""),
  (52, .iload 4, 2, 0, [], ""),
  (54, .bipush 126, 2, 0, [], ""),
  (56, .if_icmp .le 5, 3, 0, [37], ""),
  (59, .iconst (-1), 1, 0, [], ""),
  (60, .ireturn, 1, 5, [], ""),
  (61, .iload 4, 2, 0, [], ""),
  (63, .bipush 39, 2, 0, [], ""),
  (65, .if_icmp .ne 9, 3, 0, [44], ""),
  (68, .iload_n 2, 1, 0, [], ""),
  (69, .iconst 2, 1, 0, [], ""),
  (70, .iadd, 1, 0, [], ""),
  (71, .goto 6, 3, 0, [47], ""),
  (74, .iload_n 2, 1, 0, [], ""),
  (75, .iconst 1, 1, 0, [], ""),
  (76, .iadd, 1, 0, [], ""),
  (77, .istore_n 2, 1, 0, [], ""),
  (78, .iinc 3 1, 3, 0, [], ""),
  (81, .goto (-75), 3, 0, [6], ""),
  (84, .iconst (-1), 1, 0, [], ""),
  (85, .ireturn, 1, 5, [], "")])
set_option maxRecDepth 100000 in
/-- QueryReaderModel.token(III)V -/
def qm_126 : ai_M := (⟨"QueryReaderModel", "token", "(III)V"⟩, prog_9_method_10_code, 4, (Option.none : Option Jvm.ClassFile.FieldType), [], [], [
  (0, .aload_n 0, 1, 0, [], ""),
  (1, .getfield 188, 3, 0, [5, 7, 948], ""),
  (4, .aload_n 0, 1, 0, [], ""),
  (5, .getfield 229, 3, 0, [5, 6, 947], ""),
  (8, .iload_n 1, 1, 0, [], ""),
  (9, .iastore, 1, 0, [], ""),
  (10, .aload_n 0, 1, 0, [], ""),
  (11, .getfield 195, 3, 0, [5, 9, 950], ""),
  (14, .aload_n 0, 1, 0, [], ""),
  (15, .getfield 229, 3, 0, [5, 6, 947], ""),
  (18, .iload_n 2, 1, 0, [], ""),
  (19, .i2s, 1, 0, [], ""),
  (20, .sastore, 1, 0, [], ""),
  (21, .aload_n 0, 1, 0, [], ""),
  (22, .getfield 192, 3, 0, [5, 8, 949], ""),
  (25, .aload_n 0, 1, 0, [], ""),
  (26, .getfield 229, 3, 0, [5, 6, 947], ""),
  (29, .iload_n 3, 1, 0, [], ""),
  (30, .i2b, 1, 0, [], ""),
  (31, .bastore, 1, 0, [], ""),
  (32, .aload_n 0, 1, 0, [], ""),
  (33, .dup, 1, 0, [], ""),
  (34, .getfield 229, 3, 0, [5, 6, 947], ""),
  (37, .iconst 1, 1, 0, [], ""),
  (38, .iadd, 1, 0, [], ""),
  (39, .putfield 229, 3, 0, [5, 6, 947], ""),
  (42, .return_, 1, 7, [], "")])
set_option maxRecDepth 100000 in
/-- QueryReaderModel.wordOf(I)I -/
def qm_127 : ai_M := (⟨"QueryReaderModel", "wordOf", "(I)I"⟩, prog_9_method_12_code, 3, (Option.some Jvm.ClassFile.FieldType.int), [], [], [
  (0, .iconst 0, 1, 0, [], ""),
  (1, .istore_n 2, 1, 0, [], ""),
  (2, .iload_n 2, 1, 0, [], ""),
  (3, .aload_n 0, 1, 0, [], ""),
  (4, .getfield 173, 3, 0, [5, 0, 941], ""),
  (7, .arraylength, 1, 0, [], ""),
  (8, .if_icmp .ge 25, 3, 0, [19], ""),
  (11, .aload_n 0, 1, 0, [], ""),
  (12, .iload_n 1, 1, 0, [], ""),
  (13, .aload_n 0, 1, 0, [], ""),
  (14, .getfield 173, 3, 0, [5, 0, 941], ""),
  (17, .iload_n 2, 1, 0, [], ""),
  (18, .aaload, 1, 0, [], ""),
  (19, .invokevirtual 242, 3, 1, [128, 3, 1, 5, 1070, 60, 1072], ""),
  (22, .ifCond .eq 5, 3, 0, [17], ""),
  (25, .iload_n 2, 1, 0, [], ""),
  (26, .ireturn, 1, 5, [], ""),
  (27, .iinc 2 1, 3, 0, [], ""),
  (30, .goto (-28), 3, 0, [2], ""),
  (33, .iconst (-1), 1, 0, [], ""),
  (34, .ireturn, 1, 5, [], "")])
set_option maxRecDepth 100000 in
/-- QueryReaderModel.spells(ILjava/lang/String;)Z -/
def qm_128 : ai_M := (⟨"QueryReaderModel", "spells", "(ILjava/lang/String;)Z"⟩, prog_9_method_11_code, 5, (Option.some Jvm.ClassFile.FieldType.boolean), [], [], [
  (0, .aload_n 0, 1, 0, [], ""),
  (1, .getfield 195, 3, 0, [5, 9, 950], ""),
  (4, .iload_n 1, 1, 0, [], ""),
  (5, .saload, 1, 0, [], ""),
  (6, .aload_n 2, 1, 0, [], ""),
  (7, .invokevirtual 232, 3, 1, [18, 1, 1, 7, 1074, 312, 311], ""),
  (10, .if_icmp .ne 7, 3, 0, [9], ""),
  (13, .iconst 1, 1, 0, [], ""),
  (14, .goto 4, 3, 0, [10], ""),
  (17, .iconst 0, 1, 0, [], ""),
  (18, .istore_n 3, 1, 0, [], ""),
  (19, .iconst 0, 1, 0, [], ""),
  (20, .istore 4, 2, 0, [], ""),
  (22, .iload 4, 2, 0, [], ""),
  (24, .aload_n 2, 1, 0, [], ""),
  (25, .invokevirtual 232, 3, 1, [18, 1, 1, 7, 1074, 312, 311], ""),
  (28, .if_icmp .ge 48, 3, 0, [40], ""),
  (31, .iload_n 3, 1, 0, [], ""),
  (32, .ifCond .eq 44, 3, 0, [40], ""),
  (35, .aload_n 0, 1, 0, [], ""),
  (36, .getfield 184, 3, 0, [5, 4, 945], ""),
  (39, .aload_n 0, 1, 0, [], ""),
  (40, .getfield 188, 3, 0, [5, 7, 948], ""),
  (43, .iload_n 1, 1, 0, [], ""),
  (44, .iaload, 1, 0, [], ""),
  (45, .iload 4, 2, 0, [], ""),
  (47, .iadd, 1, 0, [], ""),
  (48, .baload, 1, 0, [], ""),
  (49, .invokestatic 235, 3, 1, [129, 1, 0, 0, 1075, 1076], ""),
  (52, .aload_n 2, 1, 0, [], ""),
  (53, .iload 4, 2, 0, [], ""),
  (55, .invokevirtual 238, 3, 1, [20, 2, 1, 7, 1078, 321, 320], ""),
  (58, .invokestatic 235, 3, 1, [129, 1, 0, 0, 1075, 1076], ""),
  (61, .if_icmp .ne 7, 3, 0, [36], ""),
  (64, .iconst 1, 1, 0, [], ""),
  (65, .goto 4, 3, 0, [37], ""),
  (68, .iconst 0, 1, 0, [], ""),
  (69, .istore_n 3, 1, 0, [], ""),
  (70, .iinc 4 1, 3, 0, [], ""),
  (73, .goto (-51), 3, 0, [13], ""),
  (76, .iload_n 3, 1, 0, [], ""),
  (77, .ireturn, 1, 5, [], "")])
set_option maxRecDepth 100000 in
/-- QueryReaderModel.small(I)I -/
def qm_129 : ai_M := (⟨"QueryReaderModel", "small", "(I)I"⟩, prog_9_method_7_code, 1, (Option.some Jvm.ClassFile.FieldType.int), [], [], [
  (0, .iload_n 0, 1, 0, [], ""),
  (1, .bipush 65, 2, 0, [], ""),
  (3, .if_icmp .lt 16, 3, 0, [10], ""),
  (6, .iload_n 0, 1, 0, [], ""),
  (7, .bipush 90, 2, 0, [], ""),
  (9, .if_icmp .gt 10, 3, 0, [10], ""),
  (12, .iload_n 0, 1, 0, [], ""),
  (13, .bipush 32, 2, 0, [], ""),
  (15, .iadd, 1, 0, [], ""),
  (16, .goto 4, 3, 0, [11], ""),
  (19, .iload_n 0, 1, 0, [], ""),
  (20, .ireturn, 1, 5, [], "")])
set_option maxRecDepth 100000 in
/-- QueryReaderModel.whole()I -/
def qm_130 : ai_M := (⟨"QueryReaderModel", "whole", "()I"⟩, prog_9_method_68_code, 2, (Option.some Jvm.ClassFile.FieldType.int), [], [], [
  (0, .aload_n 0, 1, 0, [], ""),
  (1, .invokevirtual 494, 3, 1, [131, 1, 1, 5, 1083, 62, 1085], ""),
  (4, .istore_n 1, 1, 0, [], ""),
  (5, .aload_n 0, 1, 0, [], ""),
  (6, .ldc_w 497, 3, 0, [2, 1110, 113], ""),
  (9, .invokevirtual 294, 3, 1, [138, 2, 1, 5, 1121, 69, 1123], ""),
  (12, .ifCond .eq 13, 3, 0, [13], ""),
  (15, .aload_n 0, 1, 0, [], ""),
  (16, .dup, 1, 0, [], ""),
  (17, .getfield 270, 3, 0, [5, 10, 951], ""),
  (20, .iconst 1, 1, 0, [], ""),
  (21, .iadd, 1, 0, [], ""),
  (22, .putfield 270, 3, 0, [5, 10, 951], ""),
  (25, .aload_n 0, 1, 0, [], ""),
  (26, .aload_n 0, 1, 0, [], ""),
  (27, .getfield 192, 3, 0, [5, 8, 949], ""),
  (30, .aload_n 0, 1, 0, [], ""),
  (31, .getfield 270, 3, 0, [5, 10, 951], ""),
  (34, .baload, 1, 0, [], ""),
  (35, .bipush 7, 2, 0, [], ""),
  (37, .if_icmp .ne 7, 3, 0, [23], ""),
  (40, .iconst 1, 1, 0, [], ""),
  (41, .goto 4, 3, 0, [24], ""),
  (44, .iconst 0, 1, 0, [], ""),
  (45, .invokevirtual 287, 3, 1, [135, 2, 1, 5, 1099, 66, 1101], ""),
  (48, .iload_n 1, 1, 0, [], ""),
  (49, .ireturn, 1, 5, [], "")])
set_option maxRecDepth 100000 in
/-- QueryReaderModel.one()I -/
def qm_131 : ai_M := (⟨"QueryReaderModel", "one", "()I"⟩, prog_9_method_67_code, 1, (Option.some Jvm.ClassFile.FieldType.int), [], [], [
  (0, .aload_n 0, 1, 0, [], ""),
  (1, .ldc 139, 2, 0, [2, 1080, 80], ""),
  (3, .invokevirtual 283, 3, 1, [132, 2, 1, 5, 1087, 63, 1089], ""),
  (6, .ifCond .eq 10, 3, 0, [8], ""),
  (9, .aload_n 0, 1, 0, [], ""),
  (10, .invokevirtual 392, 3, 1, [133, 1, 1, 5, 1091, 64, 1093], ""),
  (13, .bipush 8, 2, 0, [], ""),
  (15, .ireturn, 1, 5, [], ""),
  (16, .aload_n 0, 1, 0, [], ""),
  (17, .ldc 43, 2, 0, [2, 1032, 32], ""),
  (19, .invokevirtual 383, 3, 1, [137, 2, 1, 5, 1117, 68, 1119], ""),
  (22, .ifCond .eq 8, 3, 0, [15], ""),
  (25, .aload_n 0, 1, 0, [], ""),
  (26, .invokevirtual 464, 3, 1, [170, 1, 1, 5, 1249, 99, 1251], ""),
  (29, .ireturn, 1, 5, [], ""),
  (30, .aload_n 0, 1, 0, [], ""),
  (31, .ldc 55, 2, 0, [2, 1038, 38], ""),
  (33, .invokevirtual 383, 3, 1, [137, 2, 1, 5, 1117, 68, 1119], ""),
  (36, .ifCond .eq 8, 3, 0, [22], ""),
  (39, .aload_n 0, 1, 0, [], ""),
  (40, .invokevirtual 467, 3, 1, [176, 1, 1, 5, 1273, 105, 1275], ""),
  (43, .ireturn, 1, 5, [], ""),
  (44, .aload_n 0, 1, 0, [], ""),
  (45, .ldc 77, 2, 0, [2, 1049, 49], ""),
  (47, .invokevirtual 383, 3, 1, [137, 2, 1, 5, 1117, 68, 1119], ""),
  (50, .ifCond .eq 8, 3, 0, [29], ""),
  (53, .aload_n 0, 1, 0, [], ""),
  (54, .invokevirtual 470, 3, 1, [177, 1, 1, 5, 1277, 106, 1279], ""),
  (57, .ireturn, 1, 5, [], ""),
  (58, .aload_n 0, 1, 0, [], ""),
  (59, .ldc 163, 2, 0, [2, 1091, 92], ""),
  (61, .invokevirtual 383, 3, 1, [137, 2, 1, 5, 1117, 68, 1119], ""),
  (64, .ifCond .eq 8, 3, 0, [36], ""),
  (67, .aload_n 0, 1, 0, [], ""),
  (68, .invokevirtual 473, 3, 1, [178, 1, 1, 5, 1281, 107, 1283], ""),
  (71, .ireturn, 1, 5, [], ""),
  (72, .aload_n 0, 1, 0, [], ""),
  (73, .ldc 49, 2, 0, [2, 1035, 35], ""),
  (75, .invokevirtual 383, 3, 1, [137, 2, 1, 5, 1117, 68, 1119], ""),
  (78, .ifCond .eq 8, 3, 0, [43], ""),
  (81, .aload_n 0, 1, 0, [], ""),
  (82, .invokevirtual 476, 3, 1, [179, 1, 1, 5, 1285, 108, 1287], ""),
  (85, .ireturn, 1, 5, [], ""),
  (86, .aload_n 0, 1, 0, [], ""),
  (87, .ldc 21, 2, 0, [2, 1021, 21], ""),
  (89, .invokevirtual 383, 3, 1, [137, 2, 1, 5, 1117, 68, 1119], ""),
  (92, .ifCond .eq 8, 3, 0, [50], ""),
  (95, .aload_n 0, 1, 0, [], ""),
  (96, .invokevirtual 479, 3, 1, [180, 1, 1, 5, 1289, 109, 1291], ""),
  (99, .ireturn, 1, 5, [], ""),
  (100, .aload_n 0, 1, 0, [], ""),
  (101, .ldc 37, 2, 0, [2, 1029, 29], ""),
  (103, .invokevirtual 383, 3, 1, [137, 2, 1, 5, 1117, 68, 1119], ""),
  (106, .ifCond .eq 8, 3, 0, [57], ""),
  (109, .aload_n 0, 1, 0, [], ""),
  (110, .invokevirtual 482, 3, 1, [181, 1, 1, 5, 1293, 110, 1295], ""),
  (113, .ireturn, 1, 5, [], ""),
  (114, .aload_n 0, 1, 0, [], ""),
  (115, .ldc 135, 2, 0, [2, 1078, 78], ""),
  (117, .invokevirtual 383, 3, 1, [137, 2, 1, 5, 1117, 68, 1119], ""),
  (120, .ifCond .eq 8, 3, 0, [64], ""),
  (123, .aload_n 0, 1, 0, [], ""),
  (124, .invokevirtual 485, 3, 1, [182, 1, 1, 5, 1297, 111, 1299], ""),
  (127, .ireturn, 1, 5, [], ""),
  (128, .aload_n 0, 1, 0, [], ""),
  (129, .ldc 137, 2, 0, [2, 1079, 79], ""),
  (131, .invokevirtual 383, 3, 1, [137, 2, 1, 5, 1117, 68, 1119], ""),
  (134, .ifCond .eq 11, 3, 0, [73], ""),
  (137, .aload_n 0, 1, 0, [], ""),
  (138, .bipush 12, 2, 0, [], ""),
  (140, .iconst 2, 1, 0, [], ""),
  (141, .invokevirtual 488, 3, 1, [183, 3, 1, 5, 1301, 112, 1303], ""),
  (144, .ireturn, 1, 5, [], ""),
  (145, .aload_n 0, 1, 0, [], ""),
  (146, .ldc 123, 2, 0, [2, 1072, 72], ""),
  (148, .invokevirtual 383, 3, 1, [137, 2, 1, 5, 1117, 68, 1119], ""),
  (151, .ifCond .eq 11, 3, 0, [82], ""),
  (154, .aload_n 0, 1, 0, [], ""),
  (155, .bipush 15, 2, 0, [], ""),
  (157, .iconst 3, 1, 0, [], ""),
  (158, .invokevirtual 488, 3, 1, [183, 3, 1, 5, 1301, 112, 1303], ""),
  (161, .ireturn, 1, 5, [], ""),
  (162, .aload_n 0, 1, 0, [], ""),
  (163, .ldc 97, 2, 0, [2, 1059, 59], ""),
  (165, .invokevirtual 386, 3, 1, [134, 2, 1, 5, 1095, 65, 1097], ""),
  (168, .aload_n 0, 1, 0, [], ""),
  (169, .invokevirtual 491, 3, 1, [184, 1, 1, 5, 1305, 113, 1307], ""),
  (172, .ireturn, 1, 5, [], "")])
set_option maxRecDepth 100000 in
/-- QueryReaderModel.isWord(Ljava/lang/String;)Z -/
def qm_132 : ai_M := (⟨"QueryReaderModel", "isWord", "(Ljava/lang/String;)Z"⟩, prog_9_method_16_code, 2, (Option.some Jvm.ClassFile.FieldType.boolean), [], [], [
  (0, .aload_n 0, 1, 0, [], ""),
  (1, .getfield 192, 3, 0, [5, 8, 949], ""),
  (4, .aload_n 0, 1, 0, [], ""),
  (5, .getfield 270, 3, 0, [5, 10, 951], ""),
  (8, .baload, 1, 0, [], ""),
  (9, .iconst 1, 1, 0, [], ""),
  (10, .if_icmp .ne 19, 3, 0, [15], ""),
  (13, .aload_n 0, 1, 0, [], ""),
  (14, .aload_n 0, 1, 0, [], ""),
  (15, .getfield 270, 3, 0, [5, 10, 951], ""),
  (18, .aload_n 1, 1, 0, [], ""),
  (19, .invokevirtual 242, 3, 1, [128, 3, 1, 5, 1070, 60, 1072], ""),
  (22, .ifCond .eq 7, 3, 0, [15], ""),
  (25, .iconst 1, 1, 0, [], ""),
  (26, .goto 4, 3, 0, [16], ""),
  (29, .iconst 0, 1, 0, [], ""),
  (30, .ireturn, 1, 5, [], "")])
set_option maxRecDepth 100000 in
/-- QueryReaderModel.query()V -/
def qm_133 : ai_M := (⟨"QueryReaderModel", "query", "()V"⟩, prog_9_method_45_code, 2, (Option.none : Option Jvm.ClassFile.FieldType), [], [], [
  (0, .aload_n 0, 1, 0, [], ""),
  (1, .ldc 139, 2, 0, [2, 1080, 80], ""),
  (3, .invokevirtual 386, 3, 1, [134, 2, 1, 5, 1095, 65, 1097], ""),
  (6, .aload_n 0, 1, 0, [], ""),
  (7, .ldc 53, 2, 0, [2, 1037, 37], ""),
  (9, .invokevirtual 383, 3, 1, [137, 2, 1, 5, 1117, 68, 1119], ""),
  (12, .pop, 1, 0, [], ""),
  (13, .aload_n 0, 1, 0, [], ""),
  (14, .ldc_w 343, 3, 0, [2, 1096, 97], ""),
  (17, .invokevirtual 294, 3, 1, [138, 2, 1, 5, 1121, 69, 1123], ""),
  (20, .ifCond .eq 10, 3, 0, [14], ""),
  (23, .aload_n 0, 1, 0, [], ""),
  (24, .invokevirtual 291, 3, 1, [136, 1, 1, 5, 1113, 67, 1115], ""),
  (27, .goto 21, 3, 0, [22], ""),
  (30, .aload_n 0, 1, 0, [], ""),
  (31, .invokevirtual 428, 3, 1, [139, 1, 1, 5, 1125, 70, 1127], ""),
  (34, .aload_n 0, 1, 0, [], ""),
  (35, .invokevirtual 404, 3, 1, [153, 1, 1, 5, 1181, 84, 1183], ""),
  (38, .ifCond .eq 10, 3, 0, [22], ""),
  (41, .aload_n 0, 1, 0, [], ""),
  (42, .invokevirtual 428, 3, 1, [139, 1, 1, 5, 1125, 70, 1127], ""),
  (45, .goto (-11), 3, 0, [16], ""),
  (48, .aload_n 0, 1, 0, [], ""),
  (49, .ldc 65, 2, 0, [2, 1043, 43], ""),
  (51, .invokevirtual 383, 3, 1, [137, 2, 1, 5, 1117, 68, 1119], ""),
  (54, .ifCond .eq 24, 3, 0, [37], ""),
  (57, .aload_n 0, 1, 0, [], ""),
  (58, .invokevirtual 431, 3, 1, [163, 1, 1, 5, 1221, 94, 1223], ""),
  (61, .aload_n 0, 1, 0, [], ""),
  (62, .invokevirtual 434, 3, 1, [164, 1, 1, 5, 1225, 95, 1227], ""),
  (65, .istore_n 1, 1, 0, [], ""),
  (66, .iload_n 1, 1, 0, [], ""),
  (67, .ifCond .eq 11, 3, 0, [37], ""),
  (70, .aload_n 0, 1, 0, [], ""),
  (71, .invokevirtual 434, 3, 1, [164, 1, 1, 5, 1225, 95, 1227], ""),
  (74, .istore_n 1, 1, 0, [], ""),
  (75, .goto (-9), 3, 0, [31], ""),
  (78, .aload_n 0, 1, 0, [], ""),
  (79, .invokevirtual 437, 3, 1, [168, 1, 1, 5, 1241, 97, 1243], ""),
  (82, .aload_n 0, 1, 0, [], ""),
  (83, .ldc 67, 2, 0, [2, 1044, 44], ""),
  (85, .invokevirtual 383, 3, 1, [137, 2, 1, 5, 1117, 68, 1119], ""),
  (88, .ifCond .eq 13, 3, 0, [48], ""),
  (91, .aload_n 0, 1, 0, [], ""),
  (92, .ldc 25, 2, 0, [2, 1023, 23], ""),
  (94, .invokevirtual 386, 3, 1, [134, 2, 1, 5, 1095, 65, 1097], ""),
  (97, .aload_n 0, 1, 0, [], ""),
  (98, .invokevirtual 395, 3, 1, [152, 1, 1, 5, 1177, 83, 1179], ""),
  (101, .aload_n 0, 1, 0, [], ""),
  (102, .ldc 69, 2, 0, [2, 1045, 45], ""),
  (104, .invokevirtual 383, 3, 1, [137, 2, 1, 5, 1117, 68, 1119], ""),
  (107, .ifCond .eq 7, 3, 0, [54], ""),
  (110, .aload_n 0, 1, 0, [], ""),
  (111, .invokevirtual 401, 3, 1, [140, 1, 1, 5, 1129, 71, 1131], ""),
  (114, .aload_n 0, 1, 0, [], ""),
  (115, .ldc 119, 2, 0, [2, 1070, 70], ""),
  (117, .invokevirtual 383, 3, 1, [137, 2, 1, 5, 1117, 68, 1119], ""),
  (120, .ifCond .eq 27, 3, 0, [69], ""),
  (123, .aload_n 0, 1, 0, [], ""),
  (124, .ldc 25, 2, 0, [2, 1023, 23], ""),
  (126, .invokevirtual 386, 3, 1, [134, 2, 1, 5, 1095, 65, 1097], ""),
  (129, .aload_n 0, 1, 0, [], ""),
  (130, .invokevirtual 440, 3, 1, [169, 1, 1, 5, 1245, 98, 1247], ""),
  (133, .aload_n 0, 1, 0, [], ""),
  (134, .invokevirtual 404, 3, 1, [153, 1, 1, 5, 1181, 84, 1183], ""),
  (137, .ifCond .eq 10, 3, 0, [69], ""),
  (140, .aload_n 0, 1, 0, [], ""),
  (141, .invokevirtual 440, 3, 1, [169, 1, 1, 5, 1245, 98, 1247], ""),
  (144, .goto (-11), 3, 0, [63], ""),
  (147, .aload_n 0, 1, 0, [], ""),
  (148, .ldc 95, 2, 0, [2, 1058, 58], ""),
  (150, .invokevirtual 383, 3, 1, [137, 2, 1, 5, 1117, 68, 1119], ""),
  (153, .ifCond .eq 22, 3, 0, [83], ""),
  (156, .aload_n 0, 1, 0, [], ""),
  (157, .iconst 3, 1, 0, [], ""),
  (158, .invokevirtual 410, 3, 1, [145, 2, 1, 5, 1149, 76, 1151], ""),
  (161, .aload_n 0, 1, 0, [], ""),
  (162, .ldc 113, 2, 0, [2, 1067, 67], ""),
  (164, .invokevirtual 383, 3, 1, [137, 2, 1, 5, 1117, 68, 1119], ""),
  (167, .ifCond .eq 8, 3, 0, [83], ""),
  (170, .aload_n 0, 1, 0, [], ""),
  (171, .iconst 3, 1, 0, [], ""),
  (172, .invokevirtual 410, 3, 1, [145, 2, 1, 5, 1149, 76, 1151], ""),
  (175, .return_, 1, 7, [], "")])
set_option maxRecDepth 100000 in
/-- QueryReaderModel.word(Ljava/lang/String;)V -/
def qm_134 : ai_M := (⟨"QueryReaderModel", "word", "(Ljava/lang/String;)V"⟩, prog_9_method_21_code, 2, (Option.none : Option Jvm.ClassFile.FieldType), [], [], [
  (0, .aload_n 0, 1, 0, [], ""),
  (1, .aload_n 0, 1, 0, [], ""),
  (2, .aload_n 1, 1, 0, [], ""),
  (3, .invokevirtual 283, 3, 1, [132, 2, 1, 5, 1087, 63, 1089], ""),
  (6, .invokevirtual 287, 3, 1, [135, 2, 1, 5, 1099, 66, 1101], ""),
  (9, .aload_n 0, 1, 0, [], ""),
  (10, .invokevirtual 291, 3, 1, [136, 1, 1, 5, 1113, 67, 1115], ""),
  (13, .return_, 1, 7, [], "")])
set_option maxRecDepth 100000 in
/-- QueryReaderModel.need(Z)V -/
def qm_135 : ai_M := (⟨"QueryReaderModel", "need", "(Z)V"⟩, prog_9_method_18_code, 2, (Option.none : Option Jvm.ClassFile.FieldType), [], [], [
  (0, .iload_n 1, 1, 0, [], ""),
  (1, .ifCond .ne 11, 3, 0, [6], ""),
  (4, .new 273, 3, 2, [275, 0, 0, 0, 1034, 138], "java/lang/IllegalArgumentException"),
  (7, .dup, 1, 0, [], ""),
  (8, .invokespecial 275, 3, 9, [], ""),
  (11, .athrow, 1, 9, [], ""),
  (12, .return_, 1, 7, [], "")])
set_option maxRecDepth 100000 in
/-- QueryReaderModel.keep()V -/
def qm_136 : ai_M := (⟨"QueryReaderModel", "keep", "()V"⟩, prog_9_method_19_code, 1, (Option.none : Option Jvm.ClassFile.FieldType), [], [], [
  (0, .aload_n 0, 1, 0, [], ""),
  (1, .getfield 200, 3, 0, [5, 12, 953], ""),
  (4, .aload_n 0, 1, 0, [], ""),
  (5, .getfield 276, 3, 0, [5, 11, 952], ""),
  (8, .aload_n 0, 1, 0, [], ""),
  (9, .getfield 270, 3, 0, [5, 10, 951], ""),
  (12, .iastore, 1, 0, [], ""),
  (13, .aload_n 0, 1, 0, [], ""),
  (14, .getfield 203, 3, 0, [5, 13, 954], ""),
  (17, .aload_n 0, 1, 0, [], ""),
  (18, .getfield 276, 3, 0, [5, 11, 952], ""),
  (21, .iconst 0, 1, 0, [], ""),
  (22, .iastore, 1, 0, [], ""),
  (23, .aload_n 0, 1, 0, [], ""),
  (24, .dup, 1, 0, [], ""),
  (25, .getfield 276, 3, 0, [5, 11, 952], ""),
  (28, .iconst 1, 1, 0, [], ""),
  (29, .iadd, 1, 0, [], ""),
  (30, .putfield 276, 3, 0, [5, 11, 952], ""),
  (33, .aload_n 0, 1, 0, [], ""),
  (34, .dup, 1, 0, [], ""),
  (35, .getfield 270, 3, 0, [5, 10, 951], ""),
  (38, .iconst 1, 1, 0, [], ""),
  (39, .iadd, 1, 0, [], ""),
  (40, .putfield 270, 3, 0, [5, 10, 951], ""),
  (43, .return_, 1, 7, [], "")])
set_option maxRecDepth 100000 in
/-- QueryReaderModel.takes(Ljava/lang/String;)Z -/
def qm_137 : ai_M := (⟨"QueryReaderModel", "takes", "(Ljava/lang/String;)Z"⟩, prog_9_method_22_code, 3, (Option.some Jvm.ClassFile.FieldType.boolean), [], [], [
  (0, .aload_n 0, 1, 0, [], ""),
  (1, .aload_n 1, 1, 0, [], ""),
  (2, .invokevirtual 283, 3, 1, [132, 2, 1, 5, 1087, 63, 1089], ""),
  (5, .istore_n 2, 1, 0, [], ""),
  (6, .iload_n 2, 1, 0, [], ""),
  (7, .ifCond .eq 7, 3, 0, [8], ""),
  (10, .aload_n 0, 1, 0, [], ""),
  (11, .invokevirtual 291, 3, 1, [136, 1, 1, 5, 1113, 67, 1115], ""),
  (14, .iload_n 2, 1, 0, [], ""),
  (15, .ireturn, 1, 5, [], "")])
set_option maxRecDepth 100000 in
/-- QueryReaderModel.isMark(Ljava/lang/String;)Z -/
def qm_138 : ai_M := (⟨"QueryReaderModel", "isMark", "(Ljava/lang/String;)Z"⟩, prog_9_method_17_code, 2, (Option.some Jvm.ClassFile.FieldType.boolean), [], [], [
  (0, .aload_n 0, 1, 0, [], ""),
  (1, .getfield 192, 3, 0, [5, 8, 949], ""),
  (4, .aload_n 0, 1, 0, [], ""),
  (5, .getfield 270, 3, 0, [5, 10, 951], ""),
  (8, .baload, 1, 0, [], ""),
  (9, .iconst 5, 1, 0, [], ""),
  (10, .if_icmp .ne 19, 3, 0, [15], ""),
  (13, .aload_n 0, 1, 0, [], ""),
  (14, .aload_n 0, 1, 0, [], ""),
  (15, .getfield 270, 3, 0, [5, 10, 951], ""),
  (18, .aload_n 1, 1, 0, [], ""),
  (19, .invokevirtual 242, 3, 1, [128, 3, 1, 5, 1070, 60, 1072], ""),
  (22, .ifCond .eq 7, 3, 0, [15], ""),
  (25, .iconst 1, 1, 0, [], ""),
  (26, .goto 4, 3, 0, [16], ""),
  (29, .iconst 0, 1, 0, [], ""),
  (30, .ireturn, 1, 5, [], "")])
set_option maxRecDepth 100000 in
/-- QueryReaderModel.item()V -/
def qm_139 : ai_M := (⟨"QueryReaderModel", "item", "()V"⟩, prog_9_method_48_code, 2, (Option.none : Option Jvm.ClassFile.FieldType), [], [], [
  (0, .aload_n 0, 1, 0, [], ""),
  (1, .getfield 192, 3, 0, [5, 8, 949], ""),
  (4, .aload_n 0, 1, 0, [], ""),
  (5, .getfield 270, 3, 0, [5, 10, 951], ""),
  (8, .baload, 1, 0, [], ""),
  (9, .iconst 2, 1, 0, [], ""),
  (10, .if_icmp .ne 79, 3, 0, [51], ""),
  (13, .aload_n 0, 1, 0, [], ""),
  (14, .getfield 192, 3, 0, [5, 8, 949], ""),
  (17, .aload_n 0, 1, 0, [], ""),
  (18, .getfield 270, 3, 0, [5, 10, 951], ""),
  (21, .iconst 1, 1, 0, [], ""),
  (22, .iadd, 1, 0, [], ""),
  (23, .baload, 1, 0, [], ""),
  (24, .iconst 5, 1, 0, [], ""),
  (25, .if_icmp .ne 64, 3, 0, [51], ""),
  (28, .aload_n 0, 1, 0, [], ""),
  (29, .getfield 184, 3, 0, [5, 4, 945], ""),
  (32, .aload_n 0, 1, 0, [], ""),
  (33, .getfield 188, 3, 0, [5, 7, 948], ""),
  (36, .aload_n 0, 1, 0, [], ""),
  (37, .getfield 270, 3, 0, [5, 10, 951], ""),
  (40, .iconst 1, 1, 0, [], ""),
  (41, .iadd, 1, 0, [], ""),
  (42, .iaload, 1, 0, [], ""),
  (43, .baload, 1, 0, [], ""),
  (44, .bipush 46, 2, 0, [], ""),
  (46, .if_icmp .ne 43, 3, 0, [51], ""),
  (49, .aload_n 0, 1, 0, [], ""),
  (50, .getfield 192, 3, 0, [5, 8, 949], ""),
  (53, .aload_n 0, 1, 0, [], ""),
  (54, .getfield 270, 3, 0, [5, 10, 951], ""),
  (57, .iconst 2, 1, 0, [], ""),
  (58, .iadd, 1, 0, [], ""),
  (59, .baload, 1, 0, [], ""),
  (60, .iconst 5, 1, 0, [], ""),
  (61, .if_icmp .ne 28, 3, 0, [51], ""),
  (64, .aload_n 0, 1, 0, [], ""),
  (65, .getfield 184, 3, 0, [5, 4, 945], ""),
  (68, .aload_n 0, 1, 0, [], ""),
  (69, .getfield 188, 3, 0, [5, 7, 948], ""),
  (72, .aload_n 0, 1, 0, [], ""),
  (73, .getfield 270, 3, 0, [5, 10, 951], ""),
  (76, .iconst 2, 1, 0, [], ""),
  (77, .iadd, 1, 0, [], ""),
  (78, .iaload, 1, 0, [], ""),
  (79, .baload, 1, 0, [], ""),
  (80, .bipush 42, 2, 0, [], ""),
  (82, .if_icmp .ne 7, 3, 0, [51], ""),
  (85, .iconst 1, 1, 0, [], ""),
  (86, .goto 4, 3, 0, [52], ""),
  (89, .iconst 0, 1, 0, [], ""),
  (90, .istore_n 1, 1, 0, [], ""),
  (91, .iload_n 1, 1, 0, [], ""),
  (92, .ifCond .eq 16, 3, 0, [62], ""),
  (95, .aload_n 0, 1, 0, [], ""),
  (96, .invokevirtual 291, 3, 1, [136, 1, 1, 5, 1113, 67, 1115], ""),
  (99, .aload_n 0, 1, 0, [], ""),
  (100, .invokevirtual 291, 3, 1, [136, 1, 1, 5, 1113, 67, 1115], ""),
  (103, .aload_n 0, 1, 0, [], ""),
  (104, .invokevirtual 291, 3, 1, [136, 1, 1, 5, 1113, 67, 1115], ""),
  (107, .return_, 1, 7, [], ""),
  (108, .aload_n 0, 1, 0, [], ""),
  (109, .invokevirtual 401, 3, 1, [140, 1, 1, 5, 1129, 71, 1131], ""),
  (112, .aload_n 0, 1, 0, [], ""),
  (113, .invokevirtual 443, 3, 1, [162, 1, 1, 5, 1217, 93, 1219], ""),
  (116, .return_, 1, 7, [], "")])
set_option maxRecDepth 100000 in
/-- QueryReaderModel.expression()V -/
def qm_140 : ai_M := (⟨"QueryReaderModel", "expression", "()V"⟩, prog_9_method_35_code, 6, (Option.none : Option Jvm.ClassFile.FieldType), [], [], [
  (0, .aload_n 0, 1, 0, [], ""),
  (1, .getfield 349, 3, 0, [5, 21, 962], ""),
  (4, .istore_n 1, 1, 0, [], ""),
  (5, .aload_n 0, 1, 0, [], ""),
  (6, .iload_n 1, 1, 0, [], ""),
  (7, .invokevirtual 365, 3, 1, [141, 2, 1, 5, 1133, 72, 1135], ""),
  (10, .iconst 1, 1, 0, [], ""),
  (11, .istore_n 2, 1, 0, [], ""),
  (12, .bipush 9, 2, 0, [], ""),
  (14, .istore_n 3, 1, 0, [], ""),
  (15, .iload_n 2, 1, 0, [], ""),
  (16, .ifCond .eq 233, 3, 0, [137], ""),
  (19, .aload_n 0, 1, 0, [], ""),
  (20, .invokevirtual 369, 3, 1, [156, 1, 1, 5, 1193, 87, 1195], ""),
  (23, .istore 4, 2, 0, [], ""),
  (25, .aload_n 0, 1, 0, [], ""),
  (26, .iload_n 1, 1, 0, [], ""),
  (27, .iload 4, 2, 0, [], ""),
  (29, .iconst 4, 1, 0, [], ""),
  (30, .if_icmp .le 8, 3, 0, [22], ""),
  (33, .iload 4, 2, 0, [], ""),
  (35, .goto 4, 3, 0, [23], ""),
  (38, .iconst 5, 1, 0, [], ""),
  (39, .iload_n 3, 1, 0, [], ""),
  (40, .invokevirtual 372, 3, 1, [157, 4, 1, 5, 1197, 88, 1199], ""),
  (43, .istore_n 3, 1, 0, [], ""),
  (44, .iload 4, 2, 0, [], ""),
  (46, .iconst 2, 1, 0, [], ""),
  (47, .if_icmp .ne 54, 3, 0, [58], ""),
  (50, .aload_n 0, 1, 0, [], ""),
  (51, .getfield 349, 3, 0, [5, 21, 962], ""),
  (54, .iload_n 1, 1, 0, [], ""),
  (55, .if_icmp .le 46, 3, 0, [58], ""),
  (58, .aload_n 0, 1, 0, [], ""),
  (59, .getfield 206, 3, 0, [5, 22, 963], ""),
  (62, .aload_n 0, 1, 0, [], ""),
  (63, .getfield 349, 3, 0, [5, 21, 962], ""),
  (66, .iconst 1, 1, 0, [], ""),
  (67, .isub, 1, 0, [], ""),
  (68, .iaload, 1, 0, [], ""),
  (69, .bipush 9, 2, 0, [], ""),
  (71, .if_icmp .ne 30, 3, 0, [58], ""),
  (74, .aload_n 0, 1, 0, [], ""),
  (75, .getfield 206, 3, 0, [5, 22, 963], ""),
  (78, .aload_n 0, 1, 0, [], ""),
  (79, .getfield 349, 3, 0, [5, 21, 962], ""),
  (82, .iconst 1, 1, 0, [], ""),
  (83, .isub, 1, 0, [], ""),
  (84, .iconst 4, 1, 0, [], ""),
  (85, .iastore, 1, 0, [], ""),
  (86, .aload_n 0, 1, 0, [], ""),
  (87, .invokevirtual 291, 3, 1, [136, 1, 1, 5, 1113, 67, 1115], ""),
  (90, .aload_n 0, 1, 0, [], ""),
  (91, .iload_n 1, 1, 0, [], ""),
  (92, .invokevirtual 365, 3, 1, [141, 2, 1, 5, 1133, 72, 1135], ""),
  (95, .bipush 9, 2, 0, [], ""),
  (97, .istore_n 3, 1, 0, [], ""),
  (98, .goto 148, 3, 0, [136], ""),
  (101, .iload 4, 2, 0, [], ""),
  (103, .ifCond .le 24, 3, 0, [71], ""),
  (106, .aload_n 0, 1, 0, [], ""),
  (107, .iload_n 1, 1, 0, [], ""),
  (108, .iload 4, 2, 0, [], ""),
  (110, .iconst 4, 1, 0, [], ""),
  (111, .if_icmp .ne 7, 3, 0, [67], ""),
  (114, .iconst 5, 1, 0, [], ""),
  (115, .goto 5, 3, 0, [68], ""),
  (118, .iload 4, 2, 0, [], ""),
  (120, .iload_n 3, 1, 0, [], ""),
  (121, .invokevirtual 372, 3, 1, [157, 4, 1, 5, 1197, 88, 1199], ""),
  (124, .goto 4, 3, 0, [72], ""),
  (127, .iload_n 3, 1, 0, [], ""),
  (128, .istore_n 3, 1, 0, [], ""),
  (129, .iload 4, 2, 0, [], ""),
  (131, .iconst 4, 1, 0, [], ""),
  (132, .if_icmp .gt 31, 3, 0, [91], ""),
  (135, .aload_n 0, 1, 0, [], ""),
  (136, .getfield 349, 3, 0, [5, 21, 962], ""),
  (139, .iload_n 1, 1, 0, [], ""),
  (140, .if_icmp .le 23, 3, 0, [91], ""),
  (143, .aload_n 0, 1, 0, [], ""),
  (144, .getfield 206, 3, 0, [5, 22, 963], ""),
  (147, .aload_n 0, 1, 0, [], ""),
  (148, .getfield 349, 3, 0, [5, 21, 962], ""),
  (151, .iconst 1, 1, 0, [], ""),
  (152, .isub, 1, 0, [], ""),
  (153, .iaload, 1, 0, [], ""),
  (154, .bipush 9, 2, 0, [], ""),
  (156, .if_icmp .ne 7, 3, 0, [91], ""),
  (159, .iconst 1, 1, 0, [], ""),
  (160, .goto 4, 3, 0, [92], ""),
  (163, .iconst 0, 1, 0, [], ""),
  (164, .istore 5, 2, 0, [], ""),
  (166, .aload_n 0, 1, 0, [], ""),
  (167, .iload 5, 2, 0, [], ""),
  (169, .ifCond .ne 7, 3, 0, [98], ""),
  (172, .iconst 1, 1, 0, [], ""),
  (173, .goto 4, 3, 0, [99], ""),
  (176, .iconst 0, 1, 0, [], ""),
  (177, .invokevirtual 287, 3, 1, [135, 2, 1, 5, 1099, 66, 1101], ""),
  (180, .iload 4, 2, 0, [], ""),
  (182, .ifCond .le 50, 3, 0, [127], ""),
  (185, .iload 4, 2, 0, [], ""),
  (187, .iconst 4, 1, 0, [], ""),
  (188, .if_icmp .ne 34, 3, 0, [122], ""),
  (191, .iload_n 3, 1, 0, [], ""),
  (192, .iconst 4, 1, 0, [], ""),
  (193, .if_icmp .le 39, 3, 0, [127], ""),
  (196, .aload_n 0, 1, 0, [], ""),
  (197, .getfield 349, 3, 0, [5, 21, 962], ""),
  (200, .iload_n 1, 1, 0, [], ""),
  (201, .if_icmp .le 27, 3, 0, [125], ""),
  (204, .aload_n 0, 1, 0, [], ""),
  (205, .getfield 206, 3, 0, [5, 22, 963], ""),
  (208, .aload_n 0, 1, 0, [], ""),
  (209, .getfield 349, 3, 0, [5, 21, 962], ""),
  (212, .iconst 1, 1, 0, [], ""),
  (213, .isub, 1, 0, [], ""),
  (214, .iaload, 1, 0, [], ""),
  (215, .iconst 4, 1, 0, [], ""),
  (216, .if_icmp .eq 16, 3, 0, [127], ""),
  (219, .goto 9, 3, 0, [125], ""),
  (222, .iload_n 3, 1, 0, [], ""),
  (223, .iload 4, 2, 0, [], ""),
  (225, .if_icmp .lt 7, 3, 0, [127], ""),
  (228, .iconst 1, 1, 0, [], ""),
  (229, .goto 4, 3, 0, [128], ""),
  (232, .iconst 0, 1, 0, [], ""),
  (233, .istore_n 2, 1, 0, [], ""),
  (234, .iload_n 2, 1, 0, [], ""),
  (235, .ifCond .eq 11, 3, 0, [136], ""),
  (238, .aload_n 0, 1, 0, [], ""),
  (239, .iload_n 1, 1, 0, [], ""),
  (240, .iload 4, 2, 0, [], ""),
  (242, .invokevirtual 376, 3, 1, [160, 3, 1, 5, 1209, 91, 1211], ""),
  (245, .istore_n 3, 1, 0, [], ""),
  (246, .goto (-231), 3, 0, [10], ""),
  (249, .aload_n 0, 1, 0, [], ""),
  (250, .iload_n 1, 1, 0, [], ""),
  (251, .iconst 1, 1, 0, [], ""),
  (252, .iload_n 3, 1, 0, [], ""),
  (253, .invokevirtual 372, 3, 1, [157, 4, 1, 5, 1197, 88, 1199], ""),
  (256, .pop, 1, 0, [], ""),
  (257, .aload_n 0, 1, 0, [], ""),
  (258, .aload_n 0, 1, 0, [], ""),
  (259, .getfield 349, 3, 0, [5, 21, 962], ""),
  (262, .iload_n 1, 1, 0, [], ""),
  (263, .if_icmp .ne 7, 3, 0, [150], ""),
  (266, .iconst 1, 1, 0, [], ""),
  (267, .goto 4, 3, 0, [151], ""),
  (270, .iconst 0, 1, 0, [], ""),
  (271, .invokevirtual 287, 3, 1, [135, 2, 1, 5, 1099, 66, 1101], ""),
  (274, .return_, 1, 7, [], "")])
set_option maxRecDepth 100000 in
/-- QueryReaderModel.prefixes(I)V -/
def qm_141 : ai_M := (⟨"QueryReaderModel", "prefixes", "(I)V"⟩, prog_9_method_34_code, 4, (Option.none : Option Jvm.ClassFile.FieldType), [], [], [
  (0, .iconst 1, 1, 0, [], ""),
  (1, .istore_n 2, 1, 0, [], ""),
  (2, .iload_n 2, 1, 0, [], ""),
  (3, .ifCond .eq 101, 3, 0, [54], ""),
  (6, .aload_n 0, 1, 0, [], ""),
  (7, .getfield 349, 3, 0, [5, 21, 962], ""),
  (10, .iload_n 1, 1, 0, [], ""),
  (11, .if_icmp .eq 18, 3, 0, [17], ""),
  (14, .aload_n 0, 1, 0, [], ""),
  (15, .getfield 206, 3, 0, [5, 22, 963], ""),
  (18, .aload_n 0, 1, 0, [], ""),
  (19, .getfield 349, 3, 0, [5, 21, 962], ""),
  (22, .iconst 1, 1, 0, [], ""),
  (23, .isub, 1, 0, [], ""),
  (24, .iaload, 1, 0, [], ""),
  (25, .iconst 3, 1, 0, [], ""),
  (26, .if_icmp .gt 7, 3, 0, [19], ""),
  (29, .iconst 1, 1, 0, [], ""),
  (30, .goto 4, 3, 0, [20], ""),
  (33, .iconst 0, 1, 0, [], ""),
  (34, .istore_n 3, 1, 0, [], ""),
  (35, .iload_n 3, 1, 0, [], ""),
  (36, .ifCond .eq 32, 3, 0, [37], ""),
  (39, .aload_n 0, 1, 0, [], ""),
  (40, .ldc 107, 2, 0, [2, 1064, 64], ""),
  (42, .invokevirtual 283, 3, 1, [132, 2, 1, 5, 1087, 63, 1089], ""),
  (45, .ifCond .eq 23, 3, 0, [37], ""),
  (48, .aload_n 0, 1, 0, [], ""),
  (49, .invokevirtual 307, 3, 1, [142, 1, 1, 5, 1137, 73, 1139], ""),
  (52, .aload_n 0, 1, 0, [], ""),
  (53, .iconst 3, 1, 0, [], ""),
  (54, .aload_n 0, 1, 0, [], ""),
  (55, .getfield 276, 3, 0, [5, 11, 952], ""),
  (58, .invokevirtual 359, 3, 1, [143, 3, 1, 5, 1141, 74, 1143], ""),
  (61, .aload_n 0, 1, 0, [], ""),
  (62, .invokevirtual 291, 3, 1, [136, 1, 1, 5, 1113, 67, 1115], ""),
  (65, .goto 36, 3, 0, [53], ""),
  (68, .aload_n 0, 1, 0, [], ""),
  (69, .ldc_w 341, 3, 0, [2, 1097, 98], ""),
  (72, .invokevirtual 294, 3, 1, [138, 2, 1, 5, 1121, 69, 1123], ""),
  (75, .ifCond .eq 24, 3, 0, [51], ""),
  (78, .aload_n 0, 1, 0, [], ""),
  (79, .invokevirtual 307, 3, 1, [142, 1, 1, 5, 1137, 73, 1139], ""),
  (82, .aload_n 0, 1, 0, [], ""),
  (83, .bipush 8, 2, 0, [], ""),
  (85, .aload_n 0, 1, 0, [], ""),
  (86, .getfield 276, 3, 0, [5, 11, 952], ""),
  (89, .invokevirtual 359, 3, 1, [143, 3, 1, 5, 1141, 74, 1143], ""),
  (92, .aload_n 0, 1, 0, [], ""),
  (93, .invokevirtual 291, 3, 1, [136, 1, 1, 5, 1113, 67, 1115], ""),
  (96, .goto 5, 3, 0, [53], ""),
  (99, .iconst 0, 1, 0, [], ""),
  (100, .istore_n 2, 1, 0, [], ""),
  (101, .goto (-99), 3, 0, [2], ""),
  (104, .aload_n 0, 1, 0, [], ""),
  (105, .invokevirtual 362, 3, 1, [144, 1, 1, 5, 1145, 75, 1147], ""),
  (108, .return_, 1, 7, [], "")])
set_option maxRecDepth 100000 in
/-- QueryReaderModel.opens()V -/
def qm_142 : ai_M := (⟨"QueryReaderModel", "opens", "()V"⟩, prog_9_method_26_code, 1, (Option.none : Option Jvm.ClassFile.FieldType), [], [], [
  (0, .aload_n 0, 1, 0, [], ""),
  (1, .aload_n 0, 1, 0, [], ""),
  (2, .getfield 299, 3, 0, [5, 14, 955], ""),
  (5, .bipush 40, 2, 0, [], ""),
  (7, .if_icmp .ge 7, 3, 0, [7], ""),
  (10, .iconst 1, 1, 0, [], ""),
  (11, .goto 4, 3, 0, [8], ""),
  (14, .iconst 0, 1, 0, [], ""),
  (15, .invokevirtual 287, 3, 1, [135, 2, 1, 5, 1099, 66, 1101], ""),
  (18, .aload_n 0, 1, 0, [], ""),
  (19, .dup, 1, 0, [], ""),
  (20, .getfield 299, 3, 0, [5, 14, 955], ""),
  (23, .iconst 1, 1, 0, [], ""),
  (24, .iadd, 1, 0, [], ""),
  (25, .putfield 299, 3, 0, [5, 14, 955], ""),
  (28, .aload_n 0, 1, 0, [], ""),
  (29, .aload_n 0, 1, 0, [], ""),
  (30, .getfield 299, 3, 0, [5, 14, 955], ""),
  (33, .aload_n 0, 1, 0, [], ""),
  (34, .getfield 302, 3, 0, [5, 15, 956], ""),
  (37, .if_icmp .le 10, 3, 0, [24], ""),
  (40, .aload_n 0, 1, 0, [], ""),
  (41, .getfield 299, 3, 0, [5, 14, 955], ""),
  (44, .goto 7, 3, 0, [26], ""),
  (47, .aload_n 0, 1, 0, [], ""),
  (48, .getfield 302, 3, 0, [5, 15, 956], ""),
  (51, .putfield 302, 3, 0, [5, 15, 956], ""),
  (54, .return_, 1, 7, [], "")])
set_option maxRecDepth 100000 in
/-- QueryReaderModel.park(II)V -/
def qm_143 : ai_M := (⟨"QueryReaderModel", "park", "(II)V"⟩, prog_9_method_31_code, 3, (Option.none : Option Jvm.ClassFile.FieldType), [], [], [
  (0, .aload_n 0, 1, 0, [], ""),
  (1, .getfield 206, 3, 0, [5, 22, 963], ""),
  (4, .aload_n 0, 1, 0, [], ""),
  (5, .getfield 349, 3, 0, [5, 21, 962], ""),
  (8, .iload_n 1, 1, 0, [], ""),
  (9, .iastore, 1, 0, [], ""),
  (10, .aload_n 0, 1, 0, [], ""),
  (11, .getfield 209, 3, 0, [5, 23, 964], ""),
  (14, .aload_n 0, 1, 0, [], ""),
  (15, .getfield 349, 3, 0, [5, 21, 962], ""),
  (18, .iload_n 2, 1, 0, [], ""),
  (19, .iastore, 1, 0, [], ""),
  (20, .aload_n 0, 1, 0, [], ""),
  (21, .dup, 1, 0, [], ""),
  (22, .getfield 349, 3, 0, [5, 21, 962], ""),
  (25, .iconst 1, 1, 0, [], ""),
  (26, .iadd, 1, 0, [], ""),
  (27, .putfield 349, 3, 0, [5, 21, 962], ""),
  (30, .return_, 1, 7, [], "")])
set_option maxRecDepth 100000 in
/-- QueryReaderModel.operand()V -/
def qm_144 : ai_M := (⟨"QueryReaderModel", "operand", "()V"⟩, prog_9_method_40_code, 2, (Option.none : Option Jvm.ClassFile.FieldType), [], [], [
  (0, .aload_n 0, 1, 0, [], ""),
  (1, .getfield 276, 3, 0, [5, 11, 952], ""),
  (4, .istore_n 1, 1, 0, [], ""),
  (5, .aload_n 0, 1, 0, [], ""),
  (6, .ldc_w 305, 3, 0, [2, 1005, 99], ""),
  (9, .invokevirtual 294, 3, 1, [138, 2, 1, 5, 1121, 69, 1123], ""),
  (12, .ifCond .eq 53, 3, 0, [35], ""),
  (15, .aload_n 0, 1, 0, [], ""),
  (16, .invokevirtual 307, 3, 1, [142, 1, 1, 5, 1137, 73, 1139], ""),
  (19, .aload_n 0, 1, 0, [], ""),
  (20, .dup, 1, 0, [], ""),
  (21, .getfield 270, 3, 0, [5, 10, 951], ""),
  (24, .iconst 1, 1, 0, [], ""),
  (25, .iadd, 1, 0, [], ""),
  (26, .putfield 270, 3, 0, [5, 10, 951], ""),
  (29, .aload_n 0, 1, 0, [], ""),
  (30, .invokevirtual 401, 3, 1, [140, 1, 1, 5, 1129, 71, 1131], ""),
  (33, .aload_n 0, 1, 0, [], ""),
  (34, .aload_n 0, 1, 0, [], ""),
  (35, .ldc_w 310, 3, 0, [2, 1008, 100], ""),
  (38, .invokevirtual 294, 3, 1, [138, 2, 1, 5, 1121, 69, 1123], ""),
  (41, .invokevirtual 287, 3, 1, [135, 2, 1, 5, 1099, 66, 1101], ""),
  (44, .aload_n 0, 1, 0, [], ""),
  (45, .dup, 1, 0, [], ""),
  (46, .getfield 270, 3, 0, [5, 10, 951], ""),
  (49, .iconst 1, 1, 0, [], ""),
  (50, .iadd, 1, 0, [], ""),
  (51, .putfield 270, 3, 0, [5, 10, 951], ""),
  (54, .aload_n 0, 1, 0, [], ""),
  (55, .dup, 1, 0, [], ""),
  (56, .getfield 299, 3, 0, [5, 14, 955], ""),
  (59, .iconst 1, 1, 0, [], ""),
  (60, .isub, 1, 0, [], ""),
  (61, .putfield 299, 3, 0, [5, 14, 955], ""),
  (64, .return_, 1, 7, [], ""),
  (65, .aload_n 0, 1, 0, [], ""),
  (66, .getfield 192, 3, 0, [5, 8, 949], ""),
  (69, .aload_n 0, 1, 0, [], ""),
  (70, .getfield 270, 3, 0, [5, 10, 951], ""),
  (73, .baload, 1, 0, [], ""),
  (74, .iconst 2, 1, 0, [], ""),
  (75, .if_icmp .ne 29, 3, 0, [54], ""),
  (78, .aload_n 0, 1, 0, [], ""),
  (79, .invokevirtual 291, 3, 1, [136, 1, 1, 5, 1113, 67, 1115], ""),
  (82, .aload_n 0, 1, 0, [], ""),
  (83, .ldc_w 408, 3, 0, [2, 1098, 101], ""),
  (86, .invokevirtual 294, 3, 1, [138, 2, 1, 5, 1121, 69, 1123], ""),
  (89, .ifCond .eq 83, 3, 0, [89], ""),
  (92, .aload_n 0, 1, 0, [], ""),
  (93, .invokevirtual 291, 3, 1, [136, 1, 1, 5, 1113, 67, 1115], ""),
  (96, .aload_n 0, 1, 0, [], ""),
  (97, .iconst 2, 1, 0, [], ""),
  (98, .invokevirtual 410, 3, 1, [145, 2, 1, 5, 1149, 76, 1151], ""),
  (101, .goto 71, 3, 0, [89], ""),
  (104, .aload_n 0, 1, 0, [], ""),
  (105, .getfield 192, 3, 0, [5, 8, 949], ""),
  (108, .aload_n 0, 1, 0, [], ""),
  (109, .getfield 270, 3, 0, [5, 10, 951], ""),
  (112, .baload, 1, 0, [], ""),
  (113, .iconst 3, 1, 0, [], ""),
  (114, .if_icmp .eq 16, 3, 0, [68], ""),
  (117, .aload_n 0, 1, 0, [], ""),
  (118, .getfield 192, 3, 0, [5, 8, 949], ""),
  (121, .aload_n 0, 1, 0, [], ""),
  (122, .getfield 270, 3, 0, [5, 10, 951], ""),
  (125, .baload, 1, 0, [], ""),
  (126, .iconst 4, 1, 0, [], ""),
  (127, .if_icmp .ne 10, 3, 0, [71], ""),
  (130, .aload_n 0, 1, 0, [], ""),
  (131, .invokevirtual 291, 3, 1, [136, 1, 1, 5, 1113, 67, 1115], ""),
  (134, .goto 38, 3, 0, [89], ""),
  (137, .aload_n 0, 1, 0, [], ""),
  (138, .ldc 109, 2, 0, [2, 1065, 65], ""),
  (140, .invokevirtual 383, 3, 1, [137, 2, 1, 5, 1117, 68, 1119], ""),
  (143, .ifCond .ne 29, 3, 0, [89], ""),
  (146, .aload_n 0, 1, 0, [], ""),
  (147, .aload_n 0, 1, 0, [], ""),
  (148, .getfield 192, 3, 0, [5, 8, 949], ""),
  (151, .aload_n 0, 1, 0, [], ""),
  (152, .getfield 270, 3, 0, [5, 10, 951], ""),
  (155, .baload, 1, 0, [], ""),
  (156, .iconst 1, 1, 0, [], ""),
  (157, .if_icmp .ne 7, 3, 0, [85], ""),
  (160, .iconst 1, 1, 0, [], ""),
  (161, .goto 4, 3, 0, [86], ""),
  (164, .iconst 0, 1, 0, [], ""),
  (165, .invokevirtual 287, 3, 1, [135, 2, 1, 5, 1099, 66, 1101], ""),
  (168, .aload_n 0, 1, 0, [], ""),
  (169, .invokevirtual 413, 3, 1, [146, 1, 1, 5, 1153, 77, 1155], ""),
  (172, .aload_n 0, 1, 0, [], ""),
  (173, .iload_n 1, 1, 0, [], ""),
  (174, .invokevirtual 416, 3, 1, [155, 2, 1, 5, 1189, 86, 1191], ""),
  (177, .return_, 1, 7, [], "")])
set_option maxRecDepth 100000 in
/-- QueryReaderModel.sort(I)V -/
def qm_145 : ai_M := (⟨"QueryReaderModel", "sort", "(I)V"⟩, prog_9_method_25_code, 2, (Option.none : Option Jvm.ClassFile.FieldType), [], [], [
  (0, .aload_n 0, 1, 0, [], ""),
  (1, .aload_n 0, 1, 0, [], ""),
  (2, .getfield 192, 3, 0, [5, 8, 949], ""),
  (5, .aload_n 0, 1, 0, [], ""),
  (6, .getfield 270, 3, 0, [5, 10, 951], ""),
  (9, .baload, 1, 0, [], ""),
  (10, .iload_n 1, 1, 0, [], ""),
  (11, .if_icmp .ne 7, 3, 0, [10], ""),
  (14, .iconst 1, 1, 0, [], ""),
  (15, .goto 4, 3, 0, [11], ""),
  (18, .iconst 0, 1, 0, [], ""),
  (19, .invokevirtual 287, 3, 1, [135, 2, 1, 5, 1099, 66, 1101], ""),
  (22, .aload_n 0, 1, 0, [], ""),
  (23, .invokevirtual 291, 3, 1, [136, 1, 1, 5, 1113, 67, 1115], ""),
  (26, .return_, 1, 7, [], "")])
set_option maxRecDepth 100000 in
/-- QueryReaderModel.call()V -/
def qm_146 : ai_M := (⟨"QueryReaderModel", "call", "()V"⟩, prog_9_method_41_code, 4, (Option.none : Option Jvm.ClassFile.FieldType), [], [], [
  (0, .aload_n 0, 1, 0, [], ""),
  (1, .ldc 63, 2, 0, [2, 1042, 42], ""),
  (3, .invokevirtual 383, 3, 1, [137, 2, 1, 5, 1117, 68, 1119], ""),
  (6, .ifCond .eq 18, 3, 0, [11], ""),
  (9, .aload_n 0, 1, 0, [], ""),
  (10, .invokevirtual 389, 3, 1, [147, 1, 1, 5, 1157, 78, 1159], ""),
  (13, .aload_n 0, 1, 0, [], ""),
  (14, .invokevirtual 392, 3, 1, [133, 1, 1, 5, 1091, 64, 1093], ""),
  (17, .aload_n 0, 1, 0, [], ""),
  (18, .invokevirtual 398, 3, 1, [148, 1, 1, 5, 1161, 79, 1163], ""),
  (21, .goto 277, 3, 0, [141], ""),
  (24, .aload_n 0, 1, 0, [], ""),
  (25, .ldc 29, 2, 0, [2, 1025, 25], ""),
  (27, .invokevirtual 283, 3, 1, [132, 2, 1, 5, 1087, 63, 1089], ""),
  (30, .ifCond .eq 10, 3, 0, [18], ""),
  (33, .aload_n 0, 1, 0, [], ""),
  (34, .invokevirtual 419, 3, 1, [150, 1, 1, 5, 1169, 81, 1171], ""),
  (37, .goto 261, 3, 0, [141], ""),
  (40, .aload_n 0, 1, 0, [], ""),
  (41, .ldc 31, 2, 0, [2, 1026, 26], ""),
  (43, .invokevirtual 383, 3, 1, [137, 2, 1, 5, 1117, 68, 1119], ""),
  (46, .ifCond .eq 28, 3, 0, [34], ""),
  (49, .aload_n 0, 1, 0, [], ""),
  (50, .invokevirtual 389, 3, 1, [147, 1, 1, 5, 1157, 78, 1159], ""),
  (53, .aload_n 0, 1, 0, [], ""),
  (54, .invokevirtual 401, 3, 1, [140, 1, 1, 5, 1129, 71, 1131], ""),
  (57, .aload_n 0, 1, 0, [], ""),
  (58, .ldc 15, 2, 0, [2, 1018, 18], ""),
  (60, .invokevirtual 386, 3, 1, [134, 2, 1, 5, 1095, 65, 1097], ""),
  (63, .aload_n 0, 1, 0, [], ""),
  (64, .invokevirtual 422, 3, 1, [151, 1, 1, 5, 1173, 82, 1175], ""),
  (67, .aload_n 0, 1, 0, [], ""),
  (68, .invokevirtual 398, 3, 1, [148, 1, 1, 5, 1161, 79, 1163], ""),
  (71, .goto 227, 3, 0, [141], ""),
  (74, .aload_n 0, 1, 0, [], ""),
  (75, .ldc 35, 2, 0, [2, 1028, 28], ""),
  (77, .invokevirtual 383, 3, 1, [137, 2, 1, 5, 1117, 68, 1119], ""),
  (80, .ifCond .eq 18, 3, 0, [45], ""),
  (83, .aload_n 0, 1, 0, [], ""),
  (84, .invokevirtual 389, 3, 1, [147, 1, 1, 5, 1157, 78, 1159], ""),
  (87, .aload_n 0, 1, 0, [], ""),
  (88, .invokevirtual 395, 3, 1, [152, 1, 1, 5, 1177, 83, 1179], ""),
  (91, .aload_n 0, 1, 0, [], ""),
  (92, .invokevirtual 398, 3, 1, [148, 1, 1, 5, 1161, 79, 1163], ""),
  (95, .goto 203, 3, 0, [141], ""),
  (98, .aload_n 0, 1, 0, [], ""),
  (99, .ldc 41, 2, 0, [2, 1031, 31], ""),
  (101, .invokevirtual 283, 3, 1, [132, 2, 1, 5, 1087, 63, 1089], ""),
  (104, .ifCond .ne 39, 3, 0, [65], ""),
  (107, .aload_n 0, 1, 0, [], ""),
  (108, .ldc 149, 2, 0, [2, 1084, 85], ""),
  (110, .invokevirtual 283, 3, 1, [132, 2, 1, 5, 1087, 63, 1089], ""),
  (113, .ifCond .ne 30, 3, 0, [65], ""),
  (116, .aload_n 0, 1, 0, [], ""),
  (117, .ldc 103, 2, 0, [2, 1062, 62], ""),
  (119, .invokevirtual 283, 3, 1, [132, 2, 1, 5, 1087, 63, 1089], ""),
  (122, .ifCond .ne 21, 3, 0, [65], ""),
  (125, .aload_n 0, 1, 0, [], ""),
  (126, .ldc 101, 2, 0, [2, 1061, 61], ""),
  (128, .invokevirtual 283, 3, 1, [132, 2, 1, 5, 1087, 63, 1089], ""),
  (131, .ifCond .ne 12, 3, 0, [65], ""),
  (134, .aload_n 0, 1, 0, [], ""),
  (135, .ldc 19, 2, 0, [2, 1020, 20], ""),
  (137, .invokevirtual 283, 3, 1, [132, 2, 1, 5, 1087, 63, 1089], ""),
  (140, .ifCond .eq 10, 3, 0, [68], ""),
  (143, .aload_n 0, 1, 0, [], ""),
  (144, .invokevirtual 425, 3, 1, [154, 1, 1, 5, 1185, 85, 1187], ""),
  (147, .goto 151, 3, 0, [141], ""),
  (150, .aload_n 0, 1, 0, [], ""),
  (151, .ldc 147, 2, 0, [2, 1083, 84], ""),
  (153, .invokevirtual 283, 3, 1, [132, 2, 1, 5, 1087, 63, 1089], ""),
  (156, .ifCond .eq 7, 3, 0, [74], ""),
  (159, .iconst 3, 1, 0, [], ""),
  (160, .goto 17, 3, 0, [81], ""),
  (163, .aload_n 0, 1, 0, [], ""),
  (164, .ldc 111, 2, 0, [2, 1066, 66], ""),
  (166, .invokevirtual 283, 3, 1, [132, 2, 1, 5, 1087, 63, 1089], ""),
  (169, .ifCond .eq 7, 3, 0, [80], ""),
  (172, .iconst 2, 1, 0, [], ""),
  (173, .goto 4, 3, 0, [81], ""),
  (176, .iconst 1, 1, 0, [], ""),
  (177, .istore_n 1, 1, 0, [], ""),
  (178, .aload_n 0, 1, 0, [], ""),
  (179, .ldc 147, 2, 0, [2, 1083, 84], ""),
  (181, .invokevirtual 283, 3, 1, [132, 2, 1, 5, 1087, 63, 1089], ""),
  (184, .ifCond .eq 7, 3, 0, [88], ""),
  (187, .iconst 2, 1, 0, [], ""),
  (188, .goto 4, 3, 0, [89], ""),
  (191, .iload_n 1, 1, 0, [], ""),
  (192, .istore_n 2, 1, 0, [], ""),
  (193, .aload_n 0, 1, 0, [], ""),
  (194, .iload_n 1, 1, 0, [], ""),
  (195, .iconst 1, 1, 0, [], ""),
  (196, .if_icmp .gt 39, 3, 0, [110], ""),
  (199, .aload_n 0, 1, 0, [], ""),
  (200, .ldc 9, 2, 0, [2, 1015, 15], ""),
  (202, .invokevirtual 283, 3, 1, [132, 2, 1, 5, 1087, 63, 1089], ""),
  (205, .ifCond .ne 30, 3, 0, [110], ""),
  (208, .aload_n 0, 1, 0, [], ""),
  (209, .ldc 91, 2, 0, [2, 1056, 56], ""),
  (211, .invokevirtual 283, 3, 1, [132, 2, 1, 5, 1087, 63, 1089], ""),
  (214, .ifCond .ne 21, 3, 0, [110], ""),
  (217, .aload_n 0, 1, 0, [], ""),
  (218, .ldc 165, 2, 0, [2, 1092, 93], ""),
  (220, .invokevirtual 283, 3, 1, [132, 2, 1, 5, 1087, 63, 1089], ""),
  (223, .ifCond .ne 12, 3, 0, [110], ""),
  (226, .aload_n 0, 1, 0, [], ""),
  (227, .ldc 99, 2, 0, [2, 1060, 60], ""),
  (229, .invokevirtual 283, 3, 1, [132, 2, 1, 5, 1087, 63, 1089], ""),
  (232, .ifCond .eq 7, 3, 0, [112], ""),
  (235, .iconst 1, 1, 0, [], ""),
  (236, .goto 4, 3, 0, [113], ""),
  (239, .iconst 0, 1, 0, [], ""),
  (240, .invokevirtual 287, 3, 1, [135, 2, 1, 5, 1099, 66, 1101], ""),
  (243, .aload_n 0, 1, 0, [], ""),
  (244, .invokevirtual 291, 3, 1, [136, 1, 1, 5, 1113, 67, 1115], ""),
  (247, .aload_n 0, 1, 0, [], ""),
  (248, .invokevirtual 389, 3, 1, [147, 1, 1, 5, 1157, 78, 1159], ""),
  (251, .aload_n 0, 1, 0, [], ""),
  (252, .invokevirtual 401, 3, 1, [140, 1, 1, 5, 1129, 71, 1131], ""),
  (255, .iconst 1, 1, 0, [], ""),
  (256, .istore_n 3, 1, 0, [], ""),
  (257, .iload_n 3, 1, 0, [], ""),
  (258, .iload_n 1, 1, 0, [], ""),
  (259, .if_icmp .ge 35, 3, 0, [139], ""),
  (262, .iload_n 3, 1, 0, [], ""),
  (263, .iload_n 2, 1, 0, [], ""),
  (264, .if_icmp .lt 13, 3, 0, [132], ""),
  (267, .aload_n 0, 1, 0, [], ""),
  (268, .ldc_w 297, 3, 0, [2, 1099, 102], ""),
  (271, .invokevirtual 294, 3, 1, [138, 2, 1, 5, 1121, 69, 1123], ""),
  (274, .ifCond .eq 20, 3, 0, [139], ""),
  (277, .aload_n 0, 1, 0, [], ""),
  (278, .ldc_w 297, 3, 0, [2, 1099, 102], ""),
  (281, .invokevirtual 312, 3, 1, [149, 2, 1, 5, 1165, 80, 1167], ""),
  (284, .aload_n 0, 1, 0, [], ""),
  (285, .invokevirtual 401, 3, 1, [140, 1, 1, 5, 1129, 71, 1131], ""),
  (288, .iinc 3 1, 3, 0, [], ""),
  (291, .goto (-34), 3, 0, [122], ""),
  (294, .aload_n 0, 1, 0, [], ""),
  (295, .invokevirtual 398, 3, 1, [148, 1, 1, 5, 1161, 79, 1163], ""),
  (298, .return_, 1, 7, [], "")])
set_option maxRecDepth 100000 in
/-- QueryReaderModel.openBracket()V -/
def qm_147 : ai_M := (⟨"QueryReaderModel", "openBracket", "()V"⟩, prog_9_method_27_code, 1, (Option.none : Option Jvm.ClassFile.FieldType), [], [], [
  (0, .aload_n 0, 1, 0, [], ""),
  (1, .aload_n 0, 1, 0, [], ""),
  (2, .ldc_w 305, 3, 0, [2, 1005, 99], ""),
  (5, .invokevirtual 294, 3, 1, [138, 2, 1, 5, 1121, 69, 1123], ""),
  (8, .invokevirtual 287, 3, 1, [135, 2, 1, 5, 1099, 66, 1101], ""),
  (11, .aload_n 0, 1, 0, [], ""),
  (12, .invokevirtual 307, 3, 1, [142, 1, 1, 5, 1137, 73, 1139], ""),
  (15, .aload_n 0, 1, 0, [], ""),
  (16, .invokevirtual 291, 3, 1, [136, 1, 1, 5, 1113, 67, 1115], ""),
  (19, .return_, 1, 7, [], "")])
set_option maxRecDepth 100000 in
/-- QueryReaderModel.closeBracket()V -/
def qm_148 : ai_M := (⟨"QueryReaderModel", "closeBracket", "()V"⟩, prog_9_method_28_code, 1, (Option.none : Option Jvm.ClassFile.FieldType), [], [], [
  (0, .aload_n 0, 1, 0, [], ""),
  (1, .ldc_w 310, 3, 0, [2, 1008, 100], ""),
  (4, .invokevirtual 312, 3, 1, [149, 2, 1, 5, 1165, 80, 1167], ""),
  (7, .aload_n 0, 1, 0, [], ""),
  (8, .dup, 1, 0, [], ""),
  (9, .getfield 299, 3, 0, [5, 14, 955], ""),
  (12, .iconst 1, 1, 0, [], ""),
  (13, .isub, 1, 0, [], ""),
  (14, .putfield 299, 3, 0, [5, 14, 955], ""),
  (17, .return_, 1, 7, [], "")])
set_option maxRecDepth 100000 in
/-- QueryReaderModel.sign(Ljava/lang/String;)V -/
def qm_149 : ai_M := (⟨"QueryReaderModel", "sign", "(Ljava/lang/String;)V"⟩, prog_9_method_23_code, 2, (Option.none : Option Jvm.ClassFile.FieldType), [], [], [
  (0, .aload_n 0, 1, 0, [], ""),
  (1, .aload_n 0, 1, 0, [], ""),
  (2, .aload_n 1, 1, 0, [], ""),
  (3, .invokevirtual 294, 3, 1, [138, 2, 1, 5, 1121, 69, 1123], ""),
  (6, .invokevirtual 287, 3, 1, [135, 2, 1, 5, 1099, 66, 1101], ""),
  (9, .aload_n 0, 1, 0, [], ""),
  (10, .invokevirtual 291, 3, 1, [136, 1, 1, 5, 1113, 67, 1115], ""),
  (13, .return_, 1, 7, [], "")])
set_option maxRecDepth 100000 in
/-- QueryReaderModel.cases()V -/
def qm_150 : ai_M := (⟨"QueryReaderModel", "cases", "()V"⟩, prog_9_method_43_code, 1, (Option.none : Option Jvm.ClassFile.FieldType), [], [], [
  (0, .aload_n 0, 1, 0, [], ""),
  (1, .invokevirtual 307, 3, 1, [142, 1, 1, 5, 1137, 73, 1139], ""),
  (4, .aload_n 0, 1, 0, [], ""),
  (5, .invokevirtual 291, 3, 1, [136, 1, 1, 5, 1113, 67, 1115], ""),
  (8, .aload_n 0, 1, 0, [], ""),
  (9, .ldc 169, 2, 0, [2, 1094, 95], ""),
  (11, .invokevirtual 386, 3, 1, [134, 2, 1, 5, 1095, 65, 1097], ""),
  (14, .aload_n 0, 1, 0, [], ""),
  (15, .invokevirtual 401, 3, 1, [140, 1, 1, 5, 1129, 71, 1131], ""),
  (18, .aload_n 0, 1, 0, [], ""),
  (19, .ldc 155, 2, 0, [2, 1087, 88], ""),
  (21, .invokevirtual 386, 3, 1, [134, 2, 1, 5, 1095, 65, 1097], ""),
  (24, .aload_n 0, 1, 0, [], ""),
  (25, .invokevirtual 401, 3, 1, [140, 1, 1, 5, 1129, 71, 1131], ""),
  (28, .aload_n 0, 1, 0, [], ""),
  (29, .ldc 169, 2, 0, [2, 1094, 95], ""),
  (31, .invokevirtual 283, 3, 1, [132, 2, 1, 5, 1087, 63, 1089], ""),
  (34, .ifCond .ne (-26), 3, 0, [4], ""),
  (37, .aload_n 0, 1, 0, [], ""),
  (38, .ldc 57, 2, 0, [2, 1039, 39], ""),
  (40, .invokevirtual 383, 3, 1, [137, 2, 1, 5, 1117, 68, 1119], ""),
  (43, .ifCond .eq 7, 3, 0, [24], ""),
  (46, .aload_n 0, 1, 0, [], ""),
  (47, .invokevirtual 401, 3, 1, [140, 1, 1, 5, 1129, 71, 1131], ""),
  (50, .aload_n 0, 1, 0, [], ""),
  (51, .ldc 59, 2, 0, [2, 1040, 40], ""),
  (53, .invokevirtual 386, 3, 1, [134, 2, 1, 5, 1095, 65, 1097], ""),
  (56, .aload_n 0, 1, 0, [], ""),
  (57, .dup, 1, 0, [], ""),
  (58, .getfield 299, 3, 0, [5, 14, 955], ""),
  (61, .iconst 1, 1, 0, [], ""),
  (62, .isub, 1, 0, [], ""),
  (63, .putfield 299, 3, 0, [5, 14, 955], ""),
  (66, .return_, 1, 7, [], "")])
set_option maxRecDepth 100000 in
/-- QueryReaderModel.type()V -/
def qm_151 : ai_M := (⟨"QueryReaderModel", "type", "()V"⟩, prog_9_method_44_code, 1, (Option.none : Option Jvm.ClassFile.FieldType), [], [], [
  (0, .aload_n 0, 1, 0, [], ""),
  (1, .ldc 79, 2, 0, [2, 1050, 50], ""),
  (3, .invokevirtual 383, 3, 1, [137, 2, 1, 5, 1117, 68, 1119], ""),
  (6, .ifCond .ne 9, 3, 0, [7], ""),
  (9, .aload_n 0, 1, 0, [], ""),
  (10, .ldc 153, 2, 0, [2, 1086, 87], ""),
  (12, .invokevirtual 386, 3, 1, [134, 2, 1, 5, 1095, 65, 1097], ""),
  (15, .return_, 1, 7, [], "")])
set_option maxRecDepth 100000 in
/-- QueryReaderModel.list()V -/
def qm_152 : ai_M := (⟨"QueryReaderModel", "list", "()V"⟩, prog_9_method_38_code, 1, (Option.none : Option Jvm.ClassFile.FieldType), [], [], [
  (0, .aload_n 0, 1, 0, [], ""),
  (1, .invokevirtual 401, 3, 1, [140, 1, 1, 5, 1129, 71, 1131], ""),
  (4, .aload_n 0, 1, 0, [], ""),
  (5, .invokevirtual 404, 3, 1, [153, 1, 1, 5, 1181, 84, 1183], ""),
  (8, .ifCond .eq 10, 3, 0, [8], ""),
  (11, .aload_n 0, 1, 0, [], ""),
  (12, .invokevirtual 401, 3, 1, [140, 1, 1, 5, 1129, 71, 1131], ""),
  (15, .goto (-11), 3, 0, [2], ""),
  (18, .return_, 1, 7, [], "")])
set_option maxRecDepth 100000 in
/-- QueryReaderModel.takesComma()Z -/
def qm_153 : ai_M := (⟨"QueryReaderModel", "takesComma", "()Z"⟩, prog_9_method_24_code, 2, (Option.some Jvm.ClassFile.FieldType.boolean), [], [], [
  (0, .aload_n 0, 1, 0, [], ""),
  (1, .ldc_w 297, 3, 0, [2, 1099, 102], ""),
  (4, .invokevirtual 294, 3, 1, [138, 2, 1, 5, 1121, 69, 1123], ""),
  (7, .istore_n 1, 1, 0, [], ""),
  (8, .iload_n 1, 1, 0, [], ""),
  (9, .ifCond .eq 7, 3, 0, [8], ""),
  (12, .aload_n 0, 1, 0, [], ""),
  (13, .invokevirtual 291, 3, 1, [136, 1, 1, 5, 1113, 67, 1115], ""),
  (16, .iload_n 1, 1, 0, [], ""),
  (17, .ireturn, 1, 5, [], "")])
set_option maxRecDepth 100000 in
/-- QueryReaderModel.aggregate()V -/
def qm_154 : ai_M := (⟨"QueryReaderModel", "aggregate", "()V"⟩, prog_9_method_42_code, 2, (Option.none : Option Jvm.ClassFile.FieldType), [], [], [
  (0, .aload_n 0, 1, 0, [], ""),
  (1, .ldc 41, 2, 0, [2, 1031, 31], ""),
  (3, .invokevirtual 283, 3, 1, [132, 2, 1, 5, 1087, 63, 1089], ""),
  (6, .istore_n 1, 1, 0, [], ""),
  (7, .aload_n 0, 1, 0, [], ""),
  (8, .invokevirtual 291, 3, 1, [136, 1, 1, 5, 1113, 67, 1115], ""),
  (11, .aload_n 0, 1, 0, [], ""),
  (12, .invokevirtual 389, 3, 1, [147, 1, 1, 5, 1157, 78, 1159], ""),
  (15, .iload_n 1, 1, 0, [], ""),
  (16, .ifCond .eq 20, 3, 0, [17], ""),
  (19, .aload_n 0, 1, 0, [], ""),
  (20, .ldc_w 343, 3, 0, [2, 1096, 97], ""),
  (23, .invokevirtual 294, 3, 1, [138, 2, 1, 5, 1121, 69, 1123], ""),
  (26, .ifCond .eq 10, 3, 0, [17], ""),
  (29, .aload_n 0, 1, 0, [], ""),
  (30, .invokevirtual 291, 3, 1, [136, 1, 1, 5, 1113, 67, 1115], ""),
  (33, .goto 14, 3, 0, [23], ""),
  (36, .aload_n 0, 1, 0, [], ""),
  (37, .ldc 53, 2, 0, [2, 1037, 37], ""),
  (39, .invokevirtual 383, 3, 1, [137, 2, 1, 5, 1117, 68, 1119], ""),
  (42, .pop, 1, 0, [], ""),
  (43, .aload_n 0, 1, 0, [], ""),
  (44, .invokevirtual 401, 3, 1, [140, 1, 1, 5, 1129, 71, 1131], ""),
  (47, .aload_n 0, 1, 0, [], ""),
  (48, .invokevirtual 398, 3, 1, [148, 1, 1, 5, 1161, 79, 1163], ""),
  (51, .return_, 1, 7, [], "")])
set_option maxRecDepth 100000 in
/-- QueryReaderModel.atom(I)V -/
def qm_155 : ai_M := (⟨"QueryReaderModel", "atom", "(I)V"⟩, prog_9_method_39_code, 2, (Option.none : Option Jvm.ClassFile.FieldType), [], [], [
  (0, .aload_n 0, 1, 0, [], ""),
  (1, .iload_n 1, 1, 0, [], ""),
  (2, .putfield 316, 3, 0, [5, 18, 959], ""),
  (5, .aload_n 0, 1, 0, [], ""),
  (6, .aload_n 0, 1, 0, [], ""),
  (7, .getfield 276, 3, 0, [5, 11, 952], ""),
  (10, .iconst 1, 1, 0, [], ""),
  (11, .isub, 1, 0, [], ""),
  (12, .putfield 319, 3, 0, [5, 19, 960], ""),
  (15, .aload_n 0, 1, 0, [], ""),
  (16, .iconst 0, 1, 0, [], ""),
  (17, .putfield 322, 3, 0, [5, 20, 961], ""),
  (20, .return_, 1, 7, [], "")])
set_option maxRecDepth 100000 in
/-- QueryReaderModel.rank()I -/
def qm_156 : ai_M := (⟨"QueryReaderModel", "rank", "()I"⟩, prog_9_method_30_code, 2, (Option.some Jvm.ClassFile.FieldType.int), [], [], [
  (0, .aload_n 0, 1, 0, [], ""),
  (1, .getfield 192, 3, 0, [5, 8, 949], ""),
  (4, .aload_n 0, 1, 0, [], ""),
  (5, .getfield 270, 3, 0, [5, 10, 951], ""),
  (8, .baload, 1, 0, [], ""),
  (9, .iconst 1, 1, 0, [], ""),
  (10, .if_icmp .ne 90, 3, 0, [49], ""),
  (13, .aload_n 0, 1, 0, [], ""),
  (14, .ldc 83, 2, 0, [2, 1052, 52], ""),
  (16, .invokevirtual 283, 3, 1, [132, 2, 1, 5, 1087, 63, 1089], ""),
  (19, .ifCond .ne 39, 3, 0, [27], ""),
  (22, .aload_n 0, 1, 0, [], ""),
  (23, .ldc 107, 2, 0, [2, 1064, 64], ""),
  (25, .invokevirtual 283, 3, 1, [132, 2, 1, 5, 1087, 63, 1089], ""),
  (28, .ifCond .ne 30, 3, 0, [27], ""),
  (31, .aload_n 0, 1, 0, [], ""),
  (32, .ldc 71, 2, 0, [2, 1046, 46], ""),
  (34, .invokevirtual 283, 3, 1, [132, 2, 1, 5, 1087, 63, 1089], ""),
  (37, .ifCond .ne 21, 3, 0, [27], ""),
  (40, .aload_n 0, 1, 0, [], ""),
  (41, .ldc 23, 2, 0, [2, 1022, 22], ""),
  (43, .invokevirtual 283, 3, 1, [132, 2, 1, 5, 1087, 63, 1089], ""),
  (46, .ifCond .ne 12, 3, 0, [27], ""),
  (49, .aload_n 0, 1, 0, [], ""),
  (50, .ldc 93, 2, 0, [2, 1057, 57], ""),
  (52, .invokevirtual 283, 3, 1, [132, 2, 1, 5, 1087, 63, 1089], ""),
  (55, .ifCond .eq 7, 3, 0, [29], ""),
  (58, .iconst 1, 1, 0, [], ""),
  (59, .goto 4, 3, 0, [30], ""),
  (62, .iconst 0, 1, 0, [], ""),
  (63, .istore_n 1, 1, 0, [], ""),
  (64, .aload_n 0, 1, 0, [], ""),
  (65, .ldc 117, 2, 0, [2, 1069, 69], ""),
  (67, .invokevirtual 283, 3, 1, [132, 2, 1, 5, 1087, 63, 1089], ""),
  (70, .ifCond .eq 7, 3, 0, [37], ""),
  (73, .iconst 1, 1, 0, [], ""),
  (74, .goto 25, 3, 0, [48], ""),
  (77, .aload_n 0, 1, 0, [], ""),
  (78, .ldc 13, 2, 0, [2, 1017, 17], ""),
  (80, .invokevirtual 283, 3, 1, [132, 2, 1, 5, 1087, 63, 1089], ""),
  (83, .ifCond .eq 7, 3, 0, [43], ""),
  (86, .iconst 2, 1, 0, [], ""),
  (87, .goto 12, 3, 0, [48], ""),
  (90, .iload_n 1, 1, 0, [], ""),
  (91, .ifCond .eq 7, 3, 0, [47], ""),
  (94, .iconst 4, 1, 0, [], ""),
  (95, .goto 4, 3, 0, [48], ""),
  (98, .iconst 0, 1, 0, [], ""),
  (99, .ireturn, 1, 5, [], ""),
  (100, .aload_n 0, 1, 0, [], ""),
  (101, .getfield 192, 3, 0, [5, 8, 949], ""),
  (104, .aload_n 0, 1, 0, [], ""),
  (105, .getfield 270, 3, 0, [5, 10, 951], ""),
  (108, .baload, 1, 0, [], ""),
  (109, .iconst 5, 1, 0, [], ""),
  (110, .if_icmp .eq 5, 3, 0, [58], ""),
  (113, .iconst 0, 1, 0, [], ""),
  (114, .ireturn, 1, 5, [], ""),
  (115, .aload_n 0, 1, 0, [], ""),
  (116, .ldc_w 325, 3, 0, [2, 1100, 103], ""),
  (119, .invokevirtual 294, 3, 1, [138, 2, 1, 5, 1121, 69, 1123], ""),
  (122, .ifCond .ne 53, 3, 0, [82], ""),
  (125, .aload_n 0, 1, 0, [], ""),
  (126, .ldc_w 327, 3, 0, [2, 1101, 104], ""),
  (129, .invokevirtual 294, 3, 1, [138, 2, 1, 5, 1121, 69, 1123], ""),
  (132, .ifCond .ne 43, 3, 0, [82], ""),
  (135, .aload_n 0, 1, 0, [], ""),
  (136, .ldc_w 329, 3, 0, [2, 1102, 105], ""),
  (139, .invokevirtual 294, 3, 1, [138, 2, 1, 5, 1121, 69, 1123], ""),
  (142, .ifCond .ne 33, 3, 0, [82], ""),
  (145, .aload_n 0, 1, 0, [], ""),
  (146, .ldc_w 331, 3, 0, [2, 1103, 106], ""),
  (149, .invokevirtual 294, 3, 1, [138, 2, 1, 5, 1121, 69, 1123], ""),
  (152, .ifCond .ne 23, 3, 0, [82], ""),
  (155, .aload_n 0, 1, 0, [], ""),
  (156, .ldc_w 333, 3, 0, [2, 1104, 107], ""),
  (159, .invokevirtual 294, 3, 1, [138, 2, 1, 5, 1121, 69, 1123], ""),
  (162, .ifCond .ne 13, 3, 0, [82], ""),
  (165, .aload_n 0, 1, 0, [], ""),
  (166, .ldc_w 335, 3, 0, [2, 1105, 108], ""),
  (169, .invokevirtual 294, 3, 1, [138, 2, 1, 5, 1121, 69, 1123], ""),
  (172, .ifCond .eq 7, 3, 0, [84], ""),
  (175, .iconst 1, 1, 0, [], ""),
  (176, .goto 4, 3, 0, [85], ""),
  (179, .iconst 0, 1, 0, [], ""),
  (180, .istore_n 1, 1, 0, [], ""),
  (181, .iload_n 1, 1, 0, [], ""),
  (182, .ifCond .eq 7, 3, 0, [90], ""),
  (185, .iconst 4, 1, 0, [], ""),
  (186, .goto 78, 3, 0, [121], ""),
  (189, .aload_n 0, 1, 0, [], ""),
  (190, .ldc_w 337, 3, 0, [2, 1106, 109], ""),
  (193, .invokevirtual 294, 3, 1, [138, 2, 1, 5, 1121, 69, 1123], ""),
  (196, .ifCond .eq 7, 3, 0, [96], ""),
  (199, .iconst 5, 1, 0, [], ""),
  (200, .goto 64, 3, 0, [121], ""),
  (203, .aload_n 0, 1, 0, [], ""),
  (204, .ldc_w 339, 3, 0, [2, 1107, 110], ""),
  (207, .invokevirtual 294, 3, 1, [138, 2, 1, 5, 1121, 69, 1123], ""),
  (210, .ifCond .ne 13, 3, 0, [104], ""),
  (213, .aload_n 0, 1, 0, [], ""),
  (214, .ldc_w 341, 3, 0, [2, 1097, 98], ""),
  (217, .invokevirtual 294, 3, 1, [138, 2, 1, 5, 1121, 69, 1123], ""),
  (220, .ifCond .eq 8, 3, 0, [106], ""),
  (223, .bipush 6, 2, 0, [], ""),
  (225, .goto 39, 3, 0, [121], ""),
  (228, .aload_n 0, 1, 0, [], ""),
  (229, .ldc_w 343, 3, 0, [2, 1096, 97], ""),
  (232, .invokevirtual 294, 3, 1, [138, 2, 1, 5, 1121, 69, 1123], ""),
  (235, .ifCond .ne 23, 3, 0, [118], ""),
  (238, .aload_n 0, 1, 0, [], ""),
  (239, .ldc_w 345, 3, 0, [2, 1108, 111], ""),
  (242, .invokevirtual 294, 3, 1, [138, 2, 1, 5, 1121, 69, 1123], ""),
  (245, .ifCond .ne 13, 3, 0, [118], ""),
  (248, .aload_n 0, 1, 0, [], ""),
  (249, .ldc_w 347, 3, 0, [2, 1109, 112], ""),
  (252, .invokevirtual 294, 3, 1, [138, 2, 1, 5, 1121, 69, 1123], ""),
  (255, .ifCond .eq 8, 3, 0, [120], ""),
  (258, .bipush 7, 2, 0, [], ""),
  (260, .goto 4, 3, 0, [121], ""),
  (263, .iconst 0, 1, 0, [], ""),
  (264, .ireturn, 1, 5, [], "")])
set_option maxRecDepth 100000 in
/-- QueryReaderModel.settleTo(III)I -/
def qm_157 : ai_M := (⟨"QueryReaderModel", "settleTo", "(III)I"⟩, prog_9_method_33_code, 5, (Option.some Jvm.ClassFile.FieldType.int), [], [], [
  (0, .iload_n 3, 1, 0, [], ""),
  (1, .istore 4, 2, 0, [], ""),
  (3, .aload_n 0, 1, 0, [], ""),
  (4, .getfield 349, 3, 0, [5, 21, 962], ""),
  (7, .iload_n 1, 1, 0, [], ""),
  (8, .if_icmp .le 54, 3, 0, [35], ""),
  (11, .aload_n 0, 1, 0, [], ""),
  (12, .getfield 206, 3, 0, [5, 22, 963], ""),
  (15, .aload_n 0, 1, 0, [], ""),
  (16, .getfield 349, 3, 0, [5, 21, 962], ""),
  (19, .iconst 1, 1, 0, [], ""),
  (20, .isub, 1, 0, [], ""),
  (21, .iaload, 1, 0, [], ""),
  (22, .iload_n 2, 1, 0, [], ""),
  (23, .if_icmp .lt 39, 3, 0, [35], ""),
  (26, .aload_n 0, 1, 0, [], ""),
  (27, .getfield 206, 3, 0, [5, 22, 963], ""),
  (30, .aload_n 0, 1, 0, [], ""),
  (31, .getfield 349, 3, 0, [5, 21, 962], ""),
  (34, .iconst 1, 1, 0, [], ""),
  (35, .isub, 1, 0, [], ""),
  (36, .iaload, 1, 0, [], ""),
  (37, .bipush 9, 2, 0, [], ""),
  (39, .if_icmp .eq 23, 3, 0, [35], ""),
  (42, .aload_n 0, 1, 0, [], ""),
  (43, .getfield 206, 3, 0, [5, 22, 963], ""),
  (46, .aload_n 0, 1, 0, [], ""),
  (47, .getfield 349, 3, 0, [5, 21, 962], ""),
  (50, .iconst 1, 1, 0, [], ""),
  (51, .isub, 1, 0, [], ""),
  (52, .iaload, 1, 0, [], ""),
  (53, .istore 4, 2, 0, [], ""),
  (55, .aload_n 0, 1, 0, [], ""),
  (56, .invokevirtual 356, 3, 1, [158, 1, 1, 5, 1201, 89, 1203], ""),
  (59, .goto (-56), 3, 0, [2], ""),
  (62, .iload 4, 2, 0, [], ""),
  (64, .ireturn, 1, 5, [], "")])
set_option maxRecDepth 100000 in
/-- QueryReaderModel.settle()V -/
def qm_158 : ai_M := (⟨"QueryReaderModel", "settle", "()V"⟩, prog_9_method_32_code, 2, (Option.none : Option Jvm.ClassFile.FieldType), [], [], [
  (0, .aload_n 0, 1, 0, [], ""),
  (1, .dup, 1, 0, [], ""),
  (2, .getfield 349, 3, 0, [5, 21, 962], ""),
  (5, .iconst 1, 1, 0, [], ""),
  (6, .isub, 1, 0, [], ""),
  (7, .putfield 349, 3, 0, [5, 21, 962], ""),
  (10, .aload_n 0, 1, 0, [], ""),
  (11, .getfield 206, 3, 0, [5, 22, 963], ""),
  (14, .aload_n 0, 1, 0, [], ""),
  (15, .getfield 349, 3, 0, [5, 21, 962], ""),
  (18, .iaload, 1, 0, [], ""),
  (19, .istore_n 1, 1, 0, [], ""),
  (20, .aload_n 0, 1, 0, [], ""),
  (21, .iload_n 1, 1, 0, [], ""),
  (22, .bipush 9, 2, 0, [], ""),
  (24, .if_icmp .eq 7, 3, 0, [18], ""),
  (27, .iconst 1, 1, 0, [], ""),
  (28, .goto 4, 3, 0, [19], ""),
  (31, .iconst 0, 1, 0, [], ""),
  (32, .invokevirtual 287, 3, 1, [135, 2, 1, 5, 1099, 66, 1101], ""),
  (35, .aload_n 0, 1, 0, [], ""),
  (36, .iload_n 1, 1, 0, [], ""),
  (37, .iconst 3, 1, 0, [], ""),
  (38, .if_icmp .eq 9, 3, 0, [27], ""),
  (41, .iload_n 1, 1, 0, [], ""),
  (42, .bipush 8, 2, 0, [], ""),
  (44, .if_icmp .ne 12, 3, 0, [32], ""),
  (47, .aload_n 0, 1, 0, [], ""),
  (48, .getfield 299, 3, 0, [5, 14, 955], ""),
  (51, .iconst 1, 1, 0, [], ""),
  (52, .isub, 1, 0, [], ""),
  (53, .goto 7, 3, 0, [34], ""),
  (56, .aload_n 0, 1, 0, [], ""),
  (57, .getfield 299, 3, 0, [5, 14, 955], ""),
  (60, .putfield 299, 3, 0, [5, 14, 955], ""),
  (63, .aload_n 0, 1, 0, [], ""),
  (64, .aload_n 0, 1, 0, [], ""),
  (65, .getfield 209, 3, 0, [5, 23, 964], ""),
  (68, .aload_n 0, 1, 0, [], ""),
  (69, .getfield 349, 3, 0, [5, 21, 962], ""),
  (72, .iaload, 1, 0, [], ""),
  (73, .iload_n 1, 1, 0, [], ""),
  (74, .invokevirtual 352, 3, 1, [159, 3, 1, 5, 1205, 90, 1207], ""),
  (77, .return_, 1, 7, [], "")])
set_option maxRecDepth 100000 in
/-- QueryReaderModel.wrap(II)V -/
def qm_159 : ai_M := (⟨"QueryReaderModel", "wrap", "(II)V"⟩, prog_9_method_29_code, 3, (Option.none : Option Jvm.ClassFile.FieldType), [], [], [
  (0, .aload_n 0, 1, 0, [], ""),
  (1, .iload_n 1, 1, 0, [], ""),
  (2, .putfield 316, 3, 0, [5, 18, 959], ""),
  (5, .aload_n 0, 1, 0, [], ""),
  (6, .aload_n 0, 1, 0, [], ""),
  (7, .getfield 276, 3, 0, [5, 11, 952], ""),
  (10, .iconst 1, 1, 0, [], ""),
  (11, .isub, 1, 0, [], ""),
  (12, .putfield 319, 3, 0, [5, 19, 960], ""),
  (15, .aload_n 0, 1, 0, [], ""),
  (16, .iload_n 2, 1, 0, [], ""),
  (17, .putfield 322, 3, 0, [5, 20, 961], ""),
  (20, .aload_n 0, 1, 0, [], ""),
  (21, .getfield 203, 3, 0, [5, 13, 954], ""),
  (24, .aload_n 0, 1, 0, [], ""),
  (25, .getfield 316, 3, 0, [5, 18, 959], ""),
  (28, .dup2, 1, 0, [], ""),
  (29, .iaload, 1, 0, [], ""),
  (30, .iconst 1, 1, 0, [], ""),
  (31, .iadd, 1, 0, [], ""),
  (32, .iastore, 1, 0, [], ""),
  (33, .aload_n 0, 1, 0, [], ""),
  (34, .getfield 203, 3, 0, [5, 13, 954], ""),
  (37, .aload_n 0, 1, 0, [], ""),
  (38, .getfield 319, 3, 0, [5, 19, 960], ""),
  (41, .dup2, 1, 0, [], ""),
  (42, .iaload, 1, 0, [], ""),
  (43, .ldc 179, 2, 0, [1, 65536, 938], ""),
  (45, .iadd, 1, 0, [], ""),
  (46, .iastore, 1, 0, [], ""),
  (47, .return_, 1, 7, [], "")])
end
section
/-! PRINTED BY wip/whole/print.py: methods. -/
set_option maxRecDepth 100000 in
/-- QueryReaderModel.goOn(II)I -/
def qm_160 : ai_M := (⟨"QueryReaderModel", "goOn", "(II)I"⟩, prog_9_method_36_code, 4, (Option.some Jvm.ClassFile.FieldType.int), [], [], [
  (0, .aload_n 0, 1, 0, [], ""),
  (1, .getfield 316, 3, 0, [5, 18, 959], ""),
  (4, .istore_n 3, 1, 0, [], ""),
  (5, .iload_n 2, 1, 0, [], ""),
  (6, .iconst 4, 1, 0, [], ""),
  (7, .if_icmp .ne 10, 3, 0, [11], ""),
  (10, .aload_n 0, 1, 0, [], ""),
  (11, .iload_n 1, 1, 0, [], ""),
  (12, .iload_n 3, 1, 0, [], ""),
  (13, .invokevirtual 380, 3, 1, [161, 3, 1, 5, 1213, 92, 1215], ""),
  (16, .ireturn, 1, 5, [], ""),
  (17, .aload_n 0, 1, 0, [], ""),
  (18, .getfield 322, 3, 0, [5, 20, 961], ""),
  (21, .iload_n 2, 1, 0, [], ""),
  (22, .if_icmp .ne 30, 3, 0, [33], ""),
  (25, .aload_n 0, 1, 0, [], ""),
  (26, .getfield 203, 3, 0, [5, 13, 954], ""),
  (29, .aload_n 0, 1, 0, [], ""),
  (30, .getfield 316, 3, 0, [5, 18, 959], ""),
  (33, .dup2, 1, 0, [], ""),
  (34, .iaload, 1, 0, [], ""),
  (35, .iconst 1, 1, 0, [], ""),
  (36, .isub, 1, 0, [], ""),
  (37, .iastore, 1, 0, [], ""),
  (38, .aload_n 0, 1, 0, [], ""),
  (39, .getfield 203, 3, 0, [5, 13, 954], ""),
  (42, .aload_n 0, 1, 0, [], ""),
  (43, .getfield 319, 3, 0, [5, 19, 960], ""),
  (46, .dup2, 1, 0, [], ""),
  (47, .iaload, 1, 0, [], ""),
  (48, .ldc 179, 2, 0, [1, 65536, 938], ""),
  (50, .isub, 1, 0, [], ""),
  (51, .iastore, 1, 0, [], ""),
  (52, .aload_n 0, 1, 0, [], ""),
  (53, .iload_n 2, 1, 0, [], ""),
  (54, .iload_n 3, 1, 0, [], ""),
  (55, .invokevirtual 359, 3, 1, [143, 3, 1, 5, 1141, 74, 1143], ""),
  (58, .aload_n 0, 1, 0, [], ""),
  (59, .invokevirtual 291, 3, 1, [136, 1, 1, 5, 1113, 67, 1115], ""),
  (62, .aload_n 0, 1, 0, [], ""),
  (63, .iload_n 1, 1, 0, [], ""),
  (64, .invokevirtual 365, 3, 1, [141, 2, 1, 5, 1133, 72, 1135], ""),
  (67, .bipush 9, 2, 0, [], ""),
  (69, .ireturn, 1, 5, [], "")])
set_option maxRecDepth 100000 in
/-- QueryReaderModel.test(II)I -/
def qm_161 : ai_M := (⟨"QueryReaderModel", "test", "(II)I"⟩, prog_9_method_37_code, 5, (Option.some Jvm.ClassFile.FieldType.int), [], [], [
  (0, .aload_n 0, 1, 0, [], ""),
  (1, .ldc 83, 2, 0, [2, 1052, 52], ""),
  (3, .invokevirtual 383, 3, 1, [137, 2, 1, 5, 1117, 68, 1119], ""),
  (6, .ifCond .eq 24, 3, 0, [17], ""),
  (9, .aload_n 0, 1, 0, [], ""),
  (10, .ldc 107, 2, 0, [2, 1064, 64], ""),
  (12, .invokevirtual 383, 3, 1, [137, 2, 1, 5, 1117, 68, 1119], ""),
  (15, .pop, 1, 0, [], ""),
  (16, .aload_n 0, 1, 0, [], ""),
  (17, .ldc 109, 2, 0, [2, 1065, 65], ""),
  (19, .invokevirtual 386, 3, 1, [134, 2, 1, 5, 1095, 65, 1097], ""),
  (22, .aload_n 0, 1, 0, [], ""),
  (23, .iload_n 2, 1, 0, [], ""),
  (24, .iconst 4, 1, 0, [], ""),
  (25, .invokevirtual 352, 3, 1, [159, 3, 1, 5, 1205, 90, 1207], ""),
  (28, .iconst 4, 1, 0, [], ""),
  (29, .ireturn, 1, 5, [], ""),
  (30, .aload_n 0, 1, 0, [], ""),
  (31, .ldc 107, 2, 0, [2, 1064, 64], ""),
  (33, .invokevirtual 383, 3, 1, [137, 2, 1, 5, 1117, 68, 1119], ""),
  (36, .istore_n 3, 1, 0, [], ""),
  (37, .aload_n 0, 1, 0, [], ""),
  (38, .ldc 71, 2, 0, [2, 1046, 46], ""),
  (40, .invokevirtual 383, 3, 1, [137, 2, 1, 5, 1117, 68, 1119], ""),
  (43, .ifCond .eq 39, 3, 0, [44], ""),
  (46, .aload_n 0, 1, 0, [], ""),
  (47, .invokevirtual 389, 3, 1, [147, 1, 1, 5, 1157, 78, 1159], ""),
  (50, .aload_n 0, 1, 0, [], ""),
  (51, .ldc 139, 2, 0, [2, 1080, 80], ""),
  (53, .invokevirtual 283, 3, 1, [132, 2, 1, 5, 1087, 63, 1089], ""),
  (56, .ifCond .eq 10, 3, 0, [34], ""),
  (59, .aload_n 0, 1, 0, [], ""),
  (60, .invokevirtual 392, 3, 1, [133, 1, 1, 5, 1091, 64, 1093], ""),
  (63, .goto 7, 3, 0, [36], ""),
  (66, .aload_n 0, 1, 0, [], ""),
  (67, .invokevirtual 395, 3, 1, [152, 1, 1, 5, 1177, 83, 1179], ""),
  (70, .aload_n 0, 1, 0, [], ""),
  (71, .invokevirtual 398, 3, 1, [148, 1, 1, 5, 1161, 79, 1163], ""),
  (74, .aload_n 0, 1, 0, [], ""),
  (75, .iload_n 2, 1, 0, [], ""),
  (76, .iconst 4, 1, 0, [], ""),
  (77, .invokevirtual 352, 3, 1, [159, 3, 1, 5, 1205, 90, 1207], ""),
  (80, .iconst 4, 1, 0, [], ""),
  (81, .ireturn, 1, 5, [], ""),
  (82, .aload_n 0, 1, 0, [], ""),
  (83, .ldc 23, 2, 0, [2, 1022, 22], ""),
  (85, .invokevirtual 383, 3, 1, [137, 2, 1, 5, 1117, 68, 1119], ""),
  (88, .istore 4, 2, 0, [], ""),
  (90, .iload 4, 2, 0, [], ""),
  (92, .ifCond .ne 29, 3, 0, [63], ""),
  (95, .aload_n 0, 1, 0, [], ""),
  (96, .ldc 93, 2, 0, [2, 1057, 57], ""),
  (98, .invokevirtual 383, 3, 1, [137, 2, 1, 5, 1117, 68, 1119], ""),
  (101, .ifCond .ne 20, 3, 0, [63], ""),
  (104, .aload_n 0, 1, 0, [], ""),
  (105, .iload_n 3, 1, 0, [], ""),
  (106, .ifCond .ne 7, 3, 0, [59], ""),
  (109, .iconst 1, 1, 0, [], ""),
  (110, .goto 4, 3, 0, [60], ""),
  (113, .iconst 0, 1, 0, [], ""),
  (114, .invokevirtual 287, 3, 1, [135, 2, 1, 5, 1099, 66, 1101], ""),
  (117, .aload_n 0, 1, 0, [], ""),
  (118, .invokevirtual 291, 3, 1, [136, 1, 1, 5, 1113, 67, 1115], ""),
  (121, .aload_n 0, 1, 0, [], ""),
  (122, .iload 4, 2, 0, [], ""),
  (124, .ifCond .eq 8, 3, 0, [68], ""),
  (127, .bipush 9, 2, 0, [], ""),
  (129, .goto 4, 3, 0, [69], ""),
  (132, .iconst 4, 1, 0, [], ""),
  (133, .iload_n 2, 1, 0, [], ""),
  (134, .invokevirtual 359, 3, 1, [143, 3, 1, 5, 1141, 74, 1143], ""),
  (137, .aload_n 0, 1, 0, [], ""),
  (138, .iload_n 1, 1, 0, [], ""),
  (139, .invokevirtual 365, 3, 1, [141, 2, 1, 5, 1133, 72, 1135], ""),
  (142, .bipush 9, 2, 0, [], ""),
  (144, .ireturn, 1, 5, [], "")])
set_option maxRecDepth 100000 in
/-- QueryReaderModel.alias()V -/
def qm_162 : ai_M := (⟨"QueryReaderModel", "alias", "()V"⟩, prog_9_method_49_code, 1, (Option.none : Option Jvm.ClassFile.FieldType), [], [], [
  (0, .aload_n 0, 1, 0, [], ""),
  (1, .ldc 15, 2, 0, [2, 1018, 18], ""),
  (3, .invokevirtual 383, 3, 1, [137, 2, 1, 5, 1117, 68, 1119], ""),
  (6, .ifCond .eq 8, 3, 0, [7], ""),
  (9, .aload_n 0, 1, 0, [], ""),
  (10, .iconst 2, 1, 0, [], ""),
  (11, .invokevirtual 410, 3, 1, [145, 2, 1, 5, 1149, 76, 1151], ""),
  (14, .return_, 1, 7, [], "")])
set_option maxRecDepth 100000 in
/-- QueryReaderModel.source()V -/
def qm_163 : ai_M := (⟨"QueryReaderModel", "source", "()V"⟩, prog_9_method_50_code, 1, (Option.none : Option Jvm.ClassFile.FieldType), [], [], [
  (0, .aload_n 0, 1, 0, [], ""),
  (1, .iconst 2, 1, 0, [], ""),
  (2, .invokevirtual 410, 3, 1, [145, 2, 1, 5, 1149, 76, 1151], ""),
  (5, .aload_n 0, 1, 0, [], ""),
  (6, .invokevirtual 443, 3, 1, [162, 1, 1, 5, 1217, 93, 1219], ""),
  (9, .return_, 1, 7, [], "")])
set_option maxRecDepth 100000 in
/-- QueryReaderModel.join()Z -/
def qm_164 : ai_M := (⟨"QueryReaderModel", "join", "()Z"⟩, prog_9_method_51_code, 2, (Option.some Jvm.ClassFile.FieldType.boolean), [], [], [
  (0, .iconst 1, 1, 0, [], ""),
  (1, .istore_n 1, 1, 0, [], ""),
  (2, .aload_n 0, 1, 0, [], ""),
  (3, .ldc_w 297, 3, 0, [2, 1099, 102], ""),
  (6, .invokevirtual 294, 3, 1, [138, 2, 1, 5, 1121, 69, 1123], ""),
  (9, .ifCond .eq 30, 3, 0, [21], ""),
  (12, .aload_n 0, 1, 0, [], ""),
  (13, .dup, 1, 0, [], ""),
  (14, .getfield 270, 3, 0, [5, 10, 951], ""),
  (17, .iconst 1, 1, 0, [], ""),
  (18, .iadd, 1, 0, [], ""),
  (19, .putfield 270, 3, 0, [5, 10, 951], ""),
  (22, .aload_n 0, 1, 0, [], ""),
  (23, .ldc 45, 2, 0, [2, 1033, 33], ""),
  (25, .invokevirtual 446, 3, 1, [165, 2, 1, 5, 1229, 96, 1231], ""),
  (28, .aload_n 0, 1, 0, [], ""),
  (29, .ldc 85, 2, 0, [2, 1053, 53], ""),
  (31, .invokevirtual 446, 3, 1, [165, 2, 1, 5, 1229, 96, 1231], ""),
  (34, .iconst 0, 1, 0, [], ""),
  (35, .istore_n 1, 1, 0, [], ""),
  (36, .goto 99, 3, 0, [69], ""),
  (39, .aload_n 0, 1, 0, [], ""),
  (40, .ldc 45, 2, 0, [2, 1033, 33], ""),
  (42, .invokevirtual 383, 3, 1, [137, 2, 1, 5, 1117, 68, 1119], ""),
  (45, .ifCond .eq 14, 3, 0, [31], ""),
  (48, .aload_n 0, 1, 0, [], ""),
  (49, .ldc 85, 2, 0, [2, 1053, 53], ""),
  (51, .invokevirtual 386, 3, 1, [134, 2, 1, 5, 1095, 65, 1097], ""),
  (54, .iconst 0, 1, 0, [], ""),
  (55, .istore_n 1, 1, 0, [], ""),
  (56, .goto 79, 3, 0, [69], ""),
  (59, .aload_n 0, 1, 0, [], ""),
  (60, .ldc 89, 2, 0, [2, 1055, 55], ""),
  (62, .invokevirtual 383, 3, 1, [137, 2, 1, 5, 1117, 68, 1119], ""),
  (65, .ifCond .eq 31, 3, 0, [49], ""),
  (68, .aload_n 0, 1, 0, [], ""),
  (69, .ldc 121, 2, 0, [2, 1071, 71], ""),
  (71, .invokevirtual 283, 3, 1, [132, 2, 1, 5, 1087, 63, 1089], ""),
  (74, .ifCond .eq 13, 3, 0, [45], ""),
  (77, .aload_n 0, 1, 0, [], ""),
  (78, .dup, 1, 0, [], ""),
  (79, .getfield 270, 3, 0, [5, 10, 951], ""),
  (82, .iconst 1, 1, 0, [], ""),
  (83, .iadd, 1, 0, [], ""),
  (84, .putfield 270, 3, 0, [5, 10, 951], ""),
  (87, .aload_n 0, 1, 0, [], ""),
  (88, .ldc 85, 2, 0, [2, 1053, 53], ""),
  (90, .invokevirtual 386, 3, 1, [134, 2, 1, 5, 1095, 65, 1097], ""),
  (93, .goto 42, 3, 0, [69], ""),
  (96, .aload_n 0, 1, 0, [], ""),
  (97, .ldc 75, 2, 0, [2, 1048, 48], ""),
  (99, .invokevirtual 283, 3, 1, [132, 2, 1, 5, 1087, 63, 1089], ""),
  (102, .ifCond .eq 22, 3, 0, [63], ""),
  (105, .aload_n 0, 1, 0, [], ""),
  (106, .dup, 1, 0, [], ""),
  (107, .getfield 270, 3, 0, [5, 10, 951], ""),
  (110, .iconst 1, 1, 0, [], ""),
  (111, .iadd, 1, 0, [], ""),
  (112, .putfield 270, 3, 0, [5, 10, 951], ""),
  (115, .aload_n 0, 1, 0, [], ""),
  (116, .ldc 85, 2, 0, [2, 1053, 53], ""),
  (118, .invokevirtual 386, 3, 1, [134, 2, 1, 5, 1095, 65, 1097], ""),
  (121, .goto 14, 3, 0, [69], ""),
  (124, .aload_n 0, 1, 0, [], ""),
  (125, .ldc 85, 2, 0, [2, 1053, 53], ""),
  (127, .invokevirtual 383, 3, 1, [137, 2, 1, 5, 1117, 68, 1119], ""),
  (130, .ifCond .ne 5, 3, 0, [69], ""),
  (133, .iconst 0, 1, 0, [], ""),
  (134, .ireturn, 1, 5, [], ""),
  (135, .aload_n 0, 1, 0, [], ""),
  (136, .invokevirtual 431, 3, 1, [163, 1, 1, 5, 1221, 94, 1223], ""),
  (139, .iload_n 1, 1, 0, [], ""),
  (140, .ifCond .eq 13, 3, 0, [78], ""),
  (143, .aload_n 0, 1, 0, [], ""),
  (144, .ldc 115, 2, 0, [2, 1068, 68], ""),
  (146, .invokevirtual 386, 3, 1, [134, 2, 1, 5, 1095, 65, 1097], ""),
  (149, .aload_n 0, 1, 0, [], ""),
  (150, .invokevirtual 401, 3, 1, [140, 1, 1, 5, 1129, 71, 1131], ""),
  (153, .iconst 1, 1, 0, [], ""),
  (154, .ireturn, 1, 5, [], "")])
set_option maxRecDepth 100000 in
/-- QueryReaderModel.put(Ljava/lang/String;)V -/
def qm_165 : ai_M := (⟨"QueryReaderModel", "put", "(Ljava/lang/String;)V"⟩, prog_9_method_20_code, 3, (Option.none : Option Jvm.ClassFile.FieldType), [], [], [
  (0, .iconst 0, 1, 0, [], ""),
  (1, .istore_n 2, 1, 0, [], ""),
  (2, .iload_n 2, 1, 0, [], ""),
  (3, .aload_n 0, 1, 0, [], ""),
  (4, .getfield 173, 3, 0, [5, 0, 941], ""),
  (7, .arraylength, 1, 0, [], ""),
  (8, .if_icmp .ge 34, 3, 0, [24], ""),
  (11, .aload_n 0, 1, 0, [], ""),
  (12, .getfield 173, 3, 0, [5, 0, 941], ""),
  (15, .iload_n 2, 1, 0, [], ""),
  (16, .aaload, 1, 0, [], ""),
  (17, .aload_n 1, 1, 0, [], ""),
  (18, .invokevirtual 279, 3, 1, [166, 2, 1, 7, 1233, 1235, 1234], ""),
  (21, .ifCond .eq 15, 3, 0, [22], ""),
  (24, .aload_n 0, 1, 0, [], ""),
  (25, .getfield 200, 3, 0, [5, 12, 953], ""),
  (28, .aload_n 0, 1, 0, [], ""),
  (29, .getfield 276, 3, 0, [5, 11, 952], ""),
  (32, .iconst (-1), 1, 0, [], ""),
  (33, .iload_n 2, 1, 0, [], ""),
  (34, .isub, 1, 0, [], ""),
  (35, .iastore, 1, 0, [], ""),
  (36, .iinc 2 1, 3, 0, [], ""),
  (39, .goto (-37), 3, 0, [2], ""),
  (42, .aload_n 0, 1, 0, [], ""),
  (43, .getfield 203, 3, 0, [5, 13, 954], ""),
  (46, .aload_n 0, 1, 0, [], ""),
  (47, .getfield 276, 3, 0, [5, 11, 952], ""),
  (50, .iconst 0, 1, 0, [], ""),
  (51, .iastore, 1, 0, [], ""),
  (52, .aload_n 0, 1, 0, [], ""),
  (53, .dup, 1, 0, [], ""),
  (54, .getfield 276, 3, 0, [5, 11, 952], ""),
  (57, .iconst 1, 1, 0, [], ""),
  (58, .iadd, 1, 0, [], ""),
  (59, .putfield 276, 3, 0, [5, 11, 952], ""),
  (62, .return_, 1, 7, [], "")])
set_option maxRecDepth 100000 in
/-- java/lang/String.equals(Ljava/lang/Object;)Z -/
def qm_166 : ai_M := (⟨"java/lang/String", "equals", "(Ljava/lang/Object;)Z"⟩, prog_18_method_66_code, 3, (Option.some Jvm.ClassFile.FieldType.boolean), [], [], [
  (0, .aload_n 0, 1, 0, [], ""),
  (1, .aload_n 1, 1, 0, [], ""),
  (2, .if_acmp .ne 5, 3, 0, [5], ""),
  (5, .iconst 1, 1, 0, [], ""),
  (6, .ireturn, 1, 5, [], ""),
  (7, .aload_n 1, 1, 0, [], ""),
  (8, .instanceof 10, 3, 0, [1237], "java/lang/String"),
  (11, .ifCond .eq 43, 3, 0, [26], ""),
  (14, .aload_n 1, 1, 0, [], ""),
  (15, .checkcast 10, 3, 0, [1237], "java/lang/String"),
  (18, .astore_n 2, 1, 0, [], ""),
  (19, .getstatic 38, 3, 0, [1, 1, 106, 318], ""),
  (22, .ifCond .eq 14, 3, 0, [18], ""),
  (25, .aload_n 0, 1, 0, [], ""),
  (26, .getfield 15, 3, 0, [7, 1, 1374], ""),
  (29, .aload_n 2, 1, 0, [], ""),
  (30, .getfield 15, 3, 0, [7, 1, 1374], ""),
  (33, .if_icmp .ne 21, 3, 0, [26], ""),
  (36, .aload_n 0, 1, 0, [], ""),
  (37, .getfield 9, 3, 0, [7, 0, 1373], ""),
  (40, .aload_n 2, 1, 0, [], ""),
  (41, .getfield 9, 3, 0, [7, 0, 1373], ""),
  (44, .invokestatic 541, 3, 1, [167, 2, 0, 0, 1238, 1239], ""),
  (47, .ifCond .eq 7, 3, 0, [26], ""),
  (50, .iconst 1, 1, 0, [], ""),
  (51, .goto 4, 3, 0, [27], ""),
  (54, .iconst 0, 1, 0, [], ""),
  (55, .ireturn, 1, 5, [], "")])
set_option maxRecDepth 100000 in
/-- java/lang/StringLatin1.equals([B[B)Z -/
def qm_167 : ai_M := (⟨"java/lang/StringLatin1", "equals", "([B[B)Z"⟩, prog_19_method_13_code, 3, (Option.some Jvm.ClassFile.FieldType.boolean), [], [], [
  (0, .aload_n 0, 1, 0, [], ""),
  (1, .arraylength, 1, 0, [], ""),
  (2, .aload_n 1, 1, 0, [], ""),
  (3, .arraylength, 1, 0, [], ""),
  (4, .if_icmp .ne 30, 3, 0, [24], ""),
  (7, .iconst 0, 1, 0, [], ""),
  (8, .istore_n 2, 1, 0, [], ""),
  (9, .iload_n 2, 1, 0, [], ""),
  (10, .aload_n 0, 1, 0, [], ""),
  (11, .arraylength, 1, 0, [], ""),
  (12, .if_icmp .ge 20, 3, 0, [22], ""),
  (15, .aload_n 0, 1, 0, [], ""),
  (16, .iload_n 2, 1, 0, [], ""),
  (17, .baload, 1, 0, [], ""),
  (18, .aload_n 1, 1, 0, [], ""),
  (19, .iload_n 2, 1, 0, [], ""),
  (20, .baload, 1, 0, [], ""),
  (21, .if_icmp .eq 5, 3, 0, [20], ""),
  (24, .iconst 0, 1, 0, [], ""),
  (25, .ireturn, 1, 5, [], ""),
  (26, .iinc 2 1, 3, 0, [], ""),
  (29, .goto (-20), 3, 0, [7], ""),
  (32, .iconst 1, 1, 0, [], ""),
  (33, .ireturn, 1, 5, [], ""),
  (34, .iconst 0, 1, 0, [], ""),
  (35, .ireturn, 1, 5, [], "")])
set_option maxRecDepth 100000 in
/-- QueryReaderModel.where()V -/
def qm_168 : ai_M := (⟨"QueryReaderModel", "where", "()V"⟩, prog_9_method_46_code, 1, (Option.none : Option Jvm.ClassFile.FieldType), [], [], [
  (0, .aload_n 0, 1, 0, [], ""),
  (1, .ldc 171, 2, 0, [2, 1095, 96], ""),
  (3, .invokevirtual 383, 3, 1, [137, 2, 1, 5, 1117, 68, 1119], ""),
  (6, .ifCond .eq 7, 3, 0, [6], ""),
  (9, .aload_n 0, 1, 0, [], ""),
  (10, .invokevirtual 401, 3, 1, [140, 1, 1, 5, 1129, 71, 1131], ""),
  (13, .return_, 1, 7, [], "")])
set_option maxRecDepth 100000 in
/-- QueryReaderModel.order()V -/
def qm_169 : ai_M := (⟨"QueryReaderModel", "order", "()V"⟩, prog_9_method_47_code, 1, (Option.none : Option Jvm.ClassFile.FieldType), [], [], [
  (0, .aload_n 0, 1, 0, [], ""),
  (1, .invokevirtual 401, 3, 1, [140, 1, 1, 5, 1129, 71, 1131], ""),
  (4, .aload_n 0, 1, 0, [], ""),
  (5, .ldc 17, 2, 0, [2, 1019, 19], ""),
  (7, .invokevirtual 283, 3, 1, [132, 2, 1, 5, 1087, 63, 1089], ""),
  (10, .ifCond .eq 16, 3, 0, [13], ""),
  (13, .aload_n 0, 1, 0, [], ""),
  (14, .dup, 1, 0, [], ""),
  (15, .getfield 270, 3, 0, [5, 10, 951], ""),
  (18, .iconst 1, 1, 0, [], ""),
  (19, .iadd, 1, 0, [], ""),
  (20, .putfield 270, 3, 0, [5, 10, 951], ""),
  (23, .goto 10, 3, 0, [17], ""),
  (26, .aload_n 0, 1, 0, [], ""),
  (27, .ldc 51, 2, 0, [2, 1036, 36], ""),
  (29, .invokevirtual 383, 3, 1, [137, 2, 1, 5, 1117, 68, 1119], ""),
  (32, .pop, 1, 0, [], ""),
  (33, .return_, 1, 7, [], "")])
set_option maxRecDepth 100000 in
/-- QueryReaderModel.create()I -/
def qm_170 : ai_M := (⟨"QueryReaderModel", "create", "()I"⟩, prog_9_method_57_code, 1, (Option.some Jvm.ClassFile.FieldType.int), [], [], [
  (0, .aload_n 0, 1, 0, [], ""),
  (1, .ldc 151, 2, 0, [2, 1085, 86], ""),
  (3, .invokevirtual 383, 3, 1, [137, 2, 1, 5, 1117, 68, 1119], ""),
  (6, .ifCond .eq 36, 3, 0, [21], ""),
  (9, .aload_n 0, 1, 0, [], ""),
  (10, .iconst 2, 1, 0, [], ""),
  (11, .invokevirtual 410, 3, 1, [145, 2, 1, 5, 1149, 76, 1151], ""),
  (14, .aload_n 0, 1, 0, [], ""),
  (15, .invokevirtual 389, 3, 1, [147, 1, 1, 5, 1157, 78, 1159], ""),
  (18, .aload_n 0, 1, 0, [], ""),
  (19, .invokevirtual 461, 3, 1, [171, 1, 1, 5, 1253, 100, 1255], ""),
  (22, .aload_n 0, 1, 0, [], ""),
  (23, .invokevirtual 404, 3, 1, [153, 1, 1, 5, 1181, 84, 1183], ""),
  (26, .ifCond .eq 10, 3, 0, [17], ""),
  (29, .aload_n 0, 1, 0, [], ""),
  (30, .invokevirtual 461, 3, 1, [171, 1, 1, 5, 1253, 100, 1255], ""),
  (33, .goto (-11), 3, 0, [11], ""),
  (36, .aload_n 0, 1, 0, [], ""),
  (37, .invokevirtual 398, 3, 1, [148, 1, 1, 5, 1161, 79, 1163], ""),
  (40, .iconst 1, 1, 0, [], ""),
  (41, .ireturn, 1, 5, [], ""),
  (42, .aload_n 0, 1, 0, [], ""),
  (43, .ldc 161, 2, 0, [2, 1090, 91], ""),
  (45, .invokevirtual 383, 3, 1, [137, 2, 1, 5, 1117, 68, 1119], ""),
  (48, .pop, 1, 0, [], ""),
  (49, .aload_n 0, 1, 0, [], ""),
  (50, .ldc 73, 2, 0, [2, 1047, 47], ""),
  (52, .invokevirtual 386, 3, 1, [134, 2, 1, 5, 1095, 65, 1097], ""),
  (55, .aload_n 0, 1, 0, [], ""),
  (56, .iconst 2, 1, 0, [], ""),
  (57, .invokevirtual 410, 3, 1, [145, 2, 1, 5, 1149, 76, 1151], ""),
  (60, .aload_n 0, 1, 0, [], ""),
  (61, .ldc 115, 2, 0, [2, 1068, 68], ""),
  (63, .invokevirtual 386, 3, 1, [134, 2, 1, 5, 1095, 65, 1097], ""),
  (66, .aload_n 0, 1, 0, [], ""),
  (67, .iconst 2, 1, 0, [], ""),
  (68, .invokevirtual 410, 3, 1, [145, 2, 1, 5, 1149, 76, 1151], ""),
  (71, .aload_n 0, 1, 0, [], ""),
  (72, .invokevirtual 449, 3, 1, [172, 1, 1, 5, 1257, 101, 1259], ""),
  (75, .iconst 2, 1, 0, [], ""),
  (76, .ireturn, 1, 5, [], "")])
set_option maxRecDepth 100000 in
/-- QueryReaderModel.element()V -/
def qm_171 : ai_M := (⟨"QueryReaderModel", "element", "()V"⟩, prog_9_method_54_code, 2, (Option.none : Option Jvm.ClassFile.FieldType), [], [], [
  (0, .aload_n 0, 1, 0, [], ""),
  (1, .ldc 127, 2, 0, [2, 1074, 74], ""),
  (3, .invokevirtual 383, 3, 1, [137, 2, 1, 5, 1117, 68, 1119], ""),
  (6, .ifCond .eq 16, 3, 0, [10], ""),
  (9, .aload_n 0, 1, 0, [], ""),
  (10, .ldc 87, 2, 0, [2, 1054, 54], ""),
  (12, .invokevirtual 386, 3, 1, [134, 2, 1, 5, 1095, 65, 1097], ""),
  (15, .aload_n 0, 1, 0, [], ""),
  (16, .invokevirtual 449, 3, 1, [172, 1, 1, 5, 1257, 101, 1259], ""),
  (19, .goto 61, 3, 0, [38], ""),
  (22, .aload_n 0, 1, 0, [], ""),
  (23, .ldc 161, 2, 0, [2, 1090, 91], ""),
  (25, .invokevirtual 383, 3, 1, [137, 2, 1, 5, 1117, 68, 1119], ""),
  (28, .ifCond .eq 10, 3, 0, [17], ""),
  (31, .aload_n 0, 1, 0, [], ""),
  (32, .invokevirtual 449, 3, 1, [172, 1, 1, 5, 1257, 101, 1259], ""),
  (35, .goto 45, 3, 0, [38], ""),
  (38, .aload_n 0, 1, 0, [], ""),
  (39, .ldc 33, 2, 0, [2, 1027, 27], ""),
  (41, .invokevirtual 383, 3, 1, [137, 2, 1, 5, 1117, 68, 1119], ""),
  (44, .ifCond .eq 10, 3, 0, [24], ""),
  (47, .aload_n 0, 1, 0, [], ""),
  (48, .invokevirtual 452, 3, 1, [173, 1, 1, 5, 1261, 102, 1263], ""),
  (51, .goto 29, 3, 0, [38], ""),
  (54, .aload_n 0, 1, 0, [], ""),
  (55, .iconst 2, 1, 0, [], ""),
  (56, .invokevirtual 410, 3, 1, [145, 2, 1, 5, 1149, 76, 1151], ""),
  (59, .aload_n 0, 1, 0, [], ""),
  (60, .invokevirtual 422, 3, 1, [151, 1, 1, 5, 1173, 82, 1175], ""),
  (63, .aload_n 0, 1, 0, [], ""),
  (64, .invokevirtual 455, 3, 1, [174, 1, 1, 5, 1265, 103, 1267], ""),
  (67, .istore_n 1, 1, 0, [], ""),
  (68, .iload_n 1, 1, 0, [], ""),
  (69, .ifCond .eq 11, 3, 0, [38], ""),
  (72, .aload_n 0, 1, 0, [], ""),
  (73, .invokevirtual 455, 3, 1, [174, 1, 1, 5, 1265, 103, 1267], ""),
  (76, .istore_n 1, 1, 0, [], ""),
  (77, .goto (-9), 3, 0, [32], ""),
  (80, .return_, 1, 7, [], "")])
set_option maxRecDepth 100000 in
/-- QueryReaderModel.bracketed()V -/
def qm_172 : ai_M := (⟨"QueryReaderModel", "bracketed", "()V"⟩, prog_9_method_52_code, 1, (Option.none : Option Jvm.ClassFile.FieldType), [], [], [
  (0, .aload_n 0, 1, 0, [], ""),
  (1, .invokevirtual 389, 3, 1, [147, 1, 1, 5, 1157, 78, 1159], ""),
  (4, .aload_n 0, 1, 0, [], ""),
  (5, .iconst 2, 1, 0, [], ""),
  (6, .invokevirtual 410, 3, 1, [145, 2, 1, 5, 1149, 76, 1151], ""),
  (9, .aload_n 0, 1, 0, [], ""),
  (10, .invokevirtual 404, 3, 1, [153, 1, 1, 5, 1181, 84, 1183], ""),
  (13, .ifCond .eq 11, 3, 0, [12], ""),
  (16, .aload_n 0, 1, 0, [], ""),
  (17, .iconst 2, 1, 0, [], ""),
  (18, .invokevirtual 410, 3, 1, [145, 2, 1, 5, 1149, 76, 1151], ""),
  (21, .goto (-12), 3, 0, [5], ""),
  (24, .aload_n 0, 1, 0, [], ""),
  (25, .invokevirtual 398, 3, 1, [148, 1, 1, 5, 1161, 79, 1163], ""),
  (28, .return_, 1, 7, [], "")])
set_option maxRecDepth 100000 in
/-- QueryReaderModel.check()V -/
def qm_173 : ai_M := (⟨"QueryReaderModel", "check", "()V"⟩, prog_9_method_53_code, 1, (Option.none : Option Jvm.ClassFile.FieldType), [], [], [
  (0, .aload_n 0, 1, 0, [], ""),
  (1, .invokevirtual 389, 3, 1, [147, 1, 1, 5, 1157, 78, 1159], ""),
  (4, .aload_n 0, 1, 0, [], ""),
  (5, .invokevirtual 401, 3, 1, [140, 1, 1, 5, 1129, 71, 1131], ""),
  (8, .aload_n 0, 1, 0, [], ""),
  (9, .invokevirtual 398, 3, 1, [148, 1, 1, 5, 1161, 79, 1163], ""),
  (12, .return_, 1, 7, [], "")])
set_option maxRecDepth 100000 in
/-- QueryReaderModel.option()Z -/
def qm_174 : ai_M := (⟨"QueryReaderModel", "option", "()Z"⟩, prog_9_method_55_code, 1, (Option.some Jvm.ClassFile.FieldType.boolean), [], [], [
  (0, .aload_n 0, 1, 0, [], ""),
  (1, .ldc 107, 2, 0, [2, 1064, 64], ""),
  (3, .invokevirtual 383, 3, 1, [137, 2, 1, 5, 1117, 68, 1119], ""),
  (6, .ifCond .eq 12, 3, 0, [8], ""),
  (9, .aload_n 0, 1, 0, [], ""),
  (10, .ldc 109, 2, 0, [2, 1065, 65], ""),
  (12, .invokevirtual 386, 3, 1, [134, 2, 1, 5, 1095, 65, 1097], ""),
  (15, .goto 153, 3, 0, [81], ""),
  (18, .aload_n 0, 1, 0, [], ""),
  (19, .ldc 127, 2, 0, [2, 1074, 74], ""),
  (21, .invokevirtual 383, 3, 1, [137, 2, 1, 5, 1117, 68, 1119], ""),
  (24, .ifCond .eq 12, 3, 0, [16], ""),
  (27, .aload_n 0, 1, 0, [], ""),
  (28, .ldc 87, 2, 0, [2, 1054, 54], ""),
  (30, .invokevirtual 386, 3, 1, [134, 2, 1, 5, 1095, 65, 1097], ""),
  (33, .goto 135, 3, 0, [81], ""),
  (36, .aload_n 0, 1, 0, [], ""),
  (37, .ldc 161, 2, 0, [2, 1090, 91], ""),
  (39, .invokevirtual 383, 3, 1, [137, 2, 1, 5, 1117, 68, 1119], ""),
  (42, .ifCond .eq 5, 3, 0, [22], ""),
  (45, .iconst 1, 1, 0, [], ""),
  (46, .ireturn, 1, 5, [], ""),
  (47, .aload_n 0, 1, 0, [], ""),
  (48, .ldc 47, 2, 0, [2, 1034, 34], ""),
  (50, .invokevirtual 383, 3, 1, [137, 2, 1, 5, 1117, 68, 1119], ""),
  (53, .ifCond .eq 76, 3, 0, [62], ""),
  (56, .aload_n 0, 1, 0, [], ""),
  (57, .ldc_w 341, 3, 0, [2, 1097, 98], ""),
  (60, .invokevirtual 294, 3, 1, [138, 2, 1, 5, 1121, 69, 1123], ""),
  (63, .ifCond .eq 15, 3, 0, [36], ""),
  (66, .aload_n 0, 1, 0, [], ""),
  (67, .invokevirtual 291, 3, 1, [136, 1, 1, 5, 1113, 67, 1115], ""),
  (70, .aload_n 0, 1, 0, [], ""),
  (71, .iconst 3, 1, 0, [], ""),
  (72, .invokevirtual 410, 3, 1, [145, 2, 1, 5, 1149, 76, 1151], ""),
  (75, .goto 93, 3, 0, [81], ""),
  (78, .aload_n 0, 1, 0, [], ""),
  (79, .ldc 109, 2, 0, [2, 1065, 65], ""),
  (81, .invokevirtual 383, 3, 1, [137, 2, 1, 5, 1117, 68, 1119], ""),
  (84, .ifCond .ne 84, 3, 0, [81], ""),
  (87, .aload_n 0, 1, 0, [], ""),
  (88, .aload_n 0, 1, 0, [], ""),
  (89, .getfield 192, 3, 0, [5, 8, 949], ""),
  (92, .aload_n 0, 1, 0, [], ""),
  (93, .getfield 270, 3, 0, [5, 10, 951], ""),
  (96, .baload, 1, 0, [], ""),
  (97, .iconst 3, 1, 0, [], ""),
  (98, .if_icmp .eq 16, 3, 0, [55], ""),
  (101, .aload_n 0, 1, 0, [], ""),
  (102, .getfield 192, 3, 0, [5, 8, 949], ""),
  (105, .aload_n 0, 1, 0, [], ""),
  (106, .getfield 270, 3, 0, [5, 10, 951], ""),
  (109, .baload, 1, 0, [], ""),
  (110, .iconst 4, 1, 0, [], ""),
  (111, .if_icmp .ne 7, 3, 0, [57], ""),
  (114, .iconst 1, 1, 0, [], ""),
  (115, .goto 4, 3, 0, [58], ""),
  (118, .iconst 0, 1, 0, [], ""),
  (119, .invokevirtual 287, 3, 1, [135, 2, 1, 5, 1099, 66, 1101], ""),
  (122, .aload_n 0, 1, 0, [], ""),
  (123, .invokevirtual 291, 3, 1, [136, 1, 1, 5, 1113, 67, 1115], ""),
  (126, .goto 42, 3, 0, [81], ""),
  (129, .aload_n 0, 1, 0, [], ""),
  (130, .ldc 33, 2, 0, [2, 1027, 27], ""),
  (132, .invokevirtual 383, 3, 1, [137, 2, 1, 5, 1117, 68, 1119], ""),
  (135, .ifCond .eq 10, 3, 0, [69], ""),
  (138, .aload_n 0, 1, 0, [], ""),
  (139, .invokevirtual 452, 3, 1, [173, 1, 1, 5, 1261, 102, 1263], ""),
  (142, .goto 26, 3, 0, [81], ""),
  (145, .aload_n 0, 1, 0, [], ""),
  (146, .ldc 131, 2, 0, [2, 1076, 76], ""),
  (148, .invokevirtual 383, 3, 1, [137, 2, 1, 5, 1117, 68, 1119], ""),
  (151, .ifCond .eq 15, 3, 0, [79], ""),
  (154, .aload_n 0, 1, 0, [], ""),
  (155, .iconst 2, 1, 0, [], ""),
  (156, .invokevirtual 410, 3, 1, [145, 2, 1, 5, 1149, 76, 1151], ""),
  (159, .aload_n 0, 1, 0, [], ""),
  (160, .invokevirtual 458, 3, 1, [175, 1, 1, 5, 1269, 104, 1271], ""),
  (163, .goto 5, 3, 0, [81], ""),
  (166, .iconst 0, 1, 0, [], ""),
  (167, .ireturn, 1, 5, [], ""),
  (168, .iconst 1, 1, 0, [], ""),
  (169, .ireturn, 1, 5, [], "")])
set_option maxRecDepth 100000 in
/-- QueryReaderModel.references()V -/
def qm_175 : ai_M := (⟨"QueryReaderModel", "references", "()V"⟩, prog_9_method_56_code, 1, (Option.none : Option Jvm.ClassFile.FieldType), [], [], [
  (0, .aload_n 0, 1, 0, [], ""),
  (1, .ldc 115, 2, 0, [2, 1068, 68], ""),
  (3, .invokevirtual 383, 3, 1, [137, 2, 1, 5, 1117, 68, 1119], ""),
  (6, .ifCond .ne 22, 3, 0, [14], ""),
  (9, .aload_n 0, 1, 0, [], ""),
  (10, .ldc 115, 2, 0, [2, 1068, 68], ""),
  (12, .invokevirtual 446, 3, 1, [165, 2, 1, 5, 1229, 96, 1231], ""),
  (15, .aload_n 0, 1, 0, [], ""),
  (16, .ldc 49, 2, 0, [2, 1035, 35], ""),
  (18, .invokevirtual 446, 3, 1, [165, 2, 1, 5, 1229, 96, 1231], ""),
  (21, .aload_n 0, 1, 0, [], ""),
  (22, .ldc 133, 2, 0, [2, 1077, 77], ""),
  (24, .invokevirtual 446, 3, 1, [165, 2, 1, 5, 1229, 96, 1231], ""),
  (27, .return_, 1, 7, [], ""),
  (28, .aload_n 0, 1, 0, [], ""),
  (29, .ldc 49, 2, 0, [2, 1035, 35], ""),
  (31, .invokevirtual 386, 3, 1, [134, 2, 1, 5, 1095, 65, 1097], ""),
  (34, .aload_n 0, 1, 0, [], ""),
  (35, .ldc 143, 2, 0, [2, 1081, 82], ""),
  (37, .invokevirtual 383, 3, 1, [137, 2, 1, 5, 1117, 68, 1119], ""),
  (40, .ifCond .eq 12, 3, 0, [25], ""),
  (43, .aload_n 0, 1, 0, [], ""),
  (44, .ldc 109, 2, 0, [2, 1065, 65], ""),
  (46, .invokevirtual 386, 3, 1, [134, 2, 1, 5, 1095, 65, 1097], ""),
  (49, .goto 18, 3, 0, [32], ""),
  (52, .aload_n 0, 1, 0, [], ""),
  (53, .ldc 27, 2, 0, [2, 1024, 24], ""),
  (55, .invokevirtual 383, 3, 1, [137, 2, 1, 5, 1117, 68, 1119], ""),
  (58, .ifCond .ne 9, 3, 0, [32], ""),
  (61, .aload_n 0, 1, 0, [], ""),
  (62, .ldc 133, 2, 0, [2, 1077, 77], ""),
  (64, .invokevirtual 386, 3, 1, [134, 2, 1, 5, 1095, 65, 1097], ""),
  (67, .return_, 1, 7, [], "")])
set_option maxRecDepth 100000 in
/-- QueryReaderModel.drop()I -/
def qm_176 : ai_M := (⟨"QueryReaderModel", "drop", "()I"⟩, prog_9_method_58_code, 2, (Option.some Jvm.ClassFile.FieldType.int), [], [], [
  (0, .aload_n 0, 1, 0, [], ""),
  (1, .ldc 151, 2, 0, [2, 1085, 86], ""),
  (3, .invokevirtual 383, 3, 1, [137, 2, 1, 5, 1117, 68, 1119], ""),
  (6, .istore_n 1, 1, 0, [], ""),
  (7, .iload_n 1, 1, 0, [], ""),
  (8, .ifCond .ne 9, 3, 0, [9], ""),
  (11, .aload_n 0, 1, 0, [], ""),
  (12, .ldc 73, 2, 0, [2, 1047, 47], ""),
  (14, .invokevirtual 386, 3, 1, [134, 2, 1, 5, 1095, 65, 1097], ""),
  (17, .aload_n 0, 1, 0, [], ""),
  (18, .iconst 2, 1, 0, [], ""),
  (19, .invokevirtual 410, 3, 1, [145, 2, 1, 5, 1149, 76, 1151], ""),
  (22, .iload_n 1, 1, 0, [], ""),
  (23, .ifCond .eq 7, 3, 0, [16], ""),
  (26, .iconst 3, 1, 0, [], ""),
  (27, .goto 4, 3, 0, [17], ""),
  (30, .iconst 4, 1, 0, [], ""),
  (31, .ireturn, 1, 5, [], "")])
set_option maxRecDepth 100000 in
/-- QueryReaderModel.insert()I -/
def qm_177 : ai_M := (⟨"QueryReaderModel", "insert", "()I"⟩, prog_9_method_59_code, 1, (Option.some Jvm.ClassFile.FieldType.int), [], [], [
  (0, .aload_n 0, 1, 0, [], ""),
  (1, .ldc 81, 2, 0, [2, 1051, 51], ""),
  (3, .invokevirtual 386, 3, 1, [134, 2, 1, 5, 1095, 65, 1097], ""),
  (6, .aload_n 0, 1, 0, [], ""),
  (7, .iconst 2, 1, 0, [], ""),
  (8, .invokevirtual 410, 3, 1, [145, 2, 1, 5, 1149, 76, 1151], ""),
  (11, .aload_n 0, 1, 0, [], ""),
  (12, .ldc_w 305, 3, 0, [2, 1005, 99], ""),
  (15, .invokevirtual 294, 3, 1, [138, 2, 1, 5, 1121, 69, 1123], ""),
  (18, .ifCond .eq 7, 3, 0, [12], ""),
  (21, .aload_n 0, 1, 0, [], ""),
  (22, .invokevirtual 449, 3, 1, [172, 1, 1, 5, 1257, 101, 1259], ""),
  (25, .aload_n 0, 1, 0, [], ""),
  (26, .ldc 167, 2, 0, [2, 1093, 94], ""),
  (28, .invokevirtual 383, 3, 1, [137, 2, 1, 5, 1117, 68, 1119], ""),
  (31, .ifCond .ne 9, 3, 0, [20], ""),
  (34, .aload_n 0, 1, 0, [], ""),
  (35, .invokevirtual 392, 3, 1, [133, 1, 1, 5, 1091, 64, 1093], ""),
  (38, .iconst 5, 1, 0, [], ""),
  (39, .ireturn, 1, 5, [], ""),
  (40, .aload_n 0, 1, 0, [], ""),
  (41, .invokevirtual 389, 3, 1, [147, 1, 1, 5, 1157, 78, 1159], ""),
  (44, .aload_n 0, 1, 0, [], ""),
  (45, .invokevirtual 395, 3, 1, [152, 1, 1, 5, 1177, 83, 1179], ""),
  (48, .aload_n 0, 1, 0, [], ""),
  (49, .invokevirtual 398, 3, 1, [148, 1, 1, 5, 1161, 79, 1163], ""),
  (52, .aload_n 0, 1, 0, [], ""),
  (53, .invokevirtual 404, 3, 1, [153, 1, 1, 5, 1181, 84, 1183], ""),
  (56, .ifCond .ne (-16), 3, 0, [20], ""),
  (59, .iconst 5, 1, 0, [], ""),
  (60, .ireturn, 1, 5, [], "")])
set_option maxRecDepth 100000 in
/-- QueryReaderModel.update()I -/
def qm_178 : ai_M := (⟨"QueryReaderModel", "update", "()I"⟩, prog_9_method_60_code, 1, (Option.some Jvm.ClassFile.FieldType.int), [], [], [
  (0, .aload_n 0, 1, 0, [], ""),
  (1, .iconst 2, 1, 0, [], ""),
  (2, .invokevirtual 410, 3, 1, [145, 2, 1, 5, 1149, 76, 1151], ""),
  (5, .aload_n 0, 1, 0, [], ""),
  (6, .ldc 143, 2, 0, [2, 1081, 82], ""),
  (8, .invokevirtual 386, 3, 1, [134, 2, 1, 5, 1095, 65, 1097], ""),
  (11, .aload_n 0, 1, 0, [], ""),
  (12, .iconst 2, 1, 0, [], ""),
  (13, .invokevirtual 410, 3, 1, [145, 2, 1, 5, 1149, 76, 1151], ""),
  (16, .aload_n 0, 1, 0, [], ""),
  (17, .ldc_w 325, 3, 0, [2, 1100, 103], ""),
  (20, .invokevirtual 312, 3, 1, [149, 2, 1, 5, 1165, 80, 1167], ""),
  (23, .aload_n 0, 1, 0, [], ""),
  (24, .invokevirtual 401, 3, 1, [140, 1, 1, 5, 1129, 71, 1131], ""),
  (27, .aload_n 0, 1, 0, [], ""),
  (28, .invokevirtual 404, 3, 1, [153, 1, 1, 5, 1181, 84, 1183], ""),
  (31, .ifCond .ne (-20), 3, 0, [6], ""),
  (34, .aload_n 0, 1, 0, [], ""),
  (35, .invokevirtual 437, 3, 1, [168, 1, 1, 5, 1241, 97, 1243], ""),
  (38, .bipush 6, 2, 0, [], ""),
  (40, .ireturn, 1, 5, [], "")])
set_option maxRecDepth 100000 in
/-- QueryReaderModel.delete()I -/
def qm_179 : ai_M := (⟨"QueryReaderModel", "delete", "()I"⟩, prog_9_method_61_code, 1, (Option.some Jvm.ClassFile.FieldType.int), [], [], [
  (0, .aload_n 0, 1, 0, [], ""),
  (1, .ldc 65, 2, 0, [2, 1043, 43], ""),
  (3, .invokevirtual 386, 3, 1, [134, 2, 1, 5, 1095, 65, 1097], ""),
  (6, .aload_n 0, 1, 0, [], ""),
  (7, .iconst 2, 1, 0, [], ""),
  (8, .invokevirtual 410, 3, 1, [145, 2, 1, 5, 1149, 76, 1151], ""),
  (11, .aload_n 0, 1, 0, [], ""),
  (12, .invokevirtual 437, 3, 1, [168, 1, 1, 5, 1241, 97, 1243], ""),
  (15, .bipush 7, 2, 0, [], ""),
  (17, .ireturn, 1, 5, [], "")])
set_option maxRecDepth 100000 in
/-- QueryReaderModel.begin()I -/
def qm_180 : ai_M := (⟨"QueryReaderModel", "begin", "()I"⟩, prog_9_method_62_code, 1, (Option.some Jvm.ClassFile.FieldType.int), [], [], [
  (0, .aload_n 0, 1, 0, [], ""),
  (1, .ldc 129, 2, 0, [2, 1075, 75], ""),
  (3, .invokevirtual 383, 3, 1, [137, 2, 1, 5, 1117, 68, 1119], ""),
  (6, .ifCond .eq 21, 3, 0, [12], ""),
  (9, .aload_n 0, 1, 0, [], ""),
  (10, .ldc 39, 2, 0, [2, 1030, 30], ""),
  (12, .invokevirtual 383, 3, 1, [137, 2, 1, 5, 1117, 68, 1119], ""),
  (15, .ifCond .ne 27, 3, 0, [19], ""),
  (18, .aload_n 0, 1, 0, [], ""),
  (19, .ldc 159, 2, 0, [2, 1089, 90], ""),
  (21, .invokevirtual 386, 3, 1, [134, 2, 1, 5, 1095, 65, 1097], ""),
  (24, .goto 18, 3, 0, [19], ""),
  (27, .aload_n 0, 1, 0, [], ""),
  (28, .ldc 141, 2, 0, [2, 1010, 81], ""),
  (30, .invokevirtual 383, 3, 1, [137, 2, 1, 5, 1117, 68, 1119], ""),
  (33, .ifCond .ne 9, 3, 0, [19], ""),
  (36, .aload_n 0, 1, 0, [], ""),
  (37, .ldc 141, 2, 0, [2, 1010, 81], ""),
  (39, .invokevirtual 446, 3, 1, [165, 2, 1, 5, 1229, 96, 1231], ""),
  (42, .bipush 9, 2, 0, [], ""),
  (44, .ireturn, 1, 5, [], "")])
set_option maxRecDepth 100000 in
/-- QueryReaderModel.commit()I -/
def qm_181 : ai_M := (⟨"QueryReaderModel", "commit", "()I"⟩, prog_9_method_63_code, 1, (Option.some Jvm.ClassFile.FieldType.int), [], [], [
  (0, .aload_n 0, 1, 0, [], ""),
  (1, .ldc 125, 2, 0, [2, 1073, 73], ""),
  (3, .invokevirtual 383, 3, 1, [137, 2, 1, 5, 1117, 68, 1119], ""),
  (6, .ifCond .eq 11, 3, 0, [9], ""),
  (9, .aload_n 0, 1, 0, [], ""),
  (10, .iconst 3, 1, 0, [], ""),
  (11, .invokevirtual 410, 3, 1, [145, 2, 1, 5, 1149, 76, 1151], ""),
  (14, .bipush 16, 2, 0, [], ""),
  (16, .ireturn, 1, 5, [], ""),
  (17, .bipush 10, 2, 0, [], ""),
  (19, .ireturn, 1, 5, [], "")])
set_option maxRecDepth 100000 in
/-- QueryReaderModel.rollback()I -/
def qm_182 : ai_M := (⟨"QueryReaderModel", "rollback", "()I"⟩, prog_9_method_64_code, 1, (Option.some Jvm.ClassFile.FieldType.int), [], [], [
  (0, .aload_n 0, 1, 0, [], ""),
  (1, .ldc 157, 2, 0, [2, 1088, 89], ""),
  (3, .invokevirtual 383, 3, 1, [137, 2, 1, 5, 1117, 68, 1119], ""),
  (6, .ifCond .eq 11, 3, 0, [9], ""),
  (9, .aload_n 0, 1, 0, [], ""),
  (10, .iconst 2, 1, 0, [], ""),
  (11, .invokevirtual 410, 3, 1, [145, 2, 1, 5, 1149, 76, 1151], ""),
  (14, .bipush 13, 2, 0, [], ""),
  (16, .ireturn, 1, 5, [], ""),
  (17, .aload_n 0, 1, 0, [], ""),
  (18, .ldc 125, 2, 0, [2, 1073, 73], ""),
  (20, .invokevirtual 383, 3, 1, [137, 2, 1, 5, 1117, 68, 1119], ""),
  (23, .ifCond .eq 11, 3, 0, [18], ""),
  (26, .aload_n 0, 1, 0, [], ""),
  (27, .iconst 3, 1, 0, [], ""),
  (28, .invokevirtual 410, 3, 1, [145, 2, 1, 5, 1149, 76, 1151], ""),
  (31, .bipush 17, 2, 0, [], ""),
  (33, .ireturn, 1, 5, [], ""),
  (34, .bipush 11, 2, 0, [], ""),
  (36, .ireturn, 1, 5, [], "")])
set_option maxRecDepth 100000 in
/-- QueryReaderModel.named(II)I -/
def qm_183 : ai_M := (⟨"QueryReaderModel", "named", "(II)I"⟩, prog_9_method_66_code, 3, (Option.some Jvm.ClassFile.FieldType.int), [], [], [
  (0, .aload_n 0, 1, 0, [], ""),
  (1, .iload_n 2, 1, 0, [], ""),
  (2, .invokevirtual 410, 3, 1, [145, 2, 1, 5, 1149, 76, 1151], ""),
  (5, .iload_n 1, 1, 0, [], ""),
  (6, .ireturn, 1, 5, [], "")])
set_option maxRecDepth 100000 in
/-- QueryReaderModel.lock()I -/
def qm_184 : ai_M := (⟨"QueryReaderModel", "lock", "()I"⟩, prog_9_method_65_code, 1, (Option.some Jvm.ClassFile.FieldType.int), [], [], [
  (0, .aload_n 0, 1, 0, [], ""),
  (1, .ldc 151, 2, 0, [2, 1085, 86], ""),
  (3, .invokevirtual 386, 3, 1, [134, 2, 1, 5, 1095, 65, 1097], ""),
  (6, .aload_n 0, 1, 0, [], ""),
  (7, .iconst 2, 1, 0, [], ""),
  (8, .invokevirtual 410, 3, 1, [145, 2, 1, 5, 1149, 76, 1151], ""),
  (11, .aload_n 0, 1, 0, [], ""),
  (12, .ldc 71, 2, 0, [2, 1046, 46], ""),
  (14, .invokevirtual 386, 3, 1, [134, 2, 1, 5, 1095, 65, 1097], ""),
  (17, .aload_n 0, 1, 0, [], ""),
  (18, .ldc 145, 2, 0, [2, 1082, 83], ""),
  (20, .invokevirtual 383, 3, 1, [137, 2, 1, 5, 1117, 68, 1119], ""),
  (23, .ifCond .ne 9, 3, 0, [16], ""),
  (26, .aload_n 0, 1, 0, [], ""),
  (27, .ldc 61, 2, 0, [2, 1041, 41], ""),
  (29, .invokevirtual 386, 3, 1, [134, 2, 1, 5, 1095, 65, 1097], ""),
  (32, .aload_n 0, 1, 0, [], ""),
  (33, .ldc 105, 2, 0, [2, 1063, 63], ""),
  (35, .invokevirtual 386, 3, 1, [134, 2, 1, 5, 1095, 65, 1097], ""),
  (38, .bipush 14, 2, 0, [], ""),
  (40, .ireturn, 1, 5, [], "")])
set_option maxRecDepth 100000 in
/-- QueryReaderModel.kind()I -/
def qm_185 : ai_M := (⟨"QueryReaderModel", "kind", "()I"⟩, prog_9_method_74_code, 1, (Option.some Jvm.ClassFile.FieldType.int), [], [], [
  (0, .aload_n 0, 1, 0, [], ""),
  (1, .iconst 0, 1, 0, [], ""),
  (2, .putfield 219, 3, 0, [5, 1, 942], ""),
  (5, .aload_n 0, 1, 0, [], ""),
  (6, .getfield 502, 3, 0, [5, 16, 957], ""),
  (9, .ireturn, 1, 5, [], "")])
set_option maxRecDepth 100000 in
/-- QueryReaderModel.length()I -/
def qm_186 : ai_M := (⟨"QueryReaderModel", "length", "()I"⟩, prog_9_method_75_code, 1, (Option.some Jvm.ClassFile.FieldType.int), [], [], [
  (0, .aload_n 0, 1, 0, [], ""),
  (1, .iconst 0, 1, 0, [], ""),
  (2, .putfield 219, 3, 0, [5, 1, 942], ""),
  (5, .aload_n 0, 1, 0, [], ""),
  (6, .invokevirtual 517, 3, 1, [187, 1, 1, 5, 1317, 114, 1319], ""),
  (9, .ireturn, 1, 5, [], "")])
set_option maxRecDepth 100000 in
/-- QueryReaderModel.lengthOf()I -/
def qm_187 : ai_M := (⟨"QueryReaderModel", "lengthOf", "()I"⟩, prog_9_method_76_code, 3, (Option.some Jvm.ClassFile.FieldType.int), [], [], [
  (0, .iconst 0, 1, 0, [], ""),
  (1, .istore_n 1, 1, 0, [], ""),
  (2, .iconst 0, 1, 0, [], ""),
  (3, .istore_n 2, 1, 0, [], ""),
  (4, .iload_n 2, 1, 0, [], ""),
  (5, .aload_n 0, 1, 0, [], ""),
  (6, .getfield 276, 3, 0, [5, 11, 952], ""),
  (9, .if_icmp .ge 17, 3, 0, [16], ""),
  (12, .iload_n 1, 1, 0, [], ""),
  (13, .aload_n 0, 1, 0, [], ""),
  (14, .iload_n 2, 1, 0, [], ""),
  (15, .invokevirtual 520, 3, 1, [188, 2, 1, 5, 1321, 115, 1323], ""),
  (18, .iadd, 1, 0, [], ""),
  (19, .istore_n 1, 1, 0, [], ""),
  (20, .iinc 2 1, 3, 0, [], ""),
  (23, .goto (-19), 3, 0, [4], ""),
  (26, .iload_n 1, 1, 0, [], ""),
  (27, .ireturn, 1, 5, [], "")])
set_option maxRecDepth 100000 in
/-- QueryReaderModel.widthOf(I)I -/
def qm_188 : ai_M := (⟨"QueryReaderModel", "widthOf", "(I)I"⟩, prog_9_method_73_code, 2, (Option.some Jvm.ClassFile.FieldType.int), [], [], [
  (0, .iload_n 1, 1, 0, [], ""),
  (1, .ifCond .le 7, 3, 0, [4], ""),
  (4, .iconst 1, 1, 0, [], ""),
  (5, .goto 4, 3, 0, [5], ""),
  (8, .iconst 0, 1, 0, [], ""),
  (9, .iconst 2, 1, 0, [], ""),
  (10, .aload_n 0, 1, 0, [], ""),
  (11, .getfield 203, 3, 0, [5, 13, 954], ""),
  (14, .iload_n 1, 1, 0, [], ""),
  (15, .iaload, 1, 0, [], ""),
  (16, .ldc 179, 2, 0, [1, 65536, 938], ""),
  (18, .irem, 1, 0, [], ""),
  (19, .imul, 1, 0, [], ""),
  (20, .iadd, 1, 0, [], ""),
  (21, .aload_n 0, 1, 0, [], ""),
  (22, .iload_n 1, 1, 0, [], ""),
  (23, .invokevirtual 514, 3, 1, [189, 2, 1, 5, 1325, 116, 1327], ""),
  (26, .iadd, 1, 0, [], ""),
  (27, .iconst 2, 1, 0, [], ""),
  (28, .aload_n 0, 1, 0, [], ""),
  (29, .getfield 203, 3, 0, [5, 13, 954], ""),
  (32, .iload_n 1, 1, 0, [], ""),
  (33, .iaload, 1, 0, [], ""),
  (34, .ldc 179, 2, 0, [1, 65536, 938], ""),
  (36, .idiv, 1, 0, [], ""),
  (37, .imul, 1, 0, [], ""),
  (38, .iadd, 1, 0, [], ""),
  (39, .ireturn, 1, 5, [], "")])
set_option maxRecDepth 100000 in
/-- QueryReaderModel.sizeOf(I)I -/
def qm_189 : ai_M := (⟨"QueryReaderModel", "sizeOf", "(I)I"⟩, prog_9_method_70_code, 2, (Option.some Jvm.ClassFile.FieldType.int), [], [], [
  (0, .aload_n 0, 1, 0, [], ""),
  (1, .getfield 200, 3, 0, [5, 12, 953], ""),
  (4, .iload_n 1, 1, 0, [], ""),
  (5, .iaload, 1, 0, [], ""),
  (6, .ifCond .ge 20, 3, 0, [16], ""),
  (9, .aload_n 0, 1, 0, [], ""),
  (10, .getfield 173, 3, 0, [5, 0, 941], ""),
  (13, .iconst (-1), 1, 0, [], ""),
  (14, .aload_n 0, 1, 0, [], ""),
  (15, .getfield 200, 3, 0, [5, 12, 953], ""),
  (18, .iload_n 1, 1, 0, [], ""),
  (19, .iaload, 1, 0, [], ""),
  (20, .isub, 1, 0, [], ""),
  (21, .aaload, 1, 0, [], ""),
  (22, .invokevirtual 232, 3, 1, [18, 1, 1, 7, 1074, 312, 311], ""),
  (25, .ireturn, 1, 5, [], ""),
  (26, .aload_n 0, 1, 0, [], ""),
  (27, .getfield 195, 3, 0, [5, 9, 950], ""),
  (30, .aload_n 0, 1, 0, [], ""),
  (31, .getfield 200, 3, 0, [5, 12, 953], ""),
  (34, .iload_n 1, 1, 0, [], ""),
  (35, .iaload, 1, 0, [], ""),
  (36, .saload, 1, 0, [], ""),
  (37, .aload_n 0, 1, 0, [], ""),
  (38, .aload_n 0, 1, 0, [], ""),
  (39, .getfield 200, 3, 0, [5, 12, 953], ""),
  (42, .iload_n 1, 1, 0, [], ""),
  (43, .iaload, 1, 0, [], ""),
  (44, .invokevirtual 511, 3, 1, [190, 2, 1, 5, 1329, 117, 1331], ""),
  (47, .isub, 1, 0, [], ""),
  (48, .ireturn, 1, 5, [], "")])
set_option maxRecDepth 100000 in
/-- QueryReaderModel.zeros(I)I -/
def qm_190 : ai_M := (⟨"QueryReaderModel", "zeros", "(I)I"⟩, prog_9_method_71_code, 3, (Option.some Jvm.ClassFile.FieldType.int), [], [], [
  (0, .iconst 0, 1, 0, [], ""),
  (1, .istore_n 2, 1, 0, [], ""),
  (2, .aload_n 0, 1, 0, [], ""),
  (3, .getfield 192, 3, 0, [5, 8, 949], ""),
  (6, .iload_n 1, 1, 0, [], ""),
  (7, .baload, 1, 0, [], ""),
  (8, .iconst 3, 1, 0, [], ""),
  (9, .if_icmp .ne 39, 3, 0, [29], ""),
  (12, .iload_n 2, 1, 0, [], ""),
  (13, .aload_n 0, 1, 0, [], ""),
  (14, .getfield 195, 3, 0, [5, 9, 950], ""),
  (17, .iload_n 1, 1, 0, [], ""),
  (18, .saload, 1, 0, [], ""),
  (19, .iconst 1, 1, 0, [], ""),
  (20, .isub, 1, 0, [], ""),
  (21, .if_icmp .ge 27, 3, 0, [29], ""),
  (24, .aload_n 0, 1, 0, [], ""),
  (25, .getfield 184, 3, 0, [5, 4, 945], ""),
  (28, .aload_n 0, 1, 0, [], ""),
  (29, .getfield 188, 3, 0, [5, 7, 948], ""),
  (32, .iload_n 1, 1, 0, [], ""),
  (33, .iaload, 1, 0, [], ""),
  (34, .iload_n 2, 1, 0, [], ""),
  (35, .iadd, 1, 0, [], ""),
  (36, .baload, 1, 0, [], ""),
  (37, .bipush 48, 2, 0, [], ""),
  (39, .if_icmp .ne 9, 3, 0, [29], ""),
  (42, .iinc 2 1, 3, 0, [], ""),
  (45, .goto (-43), 3, 0, [2], ""),
  (48, .iload_n 2, 1, 0, [], ""),
  (49, .ireturn, 1, 5, [], "")])
set_option maxRecDepth 100000 in
/-- QueryReaderModel.letter(I)I -/
def qm_191 : ai_M := (⟨"QueryReaderModel", "letter", "(I)I"⟩, prog_9_method_78_code, 4, (Option.some Jvm.ClassFile.FieldType.int), [], [], [
  (0, .iload_n 1, 1, 0, [], ""),
  (1, .istore_n 2, 1, 0, [], ""),
  (2, .iconst 0, 1, 0, [], ""),
  (3, .istore_n 3, 1, 0, [], ""),
  (4, .iload_n 1, 1, 0, [], ""),
  (5, .ifCond .lt 34, 3, 0, [23], ""),
  (8, .iload_n 3, 1, 0, [], ""),
  (9, .aload_n 0, 1, 0, [], ""),
  (10, .getfield 276, 3, 0, [5, 11, 952], ""),
  (13, .if_icmp .ge 26, 3, 0, [23], ""),
  (16, .iload_n 2, 1, 0, [], ""),
  (17, .aload_n 0, 1, 0, [], ""),
  (18, .iload_n 3, 1, 0, [], ""),
  (19, .invokevirtual 520, 3, 1, [188, 2, 1, 5, 1321, 115, 1323], ""),
  (22, .if_icmp .lt 17, 3, 0, [23], ""),
  (25, .iload_n 2, 1, 0, [], ""),
  (26, .aload_n 0, 1, 0, [], ""),
  (27, .iload_n 3, 1, 0, [], ""),
  (28, .invokevirtual 520, 3, 1, [188, 2, 1, 5, 1321, 115, 1323], ""),
  (31, .isub, 1, 0, [], ""),
  (32, .istore_n 2, 1, 0, [], ""),
  (33, .iinc 3 1, 3, 0, [], ""),
  (36, .goto (-32), 3, 0, [4], ""),
  (39, .aload_n 0, 1, 0, [], ""),
  (40, .iload_n 1, 1, 0, [], ""),
  (41, .ifCond .lt 11, 3, 0, [30], ""),
  (44, .iload_n 3, 1, 0, [], ""),
  (45, .aload_n 0, 1, 0, [], ""),
  (46, .getfield 276, 3, 0, [5, 11, 952], ""),
  (49, .if_icmp .ne 7, 3, 0, [32], ""),
  (52, .iconst 1, 1, 0, [], ""),
  (53, .goto 4, 3, 0, [33], ""),
  (56, .iconst 0, 1, 0, [], ""),
  (57, .putfield 219, 3, 0, [5, 1, 942], ""),
  (60, .aload_n 0, 1, 0, [], ""),
  (61, .getfield 219, 3, 0, [5, 1, 942], ""),
  (64, .ifCond .le 7, 3, 0, [39], ""),
  (67, .iconst 0, 1, 0, [], ""),
  (68, .goto 9, 3, 0, [43], ""),
  (71, .aload_n 0, 1, 0, [], ""),
  (72, .iload_n 3, 1, 0, [], ""),
  (73, .iload_n 2, 1, 0, [], ""),
  (74, .invokevirtual 526, 3, 1, [192, 3, 1, 5, 1337, 118, 1339], ""),
  (77, .ireturn, 1, 5, [], "")])
set_option maxRecDepth 100000 in
/-- QueryReaderModel.charOf(II)I -/
def qm_192 : ai_M := (⟨"QueryReaderModel", "charOf", "(II)I"⟩, prog_9_method_77_code, 5, (Option.some Jvm.ClassFile.FieldType.int), [], [], [
  (0, .iload_n 1, 1, 0, [], ""),
  (1, .ifCond .le 9, 3, 0, [6], ""),
  (4, .iload_n 2, 1, 0, [], ""),
  (5, .iconst 1, 1, 0, [], ""),
  (6, .isub, 1, 0, [], ""),
  (7, .goto 4, 3, 0, [7], ""),
  (10, .iload_n 2, 1, 0, [], ""),
  (11, .istore_n 3, 1, 0, [], ""),
  (12, .iconst 2, 1, 0, [], ""),
  (13, .aload_n 0, 1, 0, [], ""),
  (14, .getfield 203, 3, 0, [5, 13, 954], ""),
  (17, .iload_n 1, 1, 0, [], ""),
  (18, .iaload, 1, 0, [], ""),
  (19, .ldc 179, 2, 0, [1, 65536, 938], ""),
  (21, .irem, 1, 0, [], ""),
  (22, .imul, 1, 0, [], ""),
  (23, .istore 4, 2, 0, [], ""),
  (25, .iload_n 3, 1, 0, [], ""),
  (26, .ifCond .ge 6, 3, 0, [21], ""),
  (29, .bipush 32, 2, 0, [], ""),
  (31, .ireturn, 1, 5, [], ""),
  (32, .iload_n 3, 1, 0, [], ""),
  (33, .iload 4, 2, 0, [], ""),
  (35, .if_icmp .ge 17, 3, 0, [32], ""),
  (38, .iload_n 3, 1, 0, [], ""),
  (39, .iconst 2, 1, 0, [], ""),
  (40, .irem, 1, 0, [], ""),
  (41, .ifCond .ne 8, 3, 0, [30], ""),
  (44, .bipush 40, 2, 0, [], ""),
  (46, .goto 5, 3, 0, [31], ""),
  (49, .bipush 32, 2, 0, [], ""),
  (51, .ireturn, 1, 5, [], ""),
  (52, .iload_n 3, 1, 0, [], ""),
  (53, .iload 4, 2, 0, [], ""),
  (55, .isub, 1, 0, [], ""),
  (56, .istore_n 3, 1, 0, [], ""),
  (57, .iload_n 3, 1, 0, [], ""),
  (58, .aload_n 0, 1, 0, [], ""),
  (59, .iload_n 1, 1, 0, [], ""),
  (60, .invokevirtual 514, 3, 1, [189, 2, 1, 5, 1325, 116, 1327], ""),
  (63, .if_icmp .ge 10, 3, 0, [46], ""),
  (66, .aload_n 0, 1, 0, [], ""),
  (67, .iload_n 1, 1, 0, [], ""),
  (68, .iload_n 3, 1, 0, [], ""),
  (69, .invokevirtual 523, 3, 1, [193, 3, 1, 5, 1341, 119, 1343], ""),
  (72, .ireturn, 1, 5, [], ""),
  (73, .iload_n 3, 1, 0, [], ""),
  (74, .aload_n 0, 1, 0, [], ""),
  (75, .iload_n 1, 1, 0, [], ""),
  (76, .invokevirtual 514, 3, 1, [189, 2, 1, 5, 1325, 116, 1327], ""),
  (79, .isub, 1, 0, [], ""),
  (80, .iconst 2, 1, 0, [], ""),
  (81, .irem, 1, 0, [], ""),
  (82, .ifCond .ne 8, 3, 0, [56], ""),
  (85, .bipush 32, 2, 0, [], ""),
  (87, .goto 5, 3, 0, [57], ""),
  (90, .bipush 41, 2, 0, [], ""),
  (92, .ireturn, 1, 5, [], "")])
set_option maxRecDepth 100000 in
/-- QueryReaderModel.letterOf(II)I -/
def qm_193 : ai_M := (⟨"QueryReaderModel", "letterOf", "(II)I"⟩, prog_9_method_72_code, 7, (Option.some Jvm.ClassFile.FieldType.int), [], [], [
  (0, .aload_n 0, 1, 0, [], ""),
  (1, .getfield 200, 3, 0, [5, 12, 953], ""),
  (4, .iload_n 1, 1, 0, [], ""),
  (5, .iaload, 1, 0, [], ""),
  (6, .ifCond .ge 21, 3, 0, [17], ""),
  (9, .aload_n 0, 1, 0, [], ""),
  (10, .getfield 173, 3, 0, [5, 0, 941], ""),
  (13, .iconst (-1), 1, 0, [], ""),
  (14, .aload_n 0, 1, 0, [], ""),
  (15, .getfield 200, 3, 0, [5, 12, 953], ""),
  (18, .iload_n 1, 1, 0, [], ""),
  (19, .iaload, 1, 0, [], ""),
  (20, .isub, 1, 0, [], ""),
  (21, .aaload, 1, 0, [], ""),
  (22, .iload_n 2, 1, 0, [], ""),
  (23, .invokevirtual 238, 3, 1, [20, 2, 1, 7, 1078, 321, 320], ""),
  (26, .ireturn, 1, 5, [], ""),
  (27, .aload_n 0, 1, 0, [], ""),
  (28, .getfield 200, 3, 0, [5, 12, 953], ""),
  (31, .iload_n 1, 1, 0, [], ""),
  (32, .iaload, 1, 0, [], ""),
  (33, .istore_n 3, 1, 0, [], ""),
  (34, .aload_n 0, 1, 0, [], ""),
  (35, .getfield 184, 3, 0, [5, 4, 945], ""),
  (38, .aload_n 0, 1, 0, [], ""),
  (39, .getfield 188, 3, 0, [5, 7, 948], ""),
  (42, .iload_n 3, 1, 0, [], ""),
  (43, .iaload, 1, 0, [], ""),
  (44, .aload_n 0, 1, 0, [], ""),
  (45, .iload_n 3, 1, 0, [], ""),
  (46, .invokevirtual 511, 3, 1, [190, 2, 1, 5, 1329, 117, 1331], ""),
  (49, .iadd, 1, 0, [], ""),
  (50, .iload_n 2, 1, 0, [], ""),
  (51, .iadd, 1, 0, [], ""),
  (52, .baload, 1, 0, [], ""),
  (53, .istore 4, 2, 0, [], ""),
  (55, .aload_n 0, 1, 0, [], ""),
  (56, .getfield 192, 3, 0, [5, 8, 949], ""),
  (59, .iload_n 3, 1, 0, [], ""),
  (60, .baload, 1, 0, [], ""),
  (61, .iconst 1, 1, 0, [], ""),
  (62, .if_icmp .ne 7, 3, 0, [44], ""),
  (65, .iconst 1, 1, 0, [], ""),
  (66, .goto 4, 3, 0, [45], ""),
  (69, .iconst 0, 1, 0, [], ""),
  (70, .istore 5, 2, 0, [], ""),
  (72, .aload_n 0, 1, 0, [], ""),
  (73, .getfield 192, 3, 0, [5, 8, 949], ""),
  (76, .iload_n 3, 1, 0, [], ""),
  (77, .baload, 1, 0, [], ""),
  (78, .iconst 2, 1, 0, [], ""),
  (79, .if_icmp .ne 7, 3, 0, [54], ""),
  (82, .iconst 1, 1, 0, [], ""),
  (83, .goto 4, 3, 0, [55], ""),
  (86, .iconst 0, 1, 0, [], ""),
  (87, .istore 6, 2, 0, [], ""),
  (89, .iload 5, 2, 0, [], ""),
  (91, .ifCond .eq 25, 3, 0, [68], ""),
  (94, .iload 4, 2, 0, [], ""),
  (96, .bipush 97, 2, 0, [], ""),
  (98, .if_icmp .lt 18, 3, 0, [68], ""),
  (101, .iload 4, 2, 0, [], ""),
  (103, .bipush 122, 2, 0, [], ""),
  (105, .if_icmp .gt 11, 3, 0, [68], ""),
  (108, .iload 4, 2, 0, [], ""),
  (110, .bipush 32, 2, 0, [], ""),
  (112, .isub, 1, 0, [], ""),
  (113, .goto 18, 3, 0, [74], ""),
  (116, .iload 6, 2, 0, [], ""),
  (118, .ifCond .eq 11, 3, 0, [73], ""),
  (121, .iload 4, 2, 0, [], ""),
  (123, .invokestatic 235, 3, 1, [129, 1, 0, 0, 1075, 1076], ""),
  (126, .goto 5, 3, 0, [74], ""),
  (129, .iload 4, 2, 0, [], ""),
  (131, .ireturn, 1, 5, [], "")])
set_option maxRecDepth 100000 in
/-- QueryReaderModel.mark()I -/
def qm_194 : ai_M := (⟨"QueryReaderModel", "mark", "()I"⟩, prog_9_method_79_code, 5, (Option.some Jvm.ClassFile.FieldType.int), [], [], [
  (0, .aload_n 0, 1, 0, [], ""),
  (1, .iconst 0, 1, 0, [], ""),
  (2, .putfield 219, 3, 0, [5, 1, 942], ""),
  (5, .iconst 0, 1, 0, [], ""),
  (6, .istore_n 1, 1, 0, [], ""),
  (7, .iconst 0, 1, 0, [], ""),
  (8, .istore_n 2, 1, 0, [], ""),
  (9, .iload_n 2, 1, 0, [], ""),
  (10, .aload_n 0, 1, 0, [], ""),
  (11, .getfield 276, 3, 0, [5, 11, 952], ""),
  (14, .if_icmp .ge 43, 3, 0, [33], ""),
  (17, .aload_n 0, 1, 0, [], ""),
  (18, .iload_n 2, 1, 0, [], ""),
  (19, .invokevirtual 520, 3, 1, [188, 2, 1, 5, 1321, 115, 1323], ""),
  (22, .istore_n 3, 1, 0, [], ""),
  (23, .iconst 0, 1, 0, [], ""),
  (24, .istore 4, 2, 0, [], ""),
  (26, .iload 4, 2, 0, [], ""),
  (28, .iload_n 3, 1, 0, [], ""),
  (29, .if_icmp .ge 22, 3, 0, [31], ""),
  (32, .bipush 31, 2, 0, [], ""),
  (34, .iload_n 1, 1, 0, [], ""),
  (35, .imul, 1, 0, [], ""),
  (36, .aload_n 0, 1, 0, [], ""),
  (37, .iload_n 2, 1, 0, [], ""),
  (38, .iload 4, 2, 0, [], ""),
  (40, .invokevirtual 526, 3, 1, [192, 3, 1, 5, 1337, 118, 1339], ""),
  (43, .iadd, 1, 0, [], ""),
  (44, .istore_n 1, 1, 0, [], ""),
  (45, .iinc 4 1, 3, 0, [], ""),
  (48, .goto (-22), 3, 0, [17], ""),
  (51, .iinc 2 1, 3, 0, [], ""),
  (54, .goto (-45), 3, 0, [7], ""),
  (57, .iload_n 1, 1, 0, [], ""),
  (58, .ireturn, 1, 5, [], "")])
set_option maxRecDepth 100000 in
/-- QueryReaderModel.names()I -/
def qm_195 : ai_M := (⟨"QueryReaderModel", "names", "()I"⟩, prog_9_method_82_code, 4, (Option.some Jvm.ClassFile.FieldType.int), [], [], [
  (0, .aload_n 0, 1, 0, [], ""),
  (1, .iconst 0, 1, 0, [], ""),
  (2, .putfield 219, 3, 0, [5, 1, 942], ""),
  (5, .iconst 0, 1, 0, [], ""),
  (6, .istore_n 1, 1, 0, [], ""),
  (7, .iload_n 1, 1, 0, [], ""),
  (8, .ldc 179, 2, 0, [1, 65536, 938], ""),
  (10, .if_icmp .ge 16, 3, 0, [15], ""),
  (13, .aload_n 0, 1, 0, [], ""),
  (14, .getfield 212, 3, 0, [5, 24, 965], ""),
  (17, .iload_n 1, 1, 0, [], ""),
  (18, .iconst 0, 1, 0, [], ""),
  (19, .iastore, 1, 0, [], ""),
  (20, .iinc 1 1, 3, 0, [], ""),
  (23, .goto (-16), 3, 0, [5], ""),
  (26, .iconst 0, 1, 0, [], ""),
  (27, .istore_n 1, 1, 0, [], ""),
  (28, .iconst 0, 1, 0, [], ""),
  (29, .istore_n 2, 1, 0, [], ""),
  (30, .iload_n 2, 1, 0, [], ""),
  (31, .aload_n 0, 1, 0, [], ""),
  (32, .getfield 276, 3, 0, [5, 11, 952], ""),
  (35, .if_icmp .ge 64, 3, 0, [58], ""),
  (38, .aload_n 0, 1, 0, [], ""),
  (39, .getfield 200, 3, 0, [5, 12, 953], ""),
  (42, .iload_n 2, 1, 0, [], ""),
  (43, .iaload, 1, 0, [], ""),
  (44, .ifCond .lt 22, 3, 0, [39], ""),
  (47, .aload_n 0, 1, 0, [], ""),
  (48, .getfield 192, 3, 0, [5, 8, 949], ""),
  (51, .aload_n 0, 1, 0, [], ""),
  (52, .getfield 200, 3, 0, [5, 12, 953], ""),
  (55, .iload_n 2, 1, 0, [], ""),
  (56, .iaload, 1, 0, [], ""),
  (57, .baload, 1, 0, [], ""),
  (58, .iconst 2, 1, 0, [], ""),
  (59, .if_icmp .ne 7, 3, 0, [39], ""),
  (62, .iconst 1, 1, 0, [], ""),
  (63, .goto 4, 3, 0, [40], ""),
  (66, .iconst 0, 1, 0, [], ""),
  (67, .istore_n 3, 1, 0, [], ""),
  (68, .iload_n 3, 1, 0, [], ""),
  (69, .ifCond .eq 22, 3, 0, [54], ""),
  (72, .aload_n 0, 1, 0, [], ""),
  (73, .aload_n 0, 1, 0, [], ""),
  (74, .getfield 200, 3, 0, [5, 12, 953], ""),
  (77, .iload_n 2, 1, 0, [], ""),
  (78, .iaload, 1, 0, [], ""),
  (79, .invokevirtual 534, 3, 1, [196, 2, 1, 5, 1353, 120, 1355], ""),
  (82, .ifCond .eq 9, 3, 0, [54], ""),
  (85, .iload_n 1, 1, 0, [], ""),
  (86, .iconst 1, 1, 0, [], ""),
  (87, .iadd, 1, 0, [], ""),
  (88, .goto 4, 3, 0, [55], ""),
  (91, .iload_n 1, 1, 0, [], ""),
  (92, .istore_n 1, 1, 0, [], ""),
  (93, .iinc 2 1, 3, 0, [], ""),
  (96, .goto (-66), 3, 0, [19], ""),
  (99, .iload_n 1, 1, 0, [], ""),
  (100, .ireturn, 1, 5, [], "")])
set_option maxRecDepth 100000 in
/-- QueryReaderModel.isNew(I)Z -/
def qm_196 : ai_M := (⟨"QueryReaderModel", "isNew", "(I)Z"⟩, prog_9_method_81_code, 4, (Option.some Jvm.ClassFile.FieldType.boolean), [], [], [
  (0, .iconst 0, 1, 0, [], ""),
  (1, .istore_n 2, 1, 0, [], ""),
  (2, .iconst 0, 1, 0, [], ""),
  (3, .istore_n 3, 1, 0, [], ""),
  (4, .iload_n 3, 1, 0, [], ""),
  (5, .aload_n 0, 1, 0, [], ""),
  (6, .getfield 195, 3, 0, [5, 9, 950], ""),
  (9, .iload_n 1, 1, 0, [], ""),
  (10, .saload, 1, 0, [], ""),
  (11, .if_icmp .ge 31, 3, 0, [27], ""),
  (14, .bipush 31, 2, 0, [], ""),
  (16, .iload_n 2, 1, 0, [], ""),
  (17, .imul, 1, 0, [], ""),
  (18, .aload_n 0, 1, 0, [], ""),
  (19, .getfield 184, 3, 0, [5, 4, 945], ""),
  (22, .aload_n 0, 1, 0, [], ""),
  (23, .getfield 188, 3, 0, [5, 7, 948], ""),
  (26, .iload_n 1, 1, 0, [], ""),
  (27, .iaload, 1, 0, [], ""),
  (28, .iload_n 3, 1, 0, [], ""),
  (29, .iadd, 1, 0, [], ""),
  (30, .baload, 1, 0, [], ""),
  (31, .invokestatic 235, 3, 1, [129, 1, 0, 0, 1075, 1076], ""),
  (34, .iadd, 1, 0, [], ""),
  (35, .istore_n 2, 1, 0, [], ""),
  (36, .iinc 3 1, 3, 0, [], ""),
  (39, .goto (-35), 3, 0, [4], ""),
  (42, .iload_n 2, 1, 0, [], ""),
  (43, .iload_n 2, 1, 0, [], ""),
  (44, .bipush 15, 2, 0, [], ""),
  (46, .ishr, 1, 0, [], ""),
  (47, .ixor, 1, 0, [], ""),
  (48, .ldc_w 529, 3, 0, [1, 65535, 1357], ""),
  (51, .iand, 1, 0, [], ""),
  (52, .istore_n 3, 1, 0, [], ""),
  (53, .aload_n 0, 1, 0, [], ""),
  (54, .getfield 212, 3, 0, [5, 24, 965], ""),
  (57, .iload_n 3, 1, 0, [], ""),
  (58, .iaload, 1, 0, [], ""),
  (59, .ifCond .le 32, 3, 0, [59], ""),
  (62, .aload_n 0, 1, 0, [], ""),
  (63, .aload_n 0, 1, 0, [], ""),
  (64, .getfield 212, 3, 0, [5, 24, 965], ""),
  (67, .iload_n 3, 1, 0, [], ""),
  (68, .iaload, 1, 0, [], ""),
  (69, .iconst 1, 1, 0, [], ""),
  (70, .isub, 1, 0, [], ""),
  (71, .iload_n 1, 1, 0, [], ""),
  (72, .invokevirtual 530, 3, 1, [197, 3, 1, 5, 1358, 121, 1360], ""),
  (75, .ifCond .eq 5, 3, 0, [52], ""),
  (78, .iconst 0, 1, 0, [], ""),
  (79, .ireturn, 1, 5, [], ""),
  (80, .iload_n 3, 1, 0, [], ""),
  (81, .iconst 1, 1, 0, [], ""),
  (82, .iadd, 1, 0, [], ""),
  (83, .ldc_w 529, 3, 0, [1, 65535, 1357], ""),
  (86, .iand, 1, 0, [], ""),
  (87, .istore_n 3, 1, 0, [], ""),
  (88, .goto (-35), 3, 0, [35], ""),
  (91, .aload_n 0, 1, 0, [], ""),
  (92, .getfield 212, 3, 0, [5, 24, 965], ""),
  (95, .iload_n 3, 1, 0, [], ""),
  (96, .iload_n 1, 1, 0, [], ""),
  (97, .iconst 1, 1, 0, [], ""),
  (98, .iadd, 1, 0, [], ""),
  (99, .iastore, 1, 0, [], ""),
  (100, .iconst 1, 1, 0, [], ""),
  (101, .ireturn, 1, 5, [], "")])
set_option maxRecDepth 100000 in
/-- QueryReaderModel.sameName(II)Z -/
def qm_197 : ai_M := (⟨"QueryReaderModel", "sameName", "(II)Z"⟩, prog_9_method_80_code, 5, (Option.some Jvm.ClassFile.FieldType.boolean), [], [], [
  (0, .aload_n 0, 1, 0, [], ""),
  (1, .getfield 195, 3, 0, [5, 9, 950], ""),
  (4, .iload_n 1, 1, 0, [], ""),
  (5, .saload, 1, 0, [], ""),
  (6, .aload_n 0, 1, 0, [], ""),
  (7, .getfield 195, 3, 0, [5, 9, 950], ""),
  (10, .iload_n 2, 1, 0, [], ""),
  (11, .saload, 1, 0, [], ""),
  (12, .if_icmp .ne 7, 3, 0, [11], ""),
  (15, .iconst 1, 1, 0, [], ""),
  (16, .goto 4, 3, 0, [12], ""),
  (19, .iconst 0, 1, 0, [], ""),
  (20, .istore_n 3, 1, 0, [], ""),
  (21, .iconst 0, 1, 0, [], ""),
  (22, .istore 4, 2, 0, [], ""),
  (24, .iload 4, 2, 0, [], ""),
  (26, .aload_n 0, 1, 0, [], ""),
  (27, .getfield 195, 3, 0, [5, 9, 950], ""),
  (30, .iload_n 1, 1, 0, [], ""),
  (31, .saload, 1, 0, [], ""),
  (32, .if_icmp .ge 56, 3, 0, [50], ""),
  (35, .iload_n 3, 1, 0, [], ""),
  (36, .ifCond .eq 52, 3, 0, [50], ""),
  (39, .aload_n 0, 1, 0, [], ""),
  (40, .getfield 184, 3, 0, [5, 4, 945], ""),
  (43, .aload_n 0, 1, 0, [], ""),
  (44, .getfield 188, 3, 0, [5, 7, 948], ""),
  (47, .iload_n 1, 1, 0, [], ""),
  (48, .iaload, 1, 0, [], ""),
  (49, .iload 4, 2, 0, [], ""),
  (51, .iadd, 1, 0, [], ""),
  (52, .baload, 1, 0, [], ""),
  (53, .invokestatic 235, 3, 1, [129, 1, 0, 0, 1075, 1076], ""),
  (56, .aload_n 0, 1, 0, [], ""),
  (57, .getfield 184, 3, 0, [5, 4, 945], ""),
  (60, .aload_n 0, 1, 0, [], ""),
  (61, .getfield 188, 3, 0, [5, 7, 948], ""),
  (64, .iload_n 2, 1, 0, [], ""),
  (65, .iaload, 1, 0, [], ""),
  (66, .iload 4, 2, 0, [], ""),
  (68, .iadd, 1, 0, [], ""),
  (69, .baload, 1, 0, [], ""),
  (70, .invokestatic 235, 3, 1, [129, 1, 0, 0, 1075, 1076], ""),
  (73, .if_icmp .ne 7, 3, 0, [46], ""),
  (76, .iconst 1, 1, 0, [], ""),
  (77, .goto 4, 3, 0, [47], ""),
  (80, .iconst 0, 1, 0, [], ""),
  (81, .istore_n 3, 1, 0, [], ""),
  (82, .iinc 4 1, 3, 0, [], ""),
  (85, .goto (-61), 3, 0, [15], ""),
  (88, .iload_n 3, 1, 0, [], ""),
  (89, .ireturn, 1, 5, [], "")])
set_option maxRecDepth 100000 in
/-- QueryReaderModel.depth()I -/
def qm_198 : ai_M := (⟨"QueryReaderModel", "depth", "()I"⟩, prog_9_method_83_code, 1, (Option.some Jvm.ClassFile.FieldType.int), [], [], [
  (0, .aload_n 0, 1, 0, [], ""),
  (1, .iconst 0, 1, 0, [], ""),
  (2, .putfield 219, 3, 0, [5, 1, 942], ""),
  (5, .aload_n 0, 1, 0, [], ""),
  (6, .getfield 302, 3, 0, [5, 15, 956], ""),
  (9, .ireturn, 1, 5, [], "")])
set_option maxRecDepth 100000 in
/-- QueryReaderModel.again()Z -/
def qm_199 : ai_M := (⟨"QueryReaderModel", "again", "()Z"⟩, prog_9_method_84_code, 6, (Option.some Jvm.ClassFile.FieldType.boolean), [], [], [
  (0, .aload_n 0, 1, 0, [], ""),
  (1, .iconst 0, 1, 0, [], ""),
  (2, .putfield 219, 3, 0, [5, 1, 942], ""),
  (5, .aload_n 0, 1, 0, [], ""),
  (6, .invokevirtual 517, 3, 1, [187, 1, 1, 5, 1317, 114, 1319], ""),
  (9, .istore_n 1, 1, 0, [], ""),
  (10, .iload_n 1, 1, 0, [], ""),
  (11, .ifCond .eq 9, 3, 0, [11], ""),
  (14, .iload_n 1, 1, 0, [], ""),
  (15, .ldc 179, 2, 0, [1, 65536, 938], ""),
  (17, .if_icmp .le 5, 3, 0, [13], ""),
  (20, .iconst 0, 1, 0, [], ""),
  (21, .ireturn, 1, 5, [], ""),
  (22, .iconst 0, 1, 0, [], ""),
  (23, .istore_n 2, 1, 0, [], ""),
  (24, .iconst 0, 1, 0, [], ""),
  (25, .istore_n 3, 1, 0, [], ""),
  (26, .iload_n 3, 1, 0, [], ""),
  (27, .aload_n 0, 1, 0, [], ""),
  (28, .getfield 276, 3, 0, [5, 11, 952], ""),
  (31, .if_icmp .ge 49, 3, 0, [44], ""),
  (34, .aload_n 0, 1, 0, [], ""),
  (35, .iload_n 3, 1, 0, [], ""),
  (36, .invokevirtual 520, 3, 1, [188, 2, 1, 5, 1321, 115, 1323], ""),
  (39, .istore 4, 2, 0, [], ""),
  (41, .iconst 0, 1, 0, [], ""),
  (42, .istore 5, 2, 0, [], ""),
  (44, .iload 5, 2, 0, [], ""),
  (46, .iload 4, 2, 0, [], ""),
  (48, .if_icmp .ge 26, 3, 0, [42], ""),
  (51, .aload_n 0, 1, 0, [], ""),
  (52, .getfield 180, 3, 0, [5, 2, 943], ""),
  (55, .iload_n 2, 1, 0, [], ""),
  (56, .aload_n 0, 1, 0, [], ""),
  (57, .iload_n 3, 1, 0, [], ""),
  (58, .iload 5, 2, 0, [], ""),
  (60, .invokevirtual 526, 3, 1, [192, 3, 1, 5, 1337, 118, 1339], ""),
  (63, .i2b, 1, 0, [], ""),
  (64, .bastore, 1, 0, [], ""),
  (65, .iinc 2 1, 3, 0, [], ""),
  (68, .iinc 5 1, 3, 0, [], ""),
  (71, .goto (-27), 3, 0, [27], ""),
  (74, .iinc 3 1, 3, 0, [], ""),
  (77, .goto (-51), 3, 0, [17], ""),
  (80, .aload_n 0, 1, 0, [], ""),
  (81, .iload_n 1, 1, 0, [], ""),
  (82, .putfield 215, 3, 0, [5, 3, 944], ""),
  (85, .iconst 1, 1, 0, [], ""),
  (86, .ireturn, 1, 5, [], "")])
end
section
/-! PRINTED BY wip/whole/print.py: the law, all methods. -/
set_option maxRecDepth 100000 in
/-- QueryReaderLaw.law([I)Z -/
def qm_law : ai_M := (⟨"QueryReaderLaw", "law", "([I)Z"⟩, code, 7, (Option.some Jvm.ClassFile.FieldType.boolean), [], [], [
  (0, .new 8, 3, 0, [0, 145, 146, 123], ""),
  (3, .dup, 1, 0, [], ""),
  (4, .invokespecial 27, 3, 1, [0, 1, 2, 0, 147, 148], ""),
  (7, .astore_n 1, 1, 0, [], ""),
  (8, .new 28, 3, 0, [5, 931, 932, 130], ""),
  (11, .dup, 1, 0, [], ""),
  (12, .invokespecial 30, 3, 1, [114, 1, 2, 0, 933, 934], ""),
  (15, .astore_n 2, 1, 0, [], ""),
  (16, .iconst 1, 1, 0, [], ""),
  (17, .newarray .long, 2, 0, [1370], ""),
  (19, .astore_n 3, 1, 0, [], ""),
  (20, .iconst 0, 1, 0, [], ""),
  (21, .istore 4, 2, 0, [], ""),
  (23, .iload 4, 2, 0, [], ""),
  (25, .aload_n 0, 1, 0, [], ""),
  (26, .arraylength, 1, 0, [], ""),
  (27, .bipush 6, 2, 0, [], ""),
  (29, .isub, 1, 0, [], ""),
  (30, .if_icmp .gt 339, 3, 0, [195], ""),
  (33, .aload_n 0, 1, 0, [], ""),
  (34, .iload 4, 2, 0, [], ""),
  (36, .iaload, 1, 0, [], ""),
  (37, .bipush 15, 2, 0, [], ""),
  (39, .iand, 1, 0, [], ""),
  (40, .tableswitch 323 0 9 #[56, 140, 176, 189, 202, 215, 271, 284, 297, 310], 56, 0, [193, 25, 87, 109, 116, 123, 130, 165, 172, 179, 186], ""),
  (96, .aload_n 1, 1, 0, [], ""),
  (97, .aload_n 0, 1, 0, [], ""),
  (98, .iload 4, 2, 0, [], ""),
  (100, .iconst 1, 1, 0, [], ""),
  (101, .iadd, 1, 0, [], ""),
  (102, .iaload, 1, 0, [], ""),
  (103, .aload_n 0, 1, 0, [], ""),
  (104, .iload 4, 2, 0, [], ""),
  (106, .iconst 2, 1, 0, [], ""),
  (107, .iadd, 1, 0, [], ""),
  (108, .iaload, 1, 0, [], ""),
  (109, .aload_n 0, 1, 0, [], ""),
  (110, .iload 4, 2, 0, [], ""),
  (112, .iconst 3, 1, 0, [], ""),
  (113, .iadd, 1, 0, [], ""),
  (114, .iaload, 1, 0, [], ""),
  (115, .aload_n 0, 1, 0, [], ""),
  (116, .iload 4, 2, 0, [], ""),
  (118, .iconst 4, 1, 0, [], ""),
  (119, .iadd, 1, 0, [], ""),
  (120, .iaload, 1, 0, [], ""),
  (121, .aload_n 0, 1, 0, [], ""),
  (122, .iload 4, 2, 0, [], ""),
  (124, .iconst 5, 1, 0, [], ""),
  (125, .iadd, 1, 0, [], ""),
  (126, .iaload, 1, 0, [], ""),
  (127, .invokestatic 31, 3, 1, [107, 6, 0, 0, 870, 871], ""),
  (130, .istore 5, 2, 0, [], ""),
  (132, .aload_n 2, 1, 0, [], ""),
  (133, .aload_n 0, 1, 0, [], ""),
  (134, .iload 4, 2, 0, [], ""),
  (136, .iconst 1, 1, 0, [], ""),
  (137, .iadd, 1, 0, [], ""),
  (138, .iaload, 1, 0, [], ""),
  (139, .aload_n 0, 1, 0, [], ""),
  (140, .iload 4, 2, 0, [], ""),
  (142, .iconst 2, 1, 0, [], ""),
  (143, .iadd, 1, 0, [], ""),
  (144, .iaload, 1, 0, [], ""),
  (145, .aload_n 0, 1, 0, [], ""),
  (146, .iload 4, 2, 0, [], ""),
  (148, .iconst 3, 1, 0, [], ""),
  (149, .iadd, 1, 0, [], ""),
  (150, .iaload, 1, 0, [], ""),
  (151, .aload_n 0, 1, 0, [], ""),
  (152, .iload 4, 2, 0, [], ""),
  (154, .iconst 4, 1, 0, [], ""),
  (155, .iadd, 1, 0, [], ""),
  (156, .iaload, 1, 0, [], ""),
  (157, .aload_n 0, 1, 0, [], ""),
  (158, .iload 4, 2, 0, [], ""),
  (160, .iconst 5, 1, 0, [], ""),
  (161, .iadd, 1, 0, [], ""),
  (162, .iaload, 1, 0, [], ""),
  (163, .invokevirtual 36, 3, 1, [116, 6, 1, 5, 1022, 1024, 1023], ""),
  (166, .aload_n 2, 1, 0, [], ""),
  (167, .invokevirtual 37, 3, 1, [115, 1, 1, 5, 1018, 1020, 1019], ""),
  (170, .iload 5, 2, 0, [], ""),
  (172, .if_icmp .eq 5, 3, 0, [86], ""),
  (175, .iconst 0, 1, 0, [], ""),
  (176, .ireturn, 1, 5, [], ""),
  (177, .goto 186, 3, 0, [193], ""),
  (180, .aload_n 1, 1, 0, [], ""),
  (181, .aload_n 0, 1, 0, [], ""),
  (182, .iload 4, 2, 0, [], ""),
  (184, .iconst 1, 1, 0, [], ""),
  (185, .iadd, 1, 0, [], ""),
  (186, .iaload, 1, 0, [], ""),
  (187, .invokestatic 41, 3, 1, [110, 2, 0, 0, 898, 899], ""),
  (190, .istore 5, 2, 0, [], ""),
  (192, .aload_n 2, 1, 0, [], ""),
  (193, .aload_n 0, 1, 0, [], ""),
  (194, .iload 4, 2, 0, [], ""),
  (196, .iconst 1, 1, 0, [], ""),
  (197, .iadd, 1, 0, [], ""),
  (198, .iaload, 1, 0, [], ""),
  (199, .invokevirtual 44, 3, 1, [117, 2, 1, 5, 1026, 1028, 1027], ""),
  (202, .aload_n 2, 1, 0, [], ""),
  (203, .invokevirtual 37, 3, 1, [115, 1, 1, 5, 1018, 1020, 1019], ""),
  (206, .iload 5, 2, 0, [], ""),
  (208, .if_icmp .eq 5, 3, 0, [108], ""),
  (211, .iconst 0, 1, 0, [], ""),
  (212, .ireturn, 1, 5, [], ""),
  (213, .goto 150, 3, 0, [193], ""),
  (216, .aload_n 1, 1, 0, [], ""),
  (217, .invokevirtual 45, 3, 1, [5, 1, 1, 0, 257, 259, 258], ""),
  (220, .aload_n 2, 1, 0, [], ""),
  (221, .invokevirtual 48, 3, 1, [118, 1, 1, 5, 1030, 1032, 1031], ""),
  (224, .if_icmp .eq 139, 3, 0, [193], ""),
  (227, .iconst 0, 1, 0, [], ""),
  (228, .ireturn, 1, 5, [], ""),
  (229, .aload_n 1, 1, 0, [], ""),
  (230, .invokevirtual 49, 3, 1, [93, 1, 1, 0, 812, 814, 813], ""),
  (233, .aload_n 2, 1, 0, [], ""),
  (234, .invokevirtual 52, 3, 1, [185, 1, 1, 5, 1309, 1311, 1310], ""),
  (237, .if_icmp .eq 126, 3, 0, [193], ""),
  (240, .iconst 0, 1, 0, [], ""),
  (241, .ireturn, 1, 5, [], ""),
  (242, .aload_n 1, 1, 0, [], ""),
  (243, .invokevirtual 53, 3, 1, [94, 1, 1, 0, 816, 818, 817], ""),
  (246, .aload_n 2, 1, 0, [], ""),
  (247, .invokevirtual 56, 3, 1, [186, 1, 1, 5, 1313, 1315, 1314], ""),
  (250, .if_icmp .eq 113, 3, 0, [193], ""),
  (253, .iconst 0, 1, 0, [], ""),
  (254, .ireturn, 1, 5, [], ""),
  (255, .aload_n 1, 1, 0, [], ""),
  (256, .aload_n 0, 1, 0, [], ""),
  (257, .iload 4, 2, 0, [], ""),
  (259, .iconst 1, 1, 0, [], ""),
  (260, .iadd, 1, 0, [], ""),
  (261, .iaload, 1, 0, [], ""),
  (262, .aload_n 3, 1, 0, [], ""),
  (263, .invokestatic 57, 3, 1, [112, 3, 0, 0, 907, 908], ""),
  (266, .istore 5, 2, 0, [], ""),
  (268, .aload_n 2, 1, 0, [], ""),
  (269, .aload_n 0, 1, 0, [], ""),
  (270, .iload 4, 2, 0, [], ""),
  (272, .iconst 1, 1, 0, [], ""),
  (273, .iadd, 1, 0, [], ""),
  (274, .iaload, 1, 0, [], ""),
  (275, .invokevirtual 60, 3, 1, [191, 2, 1, 5, 1333, 1335, 1334], ""),
  (278, .istore 6, 2, 0, [], ""),
  (280, .aload_n 2, 1, 0, [], ""),
  (281, .invokevirtual 37, 3, 1, [115, 1, 1, 5, 1018, 1020, 1019], ""),
  (284, .iload 5, 2, 0, [], ""),
  (286, .if_icmp .eq 5, 3, 0, [153], ""),
  (289, .iconst 0, 1, 0, [], ""),
  (290, .ireturn, 1, 5, [], ""),
  (291, .iload 5, 2, 0, [], ""),
  (293, .ifCond .ne 15, 3, 0, [164], ""),
  (296, .aload_n 3, 1, 0, [], ""),
  (297, .iconst 0, 1, 0, [], ""),
  (298, .laload, 1, 0, [], ""),
  (299, .iload 6, 2, 0, [], ""),
  (301, .i2l, 1, 0, [], ""),
  (302, .lcmp, 1, 0, [], ""),
  (303, .ifCond .eq 5, 3, 0, [164], ""),
  (306, .iconst 0, 1, 0, [], ""),
  (307, .ireturn, 1, 5, [], ""),
  (308, .goto 55, 3, 0, [193], ""),
  (311, .aload_n 1, 1, 0, [], ""),
  (312, .invokevirtual 61, 3, 1, [95, 1, 1, 0, 821, 823, 822], ""),
  (315, .aload_n 2, 1, 0, [], ""),
  (316, .invokevirtual 64, 3, 1, [194, 1, 1, 5, 1345, 1347, 1346], ""),
  (319, .if_icmp .eq 44, 3, 0, [193], ""),
  (322, .iconst 0, 1, 0, [], ""),
  (323, .ireturn, 1, 5, [], ""),
  (324, .aload_n 1, 1, 0, [], ""),
  (325, .invokevirtual 65, 3, 1, [97, 1, 1, 0, 829, 831, 830], ""),
  (328, .aload_n 2, 1, 0, [], ""),
  (329, .invokevirtual 68, 3, 1, [195, 1, 1, 5, 1349, 1351, 1350], ""),
  (332, .if_icmp .eq 31, 3, 0, [193], ""),
  (335, .iconst 0, 1, 0, [], ""),
  (336, .ireturn, 1, 5, [], ""),
  (337, .aload_n 1, 1, 0, [], ""),
  (338, .invokevirtual 69, 3, 1, [103, 1, 1, 0, 853, 855, 854], ""),
  (341, .aload_n 2, 1, 0, [], ""),
  (342, .invokevirtual 72, 3, 1, [198, 1, 1, 5, 1362, 1364, 1363], ""),
  (345, .if_icmp .eq 18, 3, 0, [193], ""),
  (348, .iconst 0, 1, 0, [], ""),
  (349, .ireturn, 1, 5, [], ""),
  (350, .aload_n 1, 1, 0, [], ""),
  (351, .invokevirtual 73, 3, 1, [105, 1, 1, 0, 861, 863, 862], ""),
  (354, .aload_n 2, 1, 0, [], ""),
  (355, .invokevirtual 77, 3, 1, [199, 1, 1, 5, 1366, 1368, 1367], ""),
  (358, .if_icmp .eq 5, 3, 0, [193], ""),
  (361, .iconst 0, 1, 0, [], ""),
  (362, .ireturn, 1, 5, [], ""),
  (363, .iinc 4 6, 3, 0, [], ""),
  (366, .goto (-343), 3, 0, [13], ""),
  (369, .iconst 1, 1, 0, [], ""),
  (370, .ireturn, 1, 5, [], "")])
def qr_ms : List ai_M := [qm_0, qm_1, qm_2, qm_3, qm_4, qm_5, qm_6, qm_7, qm_8, qm_9, qm_10, qm_11, qm_12, qm_13, qm_14, qm_15, qm_16, qm_17, qm_18, qm_19, qm_20, qm_21, qm_22, qm_23, qm_24, qm_25, qm_26, qm_27, qm_28, qm_29, qm_30, qm_31, qm_32, qm_33, qm_34, qm_35, qm_36, qm_37, qm_38, qm_39, qm_40, qm_41, qm_42, qm_43, qm_44, qm_45, qm_46, qm_47, qm_48, qm_49, qm_50, qm_51, qm_52, qm_53, qm_54, qm_55, qm_56, qm_57, qm_58, qm_59, qm_60, qm_61, qm_62, qm_63, qm_64, qm_65, qm_66, qm_67, qm_68, qm_69, qm_70, qm_71, qm_72, qm_73, qm_74, qm_75, qm_76, qm_77, qm_78, qm_79, qm_80, qm_81, qm_82, qm_83, qm_84, qm_85, qm_86, qm_87, qm_88, qm_89, qm_90, qm_91, qm_92, qm_93, qm_94, qm_95, qm_96, qm_97, qm_98, qm_99, qm_100, qm_101, qm_102, qm_103, qm_104, qm_105, qm_106, qm_107, qm_108, qm_109, qm_110, qm_111, qm_112, qm_113, qm_114, qm_115, qm_116, qm_117, qm_118, qm_119, qm_120, qm_121, qm_122, qm_123, qm_124, qm_125, qm_126, qm_127, qm_128, qm_129, qm_130, qm_131, qm_132, qm_133, qm_134, qm_135, qm_136, qm_137, qm_138, qm_139, qm_140, qm_141, qm_142, qm_143, qm_144, qm_145, qm_146, qm_147, qm_148, qm_149, qm_150, qm_151, qm_152, qm_153, qm_154, qm_155, qm_156, qm_157, qm_158, qm_159, qm_160, qm_161, qm_162, qm_163, qm_164, qm_165, qm_166, qm_167, qm_168, qm_169, qm_170, qm_171, qm_172, qm_173, qm_174, qm_175, qm_176, qm_177, qm_178, qm_179, qm_180, qm_181, qm_182, qm_183, qm_184, qm_185, qm_186, qm_187, qm_188, qm_189, qm_190, qm_191, qm_192, qm_193, qm_194, qm_195, qm_196, qm_197, qm_198, qm_199]
def qr_P : Nat → Option ai_M := fun k => qr_ms[k]?
end
section
/-! PRINTED BY wip/whole/start.py: where the words of the start stand. -/
def qr_NL : List Cond := flatC (Jvm.Cond.and given_1 narrow_1)
def qr_nm : List String := ["ABS", "ALL", "AND", "AS", "ASC", "AVG", "BEGIN", "BETWEEN", "BY", "CASCADE", "CASE", "CAST", "CHECK", "COALESCE", "COMMIT", "COMMITTED", "COUNT", "CREATE", "CROSS", "DEFAULT", "DELETE", "DESC", "DISTINCT", "DROP", "ELSE", "END", "EXCLUSIVE", "EXISTS", "FROM", "GROUP", "HAVING", "IN", "INDEX", "INNER", "INSERT", "INT", "INTO", "IS", "JOIN", "KEY", "LEFT", "LENGTH", "LIKE", "LIMIT", "LOCK", "LOWER", "MAX", "MIN", "MODE", "NOT", "NULL", "NULLIF", "OFFSET", "ON", "OR", "ORDER", "OUTER", "PREPARE", "PREPARED", "PRIMARY", "READ", "REFERENCES", "RESTRICT", "ROLLBACK", "SAVEPOINT", "SELECT", "SERIALIZABLE", "SET", "SHARE", "SUBSTR", "SUM", "TABLE", "TEXT", "THEN", "TO", "UNCOMMITTED", "UNIQUE", "UPDATE", "UPPER", "VALUES", "WHEN", "WHERE", "OPEN", "CLOSE", "COMMA", "DOT", "SEMICOLON", "PLUS", "MINUS", "STAR", "SLASH", "PERCENT", "BARS", "EQUAL", "UNEQUAL", "LESS", "AT_MOST", "MORE", "AT_LEAST", "NAME", "NUMBER", "STRING", "FINISH", "WRONG"]
def qn_ex : List Nat := [591, 595, 479, 375, 427, 599, 531, 467, 415, 495, 319, 455, 359, 603, 551, 539, 459, 313, 387, 355, 487, 431, 371, 511, 451, 323, 579, 363, 379, 411, 419, 463, 507, 403, 515, 331, 519, 475, 399, 351, 391, 607, 471, 435, 571, 611, 615, 619, 583, 339, 343, 623, 439, 383, 627, 423, 395, 587, 555, 347, 535, 483, 499, 559, 567, 367, 547, 491, 575, 631, 635, 327, 335, 447, 563, 543, 503, 527, 639, 523, 443, 407, 154, 158, 162, 166, 170, 174, 178, 182, 186, 190, 138, 194, 142, 198, 146, 202, 150, 130, 12, 134, 4, 8]
def qn_or : List Nat := [592, 596, 480, 376, 428, 600, 532, 468, 416, 496, 320, 456, 360, 604, 552, 540, 460, 314, 388, 356, 488, 432, 372, 512, 452, 324, 580, 364, 380, 412, 420, 464, 508, 404, 516, 332, 520, 476, 400, 352, 392, 608, 472, 436, 572, 612, 616, 620, 584, 340, 344, 624, 440, 384, 628, 424, 396, 588, 556, 348, 536, 484, 500, 560, 568, 368, 548, 492, 576, 632, 636, 328, 336, 448, 564, 544, 504, 528, 640, 524, 444, 408, 155, 159, 163, 167, 171, 175, 179, 183, 187, 191, 139, 195, 143, 199, 147, 203, 151, 131, 13, 135, 5, 9]
def qn_mk : List Nat := [594, 598, 482, 378, 430, 602, 534, 470, 418, 498, 322, 458, 362, 606, 554, 542, 462, 316, 390, 358, 490, 434, 374, 514, 454, 326, 582, 366, 382, 414, 422, 466, 510, 406, 518, 334, 522, 478, 402, 354, 394, 610, 474, 438, 574, 614, 618, 622, 586, 342, 346, 626, 442, 386, 630, 426, 398, 590, 558, 350, 538, 486, 502, 562, 570, 370, 550, 494, 578, 634, 638, 330, 338, 450, 566, 546, 506, 530, 642, 526, 446, 410, 157, 161, 165, 169, 173, 177, 181, 185, 189, 193, 141, 197, 145, 201, 149, 205, 153, 133, 15, 137, 7, 11]
def qn_te : List Nat := [593, 597, 481, 377, 429, 601, 533, 469, 417, 497, 321, 457, 361, 605, 553, 541, 461, 315, 389, 357, 489, 433, 373, 513, 453, 325, 581, 365, 381, 413, 421, 465, 509, 405, 517, 333, 521, 477, 401, 353, 393, 609, 473, 437, 573, 613, 617, 621, 585, 341, 345, 625, 441, 385, 629, 425, 397, 589, 557, 349, 537, 485, 501, 561, 569, 369, 549, 493, 577, 633, 637, 329, 337, 449, 565, 545, 505, 529, 641, 525, 445, 409, 156, 160, 164, 168, 172, 176, 180, 184, 188, 192, 140, 196, 144, 200, 148, 204, 152, 132, 14, 136, 6, 10]
def qr_te : List (String × Nat) := [("QueryReader$Sort", 348), ("QueryReader$Sort", 352), ("QueryReader$Sort", 353), ("QueryReader$Sort", 354), ("QueryReader$Sort", 355), ("QueryReader$Sort", 356), ("QueryReader$Sort", 357), ("QueryReader$Sort", 358), ("QueryReader$Sort", 359), ("QueryReader$Sort", 360), ("QueryReader$Sort", 361), ("QueryReader$Sort", 362), ("QueryReader$Sort", 363), ("QueryReader$Sort", 364), ("QueryReader$Sort", 365), ("QueryReader$Sort", 366), ("QueryReader$Sort", 367), ("QueryReader$Sort", 368), ("QueryReader$Sort", 369), ("QueryReader$Sort", 370), ("QueryReader$Sort", 371), ("QueryReader$Sort", 372), ("QueryReader$Sort", 373), ("QueryReader$Sort", 374), ("QueryReader$Sort", 375), ("QueryReader$Sort", 376), ("QueryReader$Sort", 377), ("QueryReader$Sort", 378), ("QueryReader$Sort", 379), ("QueryReader$Sort", 380), ("QueryReader$Sort", 381), ("QueryReader$Sort", 382), ("QueryReader$Sort", 383), ("QueryReader$Sort", 384), ("QueryReader$Sort", 385), ("QueryReader$Sort", 386), ("QueryReader$Sort", 387), ("QueryReader$Sort", 388), ("QueryReader$Sort", 389), ("QueryReader$Sort", 390), ("QueryReader$Sort", 391), ("QueryReader$Sort", 392), ("QueryReader$Sort", 393), ("QueryReader$Sort", 394), ("QueryReader$Sort", 395), ("QueryReader$Sort", 396), ("QueryReader$Sort", 397), ("QueryReader$Sort", 398), ("QueryReader$Sort", 399), ("QueryReader$Sort", 400), ("QueryReader$Sort", 401), ("QueryReader$Sort", 402), ("QueryReader$Sort", 403), ("QueryReader$Sort", 404), ("QueryReader$Sort", 405), ("QueryReader$Sort", 406), ("QueryReader$Sort", 407), ("QueryReader$Sort", 408), ("QueryReader$Sort", 409), ("QueryReader$Sort", 410), ("QueryReader$Sort", 411), ("QueryReader$Sort", 412), ("QueryReader$Sort", 413), ("QueryReader$Sort", 414), ("QueryReader$Sort", 415), ("QueryReader$Sort", 416), ("QueryReader$Sort", 417), ("QueryReader$Sort", 418), ("QueryReader$Sort", 419), ("QueryReader$Sort", 420), ("QueryReader$Sort", 421), ("QueryReader$Sort", 422), ("QueryReader$Sort", 423), ("QueryReader$Sort", 424), ("QueryReader$Sort", 425), ("QueryReader$Sort", 426), ("QueryReader$Sort", 427), ("QueryReader$Sort", 428), ("QueryReader$Sort", 429), ("QueryReader$Sort", 430), ("QueryReader$Sort", 431), ("QueryReader$Sort", 432), ("QueryReader$Sort", 434), ("QueryReader$Sort", 437), ("QueryReader$Sort", 440), ("QueryReader$Sort", 443), ("QueryReader$Sort", 446), ("QueryReader$Sort", 449), ("QueryReader$Sort", 452), ("QueryReader$Sort", 455), ("QueryReader$Sort", 458), ("QueryReader$Sort", 461), ("QueryReader$Sort", 464), ("QueryReader$Sort", 467), ("QueryReader$Sort", 470), ("QueryReader$Sort", 473), ("QueryReader$Sort", 476), ("QueryReader$Sort", 479), ("QueryReader$Sort", 482), ("QueryReader$Sort", 485), ("QueryReader$Sort", 485), ("QueryReader$Sort", 485), ("QueryReader$Sort", 485), ("QueryReader$Sort", 485)]
def qr_rp : List (String × Nat) := [("QueryReader$Grammar", 180), ("QueryReader$Grammar", 172), ("QueryReader$Grammar", 194), ("QueryReader$Grammar", 206), ("QueryReader$Grammar", 487), ("QueryReader$Grammar", 478), ("QueryReader$Grammar", 412), ("QueryReader$Grammar", 516), ("QueryReader$Grammar", 469), ("QueryReader$Grammar", 277), ("QueryReader$Grammar", 342), ("QueryReader$Grammar", 139), ("QueryReader", 47), ("QueryReader", 58), ("QueryReader", 78), ("QueryReaderModel", 9), ("QueryReaderModel", 11), ("QueryReaderModel", 13), ("QueryReaderModel", 15), ("QueryReaderModel", 17), ("QueryReaderModel", 19), ("QueryReaderModel", 21), ("QueryReaderModel", 23), ("QueryReaderModel", 25), ("QueryReaderModel", 27), ("QueryReaderModel", 29), ("QueryReaderModel", 31), ("QueryReaderModel", 33), ("QueryReaderModel", 35), ("QueryReaderModel", 37), ("QueryReaderModel", 39), ("QueryReaderModel", 41), ("QueryReaderModel", 43), ("QueryReaderModel", 45), ("QueryReaderModel", 47), ("QueryReaderModel", 49), ("QueryReaderModel", 51), ("QueryReaderModel", 53), ("QueryReaderModel", 55), ("QueryReaderModel", 57), ("QueryReaderModel", 59), ("QueryReaderModel", 61), ("QueryReaderModel", 63), ("QueryReaderModel", 65), ("QueryReaderModel", 67), ("QueryReaderModel", 69), ("QueryReaderModel", 71), ("QueryReaderModel", 73), ("QueryReaderModel", 75), ("QueryReaderModel", 77), ("QueryReaderModel", 79), ("QueryReaderModel", 81), ("QueryReaderModel", 83), ("QueryReaderModel", 85), ("QueryReaderModel", 87), ("QueryReaderModel", 89), ("QueryReaderModel", 91), ("QueryReaderModel", 93), ("QueryReaderModel", 95), ("QueryReaderModel", 97), ("QueryReaderModel", 99), ("QueryReaderModel", 101), ("QueryReaderModel", 103), ("QueryReaderModel", 105), ("QueryReaderModel", 107), ("QueryReaderModel", 109), ("QueryReaderModel", 111), ("QueryReaderModel", 113), ("QueryReaderModel", 115), ("QueryReaderModel", 117), ("QueryReaderModel", 119), ("QueryReaderModel", 121), ("QueryReaderModel", 123), ("QueryReaderModel", 125), ("QueryReaderModel", 127), ("QueryReaderModel", 129), ("QueryReaderModel", 131), ("QueryReaderModel", 133), ("QueryReaderModel", 135), ("QueryReaderModel", 137), ("QueryReaderModel", 139), ("QueryReaderModel", 143), ("QueryReaderModel", 145), ("QueryReaderModel", 147), ("QueryReaderModel", 149), ("QueryReaderModel", 151), ("QueryReaderModel", 153), ("QueryReaderModel", 155), ("QueryReaderModel", 157), ("QueryReaderModel", 159), ("QueryReaderModel", 161), ("QueryReaderModel", 163), ("QueryReaderModel", 165), ("QueryReaderModel", 167), ("QueryReaderModel", 169), ("QueryReaderModel", 171), ("QueryReaderModel", 343), ("QueryReaderModel", 341), ("QueryReaderModel", 408), ("QueryReaderModel", 297), ("QueryReaderModel", 325), ("QueryReaderModel", 327), ("QueryReaderModel", 329), ("QueryReaderModel", 331), ("QueryReaderModel", 333), ("QueryReaderModel", 335), ("QueryReaderModel", 337), ("QueryReaderModel", 339), ("QueryReaderModel", 345), ("QueryReaderModel", 347), ("QueryReaderModel", 497), ("QueryReader$Sort", 485)]
def qn_sx : List Nat := [680, 713, 734, 760, 788, 812, 817, 831, 858, 863, 885, 901, 927, 955, 989, 1029, 1036, 1043, 1050, 1056, 1063, 1070, 1079, 1090, 1096, 1107, 1115, 1123, 1132, 1144, 1154, 1167, 1176, 1186, 1195, 1206, 1216, 1224, 1236, 1244, 1252, 1259, 1272, 1282, 1290, 1299, 1309, 1315, 1324, 1333, 1343, 1350, 1358, 1364, 1372, 1379, 1387, 1397, 1405, 1414, 1422, 1431, 1438, 1445, 1453, 1460, 1468, 1478, 1488, 1494, 1500, 1509, 1518, 1529, 1541, 1552, 1560, 1574, 1586, 1598, 1611, 1638, 1645, 1654, 1664, 1671, 1680, 1688, 1696, 1702, 1717, 1727, 1737, 1746, 1756, 1764, 1773, 1778, 1795, 1800, 1805, 1810, 1816, 1821, 1827, 1832, 1838, 1844, 1849, 1854, 1859, 1864]
def qn_sc : List Nat := [681, 714, 735, 761, 789, 813, 818, 832, 859, 864, 886, 902, 928, 956, 990, 1030, 1037, 1044, 1051, 1057, 1064, 1071, 1080, 1091, 1097, 1108, 1116, 1124, 1133, 1145, 1155, 1168, 1177, 1187, 1196, 1207, 1217, 1225, 1237, 1245, 1253, 1260, 1273, 1283, 1291, 1300, 1310, 1316, 1325, 1334, 1344, 1351, 1359, 1365, 1373, 1380, 1388, 1398, 1406, 1415, 1423, 1432, 1439, 1446, 1454, 1461, 1469, 1479, 1489, 1495, 1501, 1510, 1519, 1530, 1542, 1553, 1561, 1575, 1587, 1599, 1612, 1639, 1646, 1655, 1665, 1672, 1681, 1689, 1697, 1703, 1718, 1728, 1738, 1747, 1757, 1765, 1774, 1779, 1796, 1801, 1806, 1811, 1817, 1822, 1828, 1833, 1839, 1845, 1850, 1855, 1860, 1865]
def qn_sa : List Nat := [682, 715, 736, 762, 790, 814, 819, 833, 860, 865, 887, 903, 929, 957, 991, 1031, 1038, 1045, 1052, 1058, 1065, 1072, 1081, 1092, 1098, 1109, 1117, 1125, 1134, 1146, 1156, 1169, 1178, 1188, 1197, 1208, 1218, 1226, 1238, 1246, 1254, 1261, 1274, 1284, 1292, 1301, 1311, 1317, 1326, 1335, 1345, 1352, 1360, 1366, 1374, 1381, 1389, 1399, 1407, 1416, 1424, 1433, 1440, 1447, 1455, 1462, 1470, 1480, 1490, 1496, 1502, 1511, 1520, 1531, 1543, 1554, 1562, 1576, 1588, 1600, 1613, 1640, 1647, 1656, 1666, 1673, 1682, 1690, 1698, 1704, 1719, 1729, 1739, 1748, 1758, 1766, 1775, 1780, 1797, 1802, 1807, 1812, 1818, 1823, 1829, 1834, 1840, 1846, 1851, 1856, 1861, 1866]
def qn_sl : List Nat := [683, 716, 737, 763, 791, 815, 820, 834, 861, 866, 888, 904, 930, 958, 992, 1032, 1039, 1046, 1053, 1059, 1066, 1073, 1082, 1093, 1099, 1110, 1118, 1126, 1135, 1147, 1157, 1170, 1179, 1189, 1198, 1209, 1219, 1227, 1239, 1247, 1255, 1262, 1275, 1285, 1293, 1302, 1312, 1318, 1327, 1336, 1346, 1353, 1361, 1367, 1375, 1382, 1390, 1400, 1408, 1417, 1425, 1434, 1441, 1448, 1456, 1463, 1471, 1481, 1491, 1497, 1503, 1512, 1521, 1532, 1544, 1555, 1563, 1577, 1589, 1601, 1614, 1641, 1648, 1657, 1667, 1674, 1683, 1691, 1699, 1705, 1720, 1730, 1740, 1749, 1759, 1767, 1776, 1781, 1798, 1803, 1808, 1813, 1819, 1824, 1830, 1835, 1841, 1847, 1852, 1857, 1862, 1867]
def qn_se : List (List Nat) := [[684, 685, 686, 687, 688, 689, 690, 691, 692, 693, 694, 695, 696, 697, 698, 699, 700, 701, 702, 703, 704, 705, 706, 707, 708, 709, 710, 711, 712], [717, 718, 719, 720, 721, 722, 723, 724, 725, 726, 727, 728, 729, 730, 731, 732, 733], [738, 739, 740, 741, 742, 743, 744, 745, 746, 747, 748, 749, 750, 751, 752, 753, 754, 755, 756, 757, 758, 759], [764, 765, 766, 767, 768, 769, 770, 771, 772, 773, 774, 775, 776, 777, 778, 779, 780, 781, 782, 783, 784, 785, 786, 787], [792, 793, 794, 795, 796, 797, 798, 799, 800, 801, 802, 803, 804, 805, 806, 807, 808, 809, 810, 811], [816], [821, 822, 823, 824, 825, 826, 827, 828, 829, 830], [835, 836, 837, 838, 839, 840, 841, 842, 843, 844, 845, 846, 847, 848, 849, 850, 851, 852, 853, 854, 855, 856, 857], [862], [867, 868, 869, 870, 871, 872, 873, 874, 875, 876, 877, 878, 879, 880, 881, 882, 883, 884], [889, 890, 891, 892, 893, 894, 895, 896, 897, 898, 899, 900], [905, 906, 907, 908, 909, 910, 911, 912, 913, 914, 915, 916, 917, 918, 919, 920, 921, 922, 923, 924, 925, 926], [931, 932, 933, 934, 935, 936, 937, 938, 939, 940, 941, 942, 943, 944, 945, 946, 947, 948, 949, 950, 951, 952, 953, 954], [959, 960, 961, 962, 963, 964, 965, 966, 967, 968, 969, 970, 971, 972, 973, 974, 975, 976, 977, 978, 979, 980, 981, 982, 983, 984, 985, 986, 987, 988], [993, 994, 995, 996, 997, 998, 999, 1000, 1001, 1002, 1003, 1004, 1005, 1006, 1007, 1008, 1009, 1010, 1011, 1012, 1013, 1014, 1015, 1016, 1017, 1018, 1019, 1020, 1021, 1022, 1023, 1024, 1025, 1026, 1027, 1028], [1033, 1034, 1035], [1040, 1041, 1042], [1047, 1048, 1049], [1054, 1055], [1060, 1061, 1062], [1067, 1068, 1069], [1074, 1075, 1076, 1077, 1078], [1083, 1084, 1085, 1086, 1087, 1088, 1089], [1094, 1095], [1100, 1101, 1102, 1103, 1104, 1105, 1106], [1111, 1112, 1113, 1114], [1119, 1120, 1121, 1122], [1127, 1128, 1129, 1130, 1131], [1136, 1137, 1138, 1139, 1140, 1141, 1142, 1143], [1148, 1149, 1150, 1151, 1152, 1153], [1158, 1159, 1160, 1161, 1162, 1163, 1164, 1165, 1166], [1171, 1172, 1173, 1174, 1175], [1180, 1181, 1182, 1183, 1184, 1185], [1190, 1191, 1192, 1193, 1194], [1199, 1200, 1201, 1202, 1203, 1204, 1205], [1210, 1211, 1212, 1213, 1214, 1215], [1220, 1221, 1222, 1223], [1228, 1229, 1230, 1231, 1232, 1233, 1234, 1235], [1240, 1241, 1242, 1243], [1248, 1249, 1250, 1251], [1256, 1257, 1258], [1263, 1264, 1265, 1266, 1267, 1268, 1269, 1270, 1271], [1276, 1277, 1278, 1279, 1280, 1281], [1286, 1287, 1288, 1289], [1294, 1295, 1296, 1297, 1298], [1303, 1304, 1305, 1306, 1307, 1308], [1313, 1314], [1319, 1320, 1321, 1322, 1323], [1328, 1329, 1330, 1331, 1332], [1337, 1338, 1339, 1340, 1341, 1342], [1347, 1348, 1349], [1354, 1355, 1356, 1357], [1362, 1363], [1368, 1369, 1370, 1371], [1376, 1377, 1378], [1383, 1384, 1385, 1386], [1391, 1392, 1393, 1394, 1395, 1396], [1401, 1402, 1403, 1404], [1409, 1410, 1411, 1412, 1413], [1418, 1419, 1420, 1421], [1426, 1427, 1428, 1429, 1430], [1435, 1436, 1437], [1442, 1443, 1444], [1449, 1450, 1451, 1452], [1457, 1458, 1459], [1464, 1465, 1466, 1467], [1472, 1473, 1474, 1475, 1476, 1477], [1482, 1483, 1484, 1485, 1486, 1487], [1492, 1493], [1498, 1499], [1504, 1505, 1506, 1507, 1508], [1513, 1514, 1515, 1516, 1517], [1522, 1523, 1524, 1525, 1526, 1527, 1528], [1533, 1534, 1535, 1536, 1537, 1538, 1539, 1540], [1545, 1546, 1547, 1548, 1549, 1550, 1551], [1556, 1557, 1558, 1559], [1564, 1565, 1566, 1567, 1568, 1569, 1570, 1571, 1572, 1573], [1578, 1579, 1580, 1581, 1582, 1583, 1584, 1585], [1590, 1591, 1592, 1593, 1594, 1595, 1596, 1597], [1602, 1603, 1604, 1605, 1606, 1607, 1608, 1609, 1610], [1615, 1616, 1617, 1618, 1619, 1620], [1642, 1643, 1644], [1649, 1650, 1651, 1652, 1653], [1658, 1659, 1660, 1661, 1662, 1663], [1668, 1669, 1670], [1675, 1676, 1677, 1678, 1679], [1684, 1685, 1686, 1687], [1692, 1693, 1694, 1695], [1700, 1701], [1706, 1707, 1708, 1709, 1710, 1711, 1712, 1713, 1714, 1715, 1716], [1721, 1722, 1723, 1724, 1725, 1726], [1731, 1732, 1733, 1734, 1735, 1736], [1741, 1742, 1743, 1744, 1745], [1750, 1751, 1752, 1753, 1754, 1755], [1760, 1761, 1762, 1763], [1768, 1769, 1770, 1771, 1772], [1777], [1782], [1799], [1804], [1809], [1814, 1815], [1820], [1825, 1826], [1831], [1836, 1837], [1842, 1843], [1848], [1853], [1858], [1863], []]
def qn_dup : List (Nat × Nat) := [(0, 0), (0, 0), (0, 0), (0, 0), (0, 0), (0, 0), (0, 0), (0, 0), (0, 0), (0, 0), (0, 0), (0, 0), (0, 0), (0, 0), (0, 0), (0, 0), (0, 0), (0, 0), (0, 0), (0, 0), (0, 0), (0, 0), (0, 0), (0, 0), (0, 0), (0, 0), (0, 0), (0, 0), (0, 0), (0, 0), (0, 0), (0, 0), (0, 0), (0, 0), (0, 0), (0, 0), (0, 0), (0, 0), (0, 0), (0, 0), (0, 0), (0, 0), (0, 0), (0, 0), (0, 0), (0, 0), (0, 0), (0, 0), (0, 0), (0, 0), (0, 0), (0, 0), (0, 0), (0, 0), (0, 0), (0, 0), (0, 0), (0, 0), (0, 0), (0, 0), (0, 0), (0, 0), (0, 0), (0, 0), (0, 0), (0, 0), (0, 0), (0, 0), (0, 0), (0, 0), (0, 0), (0, 0), (0, 0), (0, 0), (0, 0), (0, 0), (0, 0), (0, 0), (0, 0), (0, 0), (0, 0), (2, 1637), (0, 0), (0, 0), (0, 0), (0, 0), (0, 0), (0, 0), (0, 0), (0, 0), (0, 0), (0, 0), (0, 0), (0, 0), (0, 0), (0, 0), (0, 0), (0, 0), (0, 0), (2, 1788), (2, 1794), (0, 0), (0, 0), (0, 0), (0, 0), (0, 0), (0, 0), (0, 0), (0, 0), (0, 0), (0, 0), (0, 0), (0, 0), (0, 0), (0, 0), (2, 1874), (2, 1881), (2, 1888), (2, 1895), (2, 1901), (2, 1908), (2, 1915), (2, 1921), (2, 1927), (2, 1933), (2, 1939), (2, 1945), (2, 1951), (2, 1957), (2, 1963), (2, 1969), (2, 1975), (2, 1986), (2, 1995), (2, 2003), (2, 2013), (2, 2021), (2, 2030), (2, 2038), (2, 2047), (2, 2059), (2, 2067), (2, 2079), (2, 2089), (2, 2100), (2, 2111), (2, 2124), (2, 2131), (2, 2140), (2, 2147), (2, 2157), (2, 2166), (2, 2176), (2, 2185), (2, 2195), (2, 2205), (2, 2215), (2, 2222), (2, 2233), (2, 2243), (2, 2251), (2, 2260), (2, 2270), (2, 2281), (2, 2290), (2, 2299), (2, 2308), (2, 2317), (2, 2327), (2, 2334), (2, 2346), (2, 2355), (2, 2362), (2, 2370), (2, 2385), (2, 2396), (2, 2404), (2, 2416), (2, 2429), (2, 2440), (2, 2450), (2, 2459), (2, 2470), (2, 2479), (2, 2490), (2, 2501), (2, 2511), (2, 2520), (2, 2534), (2, 2550), (2, 2567), (2, 2579), (2, 2592), (2, 2605), (2, 2612), (2, 2626), (2, 2635), (2, 2645), (2, 2659), (2, 2668), (2, 2680), (2, 2688), (2, 2696), (2, 2704), (2, 2717), (2, 2728), (2, 2738), (2, 2746), (2, 2754), (2, 2765), (2, 2772), (2, 2783), (2, 2791), (2, 2801)]
def qn_so : List Nat := [18, 19, 21, 22, 23, 24, 25, 26, 27, 28, 29, 30, 31, 32, 33, 34, 35, 36, 37, 38, 39, 40, 41, 42, 43, 44, 45, 46, 47, 48, 49, 50, 51, 52, 53, 54, 55, 56, 57, 58, 59, 60, 61, 62, 63, 64, 65, 66, 67, 68, 69, 70, 71, 72, 73, 74, 75, 76, 77, 78, 79, 80, 81, 82, 83, 84, 85, 86, 87, 88, 89, 90, 91, 92, 93, 94, 95, 96, 97, 98, 99, 100, 101, 102, 103, 104, 105, 106, 107, 108, 109, 110, 111, 112, 113, 114, 115, 116, 117, 118, 119, 120, 121, 122, 123, 124]
def qn_sw : List Nat := [207, 208, 209, 210, 211, 212, 213, 214, 215, 216, 217, 218, 219, 220, 221, 222, 223, 224, 225, 226, 227, 228, 229, 230, 231, 232, 233, 234, 235, 236, 237, 238, 239, 240, 241, 242, 243, 244, 245, 246, 247, 248, 249, 250, 251, 252, 253, 254, 255, 256, 257, 258, 259, 260, 261, 262, 263, 264, 265, 266, 267, 268, 269, 270, 271, 272, 273, 274, 275, 276, 277, 278, 279, 280, 281, 282, 283, 284, 285, 286, 287, 288, 289, 290, 291, 292, 293, 294, 295, 296, 297, 298, 299, 300, 301, 302, 303, 304, 305, 306, 307, 308, 309, 310, 311, 312]
def qn_cs : Nat := 125
def qn_si : Nat := 126
def qr_tk : List Nat := [201, 202, 173, 147, 160, 203, 186, 170, 157, 177, 133, 167, 143, 204, 191, 188, 168, 132, 150, 142, 175, 161, 146, 181, 166, 134, 198, 144, 148, 156, 158, 169, 180, 154, 182, 136, 183, 172, 153, 141, 151, 205, 171, 162, 196, 206, 207, 208, 199, 138, 139, 209, 163, 149, 210, 159, 152, 200, 192, 140, 187, 174, 178, 193, 195, 145, 190, 176, 197, 211, 212, 135, 137, 165, 194, 189, 179, 185, 213, 184, 164, 155, 119, 120, 121, 122, 123, 124, 125, 126, 127, 128, 115, 129, 116, 130, 117, 131, 118, 114, 114, 114, 114, 114]
def qn_dl : List Nat := [508, 564, 582, 638, 655, 656, 706, 775, 784, 815, 877, 910, 1001, 1020, 1039, 1055, 1056, 1057, 1058, 1059, 1060, 1061, 1062, 1063, 1064, 1065, 1066, 1067, 1068, 1069, 1070, 1071, 1072, 1073, 1074, 1075, 1076, 1077, 1078, 1079, 1080, 1081, 1082, 1083, 1084, 1085, 1086, 1087, 1088, 1089, 1090, 1091, 1092, 1093, 1094, 1095, 1096, 1097, 1098, 1099, 1100, 1101, 1102, 1103, 1104, 1105, 1106, 1107, 1108, 1109, 1110, 1111, 1112, 1113, 1114, 1115, 1116, 1117, 1118, 1119, 1120, 1121, 1122, 1123, 1124, 1125, 1126, 1127, 1128, 1129, 1130, 1131, 1132, 1133, 1134, 1135, 1136, 1320, 1345, 1350, 1351, 1352, 1389, 1402, 1403, 1404, 1405, 1406, 1407, 1408, 1409, 1410, 1411, 1524, 1594, 1608, 1609, 1610, 1611, 1612, 1613, 1614, 1615, 1616, 1617, 1618, 1619, 1620, 1621, 1622, 1623, 1624, 1625, 1626, 1627, 1628, 1629, 1630, 1631, 1632, 1633, 1634, 1635, 1636, 1637, 1638, 1639, 1640, 1641, 1642, 1643, 1644, 1645, 1646, 1647, 1648, 1649, 1650, 1651, 1652, 1653, 1654, 1655, 1656, 1657, 1658, 1659, 1660, 1661, 1662, 1663, 1664, 1665, 1666, 1667, 1668, 1669, 1670, 1671, 1672, 1673, 1674, 1675, 1676, 1677, 1678, 1679, 1680, 1681, 1682, 1683, 1684, 1685, 1686, 1687, 1688, 1689, 1690, 1691, 1692, 1693, 1694, 1695, 1696, 1697, 1698, 1699, 1700, 1701, 1702, 1703, 1704, 1705, 1706]
def qn_ll : List Nat := [1595, 1596, 808, 690, 738, 1597, 868, 798, 724, 821, 559, 768, 641, 1598, 883, 872, 774, 462, 701, 618, 817, 740, 683, 841, 754, 570, 905, 675, 693, 722, 730, 796, 835, 714, 847, 602, 849, 802, 712, 616, 708, 1599, 800, 742, 901, 1600, 1601, 1602, 907, 610, 612, 1603, 744, 699, 1604, 732, 710, 909, 885, 614, 870, 810, 823, 891, 895, 681, 876, 819, 903, 1605, 1606, 572, 608, 752, 893, 874, 825, 857, 1607, 851, 750, 720, 390, 392, 394, 396, 398, 400, 402, 404, 406, 408, 379, 410, 381, 412, 383, 414, 385, 364, 299, 370, 199, 297]
def qn_ot : List Nat := [128, 123, 143, 139, 141, 131, 311, 454, 324, 340, 494, 496, 180, 1054]
def qn_is : List Nat := [317, 318]
end
section
def qt_E (i : Nat) : Term := .static "QueryReader$Sort" (qr_nm.getD i "") "LQueryReader$Sort;"
def qt_S (q : String × Nat) : Term := .string q.1 q.2
def qt_V (j : Nat) : Term := .field (qt_S (qr_rp.getD j ("", 0))) "java/lang/String" "value" "[B"
def qt_so : Term := .static "QueryReader" "SORTS" "[LQueryReader$Sort;"
def qt_sw : Term := .static "QueryReader$1" "$SwitchMap$QueryReader$Sort" "[I"
/-- the word stands at the place -/
def qn_at (j : Nat) (w : Cond) : Bool := decide (qr_NL[j]? = some w)
theorem qn_ok {args : Array Value} {s : State} (hs : ∀ w ∈ qr_NL, w.before args s = true) {j : Nat} {w : Cond} (h : qn_at j w = true) : w.before args s = true := hs w (List.mem_of_getElem? (of_decide_eq_true h))
def qn_cE (i : Nat) : Bool := qn_at (qn_ex.getD i 0) (.exactly (qt_E i) "QueryReader$Sort") && (qn_at (qn_or.getD i 0) (.eq (.field (qt_E i) "java/lang/Enum" "ordinal" "I") (.int (Int32.ofNat i))) && (qn_at (qn_mk.getD i 0) (.eq (.field (qt_E i) "QueryReader$Sort" "makes" "I") (.int (qr_en.getD i (0, 0)).2)) && (qn_at (qn_te.getD i 0) (.eq (.field (qt_E i) "QueryReader$Sort" "text" "Ljava/lang/String;") (qt_S (qr_te.getD i ("", 0)))) && (match qr_ys[qr_tk.getD i 0]? with
  | some q => decide (q.1 = (qr_te.getD i ("", 0)).1 ∧ q.2.1 = (qr_te.getD i ("", 0)).2 ∧ q.2.2.2 = (qr_en.getD i (0, 0)).1)
  | none => false))))
set_option maxRecDepth 100000 in
theorem qn_E0 : (List.range 104).all qn_cE = true := by decide +kernel
end
section
def qn_tb (j : Nat) (w : Cond) : Bool := decide (lw_tbl[j]? = some w)
theorem qn_tb_in {j : Nat} {w : Cond} (h : qn_tb j w = true) : w ∈ lw_tbl := List.mem_of_getElem? (of_decide_eq_true h)
def qn_cS (j : Nat) : Bool := qn_at (qn_sx.getD j 0) (.exactly (qt_S (qr_rp.getD j ("", 0))) "java/lang/String") && (qn_at (qn_sc.getD j 0) (.eq (.field (qt_S (qr_rp.getD j ("", 0))) "java/lang/String" "coder" "B") (.int 0)) && (qn_at (qn_sa.getD j 0) (.arrayOf (qt_V j) .byte) && (qn_at (qn_sl.getD j 0) (.eq (.length (qt_V j)) (.int (Int32.ofNat (qr_tx.getD j []).length))) && (decide ((qr_tx.getD j []).length < 2 ^ 31) && (List.range (qr_tx.getD j []).length).all (fun k => qn_at ((qn_se.getD j []).getD k 0) (.eq (.elem (qt_V j) (.int (Int32.ofNat k))) (.int ((qr_tx.getD j []).getD k 0))))))))
def qn_cD (k : Nat) : Bool := match qr_ys[k]? with
  | some q => decide (1000 ≤ q.2.2.2 ∧ q.2.2.2 < 1112) && (qn_tb (qn_dl.getD k 0) (Cond.stringRef q.1 q.2.1 q.2.2.1) && (match qn_dup.getD k (0, 0) with
    | (0, _) => decide ((q.1, q.2.1) = qr_rp.getD (q.2.2.2 - 1000) ("", 0))
    | (1, p) => qn_at p (.eq (qt_S (q.1, q.2.1)) (qt_S (qr_rp.getD (q.2.2.2 - 1000) ("", 0))))
    | (_, p) => qn_at p (.eq (qt_S (qr_rp.getD (q.2.2.2 - 1000) ("", 0))) (qt_S (q.1, q.2.1)))))
  | none => true
def qn_cA : Bool := qn_at (qn_so.getD 0 0) (.arrayOf qt_so (.object "QueryReader$Sort")) && (qn_at (qn_so.getD 1 0) (.eq (.length qt_so) (.int (Int32.ofNat 104))) && ((List.range 104).all (fun j => qn_at (qn_so.getD (j + 2) 0) (.eq (.elem qt_so (.int (Int32.ofNat j))) (qt_E j))) && (qn_at (qn_sw.getD 0 0) (.arrayOf qt_sw .int) && (qn_at (qn_sw.getD 1 0) (.eq (.length qt_sw) (.int (Int32.ofNat 104))) && ((List.range 104).all (fun j => qn_at (qn_sw.getD (j + 2) 0) (.eq (.elem qt_sw (.int (Int32.ofNat j))) (.int (qr_sw.getD j 0)))) && (qn_at qn_cs (.eq (.static "java/lang/String" "COMPACT_STRINGS" "Z") (.int 1)) && qn_at qn_si (.isRef (.static "jdk/internal/util/Preconditions" "SIOOBE_FORMATTER" "Ljava/util/function/BiFunction;"))))))))
set_option maxRecDepth 100000 in
theorem qn_A0 : qn_cA = true := by decide +kernel
/-- words of the tables that the start's facts need -/
def qn_ow : List Cond := [Cond.initialized "QueryReader$Sort", .initialized "QueryReader", .initialized "QueryReader$1", .initialized "java/lang/String", .initialized "jdk/internal/util/Preconditions", .initialized Bundle.tN, .laysStatic "QueryReader" "SORTS" "[LQueryReader$Sort;", .laysStatic "QueryReader$1" "$SwitchMap$QueryReader$Sort" "[I", .laysStatic "java/lang/String" "COMPACT_STRINGS" "Z", .laysStatic "jdk/internal/util/Preconditions" "SIOOBE_FORMATTER" "Ljava/util/function/BiFunction;", .laysStatic Bundle.tN "UNASSIGNED_STACK" Bundle.steD, .laysStatic Bundle.tN "SUPPRESSED_SENTINEL" Bundle.listD, .arrayOver (.object "QueryReader$Sort"), .arrayOver (.object "java/lang/String")]
set_option maxRecDepth 100000 in
theorem qn_T1 : (List.range 104).all (fun i => qn_tb (qn_ll.getD i 0) (.laysStatic "QueryReader$Sort" (qr_nm.getD i "") "LQueryReader$Sort;")) = true := by decide +kernel
set_option maxRecDepth 100000 in
theorem qn_T2 : (List.range 14).all (fun i => qn_tb (qn_ot.getD i 0) (qn_ow.getD i .tt)) = true := by decide +kernel
set_option maxRecDepth 100000 in
theorem qn_T3 : (qn_at (qn_is.getD 0 0) (.isRef (.static Bundle.tN "UNASSIGNED_STACK" Bundle.steD)) && qn_at (qn_is.getD 1 0) (.isRef (.static Bundle.tN "SUPPRESSED_SENTINEL" Bundle.listD))) = true := by decide +kernel
end
section
/-! PRINTED BY wip/whole/start.py -/
set_option maxRecDepth 100000 in
theorem qn_S0_0 : (List.range 7).all (fun j => qn_cS (0 + j)) = true := by decide +kernel
set_option maxRecDepth 100000 in
theorem qn_S0_1 : (List.range 7).all (fun j => qn_cS (7 + j)) = true := by decide +kernel
set_option maxRecDepth 100000 in
theorem qn_S0_2 : (List.range 15).all (fun j => qn_cS (14 + j)) = true := by decide +kernel
set_option maxRecDepth 100000 in
theorem qn_S0_3 : (List.range 16).all (fun j => qn_cS (29 + j)) = true := by decide +kernel
set_option maxRecDepth 100000 in
theorem qn_S0_4 : (List.range 19).all (fun j => qn_cS (45 + j)) = true := by decide +kernel
set_option maxRecDepth 100000 in
theorem qn_S0_5 : (List.range 16).all (fun j => qn_cS (64 + j)) = true := by decide +kernel
set_option maxRecDepth 100000 in
theorem qn_S0_6 : (List.range 18).all (fun j => qn_cS (80 + j)) = true := by decide +kernel
set_option maxRecDepth 100000 in
theorem qn_S0_7 : (List.range 14).all (fun j => qn_cS (98 + j)) = true := by decide +kernel
theorem qn_S0 (j : Nat) (hj : j < 112) : qn_cS j = true := by
  by_cases h0 : j < 7
  · have h := List.all_eq_true.mp qn_S0_0 (j - 0) (List.mem_range.mpr (by omega))
    have e : 0 + (j - 0) = j := by omega
    rw [e] at h
    exact h
  by_cases h1 : j < 14
  · have h := List.all_eq_true.mp qn_S0_1 (j - 7) (List.mem_range.mpr (by omega))
    have e : 7 + (j - 7) = j := by omega
    rw [e] at h
    exact h
  by_cases h2 : j < 29
  · have h := List.all_eq_true.mp qn_S0_2 (j - 14) (List.mem_range.mpr (by omega))
    have e : 14 + (j - 14) = j := by omega
    rw [e] at h
    exact h
  by_cases h3 : j < 45
  · have h := List.all_eq_true.mp qn_S0_3 (j - 29) (List.mem_range.mpr (by omega))
    have e : 29 + (j - 29) = j := by omega
    rw [e] at h
    exact h
  by_cases h4 : j < 64
  · have h := List.all_eq_true.mp qn_S0_4 (j - 45) (List.mem_range.mpr (by omega))
    have e : 45 + (j - 45) = j := by omega
    rw [e] at h
    exact h
  by_cases h5 : j < 80
  · have h := List.all_eq_true.mp qn_S0_5 (j - 64) (List.mem_range.mpr (by omega))
    have e : 64 + (j - 64) = j := by omega
    rw [e] at h
    exact h
  by_cases h6 : j < 98
  · have h := List.all_eq_true.mp qn_S0_6 (j - 80) (List.mem_range.mpr (by omega))
    have e : 80 + (j - 80) = j := by omega
    rw [e] at h
    exact h
  by_cases h7 : j < 112
  · have h := List.all_eq_true.mp qn_S0_7 (j - 98) (List.mem_range.mpr (by omega))
    have e : 98 + (j - 98) = j := by omega
    rw [e] at h
    exact h
  omega
set_option maxRecDepth 100000 in
theorem qn_D0_0 : (List.range 36).all (fun j => qn_cD (0 + j)) = true := by decide +kernel
set_option maxRecDepth 100000 in
theorem qn_D0_1 : (List.range 36).all (fun j => qn_cD (36 + j)) = true := by decide +kernel
set_option maxRecDepth 100000 in
theorem qn_D0_2 : (List.range 36).all (fun j => qn_cD (72 + j)) = true := by decide +kernel
set_option maxRecDepth 100000 in
theorem qn_D0_3 : (List.range 36).all (fun j => qn_cD (108 + j)) = true := by decide +kernel
set_option maxRecDepth 100000 in
theorem qn_D0_4 : (List.range 36).all (fun j => qn_cD (144 + j)) = true := by decide +kernel
set_option maxRecDepth 100000 in
theorem qn_D0_5 : (List.range 34).all (fun j => qn_cD (180 + j)) = true := by decide +kernel
theorem qn_D0 (j : Nat) (hj : j < 214) : qn_cD j = true := by
  by_cases h0 : j < 36
  · have h := List.all_eq_true.mp qn_D0_0 (j - 0) (List.mem_range.mpr (by omega))
    have e : 0 + (j - 0) = j := by omega
    rw [e] at h
    exact h
  by_cases h1 : j < 72
  · have h := List.all_eq_true.mp qn_D0_1 (j - 36) (List.mem_range.mpr (by omega))
    have e : 36 + (j - 36) = j := by omega
    rw [e] at h
    exact h
  by_cases h2 : j < 108
  · have h := List.all_eq_true.mp qn_D0_2 (j - 72) (List.mem_range.mpr (by omega))
    have e : 72 + (j - 72) = j := by omega
    rw [e] at h
    exact h
  by_cases h3 : j < 144
  · have h := List.all_eq_true.mp qn_D0_3 (j - 108) (List.mem_range.mpr (by omega))
    have e : 108 + (j - 108) = j := by omega
    rw [e] at h
    exact h
  by_cases h4 : j < 180
  · have h := List.all_eq_true.mp qn_D0_4 (j - 144) (List.mem_range.mpr (by omega))
    have e : 144 + (j - 144) = j := by omega
    rw [e] at h
    exact h
  by_cases h5 : j < 214
  · have h := List.all_eq_true.mp qn_D0_5 (j - 180) (List.mem_range.mpr (by omega))
    have e : 180 + (j - 180) = j := by omega
    rw [e] at h
    exact h
  omega
theorem qr_ys_len : qr_ys.length = 214 := by decide +kernel
end
section
section QST
variable {args : Array Value} {s : State} {A : Nat → Prop}
theorem q_exact {t : Term} {C : String} (h : (Cond.exactly t C).before args s = true) (hA : ∀ a : Nat, a < s.heap.size → ¬ A a) : ∃ a, t.eval args s none [] s = some (.ref a) ∧ va_O C a A s s.heap := by
  obtain ⟨a, c, cell, k, q1, q2, q3, q4, q5, q6, -⟩ := Cond.exactly_spec h
  exact ⟨a, q1, cell, q3, q5, by rw [q6]; exact q2, hA a (Array.getElem?_eq_some_iff.mp q3).1⟩
theorem q_str (hs : ∀ w ∈ qr_NL, w.before args s = true) (hA : ∀ a : Nat, a < s.heap.size → ¬ A a) (j : Nat) : ∃ p : Nat × Nat, j < 112 → (qt_S (qr_rp.getD j ("", 0))).eval args s none [] s = some (.ref p.1) ∧ va_O "java/lang/String" p.1 A s s.heap ∧ va_OF "java/lang/String" "value" "[B" (.ref p.2) p.1 A s s.heap ∧ va_OF "java/lang/String" "coder" "B" (.int 0) p.1 A s s.heap ∧ va_T .byte p.2 (qr_tx.getD j []).length (fun k => .int ((qr_tx.getD j []).getD k 0)) A s s.heap := by
  by_cases hj : j < 112
  · have h := qn_S0 j hj
    simp only [qn_cS, Bool.and_eq_true] at h
    obtain ⟨h1, h2, h3, h4, h5, h6⟩ := h
    obtain ⟨a, e1, e2⟩ := q_exact (qn_ok hs h1) hA
    obtain ⟨b, f1, f2⟩ := va_Tof (A := A) (N := (qr_tx.getD j []).length) (f := fun k => .int ((qr_tx.getD j []).getD k 0)) (of_decide_eq_true h5) (qn_ok hs h3) (va_eqt (qn_ok hs h4)) (fun k hk => va_eqt (qn_ok hs (List.all_eq_true.mp h6 k (List.mem_range.mpr hk)))) hA
    exact ⟨(a, b), fun _ => ⟨e1, e2, vk_OFof e1 f1 hA, vk_OFof e1 (va_eqt (qn_ok hs h2)) hA, f2⟩⟩
  · exact ⟨(0, 0), fun h => absurd h hj⟩
/-- every entry leads to its text's own object -/
theorem q_ent (hs : ∀ w ∈ qr_NL, w.before args s = true) {aS : Nat → Nat} (hS : ∀ j, j < 112 → (qt_S (qr_rp.getD j ("", 0))).eval args s none [] s = some (.ref (aS j))) {q : String × Nat × String × Nat} (hq : q ∈ qr_ys) : 1000 ≤ q.2.2.2 ∧ q.2.2.2 < 1112 ∧ Cond.stringRef q.1 q.2.1 q.2.2.1 ∈ lw_tbl ∧ (Term.string q.1 q.2.1).eval args s none [] s = some (.ref (aS (q.2.2.2 - 1000))) := by
  obtain ⟨k, hk⟩ := List.getElem?_of_mem hq
  have hkl : k < qr_ys.length := (List.getElem?_eq_some_iff.mp hk).1
  have h := qn_D0 k (by rw [← qr_ys_len]; exact hkl)
  simp only [qn_cD, hk, Bool.and_eq_true] at h
  obtain ⟨h1, h2, h3⟩ := h
  obtain ⟨h1, h4⟩ := of_decide_eq_true h1
  refine ⟨h1, h4, qn_tb_in h2, ?_⟩
  have hr := hS (q.2.2.2 - 1000) (by omega)
  split at h3
  · have e := of_decide_eq_true h3
    rw [← e] at hr
    exact hr
  · exact va_eqv (qn_ok hs h3) hr
  · exact va_eqR (qn_ok hs h3) hr
theorem q_enum (hs : ∀ w ∈ qr_NL, w.before args s = true) (hA : ∀ a : Nat, a < s.heap.size → ¬ A a) {aS : Nat → Nat} (hS : ∀ j, j < 112 → (qt_S (qr_rp.getD j ("", 0))).eval args s none [] s = some (.ref (aS j))) (i : Nat) : ∃ a : Nat, i < 104 → (qt_E i).eval args s none [] s = some (.ref a) ∧ va_O "QueryReader$Sort" a A s s.heap ∧ va_OF "java/lang/Enum" "ordinal" "I" (.int (Int32.ofNat i)) a A s s.heap ∧ va_OF "QueryReader$Sort" "makes" "I" (.int (qr_en.getD i (0, 0)).2) a A s s.heap ∧ 1000 ≤ (qr_en.getD i (0, 0)).1 ∧ (qr_en.getD i (0, 0)).1 < 1112 ∧ va_OF "QueryReader$Sort" "text" "Ljava/lang/String;" (.ref (aS ((qr_en.getD i (0, 0)).1 - 1000))) a A s s.heap := by
  by_cases hi : i < 104
  · have h := List.all_eq_true.mp qn_E0 i (List.mem_range.mpr hi)
    simp only [qn_cE, Bool.and_eq_true] at h
    obtain ⟨h1, h2, h3, h4, h5⟩ := h
    obtain ⟨a, e1, e2⟩ := q_exact (qn_ok hs h1) hA
    split at h5
    · rename_i q hq
      obtain ⟨g1, g2, g3⟩ := of_decide_eq_true h5
      obtain ⟨k1, k2, -, k3⟩ := q_ent hs hS (List.mem_of_getElem? hq)
      rw [g1, g2, g3] at k3
      rw [g3] at k1 k2
      refine ⟨a, fun _ => ⟨e1, e2, vk_OFof e1 (va_eqt (qn_ok hs h2)) hA, vk_OFof e1 (va_eqt (qn_ok hs h3)) hA, k1, k2, vk_OFof e1 (va_eqv (qn_ok hs h4) k3) hA⟩⟩
    · cases h5
  · exact ⟨0, fun h => absurd h hi⟩
end QST
end
section
set_option maxRecDepth 100000 in
theorem q_clok : ai_clok qr_TB qr_cl qr_ty := by
  intro ci q hq
  match ci, hq with
  | 0, hq => cases hq; exact ⟨by decide +kernel, by decide +kernel, by decide +kernel⟩
  | 1, hq => cases hq; exact ⟨by decide +kernel, by decide +kernel, by decide +kernel⟩
  | 2, hq => cases hq; exact ⟨by decide +kernel, by decide +kernel, by decide +kernel⟩
  | 3, hq => cases hq; exact ⟨by decide +kernel, by decide +kernel, by decide +kernel⟩
  | 4, hq => cases hq; exact ⟨by decide +kernel, by decide +kernel, by decide +kernel⟩
  | 5, hq => cases hq; exact ⟨by decide +kernel, by decide +kernel, by decide +kernel⟩
  | n + 6, hq => simp [qr_cl] at hq
set_option maxRecDepth 100000 in
theorem q_dok : ai_dok qr_cl qr_ty qr_df := by
  intro ci q hq
  match ci, hq with
  | 0, hq => cases hq; exact ⟨by decide +kernel, by decide +kernel, by decide +kernel⟩
  | 1, hq => cases hq; exact ⟨by decide +kernel, by decide +kernel, by decide +kernel⟩
  | 2, hq => cases hq; exact ⟨by decide +kernel, by decide +kernel, by decide +kernel⟩
  | 3, hq => cases hq; exact ⟨by decide +kernel, by decide +kernel, by decide +kernel⟩
  | 4, hq => cases hq; exact ⟨by decide +kernel, by decide +kernel, by decide +kernel⟩
  | 5, hq => cases hq; exact ⟨by decide +kernel, by decide +kernel, by decide +kernel⟩
  | n + 6, hq => simp [qr_cl] at hq
theorem q_clnm : ∀ ci q, qr_cl[ci]? = some q → q.1 = (qr_zc ci).1 := by
  intro ci q hq
  match ci, hq with
  | 0, hq => cases hq; rfl
  | 1, hq => cases hq; rfl
  | 2, hq => cases hq; rfl
  | 3, hq => cases hq; rfl
  | 4, hq => cases hq; rfl
  | 5, hq => cases hq; rfl
  | n + 6, hq => simp [qr_cl] at hq
/-- which constants are objects -/
theorem q_Zobj {L : Nat} {xs : Nat → Int32} {j ci : Nat} {fs : List Value} (h : qr_Z L xs j = some (ai_obj ci fs)) : (ci = 6 ∧ j < 104 ∧ fs = [.int (Int32.ofNat j), .retAddr (qr_en.getD j (0, 0)).1, .int (qr_en.getD j (0, 0)).2]) ∨ (ci = 7 ∧ 1000 ≤ j ∧ j < 1112 ∧ fs = [.retAddr (j + 1000), .int 0]) := by
  unfold qr_Z at h
  split at h
  · rename_i h0
    simp only [Option.some.injEq, Sum.inr.injEq, Prod.mk.injEq] at h
    exact Or.inl ⟨h.1.symm, h0, h.2.symm⟩
  · split at h
    · rename_i h0
      simp only [Option.some.injEq, Sum.inr.injEq, Prod.mk.injEq] at h
      exact Or.inr ⟨h.1.symm, h0.1, h0.2, h.2.symm⟩
    · split at h
      · cases h
      · split at h
        · cases h
        · split at h
          · cases h
          · split at h
            · cases h
            · cases h
theorem q_OFone {o n d : String} {v v' : Value} {t : Nat} {A : Nat → Prop} {U : State} {H : Heap} (h : va_OF o n d v t A U H) (h' : va_OF o n d v' t A U H) : v = v' := by
  obtain ⟨cf, k, i, f, cell, h1, h2, h3, h4, h5, h6⟩ := h
  obtain ⟨cf', k', i', f', cell', g1, g2, g3, g4, g5, g6⟩ := h'
  rw [h1] at g1
  cases g1
  rw [h3] at g3
  cases g3
  rw [h5] at g5
  exact Option.some.inj g5
theorem q_Tone {ty : FieldType} {t N N' : Nat} {f f' : Nat → Value} {A : Nat → Prop} {U : State} {H : Heap} (hN : N < 2 ^ 31) (hN' : N' < 2 ^ 31) (h : va_T ty t N f A U H) (h' : va_T ty t N' f' A U H) : N = N' ∧ ∀ j, j < N → f j = f' j := by
  obtain ⟨cell, h1, h2, h3, h4, h5, h6, h7⟩ := h
  obtain ⟨cell', g1, g2, g3, g4, g5, g6, g7⟩ := h'
  rw [h1] at g1
  cases g1
  have e : N = N' := by
    have e1 : nI N = nI N' := h5.symm.trans g5
    exact (nI_eq hN hN').mp e1
  subst e
  refine ⟨rfl, fun j hj => ?_⟩
  have a1 := h6 j hj
  rw [g6 j hj] at a1
  exact (Option.some.inj a1).symm
set_option maxRecDepth 100000 in
theorem q_txne : (List.range 112).all (fun j => (List.range j).all (fun i => decide (qr_tx.getD i [] ≠ qr_tx.getD j []))) = true := by decide +kernel
theorem q_txinj {i j : Nat} (hi : i < 112) (hj : j < 112) (h : qr_tx.getD i [] = qr_tx.getD j []) : i = j := by
  rcases Nat.lt_trichotomy i j with q | q | q
  · have := List.all_eq_true.mp (List.all_eq_true.mp q_txne j (List.mem_range.mpr hj)) i (List.mem_range.mpr q)
    exact absurd h (of_decide_eq_true this)
  · exact q
  · have := List.all_eq_true.mp (List.all_eq_true.mp q_txne i (List.mem_range.mpr hi)) j (List.mem_range.mpr q)
    exact absurd h.symm (of_decide_eq_true this)
set_option maxRecDepth 100000 in
theorem q_txlen : (List.range 112).all (fun j => decide ((qr_tx.getD j []).length < 2 ^ 31)) = true := by decide +kernel
set_option maxRecDepth 100000 in
theorem q_yf : qr_yf = (List.range 104).map (fun i => ("QueryReader$Sort", qr_nm.getD i "", "LQueryReader$Sort;", Value.retAddr i)) ++ [("QueryReader", "SORTS", "[LQueryReader$Sort;", .retAddr 3000), ("QueryReader$1", "$SwitchMap$QueryReader$Sort", "[I", .retAddr 3001), ("java/lang/String", "COMPACT_STRINGS", "Z", .int 1), ("jdk/internal/util/Preconditions", "SIOOBE_FORMATTER", "Ljava/util/function/BiFunction;", .float 0)] := by decide +kernel
theorem q_lext {X Y : List Int32} (h : X.length = Y.length) (g : ∀ n, n < X.length → X.getD n 0 = Y.getD n 0) : X = Y := by
  refine List.ext_getElem h (fun n h1 h2 => ?_)
  have h5 := g n h1
  rw [List.getD_eq_getElem?_getD, List.getD_eq_getElem?_getD, List.getElem?_eq_getElem h1, List.getElem?_eq_getElem h2] at h5
  exact h5
/-- where the constants lie -/
def q_sa (aE aS aB : Nat → Nat) (so sw b : Nat) : Nat → Nat := fun k => if k < 104 then aE k else if k < 2000 then aS (k - 1000) else if k < 3000 then aB (k - 2000) else if k = 3000 then so else if k = 3001 then sw else b
section QSU
variable {args : Array Value} {s : State} {A : Nat → Prop}
set_option maxHeartbeats 1000000 in
/-- THE START: the constants stand somewhere, as the tables of the small machine say -/
theorem q_E (hts : ∀ w ∈ lw_tbl, w.before args s = true) (hs : ∀ w ∈ qr_NL, w.before args s = true) (hA : ∀ a : Nat, a < s.heap.size → ¬ A a) {b L : Nat} {xs : Nat → Int32} (hX : va_X b L xs s s.heap) (hL : L < 2 ^ 31) (hb : b < s.heap.size) : ∃ sa : Nat → Nat, sa 3002 = b ∧ ai_E (qr_Y L xs) sa A s s.heap ∧ ∀ i j ci fs fs', qr_Z L xs i = some (ai_obj ci fs) → qr_Z L xs j = some (ai_obj ci fs') → sa i = sa j → i = j := by
  obtain ⟨pS, hS⟩ := Classical.axiomOfChoice (q_str (A := A) hs hA)
  have hS1 : ∀ j, j < 112 → (qt_S (qr_rp.getD j ("", 0))).eval args s none [] s = some (.ref (pS j).1) := fun j hj => (hS j hj).1
  obtain ⟨aE, hE⟩ := Classical.axiomOfChoice (q_enum (A := A) (aS := fun j => (pS j).1) hs hA hS1)
  have hA0 := qn_A0
  simp only [qn_cA, Bool.and_eq_true] at hA0
  obtain ⟨z1, z2, z3, z4, z5, z6, z7, z8⟩ := hA0
  have hO : ∀ i, i < 14 → (qn_ow.getD i .tt).before args s = true := fun i hi => hts _ (qn_tb_in (List.all_eq_true.mp qn_T2 i (List.mem_range.mpr hi)))
  obtain ⟨so, so1, so2⟩ := va_Tof (A := A) (tm := qt_so) (N := 104) (f := fun j => .ref (aE j)) (by decide) (qn_ok hs z1) (va_eqt (qn_ok hs z2)) (fun j hj => va_eqv (qn_ok hs (List.all_eq_true.mp z3 j (List.mem_range.mpr hj))) (hE j hj).1) hA
  obtain ⟨sw, sw1, sw2⟩ := va_Tof (A := A) (tm := qt_sw) (N := 104) (f := fun j => .int (qr_sw.getD j 0)) (by decide) (qn_ok hs z4) (va_eqt (qn_ok hs z5)) (fun j hj => va_eqt (qn_ok hs (List.all_eq_true.mp z6 j (List.mem_range.mpr hj)))) hA
  have sE : ∀ i, i < 104 → q_sa aE (fun j => (pS j).1) (fun j => (pS j).2) so sw b i = aE i := fun i hi => by simp only [q_sa, if_pos hi]
  have sS : ∀ k, 1000 ≤ k → k < 1112 → q_sa aE (fun j => (pS j).1) (fun j => (pS j).2) so sw b k = (pS (k - 1000)).1 := fun k h1 h2 => by
    simp only [q_sa, if_neg (show ¬ k < 104 by omega), if_pos (show k < 2000 by omega)]
  have sB : ∀ k, 2000 ≤ k → k < 2112 → q_sa aE (fun j => (pS j).1) (fun j => (pS j).2) so sw b k = (pS (k - 2000)).2 := fun k h1 h2 => by
    simp only [q_sa, if_neg (show ¬ k < 104 by omega), if_neg (show ¬ k < 2000 by omega), if_pos (show k < 3000 by omega)]
  refine ⟨q_sa aE (fun j => (pS j).1) (fun j => (pS j).2) so sw b, rfl, ⟨?_, ?_, ?_, ?_, ?_, ?_⟩, ?_⟩
  · intro k x hk
    have hk : qr_Z L xs k = some x := hk
    unfold qr_Z at hk
    split at hk
    · rename_i h0
      cases hk
      rw [sE k h0]
      obtain ⟨e1, e2, e3, e4, e5, e6, e7⟩ := hE k h0
      refine ⟨e2, fun n v hn => ?_⟩
      match n, hn with
      | 0, hn => cases hn; exact ⟨_, rfl, e3⟩
      | 1, hn => cases hn; exact ⟨_, rfl, by rw [sS _ e5 e6]; exact e7⟩
      | 2, hn => cases hn; exact ⟨_, rfl, e4⟩
      | n + 3, hn => cases hn
    · split at hk
      · rename_i h0
        cases hk
        rw [sS k h0.1 h0.2]
        obtain ⟨e1, e2, e3, e4, e5⟩ := hS (k - 1000) (by omega)
        refine ⟨e2, fun n v hn => ?_⟩
        match n, hn with
        | 0, hn =>
          cases hn
          refine ⟨_, rfl, ?_⟩
          rw [sB (k + 1000) (by omega) (by omega)]
          have e : k + 1000 - 2000 = k - 1000 := by omega
          rw [e]
          exact e3
        | 1, hn => cases hn; exact ⟨_, rfl, e4⟩
        | n + 2, hn => cases hn
      · split at hk
        · rename_i h0
          cases hk
          rw [sB k h0.1 h0.2]
          exact (hS (k - 2000) (by omega)).2.2.2.2
        · split at hk
          · rename_i h0
            cases hk
            subst h0
            refine ⟨_, so2, fun j hj => ?_⟩
            show Value.ref (aE j) = .ref (q_sa aE (fun j => (pS j).1) (fun j => (pS j).2) so sw b j)
            rw [sE j hj]
          · split at hk
            · rename_i h0
              cases hk
              subst h0
              exact sw2
            · split at hk
              · rename_i h0
                cases hk
                subst h0
                obtain ⟨scr, x1, x2, x3, x4, x5⟩ := hX
                exact ⟨scr, x1, x2, x3, Nat.le_of_eq x4.symm, by rw [x4], x5, hA b hb⟩
              · cases hk
  · intro q hq
    obtain ⟨k1, k2, k3, k4⟩ := q_ent hs hS1 hq
    exact vk_R.of (A := args) (hts _ k3) (by rw [sS _ k1 k2]; exact k4)
  · intro q hq
    have hq : q ∈ qr_yf := hq
    rw [q_yf] at hq
    rcases List.mem_append.mp hq with hq | hq
    · obtain ⟨i, hi, rfl⟩ := List.mem_map.mp hq
      have hi : i < 104 := List.mem_range.mp hi
      refine ⟨.ref (aE i), by show Value.ref (aE i) = .ref _; rw [sE i hi], ?_⟩
      exact va_Zref (hts _ (qn_tb_in (List.all_eq_true.mp qn_T1 i (List.mem_range.mpr hi)))) (hO 0 (by decide)) (hE i hi).1 hA
    · simp only [List.mem_cons, List.not_mem_nil, or_false] at hq
      rcases hq with rfl | rfl | rfl | rfl
      · exact ⟨.ref so, rfl, va_Zref (hO 6 (by decide)) (hO 1 (by decide)) so1 hA⟩
      · exact ⟨.ref sw, rfl, va_Zref (hO 7 (by decide)) (hO 2 (by decide)) sw1 hA⟩
      · exact ⟨.int 1, rfl, va_Zof (hO 8 (by decide)) (hO 3 (by decide)) (va_eqt (qn_ok hs z7)) hA⟩
      · rcases va_Zqof (hO 9 (by decide)) (hO 4 (by decide)) (qn_ok hs z8) hA with h | ⟨t, h⟩
        · exact ⟨.null, Or.inl rfl, h⟩
        · exact ⟨.ref t, Or.inr ⟨t, rfl⟩, h⟩
  · intro w hw
    have h3 := qn_T3
    rw [Bool.and_eq_true] at h3
    have hw : w ∈ qr_yw := hw
    simp only [qr_yw, List.mem_cons, List.not_mem_nil, or_false] at hw
    rcases hw with rfl | rfl | rfl | rfl
    · exact ai_stay_isRef (hO 10 (by decide)) (hO 5 (by decide)) (qn_ok hs h3.1) hA
    · exact ai_stay_isRef (hO 11 (by decide)) (hO 5 (by decide)) (qn_ok hs h3.2) hA
    · exact ai_stay_lays (hO 10 (by decide)) hA
    · exact ai_stay_lays (hO 11 (by decide)) hA
  · exact va_AO.of (A := args) (hO 12 (by decide))
  · exact va_AO.of (A := args) (hO 13 (by decide))
  · intro i j ci fs fs' hi hj he
    rcases q_Zobj hi with ⟨c1, i1, -⟩ | ⟨c1, i1, i2, -⟩
    · rcases q_Zobj hj with ⟨c2, j1, -⟩ | ⟨c2, j1, j2, -⟩
      · rw [sE i i1, sE j j1] at he
        have h1 := (hE i i1).2.2.1
        have h2 := (hE j j1).2.2.1
        rw [he] at h1
        have h3 := q_OFone h1 h2
        have h4 : nI i = nI j := Value.int.inj h3
        exact (nI_eq (by omega) (by omega)).mp h4
      · omega
    · rcases q_Zobj hj with ⟨c2, j1, -⟩ | ⟨c2, j1, j2, -⟩
      · omega
      · rw [sS i i1 i2, sS j j1 j2] at he
        obtain ⟨-, -, e3, -, e5⟩ := hS (i - 1000) (by omega)
        obtain ⟨-, -, f3, -, f5⟩ := hS (j - 1000) (by omega)
        rw [he] at e3
        have h3 := q_OFone e3 f3
        have h4 : (pS (i - 1000)).2 = (pS (j - 1000)).2 := Value.ref.inj h3
        rw [h4] at e5
        have l1 := of_decide_eq_true (List.all_eq_true.mp q_txlen (i - 1000) (List.mem_range.mpr (by omega)))
        have l2 := of_decide_eq_true (List.all_eq_true.mp q_txlen (j - 1000) (List.mem_range.mpr (by omega)))
        obtain ⟨g1, g2⟩ := q_Tone l1 l2 e5 f5
        have g3 : qr_tx.getD (i - 1000) [] = qr_tx.getD (j - 1000) [] := q_lext g1 (fun n hn => Value.int.inj (g2 n hn))
        have := q_txinj (by omega) (by omega) g3
        omega
end QSU
end
section
theorem ai_okM_any {TB : List Cond} {g g' : ai_G} {r : (Nat → String × u_T) × List vw_C × (Nat → Nat → FieldType) × List (String × Nat × String × Nat) × List (String × String × String × Value) × List Cond} {P : Nat → Option ai_M} {M : ai_M} (h : ai_okM TB (g, r) P M) : ai_okM TB (g', r) P M := h
theorem q_okY {L : Nat} {xs : Nat → Int32} {sa : Nat → Nat} (hinj : ∀ i j ci fs fs', qr_Z L xs i = some (ai_obj ci fs) → qr_Z L xs j = some (ai_obj ci fs') → sa i = sa j → i = j) : ai_okY qr_TB (qr_Y L xs) sa := by
  refine ⟨fun w hw => (List.mem_filter.mp hw).2, q_clok, q_dok, rfl, fun _ => rfl, fun j ci fs hj => ?_, hinj, q_clnm⟩
  rcases q_Zobj hj with ⟨c1, -⟩ | ⟨c1, -⟩
  · subst c1; rfl
  · subst c1; rfl
theorem q_same {s t : State} {L : List Loc} {c n c' n' : Nat} (h : s.sameButNew t L c n) (hc : c ≤ c') (hn : n ≤ n') (hL : ∀ z ∈ L, s.heap.size ≤ z.base) : s.sameButNew t [] c' n' := by
  obtain ⟨h1, h2, h3, h4, h5, h6⟩ := h
  refine ⟨h1, h2, Nat.le_trans h3 (Nat.add_le_add_left hc _), h4, Nat.le_trans h5 hn, fun a x hx => ?_⟩
  obtain ⟨c', g1, g2, g3, g4⟩ := h6 a x hx
  refine ⟨c', g1, g2, g3, fun i _ => g4 i (fun hin => ?_)⟩
  have := hL _ hin
  have hlt : a < s.heap.size := (Array.getElem?_eq_some_iff.mp hx).1
  have : s.heap.size ≤ a := this
  exact absurd hlt (Nat.not_lt.mpr this)
set_option maxRecDepth 100000 in
theorem qn_inst1 : (List.range 6).all (fun i => match qr_cl[i]? with
  | some q => decide (tables_1[([24, 32, 112, 38, 52, 926] : List Nat).getD i 0]? = some (Cond.instantiable q.1 q.2.2))
  | none => false) = true := by decide +kernel
theorem qn_inst (i : Nat) (hi : i < 6) : ∀ {q : vw_C}, qr_cl[i]? = some q → Cond.instantiable q.1 q.2.2 ∈ lw_tbl := by
  intro q hq
  have h := List.all_eq_true.mp qn_inst1 i (List.mem_range.mpr hi)
  rw [hq] at h
  exact List.mem_append_right _ (List.mem_of_getElem? (of_decide_eq_true h))
/-- the classes that are made are known -/
theorem q_known {args : Array Value} {s : State} (hts : ∀ w ∈ lw_tbl, w.before args s = true) : ∃ D : va_G, va_K D qr_cl [] s := by
  have hT : ∀ w ∈ qr_TB, w.before args s = true := fun w hw => hts w (List.mem_filter.mp hw).1
  have one : ∀ (ci : Nat), ∃ p : ClassId × (Nat → Nat), ∀ q : vw_C, qr_cl[ci]? = some q → u_Kn s q.1 q.2.1 q.2.2 p.1 p.2 := by
    intro ci
    have mk : ∀ (q : vw_C), qr_cl[ci]? = some q → Cond.instantiable q.1 q.2.2 ∈ lw_tbl → ∃ p : ClassId × (Nat → Nat), ∀ q : vw_C, qr_cl[ci]? = some q → u_Kn s q.1 q.2.1 q.2.2 p.1 p.2 := by
      intro q hq hi
      obtain ⟨cC, iS, h⟩ := u_known (ws := qr_TB) hT ((q_clok ci q hq).1) (hts _ hi)
      refine ⟨(cC, iS), fun q' hq' => ?_⟩
      rw [hq] at hq'
      cases hq'
      exact h
    match ci with
    | 0 => exact mk _ rfl (qn_inst 0 (by decide) rfl)
    | 1 => exact mk _ rfl (qn_inst 1 (by decide) rfl)
    | 2 => exact mk _ rfl (qn_inst 2 (by decide) rfl)
    | 3 => exact mk _ rfl (qn_inst 3 (by decide) rfl)
    | 4 => exact mk _ rfl (qn_inst 4 (by decide) rfl)
    | 5 => exact mk _ rfl (qn_inst 5 (by decide) rfl)
    | n + 6 => exact ⟨(default, fun _ => 0), fun q hq => by simp [qr_cl] at hq⟩
  obtain ⟨f, hf⟩ := Classical.axiomOfChoice one
  exact ⟨(fun c => (f c).1, fun c => (f c).2), fun c q hq => hf c q hq, fun k q hk => by cases hk⟩

theorem ai_run_some {P : Nat → Option ai_M} {G : ai_G} {F d mi : Nat} {As : List Value} {h : ai_H} {out : ai_O} (he : ai_run P G F d mi As h = some out) : ∃ M, P mi = some M := by
  cases d with
  | zero => cases he
  | succ d =>
    simp only [ai_run] at he
    split at he
    · rename_i M' hM'; exact ⟨M', hM'⟩
    · cases he
/-- what the small machine must answer -/
def q_pure : Prop := ∀ (L : Nat) (xs : Nat → Int32), L ≤ 3072 → ∃ (F n : Nat) (h : ai_H), ai_go (qr_G L xs) (ai_run qr_P (qr_G L xs) F 2000) qm_law n 0 (some (.retAddr 3002) :: List.replicate 6 none) [] ([], 0, 0) = some (.inl (some (.int 1)), h) ∧ h.2.1 ≤ 601024 ∧ h.2.2 ≤ 7293034
/-- the tables have been checked -/
def q_checked : Prop := (∀ M ∈ qr_ms, ai_okM qr_TB qr_Y0 qr_P M) ∧ (∀ M ∈ qr_ms, ai_okC qr_TB M) ∧ ai_okM qr_TB qr_Y0 qr_P qm_law
/-! THE CLAIM OUT OF ONE WALK OF THE LAW'S BODY. Your part is whole_start (and what it stands on); all else here is the same for every law, but numbers. -/
def R_law : String := "QueryReaderLaw"
def lw_P (b : Addr) (xs : List Int32) (args : Array Value) (s : State) : Prop := args = #[.ref b] ∧ s.IntsAt b xs ∧ xs.length ≤ 3072 ∧ (Jvm.Cond.and given_1 narrow_1).before args s = true
def lw_Q (_ : Array Value) (s : State) (o : Outcome) (t : State) : Prop := o = .returned (some (.int 1)) ∧ Framed s o t [] 601024 7293034
def lw_Z (below : List Frame) (a : Array Value) (s : State) : State → Prop := fun t => ∃ o, t.status = .running ∧ Ended t below o ∧ lw_Q a s o t
/-- the law's own end, with 1 on the stack, nothing written that was there before, its room as the claim has it -/
theorem lw_ret {p : Program} {l : Launch} {e : Env} {s : State} {m : MethodId} {below : List Frame} {meth : Method} {c : Code} {b : Nat} (hx : p.tables.exec = Jvm.exec) (hb : c.code = code) (hr : meth.sig.returnType = ret) (hlocks : meth.locks = false) {pc : Nat} {H : Heap} {ls : Array Slot} (hdg : decode code pc = .ok (.ireturn, 1)) : W p l e room_1 s m #[Value.ref b] below meth c H [] 601024 7293034 (lw_Z below #[Value.ref b] s) (F0 m pc ls [.int 1]) := by
  intro T hT X
  obtain ⟨fs, hret, hrun, hended, hW, hframe⟩ := X.leave (v := some (.int 1)) (hlocks := hlocks) (fun h => by rw [hr] at h; cases h)
  have hmeth' : T.vm.method? m = some meth := X.method'
  refine ⟨T.setFrames fs, ?_, .returned (some (.int 1)), hrun, hended, rfl, ⟨_, rfl⟩, hW, hframe⟩
  jvm_step X.here [X.here.top, hx, hb, hdg, hmeth', hr, ret, narrow_b1]
  (try refine ⟨rfl, ?_⟩); (try refine ⟨rfl, ?_⟩)
  first | (intro acts; rw [hret _ acts rfl rfl rfl]) | rw [hret _ _ rfl rfl rfl]
  exact Steps.refl _
/-- what holds at the law's entry: the machine, the code, the tables' words (any of lw_tbl by 'hts w (by decide +kernel)'), the script of L ints xs at the cell b, what the Statement gives of the start (any of its parts by flat_of_before) -/
def lw_At (p : Program) (s : State) (m : MethodId) (meth : Method) (c : Code) (b L : Nat) (xs : Nat → Int32) : Prop :=
  p.tables.exec = Jvm.exec ∧ c.code = code ∧ meth.sig.returnType = ret ∧ c.maxLocals = 7 ∧ s.vm.findClass R_law = some m.cls ∧ (∀ w ∈ lw_tbl, w.before #[Value.ref b] s = true) ∧ va_X b L xs s s.heap ∧ b < s.heap.size ∧ meth.locks = false ∧ (Jvm.Cond.and given_1 narrow_1).before #[Value.ref b] s = true

set_option maxHeartbeats 1000000 in
/-- FROM THE SMALL MACHINE TO THE LARGE: the law comes to its end with true -/
theorem q_start (hchk : q_checked) (hpure : q_pure) {p : Program} {e : Env} {s : State} {m : MethodId} {below : List Frame} {meth : Method} {c : Code} (l : Launch) (hl : l.stackTraces = false) {b L : Nat} {xs : Nat → Int32} (hL : L ≤ 3072) (C0 : lw_At p s m meth c b L xs) (hnm : meth.name = "law") (htab : c.exceptionTable.toList.map (fun h => (h.startPc, h.endPc, h.handlerPc, h.catchType)) = []) : W p l e room_1 s m #[Value.ref b] below meth c s.heap [] 0 0 (lw_Z below #[Value.ref b] s) (entryFrame m ([Value.ref b] : List Value).toArray 7) := by
  obtain ⟨hx, hb, hr, hml, hown, hts, hX, hbl, hlocks, hgv⟩ := C0
  obtain ⟨F, n, h, hgo, hc1, hc2⟩ := hpure L xs hL
  obtain ⟨k1, k2, k3⟩ := hchk
  have hs : ∀ w ∈ qr_NL, w.before #[Value.ref b] s = true := flat_of_before _ hgv
  have hA : ∀ a : Nat, a < s.heap.size → ¬ (s.heap.size ≤ a) := fun a h1 h2 => by omega
  obtain ⟨sa, hsa, hE, hinj⟩ := q_E (A := fun q => s.heap.size ≤ q) hts hs hA hX (by omega) hbl
  have hY := q_okY hinj
  obtain ⟨D, hK⟩ := q_known hts
  have hT : ∀ w ∈ qr_TB, w.before #[Value.ref b] s = true := fun w hw => hts w (List.mem_filter.mp hw).1
  have hP : ∀ mi M, qr_P mi = some M → ai_okM qr_TB (qr_Y L xs) qr_P M := fun mi M hM => ai_okM_any (k1 M (List.mem_of_getElem? hM))
  have hPC : ∀ mi M, qr_P mi = some M → ai_okC qr_TB M := fun mi M hM => k2 M (List.mem_of_getElem? hM)
  have hrun := ai_run_ok (F := F) (D := D) hl hY hP hPC
  have K := ai_go_ok (p := p) (l := l) (e := e) (R := room_1) (below := below) (D := D) (A := fun q => s.heap.size ≤ q) (ad0 := []) (kc := 0) (ks := 0) (d := 2000) (out := (.inl (some (.int 1)), h)) (rec := ai_run qr_P (qr_G L xs) F 2000) (M := qm_law) (y := qr_Y L xs) hY (ai_okM_any k3) hx hb hT hown (fun q hq => hq) hE hlocks hnm hr htab hl (by decide) (by decide) hPC
    (fun mi As h' out' hr' => by
      obtain ⟨M', hM'⟩ := ai_run_some hr'
      exact ⟨M', hM', hrun 2000 mi M' As h' out' hM' hr'⟩)
    (fun mi As h' out' hr' => ai_run_le _ _ _ _ _ hr') (by rw [Nat.zero_add]; exact hc1) (by rw [Nat.zero_add]; exact hc2) n 0 _ _ _ hgo
  have hpc0 : ai_pcs qm_law 0 = 0 := rfl
  rw [hpc0] at K
  have hvs : ai_vs sa [] [Value.retAddr 3002] [Value.ref b] := ⟨by show Value.ref b = .ref (sa 3002); rw [hsa], trivial⟩
  have hent : ai_l sa [] (([Value.retAddr 3002] : List Value).map some ++ List.replicate (7 - ([Value.retAddr 3002] : List Value).length) none) c.maxLocals ((lg_sl [Value.ref b] ++ List.replicate (7 - (lg_sl [Value.ref b]).length) Slot.unset).toArray) := by
    rw [hml]
    exact ai_l_entry hvs rfl
  have K2 := K [] [] [] s.heap [] 0 0 _ [] ⟨⟨[], rfl⟩, rfl, rfl, ⟨rfl, rfl, fun i x hi => by cases hi⟩, hK, fun k q hk => (by cases hk), ⟨fun i j p q hp => (by cases hp), fun k q hk => (by cases hk)⟩, va_S.rf⟩ hent trivial
  intro T hT0 X
  obtain ⟨t, a1, o, b1, b2, b3⟩ := K2 T hT0 X
  refine ⟨t, ?_, o, b1, b2, ?_⟩
  · rw [lg_entry_eq]
    exact a1
  · obtain ⟨ad, tys, ws, Ls, -, -, -, -, -, -, hend, hLs, hres⟩ := b3
    obtain ⟨V, ho, hV⟩ := hres
    have hV : V = .int 1 := hV
    subst hV
    refine ⟨ho, ⟨_, ho⟩, hend.1, q_same hend.2 ?_ ?_ hLs⟩
    · exact hc1
    · exact hc2
end
section
set_option maxHeartbeats 4000000 in
theorem lw_walk (hchk : q_checked) (hpure : q_pure) (l : Launch) (hl : l.stackTraces = false) (b : Addr) (xs : List Int32) : MetFree l x (headSpec (Jvm.Cond.code x code maxLocals ret :: tables_1) room_1) (lw_P b xs) (fun _ _ _ _ _ => True) lw_Q := by
  refine MetFree.of_bodyS (code := code) (maxLocals := maxLocals) (ret := ret) (by decide) ?_ ?_
  · intro args s m h hn
    obtain ⟨meth, c, h1, h2, h3, h4, h5, h6, -, -⟩ := Cond.code_spec hn (atoms_spec (ws := Jvm.Cond.code x code maxLocals ret :: tables_1) h _ List.mem_cons_self)
    exact ⟨meth, c, h1, h2, h3, h4, h5, h6⟩
  · intro p e s m args below meth c s₁ B hml0 hP _
    obtain ⟨rfl, hx, hbd, hgv⟩ := hP
    obtain ⟨scr, harrAt, hlist, hof, hsmall⟩ := hx
    obtain ⟨hcb, hkn, -, -⟩ := State.arrayAt?_spec harrAt
    have hown : s.vm.findClass R_law = some m.cls := findClass_of_methodNamed B.named
    have hts0 : ∀ c ∈ (Jvm.Cond.code x code maxLocals ret :: tables_1), c.before #[Value.ref b] s = true := atoms_spec (ws := Jvm.Cond.code x code maxLocals ret :: tables_1) B.pre
    have hts : ∀ w ∈ lw_tbl, w.before #[Value.ref b] s = true := k2_hts_sels lw_privs (fun w hw => hts0 w (List.mem_cons_of_mem _ hw)) lw_privs_ok
    have hml : c.maxLocals = 7 := B.maxLocals_eq (hts0 _ List.mem_cons_self)
    have htab : c.exceptionTable.toList.map (fun h => (h.startPc, h.endPc, h.handlerPc, h.catchType)) = [] := by
      obtain ⟨m9, meth9, c9, g0, g1, g2, g3, g4, g5, g6, g7, -⟩ := ai_cd_of (hh := []) (show (ai_cw x code maxLocals ret []).before #[Value.ref b] s = true from hts0 _ List.mem_cons_self)
      cases B.named.symm.trans g0
      cases B.method.symm.trans g1
      cases (Stand.of_body (l := l) B).code.symm.trans g2
      exact g5
    have X₀ : Stand p l e room_1 s m #[Value.ref b] below meth c s₁ [] 0 0 := Stand.of_body B
    have hh0 : s₁.heap = s.heap := by rw [B.state]; rfl
    have hsz : scr.slots.size = xs.length := by rw [← Array.length_toList, hlist, List.length_map]
    have hval : ∀ j : Nat, j < xs.length → scr.slots[j]? = some (.int (xs.getD j 0)) := fun j hj => by
      rw [← Array.getElem?_toList, hlist]
      simp [hj]
    have hbl : b < s.heap.size := (Array.getElem?_eq_some_iff.mp hcb).1
    have hX : va_X b xs.length (fun j => xs.getD j 0) s s.heap := ⟨scr, hcb, hof, hkn, hsz, hval⟩
    have K : W p l e room_1 s m #[Value.ref b] below meth c s₁.heap [] 0 0 (lw_Z below #[Value.ref b] s) (entryFrame m ([Value.ref b] : List Value).toArray 7) := by
      rw [hh0]
      exact q_start hchk hpure l hl hbd ⟨B.exec, B.bytes, B.returns, hml, hown, hts, hX, hbl, B.notSynchronized, hgv⟩ (name_of_methodNamed B.named B.method).1 htab
    obtain ⟨t, a1, o, b1, b2, b3⟩ := K s₁ rfl X₀
    exact ⟨t, o, a1, b1, b2, b3⟩
theorem lw_pre_spec {args : Array Value} {s : State} (h : (Jvm.Cond.and given_1 narrow_1).before args s = true) (hr : rest_1_c.before args s = true) : ∃ (b : Addr) (xs : List Int32), lw_P b xs args s := by
  have hs := flat_of_before _ h
  have hq := flat_of_before _ hr
  have hc : (Cond.count 1).before args s = true := hs _ (by decide +kernel)
  have harr : (Cond.arrayOf (.arg 0) .int).before args s = true := hs _ (by decide +kernel)
  have hle : (Cond.le (.length (.arg 0)) (.int 3072)).before args s = true := hs _ (by decide +kernel)
  have hlen : (Cond.isInt (.length (.arg 0))).before args s = true := hq _ (by decide +kernel)
  have hall : (Cond.all (.arg 0) (.isInt (.elem (.arg 0) (.index 0)))).before args s = true := hq _ (by decide +kernel)
  obtain ⟨b, xs, hb, hx⟩ := State.ints_of_pre rfl harr hlen hall
  have hsm : xs.length < 2 ^ 31 := hx.choose_spec.2.2.2
  have hev : (Term.length (.arg 0)).eval args s none [] s = some (.int xs.length.toInt32) := hx.length_eval hb
  have hv := Cond.le_ints hev (show (Term.int 3072).eval args s none [] s = some (.int 3072) from rfl)
  have hd : xs.length.toInt32 ≤ 3072 := by
    simpa [Cond.before, Cond.holds, hv] using hle
  have hN : xs.length ≤ 3072 := (Int32.ofNat_le_ofNat hsm (by decide)).mp (show Int32.ofNat xs.length ≤ Int32.ofNat 3072 from hd)
  exact ⟨b, xs, Cond.one_arg hc (show args[0]? = some (.ref b) from hb), hx, hN, h⟩
theorem lw_comes (hchk : q_checked) (hpure : q_pure) (l : Launch) (hl : l.stackTraces = false) : Comes l x (Jvm.Cond.code x code maxLocals ret :: tables_1) room_1 (fun tb e args s => Calls_1 tb e args s ∧ rest_1 tb e args s ∧ Pre_1 tb e args s)
    (fun _ _ args s o t => lw_Q args s o t) := by
  intro p e ha hc hk s m args below hf hfit hheap happ hpre
  obtain ⟨b, xs, hP⟩ := lw_pre_spec hpre.2.2 hpre.2.1
  obtain ⟨k, o, h1, h2, h3, hQ⟩ := lw_walk hchk hpure l hl b xs p e ha hc hk s m args below hf ((Spec.applies_iff_loose hf).mp happ).1 hP trivial
  exact ⟨k, o, h1, h2, h3, hQ⟩
theorem lw_frame {s t : State} {o : Outcome} {args : Array Value} (h : Framed s o t [] 601024 7293034) :
    Framed s o t (fieldLocs frame_1_writes args s ++ arrayLocs frame_1_arrays args s ++ staticLocs frame_1_statics s) 601024 7293034 := h
theorem lw_limb (hchk : q_checked) (hpure : q_pure) (L : Cond) (hL : ∀ (args : Array Value) (s t : State), L.after args s (.returned (some (.int 1))) t = true) :
    ArmFor flags0 classFile x code maxLocals ret World_1 tables_1 room_1 Calls_1 rest_1 Pre_1
      (fun tb e a s o t => postC L tb e a s o t ∧ Framed s o t (fieldLocs frame_1_writes a s ++ arrayLocs frame_1_arrays a s ++ staticLocs frame_1_statics s) 601024 7293034) := by
  intro l hfl _ _ p e ha hc hk s m args below hf hfit hheap happ hpre
  obtain ⟨k, o, h1, h2, h3, rfl, hF⟩ := lw_comes hchk hpure l (by unfold Launch.stackTraces; rw [hfl]; decide +kernel) p e ha hc hk s m args below hf hfit hheap happ hpre
  exact ⟨k, _, h1, h2, h3, hL args s _, lw_frame hF⟩
theorem q_end (hchk : q_checked) (hpure : q_pure) : Claimed_1_1 ∧ Claimed_1_2 := ⟨lw_limb hchk hpure limb_1_1 (fun args s t => by simp [limb_1_1, Cond.after, Cond.holds, Cond.value]), lw_limb hchk hpure limb_1_2 (fun args s t => Cond.after_iff.mpr (by
  first | (rw [show limb_1_2 = Cond.eq .result (.int 1) from rfl, Cond.eq_ints (x := 1) (y := 1) rfl rfl]; simp; done) | (simp [limb_1_2, Cond.value, Term.eval]; done)))⟩
end
section
/-! PRINTED BY wip/whole/print.py: checks of the methods' tables. -/
set_option maxRecDepth 100000 in
theorem qo_0 : ai_okM qr_TB qr_Y0 qr_P qm_0 := ⟨by decide +kernel, by decide +kernel, by decide +kernel, by decide +kernel, plainFor_of_name (by decide +kernel), rfl⟩
set_option maxRecDepth 100000 in
theorem qk_0 : ai_okC qr_TB qm_0 := ⟨List.mem_of_getElem? (i := 149) (by decide +kernel), List.mem_of_getElem? (i := 123) (by decide +kernel), by decide, by decide +kernel, by decide +kernel⟩
set_option maxRecDepth 100000 in
theorem qo_1 : ai_okM qr_TB qr_Y0 qr_P qm_1 := ⟨by decide +kernel, by decide +kernel, by decide +kernel, by decide +kernel, plainFor_of_name (by decide +kernel), rfl⟩
set_option maxRecDepth 100000 in
theorem qk_1 : ai_okC qr_TB qm_1 := ⟨List.mem_of_getElem? (i := 157) (by decide +kernel), List.mem_of_getElem? (i := 124) (by decide +kernel), by decide, by decide +kernel, by decide +kernel⟩
set_option maxRecDepth 100000 in
theorem qo_2 : ai_okM qr_TB qr_Y0 qr_P qm_2 := ⟨by decide +kernel, by decide +kernel, by decide +kernel, by decide +kernel, plainFor_of_name (by decide +kernel), rfl⟩
set_option maxRecDepth 100000 in
theorem qk_2 : ai_okC qr_TB qm_2 := ⟨List.mem_of_getElem? (i := 163) (by decide +kernel), List.mem_of_getElem? (i := 125) (by decide +kernel), by decide, by decide +kernel, by decide +kernel⟩
set_option maxRecDepth 100000 in
theorem qo_3 : ai_okM qr_TB qr_Y0 qr_P qm_3 := ⟨by decide +kernel, by decide +kernel, by decide +kernel, by decide +kernel, plainFor_of_name (by decide +kernel), rfl⟩
set_option maxRecDepth 100000 in
theorem qk_3 : ai_okC qr_TB qm_3 := ⟨List.mem_of_getElem? (i := 177) (by decide +kernel), List.mem_of_getElem? (i := 126) (by decide +kernel), by decide, by decide +kernel, by decide +kernel⟩
set_option maxRecDepth 100000 in
theorem qo_4 : ai_okM qr_TB qr_Y0 qr_P qm_4 := ⟨by decide +kernel, by decide +kernel, by decide +kernel, by decide +kernel, plainFor_of_name (by decide +kernel), rfl⟩
set_option maxRecDepth 100000 in
theorem qk_4 : ai_okC qr_TB qm_4 := ⟨List.mem_of_getElem? (i := 235) (by decide +kernel), List.mem_of_getElem? (i := 129) (by decide +kernel), by decide, by decide +kernel, by decide +kernel⟩
set_option maxRecDepth 100000 in
theorem qo_5 : ai_okM qr_TB qr_Y0 qr_P qm_5 := ⟨by decide +kernel, by decide +kernel, by decide +kernel, by decide +kernel, plainFor_of_name (by decide +kernel), rfl⟩
set_option maxRecDepth 100000 in
theorem qk_5 : ai_okC qr_TB qm_5 := ⟨List.mem_of_getElem? (i := 260) (by decide +kernel), List.mem_of_getElem? (i := 123) (by decide +kernel), by decide, by decide +kernel, by decide +kernel⟩
set_option maxRecDepth 100000 in
theorem qo_6 : ai_okM qr_TB qr_Y0 qr_P qm_6 := ⟨by decide +kernel, by decide +kernel, by decide +kernel, by decide +kernel, plainFor_of_name (by decide +kernel), rfl⟩
set_option maxRecDepth 100000 in
theorem qk_6 : ai_okC qr_TB qm_6 := ⟨List.mem_of_getElem? (i := 265) (by decide +kernel), List.mem_of_getElem? (i := 124) (by decide +kernel), by decide, by decide +kernel, by decide +kernel⟩
set_option maxRecDepth 100000 in
theorem qo_7 : ai_okM qr_TB qr_Y0 qr_P qm_7 := ⟨by decide +kernel, by decide +kernel, by decide +kernel, by decide +kernel, plainFor_of_name (by decide +kernel), rfl⟩
set_option maxRecDepth 100000 in
theorem qk_7 : ai_okC qr_TB qm_7 := ⟨List.mem_of_getElem? (i := 269) (by decide +kernel), List.mem_of_getElem? (i := 126) (by decide +kernel), by decide, by decide +kernel, by decide +kernel⟩
set_option maxRecDepth 100000 in
theorem qo_8 : ai_okM qr_TB qr_Y0 qr_P qm_8 := ⟨by decide +kernel, by decide +kernel, by decide +kernel, by decide +kernel, plainFor_of_name (by decide +kernel), rfl⟩
set_option maxRecDepth 100000 in
theorem qk_8 : ai_okC qr_TB qm_8 := ⟨List.mem_of_getElem? (i := 273) (by decide +kernel), List.mem_of_getElem? (i := 126) (by decide +kernel), by decide, by decide +kernel, by decide +kernel⟩
set_option maxRecDepth 100000 in
theorem qo_9 : ai_okM qr_TB qr_Y0 qr_P qm_9 := ⟨by decide +kernel, by decide +kernel, by decide +kernel, by decide +kernel, plainFor_of_name (by decide +kernel), rfl⟩
set_option maxRecDepth 100000 in
theorem qk_9 : ai_okC qr_TB qm_9 := ⟨List.mem_of_getElem? (i := 277) (by decide +kernel), List.mem_of_getElem? (i := 125) (by decide +kernel), by decide, by decide +kernel, by decide +kernel⟩
set_option maxRecDepth 100000 in
theorem qo_10 : ai_okM qr_TB qr_Y0 qr_P qm_10 := ⟨by decide +kernel, by decide +kernel, by decide +kernel, by decide +kernel, plainFor_of_name (by decide +kernel), rfl⟩
set_option maxRecDepth 100000 in
theorem qk_10 : ai_okC qr_TB qm_10 := ⟨List.mem_of_getElem? (i := 281) (by decide +kernel), List.mem_of_getElem? (i := 125) (by decide +kernel), by decide, by decide +kernel, by decide +kernel⟩
set_option maxRecDepth 100000 in
theorem qo_11 : ai_okM qr_TB qr_Y0 qr_P qm_11 := ⟨by decide +kernel, by decide +kernel, by decide +kernel, by decide +kernel, plainFor_of_name (by decide +kernel), rfl⟩
set_option maxRecDepth 100000 in
theorem qk_11 : ai_okC qr_TB qm_11 := ⟨List.mem_of_getElem? (i := 285) (by decide +kernel), List.mem_of_getElem? (i := 126) (by decide +kernel), by decide, by decide +kernel, by decide +kernel⟩
set_option maxRecDepth 100000 in
theorem qo_12 : ai_okM qr_TB qr_Y0 qr_P qm_12 := ⟨by decide +kernel, by decide +kernel, by decide +kernel, by decide +kernel, plainFor_of_name (by decide +kernel), rfl⟩
set_option maxRecDepth 100000 in
theorem qk_12 : ai_okC qr_TB qm_12 := ⟨List.mem_of_getElem? (i := 289) (by decide +kernel), List.mem_of_getElem? (i := 126) (by decide +kernel), by decide, by decide +kernel, by decide +kernel⟩
set_option maxRecDepth 100000 in
theorem qo_13 : ai_okM qr_TB qr_Y0 qr_P qm_13 := ⟨by decide +kernel, by decide +kernel, by decide +kernel, by decide +kernel, plainFor_of_name (by decide +kernel), rfl⟩
set_option maxRecDepth 100000 in
theorem qk_13 : ai_okC qr_TB qm_13 := ⟨List.mem_of_getElem? (i := 293) (by decide +kernel), List.mem_of_getElem? (i := 126) (by decide +kernel), by decide, by decide +kernel, by decide +kernel⟩
set_option maxRecDepth 100000 in
theorem qo_14 : ai_okM qr_TB qr_Y0 qr_P qm_14 := ⟨by decide +kernel, by decide +kernel, by decide +kernel, by decide +kernel, plainFor_of_name (by decide +kernel), rfl⟩
set_option maxRecDepth 100000 in
theorem qk_14 : ai_okC qr_TB qm_14 := ⟨List.mem_of_getElem? (i := 298) (by decide +kernel), List.mem_of_getElem? (i := 126) (by decide +kernel), by decide, by decide +kernel, by decide +kernel⟩
set_option maxRecDepth 100000 in
theorem qo_15 : ai_okM qr_TB qr_Y0 qr_P qm_15 := ⟨by decide +kernel, by decide +kernel, by decide +kernel, by decide +kernel, plainFor_of_name (by decide +kernel), rfl⟩
set_option maxRecDepth 100000 in
theorem qk_15 : ai_okC qr_TB qm_15 := ⟨List.mem_of_getElem? (i := 302) (by decide +kernel), List.mem_of_getElem? (i := 126) (by decide +kernel), by decide, by decide +kernel, by decide +kernel⟩
set_option maxRecDepth 100000 in
theorem qo_16 : ai_okM qr_TB qr_Y0 qr_P qm_16 := ⟨by decide +kernel, by decide +kernel, by decide +kernel, by decide +kernel, plainFor_of_name (by decide +kernel), rfl⟩
set_option maxRecDepth 100000 in
theorem qk_16 : ai_okC qr_TB qm_16 := ⟨List.mem_of_getElem? (i := 305) (by decide +kernel), List.mem_of_getElem? (i := 126) (by decide +kernel), by decide, by decide +kernel, by decide +kernel⟩
set_option maxRecDepth 100000 in
theorem qo_17 : ai_okM qr_TB qr_Y0 qr_P qm_17 := ⟨by decide +kernel, by decide +kernel, by decide +kernel, by decide +kernel, plainFor_of_name (by decide +kernel), rfl⟩
set_option maxRecDepth 100000 in
theorem qk_17 : ai_okC qr_TB qm_17 := ⟨List.mem_of_getElem? (i := 309) (by decide +kernel), List.mem_of_getElem? (i := 126) (by decide +kernel), by decide, by decide +kernel, by decide +kernel⟩
set_option maxRecDepth 100000 in
theorem qo_18 : ai_okM qr_TB qr_Y0 qr_P qm_18 := ⟨by decide +kernel, by decide +kernel, by decide +kernel, by decide +kernel, plainFor_of_name (by decide +kernel), rfl⟩
set_option maxRecDepth 100000 in
theorem qk_18 : ai_okC qr_TB qm_18 := ⟨List.mem_of_getElem? (i := 313) (by decide +kernel), List.mem_of_getElem? (i := 139) (by decide +kernel), by decide, by decide +kernel, by decide +kernel⟩
set_option maxRecDepth 100000 in
theorem qo_19 : ai_okM qr_TB qr_Y0 qr_P qm_19 := ⟨by decide +kernel, by decide +kernel, by decide +kernel, by decide +kernel, plainFor_of_name (by decide +kernel), rfl⟩
set_option maxRecDepth 100000 in
theorem qk_19 : ai_okC qr_TB qm_19 := ⟨List.mem_of_getElem? (i := 317) (by decide +kernel), List.mem_of_getElem? (i := 139) (by decide +kernel), by decide, by decide +kernel, by decide +kernel⟩
set_option maxRecDepth 100000 in
theorem qo_20 : ai_okM qr_TB qr_Y0 qr_P qm_20 := ⟨by decide +kernel, by decide +kernel, by decide +kernel, by decide +kernel, plainFor_of_name (by decide +kernel), rfl⟩
set_option maxRecDepth 100000 in
theorem qk_20 : ai_okC qr_TB qm_20 := ⟨List.mem_of_getElem? (i := 322) (by decide +kernel), List.mem_of_getElem? (i := 139) (by decide +kernel), by decide, by decide +kernel, by decide +kernel⟩
set_option maxRecDepth 100000 in
theorem qo_21 : ai_okM qr_TB qr_Y0 qr_P qm_21 := ⟨by decide +kernel, by decide +kernel, by decide +kernel, by decide +kernel, plainFor_of_name (by decide +kernel), rfl⟩
set_option maxRecDepth 100000 in
theorem qk_21 : ai_okC qr_TB qm_21 := ⟨List.mem_of_getElem? (i := 326) (by decide +kernel), List.mem_of_getElem? (i := 139) (by decide +kernel), by decide, by decide +kernel, by decide +kernel⟩
set_option maxRecDepth 100000 in
theorem qo_22 : ai_okM qr_TB qr_Y0 qr_P qm_22 := ⟨by decide +kernel, by decide +kernel, by decide +kernel, by decide +kernel, plainFor_of_name (by decide +kernel), rfl⟩
set_option maxRecDepth 100000 in
theorem qk_22 : ai_okC qr_TB qm_22 := ⟨List.mem_of_getElem? (i := 329) (by decide +kernel), List.mem_of_getElem? (i := 140) (by decide +kernel), by decide, by decide +kernel, by decide +kernel⟩
set_option maxRecDepth 100000 in
theorem qo_23 : ai_okM qr_TB qr_Y0 qr_P qm_23 := ⟨by decide +kernel, by decide +kernel, by decide +kernel, by decide +kernel, plainFor_of_name (by decide +kernel), rfl⟩
set_option maxRecDepth 100000 in
theorem qk_23 : ai_okC qr_TB qm_23 := ⟨List.mem_of_getElem? (i := 332) (by decide +kernel), List.mem_of_getElem? (i := 139) (by decide +kernel), by decide, by decide +kernel, by decide +kernel⟩
set_option maxRecDepth 100000 in
theorem qo_24 : ai_okM qr_TB qr_Y0 qr_P qm_24 := ⟨by decide +kernel, by decide +kernel, by decide +kernel, by decide +kernel, plainFor_of_name (by decide +kernel), rfl⟩
set_option maxRecDepth 100000 in
theorem qk_24 : ai_okC qr_TB qm_24 := ⟨List.mem_of_getElem? (i := 336) (by decide +kernel), List.mem_of_getElem? (i := 141) (by decide +kernel), by decide, by decide +kernel, by decide +kernel⟩
end
section
/-! PRINTED BY wip/whole/print.py: checks of the methods' tables. -/
set_option maxRecDepth 100000 in
theorem qo_25 : ai_okM qr_TB qr_Y0 qr_P qm_25 := ⟨by decide +kernel, by decide +kernel, by decide +kernel, by decide +kernel, plainFor_of_name (by decide +kernel), rfl⟩
set_option maxRecDepth 100000 in
theorem qk_25 : ai_okC qr_TB qm_25 := ⟨List.mem_of_getElem? (i := 357) (by decide +kernel), List.mem_of_getElem? (i := 126) (by decide +kernel), by decide, by decide +kernel, by decide +kernel⟩
set_option maxRecDepth 100000 in
theorem qo_26 : ai_okM qr_TB qr_Y0 qr_P qm_26 := ⟨by decide +kernel, by decide +kernel, by decide +kernel, by decide +kernel, plainFor_of_name (by decide +kernel), rfl⟩
set_option maxRecDepth 100000 in
theorem qk_26 : ai_okC qr_TB qm_26 := ⟨List.mem_of_getElem? (i := 362) (by decide +kernel), List.mem_of_getElem? (i := 126) (by decide +kernel), by decide, by decide +kernel, by decide +kernel⟩
set_option maxRecDepth 100000 in
theorem qo_27 : ai_okM qr_TB qr_Y0 qr_P qm_27 := ⟨by decide +kernel, by decide +kernel, by decide +kernel, by decide +kernel, plainFor_of_name (by decide +kernel), rfl⟩
set_option maxRecDepth 100000 in
theorem qk_27 : ai_okC qr_TB qm_27 := ⟨List.mem_of_getElem? (i := 365) (by decide +kernel), List.mem_of_getElem? (i := 126) (by decide +kernel), by decide, by decide +kernel, by decide +kernel⟩
set_option maxRecDepth 100000 in
theorem qo_28 : ai_okM qr_TB qr_Y0 qr_P qm_28 := ⟨by decide +kernel, by decide +kernel, by decide +kernel, by decide +kernel, plainFor_of_name (by decide +kernel), rfl⟩
set_option maxRecDepth 100000 in
theorem qk_28 : ai_okC qr_TB qm_28 := ⟨List.mem_of_getElem? (i := 372) (by decide +kernel), List.mem_of_getElem? (i := 126) (by decide +kernel), by decide, by decide +kernel, by decide +kernel⟩
set_option maxRecDepth 100000 in
theorem qo_29 : ai_okM qr_TB qr_Y0 qr_P qm_29 := ⟨by decide +kernel, by decide +kernel, by decide +kernel, by decide +kernel, plainFor_of_name (by decide +kernel), rfl⟩
set_option maxRecDepth 100000 in
theorem qk_29 : ai_okC qr_TB qm_29 := ⟨List.mem_of_getElem? (i := 389) (by decide +kernel), List.mem_of_getElem? (i := 126) (by decide +kernel), by decide, by decide +kernel, by decide +kernel⟩
set_option maxRecDepth 100000 in
theorem qo_30 : ai_okM qr_TB qr_Y0 qr_P qm_30 := ⟨by decide +kernel, by decide +kernel, by decide +kernel, by decide +kernel, plainFor_of_name (by decide +kernel), rfl⟩
set_option maxRecDepth 100000 in
theorem qk_30 : ai_okC qr_TB qm_30 := ⟨List.mem_of_getElem? (i := 394) (by decide +kernel), List.mem_of_getElem? (i := 126) (by decide +kernel), by decide, by decide +kernel, by decide +kernel⟩
set_option maxRecDepth 100000 in
theorem qo_31 : ai_okM qr_TB qr_Y0 qr_P qm_31 := ⟨by decide +kernel, by decide +kernel, by decide +kernel, by decide +kernel, plainFor_of_name (by decide +kernel), rfl⟩
set_option maxRecDepth 100000 in
theorem qk_31 : ai_okC qr_TB qm_31 := ⟨List.mem_of_getElem? (i := 400) (by decide +kernel), List.mem_of_getElem? (i := 135) (by decide +kernel), by decide, by decide +kernel, by decide +kernel⟩
set_option maxRecDepth 100000 in
theorem qo_32 : ai_okM qr_TB qr_Y0 qr_P qm_32 := ⟨by decide +kernel, by decide +kernel, by decide +kernel, by decide +kernel, by decide +kernel, rfl⟩
set_option maxRecDepth 100000 in
theorem qk_32 : ai_okC qr_TB qm_32 := ⟨List.mem_of_getElem? (i := 410) (by decide +kernel), List.mem_of_getElem? (i := 136) (by decide +kernel), by decide, by decide +kernel, by decide +kernel⟩
set_option maxRecDepth 100000 in
theorem qo_33 : ai_okM qr_TB qr_Y0 qr_P qm_33 := ⟨by decide +kernel, by decide +kernel, by decide +kernel, by decide +kernel, plainFor_of_name (by decide +kernel), rfl⟩
set_option maxRecDepth 100000 in
theorem qk_33 : ai_okC qr_TB qm_33 := ⟨List.mem_of_getElem? (i := 415) (by decide +kernel), List.mem_of_getElem? (i := 126) (by decide +kernel), by decide, by decide +kernel, by decide +kernel⟩
set_option maxRecDepth 100000 in
theorem qo_34 : ai_okM qr_TB qr_Y0 qr_P qm_34 := ⟨by decide +kernel, by decide +kernel, by decide +kernel, by decide +kernel, plainFor_of_name (by decide +kernel), rfl⟩
set_option maxRecDepth 100000 in
theorem qk_34 : ai_okC qr_TB qm_34 := ⟨List.mem_of_getElem? (i := 419) (by decide +kernel), List.mem_of_getElem? (i := 125) (by decide +kernel), by decide, by decide +kernel, by decide +kernel⟩
set_option maxRecDepth 100000 in
theorem qo_35 : ai_okM qr_TB qr_Y0 qr_P qm_35 := ⟨by decide +kernel, by decide +kernel, by decide +kernel, by decide +kernel, plainFor_of_name (by decide +kernel), rfl⟩
set_option maxRecDepth 100000 in
theorem qk_35 : ai_okC qr_TB qm_35 := ⟨List.mem_of_getElem? (i := 423) (by decide +kernel), List.mem_of_getElem? (i := 124) (by decide +kernel), by decide, by decide +kernel, by decide +kernel⟩
set_option maxRecDepth 100000 in
theorem qo_36 : ai_okM qr_TB qr_Y0 qr_P qm_36 := ⟨by decide +kernel, by decide +kernel, by decide +kernel, by decide +kernel, plainFor_of_name (by decide +kernel), rfl⟩
set_option maxRecDepth 100000 in
theorem qk_36 : ai_okC qr_TB qm_36 := ⟨List.mem_of_getElem? (i := 430) (by decide +kernel), List.mem_of_getElem? (i := 127) (by decide +kernel), by decide, by decide +kernel, by decide +kernel⟩
set_option maxRecDepth 100000 in
theorem qo_37 : ai_okM qr_TB qr_Y0 qr_P qm_37 := ⟨by decide +kernel, by decide +kernel, by decide +kernel, by decide +kernel, plainFor_of_name (by decide +kernel), rfl⟩
set_option maxRecDepth 100000 in
theorem qk_37 : ai_okC qr_TB qm_37 := ⟨List.mem_of_getElem? (i := 435) (by decide +kernel), List.mem_of_getElem? (i := 124) (by decide +kernel), by decide, by decide +kernel, by decide +kernel⟩
set_option maxRecDepth 100000 in
theorem qo_38 : ai_okM qr_TB qr_Y0 qr_P qm_38 := ⟨by decide +kernel, by decide +kernel, by decide +kernel, by decide +kernel, plainFor_of_name (by decide +kernel), rfl⟩
set_option maxRecDepth 100000 in
theorem qk_38 : ai_okC qr_TB qm_38 := ⟨List.mem_of_getElem? (i := 503) (by decide +kernel), List.mem_of_getElem? (i := 125) (by decide +kernel), by decide, by decide +kernel, by decide +kernel⟩
set_option maxRecDepth 100000 in
theorem qo_39 : ai_okM qr_TB qr_Y0 qr_P qm_39 := ⟨by decide +kernel, by decide +kernel, by decide +kernel, by decide +kernel, plainFor_of_name (by decide +kernel), rfl⟩
set_option maxRecDepth 100000 in
theorem qk_39 : ai_okC qr_TB qm_39 := ⟨List.mem_of_getElem? (i := 509) (by decide +kernel), List.mem_of_getElem? (i := 125) (by decide +kernel), by decide, by decide +kernel, by decide +kernel⟩
set_option maxRecDepth 100000 in
theorem qo_40 : ai_okM qr_TB qr_Y0 qr_P qm_40 := ⟨by decide +kernel, by decide +kernel, by decide +kernel, by decide +kernel, plainFor_of_name (by decide +kernel), rfl⟩
set_option maxRecDepth 100000 in
theorem qk_40 : ai_okC qr_TB qm_40 := ⟨List.mem_of_getElem? (i := 513) (by decide +kernel), List.mem_of_getElem? (i := 135) (by decide +kernel), by decide, by decide +kernel, by decide +kernel⟩
set_option maxRecDepth 100000 in
theorem qo_41 : ai_okM qr_TB qr_Y0 qr_P qm_41 := ⟨by decide +kernel, by decide +kernel, by decide +kernel, by decide +kernel, plainFor_of_name (by decide +kernel), rfl⟩
set_option maxRecDepth 100000 in
theorem qk_41 : ai_okC qr_TB qm_41 := ⟨List.mem_of_getElem? (i := 522) (by decide +kernel), List.mem_of_getElem? (i := 124) (by decide +kernel), by decide, by decide +kernel, by decide +kernel⟩
set_option maxRecDepth 100000 in
theorem qo_42 : ai_okM qr_TB qr_Y0 qr_P qm_42 := ⟨by decide +kernel, by decide +kernel, by decide +kernel, by decide +kernel, plainFor_of_name (by decide +kernel), rfl⟩
set_option maxRecDepth 100000 in
theorem qk_42 : ai_okC qr_TB qm_42 := ⟨List.mem_of_getElem? (i := 528) (by decide +kernel), List.mem_of_getElem? (i := 124) (by decide +kernel), by decide, by decide +kernel, by decide +kernel⟩
set_option maxRecDepth 100000 in
theorem qo_43 : ai_okM qr_TB qr_Y0 qr_P qm_43 := ⟨by decide +kernel, by decide +kernel, by decide +kernel, by decide +kernel, by decide +kernel, rfl⟩
set_option maxRecDepth 100000 in
theorem qk_43 : ai_okC qr_TB qm_43 := ⟨List.mem_of_getElem? (i := 531) (by decide +kernel), List.mem_of_getElem? (i := 136) (by decide +kernel), by decide, by decide +kernel, by decide +kernel⟩
set_option maxRecDepth 100000 in
theorem qo_44 : ai_okM qr_TB qr_Y0 qr_P qm_44 := ⟨by decide +kernel, by decide +kernel, by decide +kernel, by decide +kernel, plainFor_of_name (by decide +kernel), rfl⟩
set_option maxRecDepth 100000 in
theorem qk_44 : ai_okC qr_TB qm_44 := ⟨List.mem_of_getElem? (i := 538) (by decide +kernel), List.mem_of_getElem? (i := 124) (by decide +kernel), by decide, by decide +kernel, by decide +kernel⟩
set_option maxRecDepth 100000 in
theorem qo_45 : ai_okM qr_TB qr_Y0 qr_P qm_45 := ⟨by decide +kernel, by decide +kernel, by decide +kernel, by decide +kernel, plainFor_of_name (by decide +kernel), rfl⟩
set_option maxRecDepth 100000 in
theorem qk_45 : ai_okC qr_TB qm_45 := ⟨List.mem_of_getElem? (i := 542) (by decide +kernel), List.mem_of_getElem? (i := 124) (by decide +kernel), by decide, by decide +kernel, by decide +kernel⟩
set_option maxRecDepth 100000 in
theorem qo_46 : ai_okM qr_TB qr_Y0 qr_P qm_46 := ⟨by decide +kernel, by decide +kernel, by decide +kernel, by decide +kernel, plainFor_of_name (by decide +kernel), rfl⟩
set_option maxRecDepth 100000 in
theorem qk_46 : ai_okC qr_TB qm_46 := ⟨List.mem_of_getElem? (i := 547) (by decide +kernel), List.mem_of_getElem? (i := 126) (by decide +kernel), by decide, by decide +kernel, by decide +kernel⟩
set_option maxRecDepth 100000 in
theorem qo_47 : ai_okM qr_TB qr_Y0 qr_P qm_47 := ⟨by decide +kernel, by decide +kernel, by decide +kernel, by decide +kernel, plainFor_of_name (by decide +kernel), rfl⟩
set_option maxRecDepth 100000 in
theorem qk_47 : ai_okC qr_TB qm_47 := ⟨List.mem_of_getElem? (i := 551) (by decide +kernel), List.mem_of_getElem? (i := 126) (by decide +kernel), by decide, by decide +kernel, by decide +kernel⟩
set_option maxRecDepth 100000 in
theorem qo_48 : ai_okM qr_TB qr_Y0 qr_P qm_48 := ⟨by decide +kernel, by decide +kernel, by decide +kernel, by decide +kernel, plainFor_of_name (by decide +kernel), rfl⟩
set_option maxRecDepth 100000 in
theorem qk_48 : ai_okC qr_TB qm_48 := ⟨List.mem_of_getElem? (i := 555) (by decide +kernel), List.mem_of_getElem? (i := 125) (by decide +kernel), by decide, by decide +kernel, by decide +kernel⟩
set_option maxRecDepth 100000 in
theorem qo_49 : ai_okM qr_TB qr_Y0 qr_P qm_49 := ⟨by decide +kernel, by decide +kernel, by decide +kernel, by decide +kernel, plainFor_of_name (by decide +kernel), rfl⟩
set_option maxRecDepth 100000 in
theorem qk_49 : ai_okC qr_TB qm_49 := ⟨List.mem_of_getElem? (i := 561) (by decide +kernel), List.mem_of_getElem? (i := 124) (by decide +kernel), by decide, by decide +kernel, by decide +kernel⟩
end
section
/-! PRINTED BY wip/whole/print.py: checks of the methods' tables. -/
set_option maxRecDepth 100000 in
theorem qo_50 : ai_okM qr_TB qr_Y0 qr_P qm_50 := ⟨by decide +kernel, by decide +kernel, by decide +kernel, by decide +kernel, plainFor_of_name (by decide +kernel), rfl⟩
set_option maxRecDepth 100000 in
theorem qk_50 : ai_okC qr_TB qm_50 := ⟨List.mem_of_getElem? (i := 566) (by decide +kernel), List.mem_of_getElem? (i := 124) (by decide +kernel), by decide, by decide +kernel, by decide +kernel⟩
set_option maxRecDepth 100000 in
theorem qo_51 : ai_okM qr_TB qr_Y0 qr_P qm_51 := ⟨by decide +kernel, by decide +kernel, by decide +kernel, by decide +kernel, plainFor_of_name (by decide +kernel), rfl⟩
set_option maxRecDepth 100000 in
theorem qk_51 : ai_okC qr_TB qm_51 := ⟨List.mem_of_getElem? (i := 576) (by decide +kernel), List.mem_of_getElem? (i := 124) (by decide +kernel), by decide, by decide +kernel, by decide +kernel⟩
set_option maxRecDepth 100000 in
theorem qo_52 : ai_okM qr_TB qr_Y0 qr_P qm_52 := ⟨by decide +kernel, by decide +kernel, by decide +kernel, by decide +kernel, plainFor_of_name (by decide +kernel), rfl⟩
set_option maxRecDepth 100000 in
theorem qk_52 : ai_okC qr_TB qm_52 := ⟨List.mem_of_getElem? (i := 581) (by decide +kernel), List.mem_of_getElem? (i := 124) (by decide +kernel), by decide, by decide +kernel, by decide +kernel⟩
set_option maxRecDepth 100000 in
theorem qo_53 : ai_okM qr_TB qr_Y0 qr_P qm_53 := ⟨by decide +kernel, by decide +kernel, by decide +kernel, by decide +kernel, plainFor_of_name (by decide +kernel), rfl⟩
set_option maxRecDepth 100000 in
theorem qk_53 : ai_okC qr_TB qm_53 := ⟨List.mem_of_getElem? (i := 585) (by decide +kernel), List.mem_of_getElem? (i := 125) (by decide +kernel), by decide, by decide +kernel, by decide +kernel⟩
set_option maxRecDepth 100000 in
theorem qo_54 : ai_okM qr_TB qr_Y0 qr_P qm_54 := ⟨by decide +kernel, by decide +kernel, by decide +kernel, by decide +kernel, plainFor_of_name (by decide +kernel), rfl⟩
set_option maxRecDepth 100000 in
theorem qk_54 : ai_okC qr_TB qm_54 := ⟨List.mem_of_getElem? (i := 590) (by decide +kernel), List.mem_of_getElem? (i := 124) (by decide +kernel), by decide, by decide +kernel, by decide +kernel⟩
set_option maxRecDepth 100000 in
theorem qo_55 : ai_okM qr_TB qr_Y0 qr_P qm_55 := ⟨by decide +kernel, by decide +kernel, by decide +kernel, by decide +kernel, plainFor_of_name (by decide +kernel), rfl⟩
set_option maxRecDepth 100000 in
theorem qk_55 : ai_okC qr_TB qm_55 := ⟨List.mem_of_getElem? (i := 597) (by decide +kernel), List.mem_of_getElem? (i := 124) (by decide +kernel), by decide, by decide +kernel, by decide +kernel⟩
set_option maxRecDepth 100000 in
theorem qo_56 : ai_okM qr_TB qr_Y0 qr_P qm_56 := ⟨by decide +kernel, by decide +kernel, by decide +kernel, by decide +kernel, plainFor_of_name (by decide +kernel), rfl⟩
set_option maxRecDepth 100000 in
theorem qk_56 : ai_okC qr_TB qm_56 := ⟨List.mem_of_getElem? (i := 601) (by decide +kernel), List.mem_of_getElem? (i := 124) (by decide +kernel), by decide, by decide +kernel, by decide +kernel⟩
set_option maxRecDepth 100000 in
theorem qo_57 : ai_okM qr_TB qr_Y0 qr_P qm_57 := ⟨by decide +kernel, by decide +kernel, by decide +kernel, by decide +kernel, plainFor_of_name (by decide +kernel), rfl⟩
set_option maxRecDepth 100000 in
theorem qk_57 : ai_okC qr_TB qm_57 := ⟨List.mem_of_getElem? (i := 606) (by decide +kernel), List.mem_of_getElem? (i := 124) (by decide +kernel), by decide, by decide +kernel, by decide +kernel⟩
set_option maxRecDepth 100000 in
theorem qo_58 : ai_okM qr_TB qr_Y0 qr_P qm_58 := ⟨by decide +kernel, by decide +kernel, by decide +kernel, by decide +kernel, plainFor_of_name (by decide +kernel), rfl⟩
set_option maxRecDepth 100000 in
theorem qk_58 : ai_okC qr_TB qm_58 := ⟨List.mem_of_getElem? (i := 610) (by decide +kernel), List.mem_of_getElem? (i := 124) (by decide +kernel), by decide, by decide +kernel, by decide +kernel⟩
set_option maxRecDepth 100000 in
theorem qo_59 : ai_okM qr_TB qr_Y0 qr_P qm_59 := ⟨by decide +kernel, by decide +kernel, by decide +kernel, by decide +kernel, plainFor_of_name (by decide +kernel), rfl⟩
set_option maxRecDepth 100000 in
theorem qk_59 : ai_okC qr_TB qm_59 := ⟨List.mem_of_getElem? (i := 614) (by decide +kernel), List.mem_of_getElem? (i := 124) (by decide +kernel), by decide, by decide +kernel, by decide +kernel⟩
set_option maxRecDepth 100000 in
theorem qo_60 : ai_okM qr_TB qr_Y0 qr_P qm_60 := ⟨by decide +kernel, by decide +kernel, by decide +kernel, by decide +kernel, plainFor_of_name (by decide +kernel), rfl⟩
set_option maxRecDepth 100000 in
theorem qk_60 : ai_okC qr_TB qm_60 := ⟨List.mem_of_getElem? (i := 618) (by decide +kernel), List.mem_of_getElem? (i := 124) (by decide +kernel), by decide, by decide +kernel, by decide +kernel⟩
set_option maxRecDepth 100000 in
theorem qo_61 : ai_okM qr_TB qr_Y0 qr_P qm_61 := ⟨by decide +kernel, by decide +kernel, by decide +kernel, by decide +kernel, plainFor_of_name (by decide +kernel), rfl⟩
set_option maxRecDepth 100000 in
theorem qk_61 : ai_okC qr_TB qm_61 := ⟨List.mem_of_getElem? (i := 623) (by decide +kernel), List.mem_of_getElem? (i := 124) (by decide +kernel), by decide, by decide +kernel, by decide +kernel⟩
set_option maxRecDepth 100000 in
theorem qo_62 : ai_okM qr_TB qr_Y0 qr_P qm_62 := ⟨by decide +kernel, by decide +kernel, by decide +kernel, by decide +kernel, plainFor_of_name (by decide +kernel), rfl⟩
set_option maxRecDepth 100000 in
theorem qk_62 : ai_okC qr_TB qm_62 := ⟨List.mem_of_getElem? (i := 628) (by decide +kernel), List.mem_of_getElem? (i := 124) (by decide +kernel), by decide, by decide +kernel, by decide +kernel⟩
set_option maxRecDepth 100000 in
theorem qo_63 : ai_okM qr_TB qr_Y0 qr_P qm_63 := ⟨by decide +kernel, by decide +kernel, by decide +kernel, by decide +kernel, plainFor_of_name (by decide +kernel), rfl⟩
set_option maxRecDepth 100000 in
theorem qk_63 : ai_okC qr_TB qm_63 := ⟨List.mem_of_getElem? (i := 635) (by decide +kernel), List.mem_of_getElem? (i := 124) (by decide +kernel), by decide, by decide +kernel, by decide +kernel⟩
set_option maxRecDepth 100000 in
theorem qo_64 : ai_okM qr_TB qr_Y0 qr_P qm_64 := ⟨by decide +kernel, by decide +kernel, by decide +kernel, by decide +kernel, plainFor_of_name (by decide +kernel), rfl⟩
set_option maxRecDepth 100000 in
theorem qk_64 : ai_okC qr_TB qm_64 := ⟨List.mem_of_getElem? (i := 642) (by decide +kernel), List.mem_of_getElem? (i := 124) (by decide +kernel), by decide, by decide +kernel, by decide +kernel⟩
set_option maxRecDepth 100000 in
theorem qo_65 : ai_okM qr_TB qr_Y0 qr_P qm_65 := ⟨by decide +kernel, by decide +kernel, by decide +kernel, by decide +kernel, plainFor_of_name (by decide +kernel), rfl⟩
set_option maxRecDepth 100000 in
theorem qk_65 : ai_okC qr_TB qm_65 := ⟨List.mem_of_getElem? (i := 648) (by decide +kernel), List.mem_of_getElem? (i := 124) (by decide +kernel), by decide, by decide +kernel, by decide +kernel⟩
set_option maxRecDepth 100000 in
theorem qo_66 : ai_okM qr_TB qr_Y0 qr_P qm_66 := ⟨by decide +kernel, by decide +kernel, by decide +kernel, by decide +kernel, plainFor_of_name (by decide +kernel), rfl⟩
set_option maxRecDepth 100000 in
theorem qk_66 : ai_okC qr_TB qm_66 := ⟨List.mem_of_getElem? (i := 656) (by decide +kernel), List.mem_of_getElem? (i := 124) (by decide +kernel), by decide, by decide +kernel, by decide +kernel⟩
set_option maxRecDepth 100000 in
theorem qo_67 : ai_okM qr_TB qr_Y0 qr_P qm_67 := ⟨by decide +kernel, by decide +kernel, by decide +kernel, by decide +kernel, plainFor_of_name (by decide +kernel), rfl⟩
set_option maxRecDepth 100000 in
theorem qk_67 : ai_okC qr_TB qm_67 := ⟨List.mem_of_getElem? (i := 663) (by decide +kernel), List.mem_of_getElem? (i := 124) (by decide +kernel), by decide, by decide +kernel, by decide +kernel⟩
set_option maxRecDepth 100000 in
theorem qo_68 : ai_okM qr_TB qr_Y0 qr_P qm_68 := ⟨by decide +kernel, by decide +kernel, by decide +kernel, by decide +kernel, plainFor_of_name (by decide +kernel), rfl⟩
set_option maxRecDepth 100000 in
theorem qk_68 : ai_okC qr_TB qm_68 := ⟨List.mem_of_getElem? (i := 669) (by decide +kernel), List.mem_of_getElem? (i := 124) (by decide +kernel), by decide, by decide +kernel, by decide +kernel⟩
set_option maxRecDepth 100000 in
theorem qo_69 : ai_okM qr_TB qr_Y0 qr_P qm_69 := ⟨by decide +kernel, by decide +kernel, by decide +kernel, by decide +kernel, plainFor_of_name (by decide +kernel), rfl⟩
set_option maxRecDepth 100000 in
theorem qk_69 : ai_okC qr_TB qm_69 := ⟨List.mem_of_getElem? (i := 677) (by decide +kernel), List.mem_of_getElem? (i := 124) (by decide +kernel), by decide, by decide +kernel, by decide +kernel⟩
set_option maxRecDepth 100000 in
theorem qo_70 : ai_okM qr_TB qr_Y0 qr_P qm_70 := ⟨by decide +kernel, by decide +kernel, by decide +kernel, by decide +kernel, plainFor_of_name (by decide +kernel), rfl⟩
set_option maxRecDepth 100000 in
theorem qk_70 : ai_okC qr_TB qm_70 := ⟨List.mem_of_getElem? (i := 684) (by decide +kernel), List.mem_of_getElem? (i := 124) (by decide +kernel), by decide, by decide +kernel, by decide +kernel⟩
set_option maxRecDepth 100000 in
theorem qo_71 : ai_okM qr_TB qr_Y0 qr_P qm_71 := ⟨by decide +kernel, by decide +kernel, by decide +kernel, by decide +kernel, plainFor_of_name (by decide +kernel), rfl⟩
set_option maxRecDepth 100000 in
theorem qk_71 : ai_okC qr_TB qm_71 := ⟨List.mem_of_getElem? (i := 688) (by decide +kernel), List.mem_of_getElem? (i := 124) (by decide +kernel), by decide, by decide +kernel, by decide +kernel⟩
set_option maxRecDepth 100000 in
theorem qo_72 : ai_okM qr_TB qr_Y0 qr_P qm_72 := ⟨by decide +kernel, by decide +kernel, by decide +kernel, by decide +kernel, plainFor_of_name (by decide +kernel), rfl⟩
set_option maxRecDepth 100000 in
theorem qk_72 : ai_okC qr_TB qm_72 := ⟨List.mem_of_getElem? (i := 692) (by decide +kernel), List.mem_of_getElem? (i := 124) (by decide +kernel), by decide, by decide +kernel, by decide +kernel⟩
set_option maxRecDepth 100000 in
theorem qo_73 : ai_okM qr_TB qr_Y0 qr_P qm_73 := ⟨by decide +kernel, by decide +kernel, by decide +kernel, by decide +kernel, plainFor_of_name (by decide +kernel), rfl⟩
set_option maxRecDepth 100000 in
theorem qk_73 : ai_okC qr_TB qm_73 := ⟨List.mem_of_getElem? (i := 697) (by decide +kernel), List.mem_of_getElem? (i := 124) (by decide +kernel), by decide, by decide +kernel, by decide +kernel⟩
set_option maxRecDepth 100000 in
theorem qo_74 : ai_okM qr_TB qr_Y0 qr_P qm_74 := ⟨by decide +kernel, by decide +kernel, by decide +kernel, by decide +kernel, plainFor_of_name (by decide +kernel), rfl⟩
set_option maxRecDepth 100000 in
theorem qk_74 : ai_okC qr_TB qm_74 := ⟨List.mem_of_getElem? (i := 702) (by decide +kernel), List.mem_of_getElem? (i := 124) (by decide +kernel), by decide, by decide +kernel, by decide +kernel⟩
end
section
/-! PRINTED BY wip/whole/print.py: checks of the methods' tables. -/
set_option maxRecDepth 100000 in
theorem qo_75 : ai_okM qr_TB qr_Y0 qr_P qm_75 := ⟨by decide +kernel, by decide +kernel, by decide +kernel, by decide +kernel, plainFor_of_name (by decide +kernel), rfl⟩
set_option maxRecDepth 100000 in
theorem qk_75 : ai_okC qr_TB qm_75 := ⟨List.mem_of_getElem? (i := 706) (by decide +kernel), List.mem_of_getElem? (i := 124) (by decide +kernel), by decide, by decide +kernel, by decide +kernel⟩
set_option maxRecDepth 100000 in
theorem qo_76 : ai_okM qr_TB qr_Y0 qr_P qm_76 := ⟨by decide +kernel, by decide +kernel, by decide +kernel, by decide +kernel, plainFor_of_name (by decide +kernel), rfl⟩
set_option maxRecDepth 100000 in
theorem qk_76 : ai_okC qr_TB qm_76 := ⟨List.mem_of_getElem? (i := 710) (by decide +kernel), List.mem_of_getElem? (i := 125) (by decide +kernel), by decide, by decide +kernel, by decide +kernel⟩
set_option maxRecDepth 100000 in
theorem qo_77 : ai_okM qr_TB qr_Y0 qr_P qm_77 := ⟨by decide +kernel, by decide +kernel, by decide +kernel, by decide +kernel, plainFor_of_name (by decide +kernel), rfl⟩
set_option maxRecDepth 100000 in
theorem qk_77 : ai_okC qr_TB qm_77 := ⟨List.mem_of_getElem? (i := 715) (by decide +kernel), List.mem_of_getElem? (i := 125) (by decide +kernel), by decide, by decide +kernel, by decide +kernel⟩
set_option maxRecDepth 100000 in
theorem qo_78 : ai_okM qr_TB qr_Y0 qr_P qm_78 := ⟨by decide +kernel, by decide +kernel, by decide +kernel, by decide +kernel, plainFor_of_name (by decide +kernel), rfl⟩
set_option maxRecDepth 100000 in
theorem qk_78 : ai_okC qr_TB qm_78 := ⟨List.mem_of_getElem? (i := 724) (by decide +kernel), List.mem_of_getElem? (i := 124) (by decide +kernel), by decide, by decide +kernel, by decide +kernel⟩
set_option maxRecDepth 100000 in
theorem qo_79 : ai_okM qr_TB qr_Y0 qr_P qm_79 := ⟨by decide +kernel, by decide +kernel, by decide +kernel, by decide +kernel, plainFor_of_name (by decide +kernel), rfl⟩
set_option maxRecDepth 100000 in
theorem qk_79 : ai_okC qr_TB qm_79 := ⟨List.mem_of_getElem? (i := 730) (by decide +kernel), List.mem_of_getElem? (i := 124) (by decide +kernel), by decide, by decide +kernel, by decide +kernel⟩
set_option maxRecDepth 100000 in
theorem qo_80 : ai_okM qr_TB qr_Y0 qr_P qm_80 := ⟨by decide +kernel, by decide +kernel, by decide +kernel, by decide +kernel, plainFor_of_name (by decide +kernel), rfl⟩
set_option maxRecDepth 100000 in
theorem qk_80 : ai_okC qr_TB qm_80 := ⟨List.mem_of_getElem? (i := 739) (by decide +kernel), List.mem_of_getElem? (i := 124) (by decide +kernel), by decide, by decide +kernel, by decide +kernel⟩
set_option maxRecDepth 100000 in
theorem qo_81 : ai_okM qr_TB qr_Y0 qr_P qm_81 := ⟨by decide +kernel, by decide +kernel, by decide +kernel, by decide +kernel, plainFor_of_name (by decide +kernel), rfl⟩
set_option maxRecDepth 100000 in
theorem qk_81 : ai_okC qr_TB qm_81 := ⟨List.mem_of_getElem? (i := 743) (by decide +kernel), List.mem_of_getElem? (i := 124) (by decide +kernel), by decide, by decide +kernel, by decide +kernel⟩
set_option maxRecDepth 100000 in
theorem qo_82 : ai_okM qr_TB qr_Y0 qr_P qm_82 := ⟨by decide +kernel, by decide +kernel, by decide +kernel, by decide +kernel, plainFor_of_name (by decide +kernel), rfl⟩
set_option maxRecDepth 100000 in
theorem qk_82 : ai_okC qr_TB qm_82 := ⟨List.mem_of_getElem? (i := 748) (by decide +kernel), List.mem_of_getElem? (i := 124) (by decide +kernel), by decide, by decide +kernel, by decide +kernel⟩
set_option maxRecDepth 100000 in
theorem qo_83 : ai_okM qr_TB qr_Y0 qr_P qm_83 := ⟨by decide +kernel, by decide +kernel, by decide +kernel, by decide +kernel, plainFor_of_name (by decide +kernel), rfl⟩
set_option maxRecDepth 100000 in
theorem qk_83 : ai_okC qr_TB qm_83 := ⟨List.mem_of_getElem? (i := 753) (by decide +kernel), List.mem_of_getElem? (i := 124) (by decide +kernel), by decide, by decide +kernel, by decide +kernel⟩
set_option maxRecDepth 100000 in
theorem qo_84 : ai_okM qr_TB qr_Y0 qr_P qm_84 := ⟨by decide +kernel, by decide +kernel, by decide +kernel, by decide +kernel, plainFor_of_name (by decide +kernel), rfl⟩
set_option maxRecDepth 100000 in
theorem qk_84 : ai_okC qr_TB qm_84 := ⟨List.mem_of_getElem? (i := 760) (by decide +kernel), List.mem_of_getElem? (i := 124) (by decide +kernel), by decide, by decide +kernel, by decide +kernel⟩
set_option maxRecDepth 100000 in
theorem qo_85 : ai_okM qr_TB qr_Y0 qr_P qm_85 := ⟨by decide +kernel, by decide +kernel, by decide +kernel, by decide +kernel, plainFor_of_name (by decide +kernel), rfl⟩
set_option maxRecDepth 100000 in
theorem qk_85 : ai_okC qr_TB qm_85 := ⟨List.mem_of_getElem? (i := 766) (by decide +kernel), List.mem_of_getElem? (i := 124) (by decide +kernel), by decide, by decide +kernel, by decide +kernel⟩
set_option maxRecDepth 100000 in
theorem qo_86 : ai_okM qr_TB qr_Y0 qr_P qm_86 := ⟨by decide +kernel, by decide +kernel, by decide +kernel, by decide +kernel, plainFor_of_name (by decide +kernel), rfl⟩
set_option maxRecDepth 100000 in
theorem qk_86 : ai_okC qr_TB qm_86 := ⟨List.mem_of_getElem? (i := 770) (by decide +kernel), List.mem_of_getElem? (i := 124) (by decide +kernel), by decide, by decide +kernel, by decide +kernel⟩
set_option maxRecDepth 100000 in
theorem qo_87 : ai_okM qr_TB qr_Y0 qr_P qm_87 := ⟨by decide +kernel, by decide +kernel, by decide +kernel, by decide +kernel, plainFor_of_name (by decide +kernel), rfl⟩
set_option maxRecDepth 100000 in
theorem qk_87 : ai_okC qr_TB qm_87 := ⟨List.mem_of_getElem? (i := 779) (by decide +kernel), List.mem_of_getElem? (i := 124) (by decide +kernel), by decide, by decide +kernel, by decide +kernel⟩
set_option maxRecDepth 100000 in
theorem qo_88 : ai_okM qr_TB qr_Y0 qr_P qm_88 := ⟨by decide +kernel, by decide +kernel, by decide +kernel, by decide +kernel, plainFor_of_name (by decide +kernel), rfl⟩
set_option maxRecDepth 100000 in
theorem qk_88 : ai_okC qr_TB qm_88 := ⟨List.mem_of_getElem? (i := 785) (by decide +kernel), List.mem_of_getElem? (i := 124) (by decide +kernel), by decide, by decide +kernel, by decide +kernel⟩
set_option maxRecDepth 100000 in
theorem qo_89 : ai_okM qr_TB qr_Y0 qr_P qm_89 := ⟨by decide +kernel, by decide +kernel, by decide +kernel, by decide +kernel, plainFor_of_name (by decide +kernel), rfl⟩
set_option maxRecDepth 100000 in
theorem qk_89 : ai_okC qr_TB qm_89 := ⟨List.mem_of_getElem? (i := 792) (by decide +kernel), List.mem_of_getElem? (i := 124) (by decide +kernel), by decide, by decide +kernel, by decide +kernel⟩
set_option maxRecDepth 100000 in
theorem qo_90 : ai_okM qr_TB qr_Y0 qr_P qm_90 := ⟨by decide +kernel, by decide +kernel, by decide +kernel, by decide +kernel, plainFor_of_name (by decide +kernel), rfl⟩
set_option maxRecDepth 100000 in
theorem qk_90 : ai_okC qr_TB qm_90 := ⟨List.mem_of_getElem? (i := 801) (by decide +kernel), List.mem_of_getElem? (i := 124) (by decide +kernel), by decide, by decide +kernel, by decide +kernel⟩
set_option maxRecDepth 100000 in
theorem qo_91 : ai_okM qr_TB qr_Y0 qr_P qm_91 := ⟨by decide +kernel, by decide +kernel, by decide +kernel, by decide +kernel, plainFor_of_name (by decide +kernel), rfl⟩
set_option maxRecDepth 100000 in
theorem qk_91 : ai_okC qr_TB qm_91 := ⟨List.mem_of_getElem? (i := 806) (by decide +kernel), List.mem_of_getElem? (i := 125) (by decide +kernel), by decide, by decide +kernel, by decide +kernel⟩
set_option maxRecDepth 100000 in
theorem qo_92 : ai_okM qr_TB qr_Y0 qr_P qm_92 := ⟨by decide +kernel, by decide +kernel, by decide +kernel, by decide +kernel, plainFor_of_name (by decide +kernel), rfl⟩
set_option maxRecDepth 100000 in
theorem qk_92 : ai_okC qr_TB qm_92 := ⟨List.mem_of_getElem? (i := 811) (by decide +kernel), List.mem_of_getElem? (i := 124) (by decide +kernel), by decide, by decide +kernel, by decide +kernel⟩
set_option maxRecDepth 100000 in
theorem qo_93 : ai_okM qr_TB qr_Y0 qr_P qm_93 := ⟨by decide +kernel, by decide +kernel, by decide +kernel, by decide +kernel, plainFor_of_name (by decide +kernel), rfl⟩
set_option maxRecDepth 100000 in
theorem qk_93 : ai_okC qr_TB qm_93 := ⟨List.mem_of_getElem? (i := 815) (by decide +kernel), List.mem_of_getElem? (i := 123) (by decide +kernel), by decide, by decide +kernel, by decide +kernel⟩
set_option maxRecDepth 100000 in
theorem qo_94 : ai_okM qr_TB qr_Y0 qr_P qm_94 := ⟨by decide +kernel, by decide +kernel, by decide +kernel, by decide +kernel, plainFor_of_name (by decide +kernel), rfl⟩
set_option maxRecDepth 100000 in
theorem qk_94 : ai_okC qr_TB qm_94 := ⟨List.mem_of_getElem? (i := 819) (by decide +kernel), List.mem_of_getElem? (i := 123) (by decide +kernel), by decide, by decide +kernel, by decide +kernel⟩
set_option maxRecDepth 100000 in
theorem qo_95 : ai_okM qr_TB qr_Y0 qr_P qm_95 := ⟨by decide +kernel, by decide +kernel, by decide +kernel, by decide +kernel, plainFor_of_name (by decide +kernel), rfl⟩
set_option maxRecDepth 100000 in
theorem qk_95 : ai_okC qr_TB qm_95 := ⟨List.mem_of_getElem? (i := 824) (by decide +kernel), List.mem_of_getElem? (i := 123) (by decide +kernel), by decide, by decide +kernel, by decide +kernel⟩
set_option maxRecDepth 100000 in
theorem qo_96 : ai_okM qr_TB qr_Y0 qr_P qm_96 := ⟨by decide +kernel, by decide +kernel, by decide +kernel, by decide +kernel, plainFor_of_name (by decide +kernel), rfl⟩
set_option maxRecDepth 100000 in
theorem qk_96 : ai_okC qr_TB qm_96 := ⟨List.mem_of_getElem? (i := 828) (by decide +kernel), List.mem_of_getElem? (i := 125) (by decide +kernel), by decide, by decide +kernel, by decide +kernel⟩
set_option maxRecDepth 100000 in
theorem qo_97 : ai_okM qr_TB qr_Y0 qr_P qm_97 := ⟨by decide +kernel, by decide +kernel, by decide +kernel, by decide +kernel, plainFor_of_name (by decide +kernel), rfl⟩
set_option maxRecDepth 100000 in
theorem qk_97 : ai_okC qr_TB qm_97 := ⟨List.mem_of_getElem? (i := 832) (by decide +kernel), List.mem_of_getElem? (i := 123) (by decide +kernel), by decide, by decide +kernel, by decide +kernel⟩
set_option maxRecDepth 100000 in
theorem qo_98 : ai_okM qr_TB qr_Y0 qr_P qm_98 := ⟨by decide +kernel, by decide +kernel, by decide +kernel, by decide +kernel, plainFor_of_name (by decide +kernel), rfl⟩
set_option maxRecDepth 100000 in
theorem qk_98 : ai_okC qr_TB qm_98 := ⟨List.mem_of_getElem? (i := 836) (by decide +kernel), List.mem_of_getElem? (i := 129) (by decide +kernel), by decide, by decide +kernel, by decide +kernel⟩
set_option maxRecDepth 100000 in
theorem qo_99 : ai_okM qr_TB qr_Y0 qr_P qm_99 := ⟨by decide +kernel, by decide +kernel, by decide +kernel, by decide +kernel, plainFor_of_name (by decide +kernel), rfl⟩
set_option maxRecDepth 100000 in
theorem qk_99 : ai_okC qr_TB qm_99 := ⟨List.mem_of_getElem? (i := 841) (by decide +kernel), List.mem_of_getElem? (i := 129) (by decide +kernel), by decide, by decide +kernel, by decide +kernel⟩
end
section
/-! PRINTED BY wip/whole/print.py: checks of the methods' tables. -/
set_option maxRecDepth 100000 in
theorem qo_100 : ai_okM qr_TB qr_Y0 qr_P qm_100 := ⟨by decide +kernel, by decide +kernel, by decide +kernel, by decide +kernel, plainFor_of_name (by decide +kernel), rfl⟩
set_option maxRecDepth 100000 in
theorem qk_100 : ai_okC qr_TB qm_100 := ⟨List.mem_of_getElem? (i := 846) (by decide +kernel), List.mem_of_getElem? (i := 129) (by decide +kernel), by decide, by decide +kernel, by decide +kernel⟩
set_option maxRecDepth 100000 in
theorem qo_101 : ai_okM qr_TB qr_Y0 qr_P qm_101 := ⟨by decide +kernel, by decide +kernel, by decide +kernel, by decide +kernel, plainFor_of_name (by decide +kernel), rfl⟩
set_option maxRecDepth 100000 in
theorem qk_101 : ai_okC qr_TB qm_101 := ⟨List.mem_of_getElem? (i := 849) (by decide +kernel), List.mem_of_getElem? (i := 129) (by decide +kernel), by decide, by decide +kernel, by decide +kernel⟩
set_option maxRecDepth 100000 in
theorem qo_102 : ai_okM qr_TB qr_Y0 qr_P qm_102 := ⟨by decide +kernel, by decide +kernel, by decide +kernel, by decide +kernel, plainFor_of_name (by decide +kernel), rfl⟩
set_option maxRecDepth 100000 in
theorem qk_102 : ai_okC qr_TB qm_102 := ⟨List.mem_of_getElem? (i := 852) (by decide +kernel), List.mem_of_getElem? (i := 129) (by decide +kernel), by decide, by decide +kernel, by decide +kernel⟩
set_option maxRecDepth 100000 in
theorem qo_103 : ai_okM qr_TB qr_Y0 qr_P qm_103 := ⟨by decide +kernel, by decide +kernel, by decide +kernel, by decide +kernel, plainFor_of_name (by decide +kernel), rfl⟩
set_option maxRecDepth 100000 in
theorem qk_103 : ai_okC qr_TB qm_103 := ⟨List.mem_of_getElem? (i := 856) (by decide +kernel), List.mem_of_getElem? (i := 123) (by decide +kernel), by decide, by decide +kernel, by decide +kernel⟩
set_option maxRecDepth 100000 in
theorem qo_104 : ai_okM qr_TB qr_Y0 qr_P qm_104 := ⟨by decide +kernel, by decide +kernel, by decide +kernel, by decide +kernel, plainFor_of_name (by decide +kernel), rfl⟩
set_option maxRecDepth 100000 in
theorem qk_104 : ai_okC qr_TB qm_104 := ⟨List.mem_of_getElem? (i := 860) (by decide +kernel), List.mem_of_getElem? (i := 124) (by decide +kernel), by decide, by decide +kernel, by decide +kernel⟩
set_option maxRecDepth 100000 in
theorem qo_105 : ai_okM qr_TB qr_Y0 qr_P qm_105 := ⟨by decide +kernel, by decide +kernel, by decide +kernel, by decide +kernel, plainFor_of_name (by decide +kernel), rfl⟩
set_option maxRecDepth 100000 in
theorem qk_105 : ai_okC qr_TB qm_105 := ⟨List.mem_of_getElem? (i := 864) (by decide +kernel), List.mem_of_getElem? (i := 123) (by decide +kernel), by decide, by decide +kernel, by decide +kernel⟩
set_option maxRecDepth 100000 in
theorem qo_106 : ai_okM qr_TB qr_Y0 qr_P qm_106 := ⟨by decide +kernel, by decide +kernel, by decide +kernel, by decide +kernel, plainFor_of_name (by decide +kernel), rfl⟩
set_option maxRecDepth 100000 in
theorem qk_106 : ai_okC qr_TB qm_106 := ⟨List.mem_of_getElem? (i := 869) (by decide +kernel), List.mem_of_getElem? (i := 125) (by decide +kernel), by decide, by decide +kernel, by decide +kernel⟩
set_option maxRecDepth 100000 in
theorem qo_107 : ai_okM qr_TB qr_Y0 qr_P qm_107 := ⟨by decide +kernel, by decide +kernel, by decide +kernel, by decide +kernel, plainFor_of_name (by decide +kernel), rfl⟩
set_option maxRecDepth 100000 in
theorem qk_107 : ai_okC qr_TB qm_107 := ⟨List.mem_of_getElem? (i := 872) (by decide +kernel), List.mem_of_getElem? (i := 122) (by decide +kernel), by decide, by decide +kernel, by decide +kernel⟩
set_option maxRecDepth 100000 in
theorem qo_108 : ai_okM qr_TB qr_Y0 qr_P qm_108 := ⟨by decide +kernel, by decide +kernel, by decide +kernel, by decide +kernel, plainFor_of_name (by decide +kernel), rfl⟩
set_option maxRecDepth 100000 in
theorem qk_108 : ai_okC qr_TB qm_108 := ⟨List.mem_of_getElem? (i := 877) (by decide +kernel), List.mem_of_getElem? (i := 123) (by decide +kernel), by decide, by decide +kernel, by decide +kernel⟩
set_option maxRecDepth 100000 in
theorem qo_109 : ai_okM qr_TB qr_Y0 qr_P qm_109 := ⟨by decide +kernel, by decide +kernel, by decide +kernel, by decide +kernel, plainFor_of_name (by decide +kernel), rfl⟩
set_option maxRecDepth 100000 in
theorem qk_109 : ai_okC qr_TB qm_109 := ⟨List.mem_of_getElem? (i := 897) (by decide +kernel), List.mem_of_getElem? (i := 125) (by decide +kernel), by decide, by decide +kernel, by decide +kernel⟩
set_option maxRecDepth 100000 in
theorem qo_110 : ai_okM qr_TB qr_Y0 qr_P qm_110 := ⟨by decide +kernel, by decide +kernel, by decide +kernel, by decide +kernel, plainFor_of_name (by decide +kernel), rfl⟩
set_option maxRecDepth 100000 in
theorem qk_110 : ai_okC qr_TB qm_110 := ⟨List.mem_of_getElem? (i := 900) (by decide +kernel), List.mem_of_getElem? (i := 122) (by decide +kernel), by decide, by decide +kernel, by decide +kernel⟩
set_option maxRecDepth 100000 in
theorem qo_111 : ai_okM qr_TB qr_Y0 qr_P qm_111 := ⟨by decide +kernel, by decide +kernel, by decide +kernel, by decide +kernel, plainFor_of_name (by decide +kernel), rfl⟩
set_option maxRecDepth 100000 in
theorem qk_111 : ai_okC qr_TB qm_111 := ⟨List.mem_of_getElem? (i := 905) (by decide +kernel), List.mem_of_getElem? (i := 123) (by decide +kernel), by decide, by decide +kernel, by decide +kernel⟩
set_option maxRecDepth 100000 in
theorem qo_112 : ai_okM qr_TB qr_Y0 qr_P qm_112 := ⟨by decide +kernel, by decide +kernel, by decide +kernel, by decide +kernel, plainFor_of_name (by decide +kernel), rfl⟩
set_option maxRecDepth 100000 in
theorem qk_112 : ai_okC qr_TB qm_112 := ⟨List.mem_of_getElem? (i := 909) (by decide +kernel), List.mem_of_getElem? (i := 122) (by decide +kernel), by decide, by decide +kernel, by decide +kernel⟩
set_option maxRecDepth 100000 in
theorem qo_113 : ai_okM qr_TB qr_Y0 qr_P qm_113 := ⟨by decide +kernel, by decide +kernel, by decide +kernel, by decide +kernel, plainFor_of_name (by decide +kernel), rfl⟩
set_option maxRecDepth 100000 in
theorem qk_113 : ai_okC qr_TB qm_113 := ⟨List.mem_of_getElem? (i := 914) (by decide +kernel), List.mem_of_getElem? (i := 123) (by decide +kernel), by decide, by decide +kernel, by decide +kernel⟩
set_option maxRecDepth 100000 in
theorem qo_114 : ai_okM qr_TB qr_Y0 qr_P qm_114 := ⟨by decide +kernel, by decide +kernel, by decide +kernel, by decide +kernel, plainFor_of_name (by decide +kernel), rfl⟩
set_option maxRecDepth 100000 in
theorem qk_114 : ai_okC qr_TB qm_114 := ⟨List.mem_filter.mpr ⟨List.mem_append_right _ (show Cond.code ⟨"QueryReaderModel", "<init>", "()V"⟩ prog_9_method_1_code 1 none ∈ tables_1_1 ++ (tables_1_2 ++ (tables_1_3 ++ (tables_1_4 ++ (tables_1_5 ++ (tables_1_6 ++ tables_1_7))))) from List.mem_append_right _ (List.mem_append_right _ (List.mem_append_right _ (List.mem_append_left _ (List.mem_of_getElem? (i := 209) rfl))))), rfl⟩, List.mem_of_getElem? (i := 130) (by decide +kernel), by decide, by decide +kernel, by decide +kernel⟩
set_option maxRecDepth 100000 in
theorem qo_115 : ai_okM qr_TB qr_Y0 qr_P qm_115 := ⟨by decide +kernel, by decide +kernel, by decide +kernel, by decide +kernel, plainFor_of_name (by decide +kernel), rfl⟩
set_option maxRecDepth 100000 in
theorem qk_115 : ai_okC qr_TB qm_115 := ⟨List.mem_of_getElem? (i := 1021) (by decide +kernel), List.mem_of_getElem? (i := 130) (by decide +kernel), by decide, by decide +kernel, by decide +kernel⟩
set_option maxRecDepth 100000 in
theorem qo_116 : ai_okM qr_TB qr_Y0 qr_P qm_116 := ⟨by decide +kernel, by decide +kernel, by decide +kernel, by decide +kernel, plainFor_of_name (by decide +kernel), rfl⟩
set_option maxRecDepth 100000 in
theorem qk_116 : ai_okC qr_TB qm_116 := ⟨List.mem_of_getElem? (i := 1025) (by decide +kernel), List.mem_of_getElem? (i := 130) (by decide +kernel), by decide, by decide +kernel, by decide +kernel⟩
set_option maxRecDepth 100000 in
theorem qo_117 : ai_okM qr_TB qr_Y0 qr_P qm_117 := ⟨by decide +kernel, by decide +kernel, by decide +kernel, by decide +kernel, plainFor_of_name (by decide +kernel), rfl⟩
set_option maxRecDepth 100000 in
theorem qk_117 : ai_okC qr_TB qm_117 := ⟨List.mem_of_getElem? (i := 1029) (by decide +kernel), List.mem_of_getElem? (i := 130) (by decide +kernel), by decide, by decide +kernel, by decide +kernel⟩
set_option maxRecDepth 100000 in
theorem qo_118 : ai_okM qr_TB qr_Y0 qr_P qm_118 := ⟨by decide +kernel, by decide +kernel, by decide +kernel, by decide +kernel, plainFor_of_name (by decide +kernel), rfl⟩
set_option maxRecDepth 100000 in
theorem qk_118 : ai_okC qr_TB qm_118 := ⟨List.mem_of_getElem? (i := 1033) (by decide +kernel), List.mem_of_getElem? (i := 130) (by decide +kernel), by decide, by decide +kernel, by decide +kernel⟩
set_option maxRecDepth 100000 in
theorem qo_119 : ai_okM qr_TB qr_Y0 qr_P qm_119 := ⟨by decide +kernel, by decide +kernel, by decide +kernel, by decide +kernel, plainFor_of_name (by decide +kernel), rfl⟩
set_option maxRecDepth 100000 in
theorem qk_119 : ai_okC qr_TB qm_119 := ⟨List.mem_of_getElem? (i := 1038) (by decide +kernel), List.mem_of_getElem? (i := 130) (by decide +kernel), by decide, by decide +kernel, by decide +kernel⟩
set_option maxRecDepth 100000 in
theorem qo_120 : ai_okM qr_TB qr_Y0 qr_P qm_120 := ⟨by decide +kernel, by decide +kernel, by decide +kernel, by decide +kernel, plainFor_of_name (by decide +kernel), rfl⟩
set_option maxRecDepth 100000 in
theorem qk_120 : ai_okC qr_TB qm_120 := ⟨List.mem_of_getElem? (i := 1042) (by decide +kernel), List.mem_of_getElem? (i := 130) (by decide +kernel), by decide, by decide +kernel, by decide +kernel⟩
set_option maxRecDepth 100000 in
theorem qo_121 : ai_okM qr_TB qr_Y0 qr_P qm_121 := ⟨by decide +kernel, by decide +kernel, by decide +kernel, by decide +kernel, plainFor_of_name (by decide +kernel), rfl⟩
set_option maxRecDepth 100000 in
theorem qk_121 : ai_okC qr_TB qm_121 := ⟨List.mem_of_getElem? (i := 1046) (by decide +kernel), List.mem_of_getElem? (i := 130) (by decide +kernel), by decide, by decide +kernel, by decide +kernel⟩
set_option maxRecDepth 100000 in
theorem qo_122 : ai_okM qr_TB qr_Y0 qr_P qm_122 := ⟨by decide +kernel, by decide +kernel, by decide +kernel, by decide +kernel, plainFor_of_name (by decide +kernel), rfl⟩
set_option maxRecDepth 100000 in
theorem qk_122 : ai_okC qr_TB qm_122 := ⟨List.mem_of_getElem? (i := 1050) (by decide +kernel), List.mem_of_getElem? (i := 130) (by decide +kernel), by decide, by decide +kernel, by decide +kernel⟩
set_option maxRecDepth 100000 in
theorem qo_123 : ai_okM qr_TB qr_Y0 qr_P qm_123 := ⟨by decide +kernel, by decide +kernel, by decide +kernel, by decide +kernel, plainFor_of_name (by decide +kernel), rfl⟩
set_option maxRecDepth 100000 in
theorem qk_123 : ai_okC qr_TB qm_123 := ⟨List.mem_of_getElem? (i := 1053) (by decide +kernel), List.mem_of_getElem? (i := 130) (by decide +kernel), by decide, by decide +kernel, by decide +kernel⟩
set_option maxRecDepth 100000 in
theorem qo_124 : ai_okM qr_TB qr_Y0 qr_P qm_124 := ⟨by decide +kernel, by decide +kernel, by decide +kernel, by decide +kernel, plainFor_of_name (by decide +kernel), rfl⟩
set_option maxRecDepth 100000 in
theorem qk_124 : ai_okC qr_TB qm_124 := ⟨List.mem_of_getElem? (i := 1056) (by decide +kernel), List.mem_of_getElem? (i := 130) (by decide +kernel), by decide, by decide +kernel, by decide +kernel⟩
end
section
/-! PRINTED BY wip/whole/print.py: checks of the methods' tables. -/
set_option maxRecDepth 100000 in
theorem qo_125 : ai_okM qr_TB qr_Y0 qr_P qm_125 := ⟨by decide +kernel, by decide +kernel, by decide +kernel, by decide +kernel, plainFor_of_name (by decide +kernel), rfl⟩
set_option maxRecDepth 100000 in
theorem qk_125 : ai_okC qr_TB qm_125 := ⟨List.mem_of_getElem? (i := 1060) (by decide +kernel), List.mem_of_getElem? (i := 130) (by decide +kernel), by decide, by decide +kernel, by decide +kernel⟩
set_option maxRecDepth 100000 in
theorem qo_126 : ai_okM qr_TB qr_Y0 qr_P qm_126 := ⟨by decide +kernel, by decide +kernel, by decide +kernel, by decide +kernel, plainFor_of_name (by decide +kernel), rfl⟩
set_option maxRecDepth 100000 in
theorem qk_126 : ai_okC qr_TB qm_126 := ⟨List.mem_of_getElem? (i := 1064) (by decide +kernel), List.mem_of_getElem? (i := 130) (by decide +kernel), by decide, by decide +kernel, by decide +kernel⟩
set_option maxRecDepth 100000 in
theorem qo_127 : ai_okM qr_TB qr_Y0 qr_P qm_127 := ⟨by decide +kernel, by decide +kernel, by decide +kernel, by decide +kernel, plainFor_of_name (by decide +kernel), rfl⟩
set_option maxRecDepth 100000 in
theorem qk_127 : ai_okC qr_TB qm_127 := ⟨List.mem_of_getElem? (i := 1069) (by decide +kernel), List.mem_of_getElem? (i := 130) (by decide +kernel), by decide, by decide +kernel, by decide +kernel⟩
set_option maxRecDepth 100000 in
theorem qo_128 : ai_okM qr_TB qr_Y0 qr_P qm_128 := ⟨by decide +kernel, by decide +kernel, by decide +kernel, by decide +kernel, plainFor_of_name (by decide +kernel), rfl⟩
set_option maxRecDepth 100000 in
theorem qk_128 : ai_okC qr_TB qm_128 := ⟨List.mem_of_getElem? (i := 1073) (by decide +kernel), List.mem_of_getElem? (i := 130) (by decide +kernel), by decide, by decide +kernel, by decide +kernel⟩
set_option maxRecDepth 100000 in
theorem qo_129 : ai_okM qr_TB qr_Y0 qr_P qm_129 := ⟨by decide +kernel, by decide +kernel, by decide +kernel, by decide +kernel, plainFor_of_name (by decide +kernel), rfl⟩
set_option maxRecDepth 100000 in
theorem qk_129 : ai_okC qr_TB qm_129 := ⟨List.mem_of_getElem? (i := 1077) (by decide +kernel), List.mem_of_getElem? (i := 130) (by decide +kernel), by decide, by decide +kernel, by decide +kernel⟩
set_option maxRecDepth 100000 in
theorem qo_130 : ai_okM qr_TB qr_Y0 qr_P qm_130 := ⟨by decide +kernel, by decide +kernel, by decide +kernel, by decide +kernel, plainFor_of_name (by decide +kernel), rfl⟩
set_option maxRecDepth 100000 in
theorem qk_130 : ai_okC qr_TB qm_130 := ⟨List.mem_of_getElem? (i := 1082) (by decide +kernel), List.mem_of_getElem? (i := 130) (by decide +kernel), by decide, by decide +kernel, by decide +kernel⟩
set_option maxRecDepth 100000 in
theorem qo_131 : ai_okM qr_TB qr_Y0 qr_P qm_131 := ⟨by decide +kernel, by decide +kernel, by decide +kernel, by decide +kernel, plainFor_of_name (by decide +kernel), rfl⟩
set_option maxRecDepth 100000 in
theorem qk_131 : ai_okC qr_TB qm_131 := ⟨List.mem_of_getElem? (i := 1086) (by decide +kernel), List.mem_of_getElem? (i := 130) (by decide +kernel), by decide, by decide +kernel, by decide +kernel⟩
set_option maxRecDepth 100000 in
theorem qo_132 : ai_okM qr_TB qr_Y0 qr_P qm_132 := ⟨by decide +kernel, by decide +kernel, by decide +kernel, by decide +kernel, plainFor_of_name (by decide +kernel), rfl⟩
set_option maxRecDepth 100000 in
theorem qk_132 : ai_okC qr_TB qm_132 := ⟨List.mem_of_getElem? (i := 1090) (by decide +kernel), List.mem_of_getElem? (i := 130) (by decide +kernel), by decide, by decide +kernel, by decide +kernel⟩
set_option maxRecDepth 100000 in
theorem qo_133 : ai_okM qr_TB qr_Y0 qr_P qm_133 := ⟨by decide +kernel, by decide +kernel, by decide +kernel, by decide +kernel, plainFor_of_name (by decide +kernel), rfl⟩
set_option maxRecDepth 100000 in
theorem qk_133 : ai_okC qr_TB qm_133 := ⟨List.mem_of_getElem? (i := 1094) (by decide +kernel), List.mem_of_getElem? (i := 130) (by decide +kernel), by decide, by decide +kernel, by decide +kernel⟩
set_option maxRecDepth 100000 in
theorem qo_134 : ai_okM qr_TB qr_Y0 qr_P qm_134 := ⟨by decide +kernel, by decide +kernel, by decide +kernel, by decide +kernel, plainFor_of_name (by decide +kernel), rfl⟩
set_option maxRecDepth 100000 in
theorem qk_134 : ai_okC qr_TB qm_134 := ⟨List.mem_of_getElem? (i := 1098) (by decide +kernel), List.mem_of_getElem? (i := 130) (by decide +kernel), by decide, by decide +kernel, by decide +kernel⟩
set_option maxRecDepth 100000 in
theorem qo_135 : ai_okM qr_TB qr_Y0 qr_P qm_135 := ⟨by decide +kernel, by decide +kernel, by decide +kernel, by decide +kernel, plainFor_of_name (by decide +kernel), rfl⟩
set_option maxRecDepth 100000 in
theorem qk_135 : ai_okC qr_TB qm_135 := ⟨List.mem_of_getElem? (i := 1102) (by decide +kernel), List.mem_of_getElem? (i := 130) (by decide +kernel), by decide, by decide +kernel, by decide +kernel⟩
set_option maxRecDepth 100000 in
theorem qo_136 : ai_okM qr_TB qr_Y0 qr_P qm_136 := ⟨by decide +kernel, by decide +kernel, by decide +kernel, by decide +kernel, plainFor_of_name (by decide +kernel), rfl⟩
set_option maxRecDepth 100000 in
theorem qk_136 : ai_okC qr_TB qm_136 := ⟨List.mem_of_getElem? (i := 1116) (by decide +kernel), List.mem_of_getElem? (i := 130) (by decide +kernel), by decide, by decide +kernel, by decide +kernel⟩
set_option maxRecDepth 100000 in
theorem qo_137 : ai_okM qr_TB qr_Y0 qr_P qm_137 := ⟨by decide +kernel, by decide +kernel, by decide +kernel, by decide +kernel, plainFor_of_name (by decide +kernel), rfl⟩
set_option maxRecDepth 100000 in
theorem qk_137 : ai_okC qr_TB qm_137 := ⟨List.mem_of_getElem? (i := 1120) (by decide +kernel), List.mem_of_getElem? (i := 130) (by decide +kernel), by decide, by decide +kernel, by decide +kernel⟩
set_option maxRecDepth 100000 in
theorem qo_138 : ai_okM qr_TB qr_Y0 qr_P qm_138 := ⟨by decide +kernel, by decide +kernel, by decide +kernel, by decide +kernel, plainFor_of_name (by decide +kernel), rfl⟩
set_option maxRecDepth 100000 in
theorem qk_138 : ai_okC qr_TB qm_138 := ⟨List.mem_of_getElem? (i := 1124) (by decide +kernel), List.mem_of_getElem? (i := 130) (by decide +kernel), by decide, by decide +kernel, by decide +kernel⟩
set_option maxRecDepth 100000 in
theorem qo_139 : ai_okM qr_TB qr_Y0 qr_P qm_139 := ⟨by decide +kernel, by decide +kernel, by decide +kernel, by decide +kernel, plainFor_of_name (by decide +kernel), rfl⟩
set_option maxRecDepth 100000 in
theorem qk_139 : ai_okC qr_TB qm_139 := ⟨List.mem_of_getElem? (i := 1128) (by decide +kernel), List.mem_of_getElem? (i := 130) (by decide +kernel), by decide, by decide +kernel, by decide +kernel⟩
set_option maxRecDepth 100000 in
theorem qo_140 : ai_okM qr_TB qr_Y0 qr_P qm_140 := ⟨by decide +kernel, by decide +kernel, by decide +kernel, by decide +kernel, plainFor_of_name (by decide +kernel), rfl⟩
set_option maxRecDepth 100000 in
theorem qk_140 : ai_okC qr_TB qm_140 := ⟨List.mem_of_getElem? (i := 1132) (by decide +kernel), List.mem_of_getElem? (i := 130) (by decide +kernel), by decide, by decide +kernel, by decide +kernel⟩
set_option maxRecDepth 100000 in
theorem qo_141 : ai_okM qr_TB qr_Y0 qr_P qm_141 := ⟨by decide +kernel, by decide +kernel, by decide +kernel, by decide +kernel, plainFor_of_name (by decide +kernel), rfl⟩
set_option maxRecDepth 100000 in
theorem qk_141 : ai_okC qr_TB qm_141 := ⟨List.mem_of_getElem? (i := 1136) (by decide +kernel), List.mem_of_getElem? (i := 130) (by decide +kernel), by decide, by decide +kernel, by decide +kernel⟩
set_option maxRecDepth 100000 in
theorem qo_142 : ai_okM qr_TB qr_Y0 qr_P qm_142 := ⟨by decide +kernel, by decide +kernel, by decide +kernel, by decide +kernel, plainFor_of_name (by decide +kernel), rfl⟩
set_option maxRecDepth 100000 in
theorem qk_142 : ai_okC qr_TB qm_142 := ⟨List.mem_of_getElem? (i := 1140) (by decide +kernel), List.mem_of_getElem? (i := 130) (by decide +kernel), by decide, by decide +kernel, by decide +kernel⟩
set_option maxRecDepth 100000 in
theorem qo_143 : ai_okM qr_TB qr_Y0 qr_P qm_143 := ⟨by decide +kernel, by decide +kernel, by decide +kernel, by decide +kernel, plainFor_of_name (by decide +kernel), rfl⟩
set_option maxRecDepth 100000 in
theorem qk_143 : ai_okC qr_TB qm_143 := ⟨List.mem_of_getElem? (i := 1144) (by decide +kernel), List.mem_of_getElem? (i := 130) (by decide +kernel), by decide, by decide +kernel, by decide +kernel⟩
set_option maxRecDepth 100000 in
theorem qo_144 : ai_okM qr_TB qr_Y0 qr_P qm_144 := ⟨by decide +kernel, by decide +kernel, by decide +kernel, by decide +kernel, plainFor_of_name (by decide +kernel), rfl⟩
set_option maxRecDepth 100000 in
theorem qk_144 : ai_okC qr_TB qm_144 := ⟨List.mem_of_getElem? (i := 1148) (by decide +kernel), List.mem_of_getElem? (i := 130) (by decide +kernel), by decide, by decide +kernel, by decide +kernel⟩
set_option maxRecDepth 100000 in
theorem qo_145 : ai_okM qr_TB qr_Y0 qr_P qm_145 := ⟨by decide +kernel, by decide +kernel, by decide +kernel, by decide +kernel, plainFor_of_name (by decide +kernel), rfl⟩
set_option maxRecDepth 100000 in
theorem qk_145 : ai_okC qr_TB qm_145 := ⟨List.mem_of_getElem? (i := 1152) (by decide +kernel), List.mem_of_getElem? (i := 130) (by decide +kernel), by decide, by decide +kernel, by decide +kernel⟩
set_option maxRecDepth 100000 in
theorem qo_146 : ai_okM qr_TB qr_Y0 qr_P qm_146 := ⟨by decide +kernel, by decide +kernel, by decide +kernel, by decide +kernel, plainFor_of_name (by decide +kernel), rfl⟩
set_option maxRecDepth 100000 in
theorem qk_146 : ai_okC qr_TB qm_146 := ⟨List.mem_of_getElem? (i := 1156) (by decide +kernel), List.mem_of_getElem? (i := 130) (by decide +kernel), by decide, by decide +kernel, by decide +kernel⟩
set_option maxRecDepth 100000 in
theorem qo_147 : ai_okM qr_TB qr_Y0 qr_P qm_147 := ⟨by decide +kernel, by decide +kernel, by decide +kernel, by decide +kernel, plainFor_of_name (by decide +kernel), rfl⟩
set_option maxRecDepth 100000 in
theorem qk_147 : ai_okC qr_TB qm_147 := ⟨List.mem_of_getElem? (i := 1160) (by decide +kernel), List.mem_of_getElem? (i := 130) (by decide +kernel), by decide, by decide +kernel, by decide +kernel⟩
set_option maxRecDepth 100000 in
theorem qo_148 : ai_okM qr_TB qr_Y0 qr_P qm_148 := ⟨by decide +kernel, by decide +kernel, by decide +kernel, by decide +kernel, plainFor_of_name (by decide +kernel), rfl⟩
set_option maxRecDepth 100000 in
theorem qk_148 : ai_okC qr_TB qm_148 := ⟨List.mem_of_getElem? (i := 1164) (by decide +kernel), List.mem_of_getElem? (i := 130) (by decide +kernel), by decide, by decide +kernel, by decide +kernel⟩
set_option maxRecDepth 100000 in
theorem qo_149 : ai_okM qr_TB qr_Y0 qr_P qm_149 := ⟨by decide +kernel, by decide +kernel, by decide +kernel, by decide +kernel, plainFor_of_name (by decide +kernel), rfl⟩
set_option maxRecDepth 100000 in
theorem qk_149 : ai_okC qr_TB qm_149 := ⟨List.mem_of_getElem? (i := 1168) (by decide +kernel), List.mem_of_getElem? (i := 130) (by decide +kernel), by decide, by decide +kernel, by decide +kernel⟩
end
section
/-! PRINTED BY wip/whole/print.py: checks of the methods' tables. -/
set_option maxRecDepth 100000 in
theorem qo_150 : ai_okM qr_TB qr_Y0 qr_P qm_150 := ⟨by decide +kernel, by decide +kernel, by decide +kernel, by decide +kernel, plainFor_of_name (by decide +kernel), rfl⟩
set_option maxRecDepth 100000 in
theorem qk_150 : ai_okC qr_TB qm_150 := ⟨List.mem_of_getElem? (i := 1172) (by decide +kernel), List.mem_of_getElem? (i := 130) (by decide +kernel), by decide, by decide +kernel, by decide +kernel⟩
set_option maxRecDepth 100000 in
theorem qo_151 : ai_okM qr_TB qr_Y0 qr_P qm_151 := ⟨by decide +kernel, by decide +kernel, by decide +kernel, by decide +kernel, plainFor_of_name (by decide +kernel), rfl⟩
set_option maxRecDepth 100000 in
theorem qk_151 : ai_okC qr_TB qm_151 := ⟨List.mem_of_getElem? (i := 1176) (by decide +kernel), List.mem_of_getElem? (i := 130) (by decide +kernel), by decide, by decide +kernel, by decide +kernel⟩
set_option maxRecDepth 100000 in
theorem qo_152 : ai_okM qr_TB qr_Y0 qr_P qm_152 := ⟨by decide +kernel, by decide +kernel, by decide +kernel, by decide +kernel, plainFor_of_name (by decide +kernel), rfl⟩
set_option maxRecDepth 100000 in
theorem qk_152 : ai_okC qr_TB qm_152 := ⟨List.mem_of_getElem? (i := 1180) (by decide +kernel), List.mem_of_getElem? (i := 130) (by decide +kernel), by decide, by decide +kernel, by decide +kernel⟩
set_option maxRecDepth 100000 in
theorem qo_153 : ai_okM qr_TB qr_Y0 qr_P qm_153 := ⟨by decide +kernel, by decide +kernel, by decide +kernel, by decide +kernel, plainFor_of_name (by decide +kernel), rfl⟩
set_option maxRecDepth 100000 in
theorem qk_153 : ai_okC qr_TB qm_153 := ⟨List.mem_of_getElem? (i := 1184) (by decide +kernel), List.mem_of_getElem? (i := 130) (by decide +kernel), by decide, by decide +kernel, by decide +kernel⟩
set_option maxRecDepth 100000 in
theorem qo_154 : ai_okM qr_TB qr_Y0 qr_P qm_154 := ⟨by decide +kernel, by decide +kernel, by decide +kernel, by decide +kernel, plainFor_of_name (by decide +kernel), rfl⟩
set_option maxRecDepth 100000 in
theorem qk_154 : ai_okC qr_TB qm_154 := ⟨List.mem_of_getElem? (i := 1188) (by decide +kernel), List.mem_of_getElem? (i := 130) (by decide +kernel), by decide, by decide +kernel, by decide +kernel⟩
set_option maxRecDepth 100000 in
theorem qo_155 : ai_okM qr_TB qr_Y0 qr_P qm_155 := ⟨by decide +kernel, by decide +kernel, by decide +kernel, by decide +kernel, plainFor_of_name (by decide +kernel), rfl⟩
set_option maxRecDepth 100000 in
theorem qk_155 : ai_okC qr_TB qm_155 := ⟨List.mem_of_getElem? (i := 1192) (by decide +kernel), List.mem_of_getElem? (i := 130) (by decide +kernel), by decide, by decide +kernel, by decide +kernel⟩
set_option maxRecDepth 100000 in
theorem qo_156 : ai_okM qr_TB qr_Y0 qr_P qm_156 := ⟨by decide +kernel, by decide +kernel, by decide +kernel, by decide +kernel, plainFor_of_name (by decide +kernel), rfl⟩
set_option maxRecDepth 100000 in
theorem qk_156 : ai_okC qr_TB qm_156 := ⟨List.mem_of_getElem? (i := 1196) (by decide +kernel), List.mem_of_getElem? (i := 130) (by decide +kernel), by decide, by decide +kernel, by decide +kernel⟩
set_option maxRecDepth 100000 in
theorem qo_157 : ai_okM qr_TB qr_Y0 qr_P qm_157 := ⟨by decide +kernel, by decide +kernel, by decide +kernel, by decide +kernel, plainFor_of_name (by decide +kernel), rfl⟩
set_option maxRecDepth 100000 in
theorem qk_157 : ai_okC qr_TB qm_157 := ⟨List.mem_of_getElem? (i := 1200) (by decide +kernel), List.mem_of_getElem? (i := 130) (by decide +kernel), by decide, by decide +kernel, by decide +kernel⟩
set_option maxRecDepth 100000 in
theorem qo_158 : ai_okM qr_TB qr_Y0 qr_P qm_158 := ⟨by decide +kernel, by decide +kernel, by decide +kernel, by decide +kernel, plainFor_of_name (by decide +kernel), rfl⟩
set_option maxRecDepth 100000 in
theorem qk_158 : ai_okC qr_TB qm_158 := ⟨List.mem_of_getElem? (i := 1204) (by decide +kernel), List.mem_of_getElem? (i := 130) (by decide +kernel), by decide, by decide +kernel, by decide +kernel⟩
set_option maxRecDepth 100000 in
theorem qo_159 : ai_okM qr_TB qr_Y0 qr_P qm_159 := ⟨by decide +kernel, by decide +kernel, by decide +kernel, by decide +kernel, plainFor_of_name (by decide +kernel), rfl⟩
set_option maxRecDepth 100000 in
theorem qk_159 : ai_okC qr_TB qm_159 := ⟨List.mem_of_getElem? (i := 1208) (by decide +kernel), List.mem_of_getElem? (i := 130) (by decide +kernel), by decide, by decide +kernel, by decide +kernel⟩
set_option maxRecDepth 100000 in
theorem qo_160 : ai_okM qr_TB qr_Y0 qr_P qm_160 := ⟨by decide +kernel, by decide +kernel, by decide +kernel, by decide +kernel, plainFor_of_name (by decide +kernel), rfl⟩
set_option maxRecDepth 100000 in
theorem qk_160 : ai_okC qr_TB qm_160 := ⟨List.mem_of_getElem? (i := 1212) (by decide +kernel), List.mem_of_getElem? (i := 130) (by decide +kernel), by decide, by decide +kernel, by decide +kernel⟩
set_option maxRecDepth 100000 in
theorem qo_161 : ai_okM qr_TB qr_Y0 qr_P qm_161 := ⟨by decide +kernel, by decide +kernel, by decide +kernel, by decide +kernel, plainFor_of_name (by decide +kernel), rfl⟩
set_option maxRecDepth 100000 in
theorem qk_161 : ai_okC qr_TB qm_161 := ⟨List.mem_of_getElem? (i := 1216) (by decide +kernel), List.mem_of_getElem? (i := 130) (by decide +kernel), by decide, by decide +kernel, by decide +kernel⟩
set_option maxRecDepth 100000 in
theorem qo_162 : ai_okM qr_TB qr_Y0 qr_P qm_162 := ⟨by decide +kernel, by decide +kernel, by decide +kernel, by decide +kernel, plainFor_of_name (by decide +kernel), rfl⟩
set_option maxRecDepth 100000 in
theorem qk_162 : ai_okC qr_TB qm_162 := ⟨List.mem_of_getElem? (i := 1220) (by decide +kernel), List.mem_of_getElem? (i := 130) (by decide +kernel), by decide, by decide +kernel, by decide +kernel⟩
set_option maxRecDepth 100000 in
theorem qo_163 : ai_okM qr_TB qr_Y0 qr_P qm_163 := ⟨by decide +kernel, by decide +kernel, by decide +kernel, by decide +kernel, plainFor_of_name (by decide +kernel), rfl⟩
set_option maxRecDepth 100000 in
theorem qk_163 : ai_okC qr_TB qm_163 := ⟨List.mem_of_getElem? (i := 1224) (by decide +kernel), List.mem_of_getElem? (i := 130) (by decide +kernel), by decide, by decide +kernel, by decide +kernel⟩
set_option maxRecDepth 100000 in
theorem qo_164 : ai_okM qr_TB qr_Y0 qr_P qm_164 := ⟨by decide +kernel, by decide +kernel, by decide +kernel, by decide +kernel, plainFor_of_name (by decide +kernel), rfl⟩
set_option maxRecDepth 100000 in
theorem qk_164 : ai_okC qr_TB qm_164 := ⟨List.mem_of_getElem? (i := 1228) (by decide +kernel), List.mem_of_getElem? (i := 130) (by decide +kernel), by decide, by decide +kernel, by decide +kernel⟩
set_option maxRecDepth 100000 in
theorem qo_165 : ai_okM qr_TB qr_Y0 qr_P qm_165 := ⟨by decide +kernel, by decide +kernel, by decide +kernel, by decide +kernel, plainFor_of_name (by decide +kernel), rfl⟩
set_option maxRecDepth 100000 in
theorem qk_165 : ai_okC qr_TB qm_165 := ⟨List.mem_of_getElem? (i := 1232) (by decide +kernel), List.mem_of_getElem? (i := 130) (by decide +kernel), by decide, by decide +kernel, by decide +kernel⟩
set_option maxRecDepth 100000 in
theorem qo_166 : ai_okM qr_TB qr_Y0 qr_P qm_166 := ⟨by decide +kernel, by decide +kernel, by decide +kernel, by decide +kernel, plainFor_of_name (by decide +kernel), rfl⟩
set_option maxRecDepth 100000 in
theorem qk_166 : ai_okC qr_TB qm_166 := ⟨List.mem_of_getElem? (i := 1236) (by decide +kernel), List.mem_of_getElem? (i := 139) (by decide +kernel), by decide, by decide +kernel, by decide +kernel⟩
set_option maxRecDepth 100000 in
theorem qo_167 : ai_okM qr_TB qr_Y0 qr_P qm_167 := ⟨by decide +kernel, by decide +kernel, by decide +kernel, by decide +kernel, plainFor_of_name (by decide +kernel), rfl⟩
set_option maxRecDepth 100000 in
theorem qk_167 : ai_okC qr_TB qm_167 := ⟨List.mem_of_getElem? (i := 1240) (by decide +kernel), List.mem_of_getElem? (i := 140) (by decide +kernel), by decide, by decide +kernel, by decide +kernel⟩
set_option maxRecDepth 100000 in
theorem qo_168 : ai_okM qr_TB qr_Y0 qr_P qm_168 := ⟨by decide +kernel, by decide +kernel, by decide +kernel, by decide +kernel, plainFor_of_name (by decide +kernel), rfl⟩
set_option maxRecDepth 100000 in
theorem qk_168 : ai_okC qr_TB qm_168 := ⟨List.mem_of_getElem? (i := 1244) (by decide +kernel), List.mem_of_getElem? (i := 130) (by decide +kernel), by decide, by decide +kernel, by decide +kernel⟩
set_option maxRecDepth 100000 in
theorem qo_169 : ai_okM qr_TB qr_Y0 qr_P qm_169 := ⟨by decide +kernel, by decide +kernel, by decide +kernel, by decide +kernel, plainFor_of_name (by decide +kernel), rfl⟩
set_option maxRecDepth 100000 in
theorem qk_169 : ai_okC qr_TB qm_169 := ⟨List.mem_of_getElem? (i := 1248) (by decide +kernel), List.mem_of_getElem? (i := 130) (by decide +kernel), by decide, by decide +kernel, by decide +kernel⟩
set_option maxRecDepth 100000 in
theorem qo_170 : ai_okM qr_TB qr_Y0 qr_P qm_170 := ⟨by decide +kernel, by decide +kernel, by decide +kernel, by decide +kernel, plainFor_of_name (by decide +kernel), rfl⟩
set_option maxRecDepth 100000 in
theorem qk_170 : ai_okC qr_TB qm_170 := ⟨List.mem_of_getElem? (i := 1252) (by decide +kernel), List.mem_of_getElem? (i := 130) (by decide +kernel), by decide, by decide +kernel, by decide +kernel⟩
set_option maxRecDepth 100000 in
theorem qo_171 : ai_okM qr_TB qr_Y0 qr_P qm_171 := ⟨by decide +kernel, by decide +kernel, by decide +kernel, by decide +kernel, plainFor_of_name (by decide +kernel), rfl⟩
set_option maxRecDepth 100000 in
theorem qk_171 : ai_okC qr_TB qm_171 := ⟨List.mem_of_getElem? (i := 1256) (by decide +kernel), List.mem_of_getElem? (i := 130) (by decide +kernel), by decide, by decide +kernel, by decide +kernel⟩
set_option maxRecDepth 100000 in
theorem qo_172 : ai_okM qr_TB qr_Y0 qr_P qm_172 := ⟨by decide +kernel, by decide +kernel, by decide +kernel, by decide +kernel, plainFor_of_name (by decide +kernel), rfl⟩
set_option maxRecDepth 100000 in
theorem qk_172 : ai_okC qr_TB qm_172 := ⟨List.mem_of_getElem? (i := 1260) (by decide +kernel), List.mem_of_getElem? (i := 130) (by decide +kernel), by decide, by decide +kernel, by decide +kernel⟩
set_option maxRecDepth 100000 in
theorem qo_173 : ai_okM qr_TB qr_Y0 qr_P qm_173 := ⟨by decide +kernel, by decide +kernel, by decide +kernel, by decide +kernel, plainFor_of_name (by decide +kernel), rfl⟩
set_option maxRecDepth 100000 in
theorem qk_173 : ai_okC qr_TB qm_173 := ⟨List.mem_of_getElem? (i := 1264) (by decide +kernel), List.mem_of_getElem? (i := 130) (by decide +kernel), by decide, by decide +kernel, by decide +kernel⟩
set_option maxRecDepth 100000 in
theorem qo_174 : ai_okM qr_TB qr_Y0 qr_P qm_174 := ⟨by decide +kernel, by decide +kernel, by decide +kernel, by decide +kernel, plainFor_of_name (by decide +kernel), rfl⟩
set_option maxRecDepth 100000 in
theorem qk_174 : ai_okC qr_TB qm_174 := ⟨List.mem_of_getElem? (i := 1268) (by decide +kernel), List.mem_of_getElem? (i := 130) (by decide +kernel), by decide, by decide +kernel, by decide +kernel⟩
end
section
/-! PRINTED BY wip/whole/print.py: checks of the methods' tables. -/
set_option maxRecDepth 100000 in
theorem qo_175 : ai_okM qr_TB qr_Y0 qr_P qm_175 := ⟨by decide +kernel, by decide +kernel, by decide +kernel, by decide +kernel, plainFor_of_name (by decide +kernel), rfl⟩
set_option maxRecDepth 100000 in
theorem qk_175 : ai_okC qr_TB qm_175 := ⟨List.mem_of_getElem? (i := 1272) (by decide +kernel), List.mem_of_getElem? (i := 130) (by decide +kernel), by decide, by decide +kernel, by decide +kernel⟩
set_option maxRecDepth 100000 in
theorem qo_176 : ai_okM qr_TB qr_Y0 qr_P qm_176 := ⟨by decide +kernel, by decide +kernel, by decide +kernel, by decide +kernel, plainFor_of_name (by decide +kernel), rfl⟩
set_option maxRecDepth 100000 in
theorem qk_176 : ai_okC qr_TB qm_176 := ⟨List.mem_of_getElem? (i := 1276) (by decide +kernel), List.mem_of_getElem? (i := 130) (by decide +kernel), by decide, by decide +kernel, by decide +kernel⟩
set_option maxRecDepth 100000 in
theorem qo_177 : ai_okM qr_TB qr_Y0 qr_P qm_177 := ⟨by decide +kernel, by decide +kernel, by decide +kernel, by decide +kernel, plainFor_of_name (by decide +kernel), rfl⟩
set_option maxRecDepth 100000 in
theorem qk_177 : ai_okC qr_TB qm_177 := ⟨List.mem_of_getElem? (i := 1280) (by decide +kernel), List.mem_of_getElem? (i := 130) (by decide +kernel), by decide, by decide +kernel, by decide +kernel⟩
set_option maxRecDepth 100000 in
theorem qo_178 : ai_okM qr_TB qr_Y0 qr_P qm_178 := ⟨by decide +kernel, by decide +kernel, by decide +kernel, by decide +kernel, plainFor_of_name (by decide +kernel), rfl⟩
set_option maxRecDepth 100000 in
theorem qk_178 : ai_okC qr_TB qm_178 := ⟨List.mem_of_getElem? (i := 1284) (by decide +kernel), List.mem_of_getElem? (i := 130) (by decide +kernel), by decide, by decide +kernel, by decide +kernel⟩
set_option maxRecDepth 100000 in
theorem qo_179 : ai_okM qr_TB qr_Y0 qr_P qm_179 := ⟨by decide +kernel, by decide +kernel, by decide +kernel, by decide +kernel, plainFor_of_name (by decide +kernel), rfl⟩
set_option maxRecDepth 100000 in
theorem qk_179 : ai_okC qr_TB qm_179 := ⟨List.mem_of_getElem? (i := 1288) (by decide +kernel), List.mem_of_getElem? (i := 130) (by decide +kernel), by decide, by decide +kernel, by decide +kernel⟩
set_option maxRecDepth 100000 in
theorem qo_180 : ai_okM qr_TB qr_Y0 qr_P qm_180 := ⟨by decide +kernel, by decide +kernel, by decide +kernel, by decide +kernel, plainFor_of_name (by decide +kernel), rfl⟩
set_option maxRecDepth 100000 in
theorem qk_180 : ai_okC qr_TB qm_180 := ⟨List.mem_of_getElem? (i := 1292) (by decide +kernel), List.mem_of_getElem? (i := 130) (by decide +kernel), by decide, by decide +kernel, by decide +kernel⟩
set_option maxRecDepth 100000 in
theorem qo_181 : ai_okM qr_TB qr_Y0 qr_P qm_181 := ⟨by decide +kernel, by decide +kernel, by decide +kernel, by decide +kernel, plainFor_of_name (by decide +kernel), rfl⟩
set_option maxRecDepth 100000 in
theorem qk_181 : ai_okC qr_TB qm_181 := ⟨List.mem_of_getElem? (i := 1296) (by decide +kernel), List.mem_of_getElem? (i := 130) (by decide +kernel), by decide, by decide +kernel, by decide +kernel⟩
set_option maxRecDepth 100000 in
theorem qo_182 : ai_okM qr_TB qr_Y0 qr_P qm_182 := ⟨by decide +kernel, by decide +kernel, by decide +kernel, by decide +kernel, plainFor_of_name (by decide +kernel), rfl⟩
set_option maxRecDepth 100000 in
theorem qk_182 : ai_okC qr_TB qm_182 := ⟨List.mem_of_getElem? (i := 1300) (by decide +kernel), List.mem_of_getElem? (i := 130) (by decide +kernel), by decide, by decide +kernel, by decide +kernel⟩
set_option maxRecDepth 100000 in
theorem qo_183 : ai_okM qr_TB qr_Y0 qr_P qm_183 := ⟨by decide +kernel, by decide +kernel, by decide +kernel, by decide +kernel, plainFor_of_name (by decide +kernel), rfl⟩
set_option maxRecDepth 100000 in
theorem qk_183 : ai_okC qr_TB qm_183 := ⟨List.mem_of_getElem? (i := 1304) (by decide +kernel), List.mem_of_getElem? (i := 130) (by decide +kernel), by decide, by decide +kernel, by decide +kernel⟩
set_option maxRecDepth 100000 in
theorem qo_184 : ai_okM qr_TB qr_Y0 qr_P qm_184 := ⟨by decide +kernel, by decide +kernel, by decide +kernel, by decide +kernel, plainFor_of_name (by decide +kernel), rfl⟩
set_option maxRecDepth 100000 in
theorem qk_184 : ai_okC qr_TB qm_184 := ⟨List.mem_of_getElem? (i := 1308) (by decide +kernel), List.mem_of_getElem? (i := 130) (by decide +kernel), by decide, by decide +kernel, by decide +kernel⟩
set_option maxRecDepth 100000 in
theorem qo_185 : ai_okM qr_TB qr_Y0 qr_P qm_185 := ⟨by decide +kernel, by decide +kernel, by decide +kernel, by decide +kernel, plainFor_of_name (by decide +kernel), rfl⟩
set_option maxRecDepth 100000 in
theorem qk_185 : ai_okC qr_TB qm_185 := ⟨List.mem_of_getElem? (i := 1312) (by decide +kernel), List.mem_of_getElem? (i := 130) (by decide +kernel), by decide, by decide +kernel, by decide +kernel⟩
set_option maxRecDepth 100000 in
theorem qo_186 : ai_okM qr_TB qr_Y0 qr_P qm_186 := ⟨by decide +kernel, by decide +kernel, by decide +kernel, by decide +kernel, plainFor_of_name (by decide +kernel), rfl⟩
set_option maxRecDepth 100000 in
theorem qk_186 : ai_okC qr_TB qm_186 := ⟨List.mem_of_getElem? (i := 1316) (by decide +kernel), List.mem_of_getElem? (i := 130) (by decide +kernel), by decide, by decide +kernel, by decide +kernel⟩
set_option maxRecDepth 100000 in
theorem qo_187 : ai_okM qr_TB qr_Y0 qr_P qm_187 := ⟨by decide +kernel, by decide +kernel, by decide +kernel, by decide +kernel, plainFor_of_name (by decide +kernel), rfl⟩
set_option maxRecDepth 100000 in
theorem qk_187 : ai_okC qr_TB qm_187 := ⟨List.mem_of_getElem? (i := 1320) (by decide +kernel), List.mem_of_getElem? (i := 130) (by decide +kernel), by decide, by decide +kernel, by decide +kernel⟩
set_option maxRecDepth 100000 in
theorem qo_188 : ai_okM qr_TB qr_Y0 qr_P qm_188 := ⟨by decide +kernel, by decide +kernel, by decide +kernel, by decide +kernel, plainFor_of_name (by decide +kernel), rfl⟩
set_option maxRecDepth 100000 in
theorem qk_188 : ai_okC qr_TB qm_188 := ⟨List.mem_of_getElem? (i := 1324) (by decide +kernel), List.mem_of_getElem? (i := 130) (by decide +kernel), by decide, by decide +kernel, by decide +kernel⟩
set_option maxRecDepth 100000 in
theorem qo_189 : ai_okM qr_TB qr_Y0 qr_P qm_189 := ⟨by decide +kernel, by decide +kernel, by decide +kernel, by decide +kernel, plainFor_of_name (by decide +kernel), rfl⟩
set_option maxRecDepth 100000 in
theorem qk_189 : ai_okC qr_TB qm_189 := ⟨List.mem_of_getElem? (i := 1328) (by decide +kernel), List.mem_of_getElem? (i := 130) (by decide +kernel), by decide, by decide +kernel, by decide +kernel⟩
set_option maxRecDepth 100000 in
theorem qo_190 : ai_okM qr_TB qr_Y0 qr_P qm_190 := ⟨by decide +kernel, by decide +kernel, by decide +kernel, by decide +kernel, plainFor_of_name (by decide +kernel), rfl⟩
set_option maxRecDepth 100000 in
theorem qk_190 : ai_okC qr_TB qm_190 := ⟨List.mem_of_getElem? (i := 1332) (by decide +kernel), List.mem_of_getElem? (i := 130) (by decide +kernel), by decide, by decide +kernel, by decide +kernel⟩
set_option maxRecDepth 100000 in
theorem qo_191 : ai_okM qr_TB qr_Y0 qr_P qm_191 := ⟨by decide +kernel, by decide +kernel, by decide +kernel, by decide +kernel, plainFor_of_name (by decide +kernel), rfl⟩
set_option maxRecDepth 100000 in
theorem qk_191 : ai_okC qr_TB qm_191 := ⟨List.mem_of_getElem? (i := 1336) (by decide +kernel), List.mem_of_getElem? (i := 130) (by decide +kernel), by decide, by decide +kernel, by decide +kernel⟩
set_option maxRecDepth 100000 in
theorem qo_192 : ai_okM qr_TB qr_Y0 qr_P qm_192 := ⟨by decide +kernel, by decide +kernel, by decide +kernel, by decide +kernel, plainFor_of_name (by decide +kernel), rfl⟩
set_option maxRecDepth 100000 in
theorem qk_192 : ai_okC qr_TB qm_192 := ⟨List.mem_of_getElem? (i := 1340) (by decide +kernel), List.mem_of_getElem? (i := 130) (by decide +kernel), by decide, by decide +kernel, by decide +kernel⟩
set_option maxRecDepth 100000 in
theorem qo_193 : ai_okM qr_TB qr_Y0 qr_P qm_193 := ⟨by decide +kernel, by decide +kernel, by decide +kernel, by decide +kernel, plainFor_of_name (by decide +kernel), rfl⟩
set_option maxRecDepth 100000 in
theorem qk_193 : ai_okC qr_TB qm_193 := ⟨List.mem_of_getElem? (i := 1344) (by decide +kernel), List.mem_of_getElem? (i := 130) (by decide +kernel), by decide, by decide +kernel, by decide +kernel⟩
set_option maxRecDepth 100000 in
theorem qo_194 : ai_okM qr_TB qr_Y0 qr_P qm_194 := ⟨by decide +kernel, by decide +kernel, by decide +kernel, by decide +kernel, plainFor_of_name (by decide +kernel), rfl⟩
set_option maxRecDepth 100000 in
theorem qk_194 : ai_okC qr_TB qm_194 := ⟨List.mem_of_getElem? (i := 1348) (by decide +kernel), List.mem_of_getElem? (i := 130) (by decide +kernel), by decide, by decide +kernel, by decide +kernel⟩
set_option maxRecDepth 100000 in
theorem qo_195 : ai_okM qr_TB qr_Y0 qr_P qm_195 := ⟨by decide +kernel, by decide +kernel, by decide +kernel, by decide +kernel, plainFor_of_name (by decide +kernel), rfl⟩
set_option maxRecDepth 100000 in
theorem qk_195 : ai_okC qr_TB qm_195 := ⟨List.mem_of_getElem? (i := 1352) (by decide +kernel), List.mem_of_getElem? (i := 130) (by decide +kernel), by decide, by decide +kernel, by decide +kernel⟩
set_option maxRecDepth 100000 in
theorem qo_196 : ai_okM qr_TB qr_Y0 qr_P qm_196 := ⟨by decide +kernel, by decide +kernel, by decide +kernel, by decide +kernel, plainFor_of_name (by decide +kernel), rfl⟩
set_option maxRecDepth 100000 in
theorem qk_196 : ai_okC qr_TB qm_196 := ⟨List.mem_of_getElem? (i := 1356) (by decide +kernel), List.mem_of_getElem? (i := 130) (by decide +kernel), by decide, by decide +kernel, by decide +kernel⟩
set_option maxRecDepth 100000 in
theorem qo_197 : ai_okM qr_TB qr_Y0 qr_P qm_197 := ⟨by decide +kernel, by decide +kernel, by decide +kernel, by decide +kernel, plainFor_of_name (by decide +kernel), rfl⟩
set_option maxRecDepth 100000 in
theorem qk_197 : ai_okC qr_TB qm_197 := ⟨List.mem_of_getElem? (i := 1361) (by decide +kernel), List.mem_of_getElem? (i := 130) (by decide +kernel), by decide, by decide +kernel, by decide +kernel⟩
set_option maxRecDepth 100000 in
theorem qo_198 : ai_okM qr_TB qr_Y0 qr_P qm_198 := ⟨by decide +kernel, by decide +kernel, by decide +kernel, by decide +kernel, plainFor_of_name (by decide +kernel), rfl⟩
set_option maxRecDepth 100000 in
theorem qk_198 : ai_okC qr_TB qm_198 := ⟨List.mem_of_getElem? (i := 1365) (by decide +kernel), List.mem_of_getElem? (i := 130) (by decide +kernel), by decide, by decide +kernel, by decide +kernel⟩
set_option maxRecDepth 100000 in
theorem qo_199 : ai_okM qr_TB qr_Y0 qr_P qm_199 := ⟨by decide +kernel, by decide +kernel, by decide +kernel, by decide +kernel, plainFor_of_name (by decide +kernel), rfl⟩
set_option maxRecDepth 100000 in
theorem qk_199 : ai_okC qr_TB qm_199 := ⟨List.mem_of_getElem? (i := 1369) (by decide +kernel), List.mem_of_getElem? (i := 130) (by decide +kernel), by decide, by decide +kernel, by decide +kernel⟩
end
section
/-! PRINTED BY wip/whole/print.py: checks of the methods' tables. -/
set_option maxRecDepth 100000 in
theorem qo_law : ai_okM qr_TB qr_Y0 qr_P qm_law := ⟨by decide +kernel, by decide +kernel, by decide +kernel, by decide +kernel, plainFor_of_name (by decide +kernel), rfl⟩
end
section
/-! All methods' tables have been checked. -/
set_option maxRecDepth 100000 in
theorem q_checked_ok : q_checked := ⟨List.forall_mem_cons.mpr ⟨qo_0, List.forall_mem_cons.mpr ⟨qo_1, List.forall_mem_cons.mpr ⟨qo_2, List.forall_mem_cons.mpr ⟨qo_3, List.forall_mem_cons.mpr ⟨qo_4, List.forall_mem_cons.mpr ⟨qo_5, List.forall_mem_cons.mpr ⟨qo_6, List.forall_mem_cons.mpr ⟨qo_7, List.forall_mem_cons.mpr ⟨qo_8, List.forall_mem_cons.mpr ⟨qo_9, List.forall_mem_cons.mpr ⟨qo_10, List.forall_mem_cons.mpr ⟨qo_11, List.forall_mem_cons.mpr ⟨qo_12, List.forall_mem_cons.mpr ⟨qo_13, List.forall_mem_cons.mpr ⟨qo_14, List.forall_mem_cons.mpr ⟨qo_15, List.forall_mem_cons.mpr ⟨qo_16, List.forall_mem_cons.mpr ⟨qo_17, List.forall_mem_cons.mpr ⟨qo_18, List.forall_mem_cons.mpr ⟨qo_19, List.forall_mem_cons.mpr ⟨qo_20, List.forall_mem_cons.mpr ⟨qo_21, List.forall_mem_cons.mpr ⟨qo_22, List.forall_mem_cons.mpr ⟨qo_23, List.forall_mem_cons.mpr ⟨qo_24, List.forall_mem_cons.mpr ⟨qo_25, List.forall_mem_cons.mpr ⟨qo_26, List.forall_mem_cons.mpr ⟨qo_27, List.forall_mem_cons.mpr ⟨qo_28, List.forall_mem_cons.mpr ⟨qo_29, List.forall_mem_cons.mpr ⟨qo_30, List.forall_mem_cons.mpr ⟨qo_31, List.forall_mem_cons.mpr ⟨qo_32, List.forall_mem_cons.mpr ⟨qo_33, List.forall_mem_cons.mpr ⟨qo_34, List.forall_mem_cons.mpr ⟨qo_35, List.forall_mem_cons.mpr ⟨qo_36, List.forall_mem_cons.mpr ⟨qo_37, List.forall_mem_cons.mpr ⟨qo_38, List.forall_mem_cons.mpr ⟨qo_39, List.forall_mem_cons.mpr ⟨qo_40, List.forall_mem_cons.mpr ⟨qo_41, List.forall_mem_cons.mpr ⟨qo_42, List.forall_mem_cons.mpr ⟨qo_43, List.forall_mem_cons.mpr ⟨qo_44, List.forall_mem_cons.mpr ⟨qo_45, List.forall_mem_cons.mpr ⟨qo_46, List.forall_mem_cons.mpr ⟨qo_47, List.forall_mem_cons.mpr ⟨qo_48, List.forall_mem_cons.mpr ⟨qo_49, List.forall_mem_cons.mpr ⟨qo_50, List.forall_mem_cons.mpr ⟨qo_51, List.forall_mem_cons.mpr ⟨qo_52, List.forall_mem_cons.mpr ⟨qo_53, List.forall_mem_cons.mpr ⟨qo_54, List.forall_mem_cons.mpr ⟨qo_55, List.forall_mem_cons.mpr ⟨qo_56, List.forall_mem_cons.mpr ⟨qo_57, List.forall_mem_cons.mpr ⟨qo_58, List.forall_mem_cons.mpr ⟨qo_59, List.forall_mem_cons.mpr ⟨qo_60, List.forall_mem_cons.mpr ⟨qo_61, List.forall_mem_cons.mpr ⟨qo_62, List.forall_mem_cons.mpr ⟨qo_63, List.forall_mem_cons.mpr ⟨qo_64, List.forall_mem_cons.mpr ⟨qo_65, List.forall_mem_cons.mpr ⟨qo_66, List.forall_mem_cons.mpr ⟨qo_67, List.forall_mem_cons.mpr ⟨qo_68, List.forall_mem_cons.mpr ⟨qo_69, List.forall_mem_cons.mpr ⟨qo_70, List.forall_mem_cons.mpr ⟨qo_71, List.forall_mem_cons.mpr ⟨qo_72, List.forall_mem_cons.mpr ⟨qo_73, List.forall_mem_cons.mpr ⟨qo_74, List.forall_mem_cons.mpr ⟨qo_75, List.forall_mem_cons.mpr ⟨qo_76, List.forall_mem_cons.mpr ⟨qo_77, List.forall_mem_cons.mpr ⟨qo_78, List.forall_mem_cons.mpr ⟨qo_79, List.forall_mem_cons.mpr ⟨qo_80, List.forall_mem_cons.mpr ⟨qo_81, List.forall_mem_cons.mpr ⟨qo_82, List.forall_mem_cons.mpr ⟨qo_83, List.forall_mem_cons.mpr ⟨qo_84, List.forall_mem_cons.mpr ⟨qo_85, List.forall_mem_cons.mpr ⟨qo_86, List.forall_mem_cons.mpr ⟨qo_87, List.forall_mem_cons.mpr ⟨qo_88, List.forall_mem_cons.mpr ⟨qo_89, List.forall_mem_cons.mpr ⟨qo_90, List.forall_mem_cons.mpr ⟨qo_91, List.forall_mem_cons.mpr ⟨qo_92, List.forall_mem_cons.mpr ⟨qo_93, List.forall_mem_cons.mpr ⟨qo_94, List.forall_mem_cons.mpr ⟨qo_95, List.forall_mem_cons.mpr ⟨qo_96, List.forall_mem_cons.mpr ⟨qo_97, List.forall_mem_cons.mpr ⟨qo_98, List.forall_mem_cons.mpr ⟨qo_99, List.forall_mem_cons.mpr ⟨qo_100, List.forall_mem_cons.mpr ⟨qo_101, List.forall_mem_cons.mpr ⟨qo_102, List.forall_mem_cons.mpr ⟨qo_103, List.forall_mem_cons.mpr ⟨qo_104, List.forall_mem_cons.mpr ⟨qo_105, List.forall_mem_cons.mpr ⟨qo_106, List.forall_mem_cons.mpr ⟨qo_107, List.forall_mem_cons.mpr ⟨qo_108, List.forall_mem_cons.mpr ⟨qo_109, List.forall_mem_cons.mpr ⟨qo_110, List.forall_mem_cons.mpr ⟨qo_111, List.forall_mem_cons.mpr ⟨qo_112, List.forall_mem_cons.mpr ⟨qo_113, List.forall_mem_cons.mpr ⟨qo_114, List.forall_mem_cons.mpr ⟨qo_115, List.forall_mem_cons.mpr ⟨qo_116, List.forall_mem_cons.mpr ⟨qo_117, List.forall_mem_cons.mpr ⟨qo_118, List.forall_mem_cons.mpr ⟨qo_119, List.forall_mem_cons.mpr ⟨qo_120, List.forall_mem_cons.mpr ⟨qo_121, List.forall_mem_cons.mpr ⟨qo_122, List.forall_mem_cons.mpr ⟨qo_123, List.forall_mem_cons.mpr ⟨qo_124, List.forall_mem_cons.mpr ⟨qo_125, List.forall_mem_cons.mpr ⟨qo_126, List.forall_mem_cons.mpr ⟨qo_127, List.forall_mem_cons.mpr ⟨qo_128, List.forall_mem_cons.mpr ⟨qo_129, List.forall_mem_cons.mpr ⟨qo_130, List.forall_mem_cons.mpr ⟨qo_131, List.forall_mem_cons.mpr ⟨qo_132, List.forall_mem_cons.mpr ⟨qo_133, List.forall_mem_cons.mpr ⟨qo_134, List.forall_mem_cons.mpr ⟨qo_135, List.forall_mem_cons.mpr ⟨qo_136, List.forall_mem_cons.mpr ⟨qo_137, List.forall_mem_cons.mpr ⟨qo_138, List.forall_mem_cons.mpr ⟨qo_139, List.forall_mem_cons.mpr ⟨qo_140, List.forall_mem_cons.mpr ⟨qo_141, List.forall_mem_cons.mpr ⟨qo_142, List.forall_mem_cons.mpr ⟨qo_143, List.forall_mem_cons.mpr ⟨qo_144, List.forall_mem_cons.mpr ⟨qo_145, List.forall_mem_cons.mpr ⟨qo_146, List.forall_mem_cons.mpr ⟨qo_147, List.forall_mem_cons.mpr ⟨qo_148, List.forall_mem_cons.mpr ⟨qo_149, List.forall_mem_cons.mpr ⟨qo_150, List.forall_mem_cons.mpr ⟨qo_151, List.forall_mem_cons.mpr ⟨qo_152, List.forall_mem_cons.mpr ⟨qo_153, List.forall_mem_cons.mpr ⟨qo_154, List.forall_mem_cons.mpr ⟨qo_155, List.forall_mem_cons.mpr ⟨qo_156, List.forall_mem_cons.mpr ⟨qo_157, List.forall_mem_cons.mpr ⟨qo_158, List.forall_mem_cons.mpr ⟨qo_159, List.forall_mem_cons.mpr ⟨qo_160, List.forall_mem_cons.mpr ⟨qo_161, List.forall_mem_cons.mpr ⟨qo_162, List.forall_mem_cons.mpr ⟨qo_163, List.forall_mem_cons.mpr ⟨qo_164, List.forall_mem_cons.mpr ⟨qo_165, List.forall_mem_cons.mpr ⟨qo_166, List.forall_mem_cons.mpr ⟨qo_167, List.forall_mem_cons.mpr ⟨qo_168, List.forall_mem_cons.mpr ⟨qo_169, List.forall_mem_cons.mpr ⟨qo_170, List.forall_mem_cons.mpr ⟨qo_171, List.forall_mem_cons.mpr ⟨qo_172, List.forall_mem_cons.mpr ⟨qo_173, List.forall_mem_cons.mpr ⟨qo_174, List.forall_mem_cons.mpr ⟨qo_175, List.forall_mem_cons.mpr ⟨qo_176, List.forall_mem_cons.mpr ⟨qo_177, List.forall_mem_cons.mpr ⟨qo_178, List.forall_mem_cons.mpr ⟨qo_179, List.forall_mem_cons.mpr ⟨qo_180, List.forall_mem_cons.mpr ⟨qo_181, List.forall_mem_cons.mpr ⟨qo_182, List.forall_mem_cons.mpr ⟨qo_183, List.forall_mem_cons.mpr ⟨qo_184, List.forall_mem_cons.mpr ⟨qo_185, List.forall_mem_cons.mpr ⟨qo_186, List.forall_mem_cons.mpr ⟨qo_187, List.forall_mem_cons.mpr ⟨qo_188, List.forall_mem_cons.mpr ⟨qo_189, List.forall_mem_cons.mpr ⟨qo_190, List.forall_mem_cons.mpr ⟨qo_191, List.forall_mem_cons.mpr ⟨qo_192, List.forall_mem_cons.mpr ⟨qo_193, List.forall_mem_cons.mpr ⟨qo_194, List.forall_mem_cons.mpr ⟨qo_195, List.forall_mem_cons.mpr ⟨qo_196, List.forall_mem_cons.mpr ⟨qo_197, List.forall_mem_cons.mpr ⟨qo_198, List.forall_mem_cons.mpr ⟨qo_199, fun _ h => absurd h List.not_mem_nil⟩⟩⟩⟩⟩⟩⟩⟩⟩⟩⟩⟩⟩⟩⟩⟩⟩⟩⟩⟩⟩⟩⟩⟩⟩⟩⟩⟩⟩⟩⟩⟩⟩⟩⟩⟩⟩⟩⟩⟩⟩⟩⟩⟩⟩⟩⟩⟩⟩⟩⟩⟩⟩⟩⟩⟩⟩⟩⟩⟩⟩⟩⟩⟩⟩⟩⟩⟩⟩⟩⟩⟩⟩⟩⟩⟩⟩⟩⟩⟩⟩⟩⟩⟩⟩⟩⟩⟩⟩⟩⟩⟩⟩⟩⟩⟩⟩⟩⟩⟩⟩⟩⟩⟩⟩⟩⟩⟩⟩⟩⟩⟩⟩⟩⟩⟩⟩⟩⟩⟩⟩⟩⟩⟩⟩⟩⟩⟩⟩⟩⟩⟩⟩⟩⟩⟩⟩⟩⟩⟩⟩⟩⟩⟩⟩⟩⟩⟩⟩⟩⟩⟩⟩⟩⟩⟩⟩⟩⟩⟩⟩⟩⟩⟩⟩⟩⟩⟩⟩⟩⟩⟩⟩⟩⟩⟩⟩⟩⟩⟩⟩⟩⟩⟩⟩⟩⟩⟩⟩⟩⟩⟩⟩⟩⟩⟩⟩⟩⟩⟩, List.forall_mem_cons.mpr ⟨qk_0, List.forall_mem_cons.mpr ⟨qk_1, List.forall_mem_cons.mpr ⟨qk_2, List.forall_mem_cons.mpr ⟨qk_3, List.forall_mem_cons.mpr ⟨qk_4, List.forall_mem_cons.mpr ⟨qk_5, List.forall_mem_cons.mpr ⟨qk_6, List.forall_mem_cons.mpr ⟨qk_7, List.forall_mem_cons.mpr ⟨qk_8, List.forall_mem_cons.mpr ⟨qk_9, List.forall_mem_cons.mpr ⟨qk_10, List.forall_mem_cons.mpr ⟨qk_11, List.forall_mem_cons.mpr ⟨qk_12, List.forall_mem_cons.mpr ⟨qk_13, List.forall_mem_cons.mpr ⟨qk_14, List.forall_mem_cons.mpr ⟨qk_15, List.forall_mem_cons.mpr ⟨qk_16, List.forall_mem_cons.mpr ⟨qk_17, List.forall_mem_cons.mpr ⟨qk_18, List.forall_mem_cons.mpr ⟨qk_19, List.forall_mem_cons.mpr ⟨qk_20, List.forall_mem_cons.mpr ⟨qk_21, List.forall_mem_cons.mpr ⟨qk_22, List.forall_mem_cons.mpr ⟨qk_23, List.forall_mem_cons.mpr ⟨qk_24, List.forall_mem_cons.mpr ⟨qk_25, List.forall_mem_cons.mpr ⟨qk_26, List.forall_mem_cons.mpr ⟨qk_27, List.forall_mem_cons.mpr ⟨qk_28, List.forall_mem_cons.mpr ⟨qk_29, List.forall_mem_cons.mpr ⟨qk_30, List.forall_mem_cons.mpr ⟨qk_31, List.forall_mem_cons.mpr ⟨qk_32, List.forall_mem_cons.mpr ⟨qk_33, List.forall_mem_cons.mpr ⟨qk_34, List.forall_mem_cons.mpr ⟨qk_35, List.forall_mem_cons.mpr ⟨qk_36, List.forall_mem_cons.mpr ⟨qk_37, List.forall_mem_cons.mpr ⟨qk_38, List.forall_mem_cons.mpr ⟨qk_39, List.forall_mem_cons.mpr ⟨qk_40, List.forall_mem_cons.mpr ⟨qk_41, List.forall_mem_cons.mpr ⟨qk_42, List.forall_mem_cons.mpr ⟨qk_43, List.forall_mem_cons.mpr ⟨qk_44, List.forall_mem_cons.mpr ⟨qk_45, List.forall_mem_cons.mpr ⟨qk_46, List.forall_mem_cons.mpr ⟨qk_47, List.forall_mem_cons.mpr ⟨qk_48, List.forall_mem_cons.mpr ⟨qk_49, List.forall_mem_cons.mpr ⟨qk_50, List.forall_mem_cons.mpr ⟨qk_51, List.forall_mem_cons.mpr ⟨qk_52, List.forall_mem_cons.mpr ⟨qk_53, List.forall_mem_cons.mpr ⟨qk_54, List.forall_mem_cons.mpr ⟨qk_55, List.forall_mem_cons.mpr ⟨qk_56, List.forall_mem_cons.mpr ⟨qk_57, List.forall_mem_cons.mpr ⟨qk_58, List.forall_mem_cons.mpr ⟨qk_59, List.forall_mem_cons.mpr ⟨qk_60, List.forall_mem_cons.mpr ⟨qk_61, List.forall_mem_cons.mpr ⟨qk_62, List.forall_mem_cons.mpr ⟨qk_63, List.forall_mem_cons.mpr ⟨qk_64, List.forall_mem_cons.mpr ⟨qk_65, List.forall_mem_cons.mpr ⟨qk_66, List.forall_mem_cons.mpr ⟨qk_67, List.forall_mem_cons.mpr ⟨qk_68, List.forall_mem_cons.mpr ⟨qk_69, List.forall_mem_cons.mpr ⟨qk_70, List.forall_mem_cons.mpr ⟨qk_71, List.forall_mem_cons.mpr ⟨qk_72, List.forall_mem_cons.mpr ⟨qk_73, List.forall_mem_cons.mpr ⟨qk_74, List.forall_mem_cons.mpr ⟨qk_75, List.forall_mem_cons.mpr ⟨qk_76, List.forall_mem_cons.mpr ⟨qk_77, List.forall_mem_cons.mpr ⟨qk_78, List.forall_mem_cons.mpr ⟨qk_79, List.forall_mem_cons.mpr ⟨qk_80, List.forall_mem_cons.mpr ⟨qk_81, List.forall_mem_cons.mpr ⟨qk_82, List.forall_mem_cons.mpr ⟨qk_83, List.forall_mem_cons.mpr ⟨qk_84, List.forall_mem_cons.mpr ⟨qk_85, List.forall_mem_cons.mpr ⟨qk_86, List.forall_mem_cons.mpr ⟨qk_87, List.forall_mem_cons.mpr ⟨qk_88, List.forall_mem_cons.mpr ⟨qk_89, List.forall_mem_cons.mpr ⟨qk_90, List.forall_mem_cons.mpr ⟨qk_91, List.forall_mem_cons.mpr ⟨qk_92, List.forall_mem_cons.mpr ⟨qk_93, List.forall_mem_cons.mpr ⟨qk_94, List.forall_mem_cons.mpr ⟨qk_95, List.forall_mem_cons.mpr ⟨qk_96, List.forall_mem_cons.mpr ⟨qk_97, List.forall_mem_cons.mpr ⟨qk_98, List.forall_mem_cons.mpr ⟨qk_99, List.forall_mem_cons.mpr ⟨qk_100, List.forall_mem_cons.mpr ⟨qk_101, List.forall_mem_cons.mpr ⟨qk_102, List.forall_mem_cons.mpr ⟨qk_103, List.forall_mem_cons.mpr ⟨qk_104, List.forall_mem_cons.mpr ⟨qk_105, List.forall_mem_cons.mpr ⟨qk_106, List.forall_mem_cons.mpr ⟨qk_107, List.forall_mem_cons.mpr ⟨qk_108, List.forall_mem_cons.mpr ⟨qk_109, List.forall_mem_cons.mpr ⟨qk_110, List.forall_mem_cons.mpr ⟨qk_111, List.forall_mem_cons.mpr ⟨qk_112, List.forall_mem_cons.mpr ⟨qk_113, List.forall_mem_cons.mpr ⟨qk_114, List.forall_mem_cons.mpr ⟨qk_115, List.forall_mem_cons.mpr ⟨qk_116, List.forall_mem_cons.mpr ⟨qk_117, List.forall_mem_cons.mpr ⟨qk_118, List.forall_mem_cons.mpr ⟨qk_119, List.forall_mem_cons.mpr ⟨qk_120, List.forall_mem_cons.mpr ⟨qk_121, List.forall_mem_cons.mpr ⟨qk_122, List.forall_mem_cons.mpr ⟨qk_123, List.forall_mem_cons.mpr ⟨qk_124, List.forall_mem_cons.mpr ⟨qk_125, List.forall_mem_cons.mpr ⟨qk_126, List.forall_mem_cons.mpr ⟨qk_127, List.forall_mem_cons.mpr ⟨qk_128, List.forall_mem_cons.mpr ⟨qk_129, List.forall_mem_cons.mpr ⟨qk_130, List.forall_mem_cons.mpr ⟨qk_131, List.forall_mem_cons.mpr ⟨qk_132, List.forall_mem_cons.mpr ⟨qk_133, List.forall_mem_cons.mpr ⟨qk_134, List.forall_mem_cons.mpr ⟨qk_135, List.forall_mem_cons.mpr ⟨qk_136, List.forall_mem_cons.mpr ⟨qk_137, List.forall_mem_cons.mpr ⟨qk_138, List.forall_mem_cons.mpr ⟨qk_139, List.forall_mem_cons.mpr ⟨qk_140, List.forall_mem_cons.mpr ⟨qk_141, List.forall_mem_cons.mpr ⟨qk_142, List.forall_mem_cons.mpr ⟨qk_143, List.forall_mem_cons.mpr ⟨qk_144, List.forall_mem_cons.mpr ⟨qk_145, List.forall_mem_cons.mpr ⟨qk_146, List.forall_mem_cons.mpr ⟨qk_147, List.forall_mem_cons.mpr ⟨qk_148, List.forall_mem_cons.mpr ⟨qk_149, List.forall_mem_cons.mpr ⟨qk_150, List.forall_mem_cons.mpr ⟨qk_151, List.forall_mem_cons.mpr ⟨qk_152, List.forall_mem_cons.mpr ⟨qk_153, List.forall_mem_cons.mpr ⟨qk_154, List.forall_mem_cons.mpr ⟨qk_155, List.forall_mem_cons.mpr ⟨qk_156, List.forall_mem_cons.mpr ⟨qk_157, List.forall_mem_cons.mpr ⟨qk_158, List.forall_mem_cons.mpr ⟨qk_159, List.forall_mem_cons.mpr ⟨qk_160, List.forall_mem_cons.mpr ⟨qk_161, List.forall_mem_cons.mpr ⟨qk_162, List.forall_mem_cons.mpr ⟨qk_163, List.forall_mem_cons.mpr ⟨qk_164, List.forall_mem_cons.mpr ⟨qk_165, List.forall_mem_cons.mpr ⟨qk_166, List.forall_mem_cons.mpr ⟨qk_167, List.forall_mem_cons.mpr ⟨qk_168, List.forall_mem_cons.mpr ⟨qk_169, List.forall_mem_cons.mpr ⟨qk_170, List.forall_mem_cons.mpr ⟨qk_171, List.forall_mem_cons.mpr ⟨qk_172, List.forall_mem_cons.mpr ⟨qk_173, List.forall_mem_cons.mpr ⟨qk_174, List.forall_mem_cons.mpr ⟨qk_175, List.forall_mem_cons.mpr ⟨qk_176, List.forall_mem_cons.mpr ⟨qk_177, List.forall_mem_cons.mpr ⟨qk_178, List.forall_mem_cons.mpr ⟨qk_179, List.forall_mem_cons.mpr ⟨qk_180, List.forall_mem_cons.mpr ⟨qk_181, List.forall_mem_cons.mpr ⟨qk_182, List.forall_mem_cons.mpr ⟨qk_183, List.forall_mem_cons.mpr ⟨qk_184, List.forall_mem_cons.mpr ⟨qk_185, List.forall_mem_cons.mpr ⟨qk_186, List.forall_mem_cons.mpr ⟨qk_187, List.forall_mem_cons.mpr ⟨qk_188, List.forall_mem_cons.mpr ⟨qk_189, List.forall_mem_cons.mpr ⟨qk_190, List.forall_mem_cons.mpr ⟨qk_191, List.forall_mem_cons.mpr ⟨qk_192, List.forall_mem_cons.mpr ⟨qk_193, List.forall_mem_cons.mpr ⟨qk_194, List.forall_mem_cons.mpr ⟨qk_195, List.forall_mem_cons.mpr ⟨qk_196, List.forall_mem_cons.mpr ⟨qk_197, List.forall_mem_cons.mpr ⟨qk_198, List.forall_mem_cons.mpr ⟨qk_199, fun _ h => absurd h List.not_mem_nil⟩⟩⟩⟩⟩⟩⟩⟩⟩⟩⟩⟩⟩⟩⟩⟩⟩⟩⟩⟩⟩⟩⟩⟩⟩⟩⟩⟩⟩⟩⟩⟩⟩⟩⟩⟩⟩⟩⟩⟩⟩⟩⟩⟩⟩⟩⟩⟩⟩⟩⟩⟩⟩⟩⟩⟩⟩⟩⟩⟩⟩⟩⟩⟩⟩⟩⟩⟩⟩⟩⟩⟩⟩⟩⟩⟩⟩⟩⟩⟩⟩⟩⟩⟩⟩⟩⟩⟩⟩⟩⟩⟩⟩⟩⟩⟩⟩⟩⟩⟩⟩⟩⟩⟩⟩⟩⟩⟩⟩⟩⟩⟩⟩⟩⟩⟩⟩⟩⟩⟩⟩⟩⟩⟩⟩⟩⟩⟩⟩⟩⟩⟩⟩⟩⟩⟩⟩⟩⟩⟩⟩⟩⟩⟩⟩⟩⟩⟩⟩⟩⟩⟩⟩⟩⟩⟩⟩⟩⟩⟩⟩⟩⟩⟩⟩⟩⟩⟩⟩⟩⟩⟩⟩⟩⟩⟩⟩⟩⟩⟩⟩⟩⟩⟩⟩⟩⟩⟩⟩⟩⟩⟩⟩⟩⟩⟩⟩⟩⟩⟩, qo_law⟩
end
section
/-! THE SMALL MACHINE ALONE: runs with enough steps; no step is counted any more. -/
section QPU
theorem ai_go_mono {G : ai_G} {rec rec' : Nat → List Value → ai_H → Option ai_O} {M : ai_M} (hr : ∀ mi as h o, rec mi as h = some o → rec' mi as h = some o) : ∀ (n k : Nat) (L : ai_L) (S : List Value) (h : ai_H) (o : ai_O), ai_go G rec M n k L S h = some o → ai_go G rec' M n k L S h = some o := by
  intro n
  induction n with
  | zero => intro k L S h o he; cases he
  | succ n ih =>
    intro k L S h o he
    simp only [ai_go] at he ⊢
    split at he
    · cases he
    · rename_i a b c d hk
      split at he
      · split at he
        · exact ih _ _ _ _ _ he
        · cases he
      · split at he
        · rename_i hc
          rw [if_pos hc]
          split at he
          · rename_i v h' hq
            rw [hr _ _ _ _ hq]
            exact ih _ _ _ _ _ he
          · rename_i E h' hq
            rw [hr _ _ _ _ hq]
            dsimp only
            split at he
            · split at he
              · rename_i hn; rw [if_pos hn]; exact ih _ _ _ _ _ he
              · cases he
            · exact he
          · cases he
        · cases he
      · exact he
      · split at he
        · split at he
          · rename_i hw; rw [if_pos hw]; exact ih _ _ _ _ _ he
          · cases he
        · cases he
      · split at he
        · split at he
          · rename_i hw; rw [if_pos hw]; exact ih _ _ _ _ _ he
          · cases he
        · cases he
      · exact he
      · exact he
      · exact he
      · cases he
theorem ai_run_mono {P : Nat → Option ai_M} {G : ai_G} {F : Nat} : ∀ (d mi : Nat) (as : List Value) (h : ai_H) (o : ai_O), ai_run P G F d mi as h = some o → ai_run P G F (d + 1) mi as h = some o := by
  intro d
  induction d with
  | zero => intro mi as h o he; cases he
  | succ d ih =>
    intro mi as h o he
    rw [ai_run] at he ⊢
    split at he
    · split at he
      · rename_i hok
        rw [if_pos hok]
        exact ai_go_mono ih _ _ _ _ _ _ he
      · cases he
    · cases he
theorem ai_run_up {P : Nat → Option ai_M} {G : ai_G} {F : Nat} {d d' : Nat} (hd : d ≤ d') {mi : Nat} {as : List Value} {h : ai_H} {o : ai_O} (he : ai_run P G F d mi as h = some o) : ai_run P G F d' mi as h = some o := by
  induction hd with
  | refl => exact he
  | step _ ih => exact ai_run_mono _ _ _ _ _ ih
/-- a call comes to its end so -/
def qe (L : Nat) (xs : Nat → Int32) (d mi : Nat) (as : List Value) (h : ai_H) (o : ai_O) : Prop := ∃ F0, ∀ F, F0 ≤ F → ai_run qr_P (qr_G L xs) F d mi as h = some o
/-- from this place a body comes to its end so -/
def qg (L : Nat) (xs : Nat → Int32) (d : Nat) (M : ai_M) (k : Nat) (lo : ai_L) (S : List Value) (h : ai_H) (o : ai_O) : Prop := ∃ F0 n0, ∀ F n, F0 ≤ F → n0 ≤ n → ai_go (qr_G L xs) (ai_run qr_P (qr_G L xs) F d) M n k lo S h = some o
/-- n plain steps at once -/
def ai_pl (G : ai_G) (M : ai_M) : Nat → Nat → ai_L → List Value → ai_H → Option (Nat × ai_L × List Value × ai_H)
  | 0, k, lo, S, h => some (k, lo, S, h)
  | n + 1, k, lo, S, h => match (ai_Mc M)[k]? with
    | some (_, i, _, r) => match r.1 with
      | 0 => match ai_eff G i r lo S h with
        | some (t, lo', S', h') => ai_pl G M n (if t = 0 then k + 1 else t - 1) lo' S' h'
        | none => none
      | _ => none
    | none => none
variable {L : Nat} {xs : Nat → Int32} {d : Nat} {M : ai_M} {k k' : Nat} {lo lo' : ai_L} {S S' : List Value} {h h' : ai_H} {o : ai_O}
theorem qe_up {d d' mi : Nat} {as : List Value} (hd : d ≤ d') (he : qe L xs d mi as h o) : qe L xs d' mi as h o := by
  obtain ⟨F0, hF⟩ := he
  exact ⟨F0, fun F hF0 => ai_run_up hd (hF F hF0)⟩
theorem qe_of {mi : Nat} {as : List Value} (hP : qr_P mi = some M) (hok : ai_argok as (ai_Ml M) = true) (hg : qg L xs d M 0 (as.map some ++ List.replicate (ai_Ml M - as.length) none) [] h o) : qe L xs (d + 1) mi as h o := by
  obtain ⟨F0, n0, hF⟩ := hg
  refine ⟨max F0 n0, fun F hF0 => ?_⟩
  rw [ai_run, hP]
  dsimp only
  rw [if_pos hok]
  exact hF F F (by omega) (by omega)
theorem qg_pls {n : Nat} (e : ai_pl (qr_G L xs) M n k lo S h = some (k', lo', S', h')) (hg : qg L xs d M k' lo' S' h' o) : qg L xs d M k lo S h o := by
  induction n generalizing k lo S h with
  | zero => cases e; exact hg
  | succ n ih =>
    simp only [ai_pl] at e
    split at e
    · rename_i pc i len r hk
      split at e
      · rename_i h0
        split at e
        · rename_i t lo1 S1 h1 heff
          obtain ⟨F0, n0, hF⟩ := ih e
          refine ⟨F0, n0 + 1, fun F n hF0 hn => ?_⟩
          obtain ⟨n, rfl⟩ : ∃ m, n = m + 1 := ⟨n - 1, by omega⟩
          simp only [ai_go, hk, h0, heff]
          exact hF F n hF0 (by omega)
        · cases e
      · cases e
    · cases e
/-- one plain step whose effect is known -/
theorem qg_eff {pc len : Nat} {i : Instr} {rs : List Int} {nm : String} {t : Nat} (hk : (ai_Mc M)[k]? = some (pc, i, len, 0, rs, nm)) (he : ai_eff (qr_G L xs) i (0, rs, nm) lo S h = some (t, lo', S', h')) (hk' : (if t = 0 then k + 1 else t - 1) = k') (hg : qg L xs d M k' lo' S' h' o) : qg L xs d M k lo S h o := by
  refine qg_pls (n := 1) (k' := k') (lo' := lo') (S' := S') (h' := h') ?_ hg
  simp only [ai_pl, hk, he, hk']
/-- a call that answers -/
theorem qg_call {pc len n mi : Nat} {i : Instr} {rs : List Int} {nm : String} {as S0 : List Value} {v : Option Value} (hk : (ai_Mc M)[k]? = some (pc, i, len, 1, rs, nm)) (hmi : (ai_nth (1, rs, nm) 0).toNat = mi) (hn : (ai_nth (1, rs, nm) 1).toNat = n) (has : (S.take n).reverse = as) (hS0 : S.drop n = S0) (hw : Nat.ble (ai_wt S0) 8 = true) (hle : Nat.ble n S.length = true)
    (hrc : ai_rcv (qr_Z L xs) (1, rs, nm) as.head? h = true) (he : qe L xs d mi as h (.inl v, h')) (hg : qg L xs d M (k + 1) lo (v.toList ++ S0) h' o) : qg L xs d M k lo S h o := by
  obtain ⟨F1, h1⟩ := he
  obtain ⟨F0, n0, hF⟩ := hg
  refine ⟨max F0 F1, n0 + 1, fun F n1 hF0 hn1 => ?_⟩
  obtain ⟨n1, rfl⟩ : ∃ m, n1 = m + 1 := ⟨n1 - 1, by omega⟩
  subst hmi hn hS0 has
  simp only [ai_go, hk]
  rw [if_pos ⟨Nat.le_of_ble_eq_true hw, Nat.le_of_ble_eq_true hle, hrc⟩, h1 F (by omega)]
  exact hF F n1 (by omega) (by omega)
/-- a call that throws, and nobody here catches it -/
theorem qg_callT {pc len n mi : Nat} {i : Instr} {rs : List Int} {nm : String} {as S0 : List Value} {E : String} (hk : (ai_Mc M)[k]? = some (pc, i, len, 1, rs, nm)) (hmi : (ai_nth (1, rs, nm) 0).toNat = mi) (hn : (ai_nth (1, rs, nm) 1).toNat = n) (has : (S.take n).reverse = as) (hS0 : S.drop n = S0) (hw : Nat.ble (ai_wt S0) 8 = true) (hle : Nat.ble n S.length = true)
    (hrc : ai_rcv (qr_Z L xs) (1, rs, nm) as.head? h = true) (hx : ai_catch (ai_Mh M) k = none) (he : qe L xs d mi as h (.inr E, h')) : qg L xs d M k lo S h (.inr E, h') := by
  obtain ⟨F1, h1⟩ := he
  refine ⟨F1, 1, fun F n1 hF0 hn1 => ?_⟩
  obtain ⟨n1, rfl⟩ : ∃ m, n1 = m + 1 := ⟨n1 - 1, by omega⟩
  subst hmi hn hS0 has
  simp only [ai_go, hk]
  rw [if_pos ⟨Nat.le_of_ble_eq_true hw, Nat.le_of_ble_eq_true hle, hrc⟩, h1 F (by omega)]
  simp only [hx]
/-- a call that throws, and it is caught here -/
theorem qg_callH {pc len n mi t : Nat} {i : Instr} {rs : List Int} {nm : String} {as S0 : List Value} {E : String} (hk : (ai_Mc M)[k]? = some (pc, i, len, 1, rs, nm)) (hmi : (ai_nth (1, rs, nm) 0).toNat = mi) (hn : (ai_nth (1, rs, nm) 1).toNat = n) (has : (S.take n).reverse = as) (hS0 : S.drop n = S0) (hw : Nat.ble (ai_wt S0) 8 = true) (hle : Nat.ble n S.length = true)
    (hrc : ai_rcv (qr_Z L xs) (1, rs, nm) as.head? h = true) (hx : ai_catch (ai_Mh M) k = some (t, E)) (he : qe L xs d mi as h (.inr E, h')) (hg : qg L xs d M t lo [.float 0] h' o) : qg L xs d M k lo S h o := by
  obtain ⟨F1, h1⟩ := he
  obtain ⟨F0, n0, hF⟩ := hg
  refine ⟨max F0 F1, n0 + 1, fun F n1 hF0 hn1 => ?_⟩
  obtain ⟨n1, rfl⟩ : ∃ m, n1 = m + 1 := ⟨n1 - 1, by omega⟩
  subst hmi hn hS0 has
  simp only [ai_go, hk]
  rw [if_pos ⟨Nat.le_of_ble_eq_true hw, Nat.le_of_ble_eq_true hle, hrc⟩, h1 F (by omega)]
  simp only [hx, if_pos]
  exact hF F n1 (by omega) (by omega)
theorem qg_throw {pc len : Nat} {i : Instr} {rs : List Int} {nm : String} (hk : (ai_Mc M)[k]? = some (pc, i, len, 2, rs, nm)) (hx : (ai_Mh M).isEmpty = true) (hw : Nat.ble (ai_wt S) 8 = true) : qg L xs d M k lo S h (.inr nm, h.1, h.2.1 + 1, h.2.2 + 6) := by
  refine ⟨0, 1, fun F n1 hF0 hn1 => ?_⟩
  obtain ⟨n1, rfl⟩ : ∃ m, n1 = m + 1 := ⟨n1 - 1, by omega⟩
  simp only [ai_go, hk]
  rw [if_pos ⟨hx, Nat.le_of_ble_eq_true hw⟩]
theorem qg_obj {pc len a : Nat} {i : Instr} {rs : List Int} {nm : String} (hk : (ai_Mc M)[k]? = some (pc, i, len, 3, rs, nm)) (hw : Nat.ble (ai_wt S) 8 = true) (hg : qg L xs d M (k + 1) lo S h o) : qg L xs d M k lo (.ref a :: S) h o := by
  obtain ⟨F0, n0, hF⟩ := hg
  refine ⟨F0, n0 + 1, fun F n1 hF0 hn1 => ?_⟩
  obtain ⟨n1, rfl⟩ : ∃ m, n1 = m + 1 := ⟨n1 - 1, by omega⟩
  simp only [ai_go, hk]
  rw [if_pos (Nat.le_of_ble_eq_true hw)]
  exact hF F n1 (by omega) (by omega)
theorem qg_cpy {pc len : Nat} {i : Instr} {rs : List Int} {nm : String} (hk : (ai_Mc M)[k]? = some (pc, i, len, 4, rs, nm)) (he : ai_copy S h = some (S', h')) (hw : Nat.ble (ai_wt S') 8 = true) (hg : qg L xs d M (k + 1) lo S' h' o) : qg L xs d M k lo S h o := by
  obtain ⟨F0, n0, hF⟩ := hg
  refine ⟨F0, n0 + 1, fun F n1 hF0 hn1 => ?_⟩
  obtain ⟨n1, rfl⟩ : ∃ m, n1 = m + 1 := ⟨n1 - 1, by omega⟩
  simp only [ai_go, hk]
  simp only [he]
  rw [if_pos (Nat.le_of_ble_eq_true hw)]
  exact hF F n1 (by omega) (by omega)
theorem qg_ret5 {pc len : Nat} {i : Instr} {rs : List Int} {nm : String} {x : Int32} {ty : FieldType} (hk : (ai_Mc M)[k]? = some (pc, i, len, 5, rs, nm)) (hr : ai_Mr M = some ty) (hn : narrow ty (.int x) = .int x) : qg L xs d M k lo [.int x] h (.inl (some (.int x)), h) := by
  refine ⟨0, 1, fun F n1 hF0 hn1 => ?_⟩
  obtain ⟨n1, rfl⟩ : ∃ m, n1 = m + 1 := ⟨n1 - 1, by omega⟩
  simp only [ai_go, hk]
  simp only [hr]
  rw [if_pos hn]
theorem qg_ret6 {pc len : Nat} {i : Instr} {rs : List Int} {nm : String} {v : Value} (hk : (ai_Mc M)[k]? = some (pc, i, len, 6, rs, nm)) (hn : (ai_nul v).isSome = true) : qg L xs d M k lo [v] h (.inl (some v), h) := by
  refine ⟨0, 1, fun F n1 hF0 hn1 => ?_⟩
  obtain ⟨n1, rfl⟩ : ∃ m, n1 = m + 1 := ⟨n1 - 1, by omega⟩
  simp only [ai_go, hk]
  rw [if_pos hn]
theorem qg_ret7 {pc len : Nat} {i : Instr} {rs : List Int} {nm : String} (hk : (ai_Mc M)[k]? = some (pc, i, len, 7, rs, nm)) : qg L xs d M k lo [] h (.inl none, h) := by
  refine ⟨0, 1, fun F n1 hF0 hn1 => ?_⟩
  obtain ⟨n1, rfl⟩ : ∃ m, n1 = m + 1 := ⟨n1 - 1, by omega⟩
  simp only [ai_go, hk]
/-! branches: b says whether it jumps -/
theorem qg_if {pc len : Nat} {c : Jvm.ClassFile.Cond} {off : Int} {rs : List Int} {nm : String} {x : Int32} (b : Bool) (hk : (ai_Mc M)[k]? = some (pc, .ifCond c off, len, 0, rs, nm)) (hb : ai_cmp c x 0 = b) (hk' : (if b = true then ai_tgt (0, rs, nm) else k + 1) = k') (hg : qg L xs d M k' lo S h o) : qg L xs d M k lo (.int x :: S) h o := by
  refine qg_eff (t := if b then ai_tgt (0, rs, nm) + 1 else 0) (lo' := lo) (S' := S) (h' := h) (k' := k') hk ?_ ?_ hg
  · simp only [ai_eff, ai_jump, hb]
  · cases b
    · exact hk'
    · exact hk'
theorem qg_icmp {pc len : Nat} {c : Jvm.ClassFile.Cond} {off : Int} {rs : List Int} {nm : String} {x y : Int32} (b : Bool) (hk : (ai_Mc M)[k]? = some (pc, .if_icmp c off, len, 0, rs, nm)) (hb : ai_cmp c x y = b) (hk' : (if b = true then ai_tgt (0, rs, nm) else k + 1) = k') (hg : qg L xs d M k' lo S h o) : qg L xs d M k lo (.int y :: .int x :: S) h o := by
  refine qg_eff (t := if b then ai_tgt (0, rs, nm) + 1 else 0) (lo' := lo) (S' := S) (h' := h) (k' := k') hk ?_ ?_ hg
  · simp only [ai_eff, ai_jump, hb]
  · cases b
    · exact hk'
    · exact hk'
/-- two constants of one class -/
theorem qg_acmp {pc len : Nat} {c : ACond} {off : Int} {rs : List Int} {nm : String} {x y : Nat} (b : Bool) (hk : (ai_Mc M)[k]? = some (pc, .if_acmp c off, len, 0, rs, nm)) (hz : ai_zk (qr_Z L xs) (.retAddr x) (.retAddr y) = true) (hb : ai_ac c (decide (x = y)) = b) (hk' : (if b = true then ai_tgt (0, rs, nm) else k + 1) = k') (hg : qg L xs d M k' lo S h o) : qg L xs d M k lo (.retAddr y :: .retAddr x :: S) h o := by
  refine qg_eff (t := if b then ai_tgt (0, rs, nm) + 1 else 0) (lo' := lo) (S' := S) (h' := h) (k' := k') hk ?_ ?_ hg
  · simp only [ai_eff, ai_same]
    rw [if_pos (show ai_zk (qr_G L xs).1 (.retAddr x) (.retAddr y) = true from hz)]
    simp only [ai_jump, hb]
  · cases b
    · exact hk'
    · exact hk'
/-- the receiver is an object of its class -/
theorem ai_rcv1 {Z : ai_S} {rs : List Int} {nm : String} {v : Value} {ci : Nat} {fs : List Value} (h2 : ai_nth (1, rs, nm) 2 = 1) (h3 : ai_nth (1, rs, nm) 3 = (ci : Int)) (hl : ai_look Z h.1 v = some (ai_obj ci fs)) : ai_rcv Z (1, rs, nm) (some v) h = true := by
  unfold ai_rcv
  rw [h2]
  show (match ai_look Z h.1 v with
      | some (.inr (.inr (.inr (ci, _)))) => decide ((ci : Int) = ai_nth (1, rs, nm) 3)
      | _ => false) = true
  rw [hl]
  exact decide_eq_true h3.symm
/-! memory -/
theorem qg_getf {pc len : Nat} {idx : Nat} {rs : List Int} {nm : String} {a v : Value} {ci f : Nat} {fs : List Value} (hk : (ai_Mc M)[k]? = some (pc, .getfield idx, len, 0, rs, nm)) (hl : ai_look (qr_Z L xs) h.1 a = some (ai_obj ci fs)) (h0 : (ai_nth (0, rs, nm) 0).toNat = ci) (h1 : (ai_nth (0, rs, nm) 1).toNat = f) (hv : fs[f]? = some v) (hg : qg L xs d M (k + 1) lo (v :: S) h o) : qg L xs d M k lo (a :: S) h o := by
  refine qg_eff (t := 0) (lo' := lo) (S' := v :: S) (h' := h) hk ?_ rfl hg
  subst h0 h1
  simp only [ai_eff, ai_getf]
  rw [show ai_look (qr_G L xs).1 h.1 a = _ from hl]
  dsimp only
  rw [hv]
  simp
theorem qg_putf {pc len : Nat} {idx : Nat} {rs : List Int} {nm : String} {a : Nat} {v : Value} {ci f : Nat} {fs : List Value} (hk : (ai_Mc M)[k]? = some (pc, .putfield idx, len, 0, rs, nm)) (hl : h.1[a]? = some (ai_obj ci fs)) (h0 : (ai_nth (0, rs, nm) 0).toNat = ci) (h1 : (ai_nth (0, rs, nm) 1).toNat = f) (hv : f < fs.length) (hfit : ai_fit (qr_ty ci f) v = true) (hg : qg L xs d M (k + 1) lo S (h.1.set a (ai_obj ci (fs.set f v)), h.2) o) : qg L xs d M k lo (v :: .ref a :: S) h o := by
  refine qg_eff (t := 0) (lo' := lo) (S' := S) (h' := (h.1.set a (ai_obj ci (fs.set f v)), h.2)) hk ?_ rfl hg
  subst h0 h1
  simp only [ai_eff, ai_putf]
  rw [hl]
  dsimp only
  rw [if_pos ⟨by trivial, hv, hfit⟩]
theorem qg_ald {pc len : Nat} {i : Instr} {rs : List Int} {nm : String} {a : Value} {ty : FieldType} {j n : Nat} {f : Nat → Int32} (hk : (ai_Mc M)[k]? = some (pc, i, len, 0, rs, nm)) (hi : ∀ lo S h, ai_eff (qr_G L xs) i (0, rs, nm) lo S h = ai_ald (qr_Z L xs) ty lo S h) (hl : ai_look (qr_Z L xs) h.1 a = some (ai_num ty n f)) (hj : j < n) (hn : n < 2 ^ 31) (hg : qg L xs d M (k + 1) lo (.int (f j) :: S) h o) : qg L xs d M k lo (.int (nI j) :: a :: S) h o := by
  refine qg_eff (t := 0) (lo' := lo) (S' := .int (f j) :: S) (h' := h) hk ?_ rfl hg
  rw [hi]
  simp only [ai_ald, hl]
  rw [if_pos ⟨by trivial, nI_pos (by omega), by rw [nI_clamp (by omega)]; exact hj⟩, nI_clamp (by omega)]
theorem qg_ast {pc len : Nat} {i : Instr} {rs : List Int} {nm : String} {a : Nat} {ty : FieldType} {nar : Int32 → Int32} {j n : Nat} {x : Int32} {f : Nat → Int32} (hk : (ai_Mc M)[k]? = some (pc, i, len, 0, rs, nm)) (hi : ∀ lo S h, ai_eff (qr_G L xs) i (0, rs, nm) lo S h = ai_ast ty nar lo S h) (hl : h.1[a]? = some (ai_num ty n f)) (hj : j < n) (hn : n < 2 ^ 31) (hg : qg L xs d M (k + 1) lo S (h.1.set a (ai_num ty n (upd f j (nar x))), h.2) o) : qg L xs d M k lo (.int x :: .int (nI j) :: .ref a :: S) h o := by
  refine qg_eff (t := 0) (lo' := lo) (S' := S) (h' := (h.1.set a (ai_num ty n (upd f j (nar x))), h.2)) hk ?_ rfl hg
  rw [hi]
  simp only [ai_ast, hl]
  rw [if_pos ⟨by trivial, nI_pos (by omega), by rw [nI_clamp (by omega)]; exact hj⟩, nI_clamp (by omega)]
theorem qg_alen {pc len : Nat} {rs : List Int} {nm : String} {a : Value} {ty : FieldType} {n : Nat} {f : Nat → Int32} (hk : (ai_Mc M)[k]? = some (pc, .arraylength, len, 0, rs, nm)) (hl : ai_look (qr_Z L xs) h.1 a = some (ai_num ty n f)) (hg : qg L xs d M (k + 1) lo (.int (nI n) :: S) h o) : qg L xs d M k lo (a :: S) h o := by
  refine qg_eff (t := 0) (lo' := lo) (S' := .int (nI n) :: S) (h' := h) hk ?_ rfl hg
  simp only [ai_eff, ai_alen]
  rw [show ai_look (qr_G L xs).1 h.1 a = _ from hl]
  rfl
end QPU
end
section
/-! ROWS OF BYTES AND TEXTS. (Printed by wip/whole/pp.py from wip/whole/src.) -/
section QRW
variable {L : Nat} {xs : Nat → Int32} {d : Nat} {M : ai_M} {k k' : Nat} {lo lo' : ai_L} {S S' : List Value} {h h' : ai_H} {o : ai_O}
/-! comparisons of numbers -/
theorem qc_ltT {a b : Nat} (h : a < b) (hb : b < 2 ^ 31) : ai_cmp .lt (nI a) (nI b) = true := decide_eq_true (nI_lt h hb)
theorem qc_ltF {a b : Nat} (h : b ≤ a) (hb : a < 2 ^ 31) : ai_cmp .lt (nI a) (nI b) = false := decide_eq_false (nI_nlt h hb)
theorem qc_geT {a b : Nat} (h : b ≤ a) (hb : a < 2 ^ 31) : ai_cmp .ge (nI a) (nI b) = true := decide_eq_true (nI_le h hb)
theorem qc_geF {a b : Nat} (h : a < b) (hb : b < 2 ^ 31) : ai_cmp .ge (nI a) (nI b) = false := decide_eq_false (nI_ge h hb)
theorem qc_gtT {a b : Nat} (h : b < a) (hb : a < 2 ^ 31) : ai_cmp .gt (nI a) (nI b) = true := decide_eq_true (nI_lt h hb)
theorem qc_gtF {a b : Nat} (h : a ≤ b) (hb : b < 2 ^ 31) : ai_cmp .gt (nI a) (nI b) = false := decide_eq_false (nI_nlt h hb)
theorem qc_leT {a b : Nat} (h : a ≤ b) (hb : b < 2 ^ 31) : ai_cmp .le (nI a) (nI b) = true := decide_eq_true (nI_le h hb)
theorem qc_leF {a b : Nat} (h : b < a) (hb : a < 2 ^ 31) : ai_cmp .le (nI a) (nI b) = false := decide_eq_false (nI_ge h hb)
theorem qc_eqT {a b : Nat} (h : a = b) : ai_cmp .eq (nI a) (nI b) = true := decide_eq_true (by rw [h])
theorem qc_eqF {a b : Nat} (h : a ≠ b) (ha : a < 2 ^ 31) (hb : b < 2 ^ 31) : ai_cmp .eq (nI a) (nI b) = false := decide_eq_false (fun e => h ((nI_eq ha hb).mp e))
theorem qc_neT {a b : Nat} (h : a ≠ b) (ha : a < 2 ^ 31) (hb : b < 2 ^ 31) : ai_cmp .ne (nI a) (nI b) = true := by
  show (!decide (nI a = nI b)) = true
  rw [decide_eq_false (fun e => h ((nI_eq ha hb).mp e))]; rfl
theorem qc_neF {a b : Nat} (h : a = b) : ai_cmp .ne (nI a) (nI b) = false := by
  show (!decide (nI a = nI b)) = false
  rw [h, decide_eq_true rfl]; rfl
theorem qc_lt0 {a : Nat} (h : a < 2 ^ 31) : ai_cmp .lt (nI a) 0 = false := decide_eq_false (nI_pos h)
theorem qc_ge0 {a : Nat} (h : a < 2 ^ 31) : ai_cmp .ge (nI a) 0 = true := decide_eq_true (nI_pos' h)
theorem nI_mul (a b : Nat) : nI a * nI b = nI (a * b) := (Int32.ofNat_mul a b).symm
theorem nI_2 (a : Nat) : nI a * 2 = nI (a * 2) := nI_mul a 2
/-! making -/
theorem qg_newa {pc len n : Nat} {t : ArrayType} {rs : List Int} {nm : String} (hk : (ai_Mc M)[k]? = some (pc, .newarray t, len, 0, rs, nm)) (hn : n ≤ 1048576) (hty : newarray.typeOf t ≠ .long) (hg : qg L xs d M (k + 1) lo (.ref h.1.length :: S) (h.1 ++ [ai_num (newarray.typeOf t) n (fun _ => 0)], h.2.1 + 1, h.2.2 + n) o) : qg L xs d M k lo (.int (nI n) :: S) h o := by
  refine qg_eff (t := 0) (lo' := lo) (S' := .ref h.1.length :: S) (h' := (h.1 ++ [ai_num (newarray.typeOf t) n (fun _ => 0)], h.2.1 + 1, h.2.2 + n)) hk ?_ rfl hg
  simp only [ai_eff, ai_newa]
  rw [nI_clamp (by omega), if_pos ⟨nI_pos (by omega), hn⟩, if_neg hty]
/-! cells -/
theorem q_ne {hl : List ai_C} {a b : Nat} {x y : ai_C} (ha : hl[a]? = some x) (hb : hl[b]? = some y) (hxy : x ≠ y) : a ≠ b := fun e => by
  subst e
  rw [ha] at hb
  exact hxy (Option.some.inj hb)
theorem q_lt {hl : List ai_C} {a : Nat} {x : ai_C} (ha : hl[a]? = some x) : a < hl.length := (List.getElem?_eq_some_iff.mp ha).1
theorem q_set {hl : List ai_C} {a : Nat} {x y : ai_C} (ha : hl[a]? = some x) : (hl.set a y)[a]? = some y := List.getElem?_set_self (q_lt ha)
theorem q_stay {hl : List ai_C} {a b : Nat} {x y : ai_C} (hb : hl[b]? = some y) (hab : a ≠ b) : (hl.set a x)[b]? = some y := by
  rw [List.getElem?_set_ne hab]; exact hb
theorem q_app {hl : List ai_C} {b : Nat} {y : ai_C} {z : List ai_C} (hb : hl[b]? = some y) : (hl ++ z)[b]? = some y := by
  rw [List.getElem?_append_left (q_lt hb)]; exact hb
theorem q_new {hl : List ai_C} {y : ai_C} : (hl ++ [y])[hl.length]? = some y := by
  rw [List.getElem?_append_right (Nat.le_refl _)]; simp
theorem q_newset {hl : List ai_C} {x y : ai_C} : (hl ++ [x]).set hl.length y = hl ++ [y] := by
  simp [List.set_append]
/-- an array is copied into another -/
theorem q_copy {ty : FieldType} {a c n0 n1 n sp dp : Nat} {f g : Nat → Int32} (ha : h.1[a]? = some (ai_num ty n0 f)) (hc : h.1[c]? = some (ai_num ty n1 g)) (h0 : n0 < 2 ^ 31) (h1 : n1 < 2 ^ 31) (hs : sp + n ≤ n0) (hd : dp + n ≤ n1) : ai_copy (.int (nI n) :: .int (nI dp) :: .ref c :: .int (nI sp) :: .ref a :: S) h = some (S, (h.1.set c (ai_num ty n1 (va_cpy f g sp dp n)), h.2)) := by
  simp only [ai_copy]
  rw [if_neg (by
    intro e
    rcases e with e | e | e
    · exact nI_pos (by omega) e
    · exact nI_pos (by omega) e
    · exact nI_pos (by omega) e), ha]
  dsimp only
  rw [hc]
  dsimp only
  rw [nI_clamp (show n < 2 ^ 31 by omega), nI_clamp (show sp < 2 ^ 31 by omega), nI_clamp (show dp < 2 ^ 31 by omega), if_pos ⟨rfl, hs, hd⟩]
/-! a byte -/
def zb (x : Int32) : Int32 := x.toInt8.toInt32
theorem zb_nar (x : Int32) : vp_nar .byte x = zb x := rfl
theorem zb_zb (x : Int32) : zb (zb x) = zb x := by
  unfold zb
  rw [Int8.toInt8_toInt32]
/-- the row r holds the bytes t, in the array b of len places -/
def qrow (h : ai_H) (r b len : Nat) (t : List Int32) : Prop := ∃ f, h.1[r]? = some (ai_obj 3 [.ref b, .int (nI t.length)]) ∧ h.1[b]? = some (ai_num .byte len f) ∧ t.length ≤ len ∧ (∃ e, e ≤ 11 ∧ len = 256 * 2 ^ e) ∧ ∀ j, j < t.length → f j = t.getD j 0
theorem q_pw {e : Nat} (h : e ≤ 11) : 256 * 2 ^ e ≤ 524288 := by
  have := Nat.pow_le_pow_right (show 0 < 2 by decide) h
  omega
theorem qrow_le {r b len : Nat} {t : List Int32} (hr : qrow h r b len t) : len ≤ 524288 ∧ t.length ≤ len := by
  obtain ⟨f, h1, h2, h3, ⟨e, h4, rfl⟩, h5⟩ := hr
  exact ⟨q_pw h4, h3⟩
/-- what has happened to the other cells, and to the numbers of cells and slots, while the row r changed -/
def qro (r : Nat) (h : ai_H) (b len : Nat) (h' : ai_H) (b' len' : Nat) : Prop := h.1.length ≤ h'.1.length ∧ (∀ i, i ≠ r → i ≠ b → i < h.1.length → h'.1[i]? = h.1[i]?) ∧ (b' = b ∨ h.1.length ≤ b') ∧ len ≤ len' ∧ 16 * h'.2.1 + len ≤ 16 * h.2.1 + len' ∧ h'.2.2 + 2 * len ≤ h.2.2 + 2 * len'
theorem qro_refl {r b len : Nat} : qro r h b len h b len := ⟨Nat.le_refl _, fun _ _ _ _ => rfl, Or.inl rfl, Nat.le_refl _, Nat.le_refl _, Nat.le_refl _⟩
theorem qro_trans {r b len b' len' b2 len2 : Nat} {h2 : ai_H} (a : qro r h b len h' b' len') (c : qro r h' b' len' h2 b2 len2) : qro r h b len h2 b2 len2 := by
  obtain ⟨a1, a2, a3, a4, a5, a6⟩ := a
  obtain ⟨c1, c2, c3, c4, c5, c6⟩ := c
  refine ⟨by omega, fun i i1 i2 i3 => ?_, by omega, by omega, by omega, by omega⟩
  rw [c2 i i1 (by omega) (by omega), a2 i i1 i2 i3]
/-- the byte at a place, 0 .. 255, or -1 -/
def zat (t : List Int32) (j : Nat) : Int32 := if j < t.length then t.getD j 0 &&& 255 else -1
/-- Row.size() -/
theorem q_size {r b len : Nat} {t : List Int32} (hr : qrow h r b len t) : qe L xs (d + 1) 9 [.ref r] h (.inl (some (.int (nI t.length))), h) := by
  obtain ⟨f, h1, h2, h3, h4, h5⟩ := hr
  refine qe_of (M := qm_9) rfl rfl ?_
  show qg L xs _ qm_9 0 [some (.ref r)] [] h _
  refine qg_pls (n := 1) (k' := 1) (lo' := [some (.ref r)]) (S' := [.ref r]) (h' := h) rfl ?_
  refine qg_getf (v := .int (nI t.length)) rfl h1 rfl rfl rfl ?_
  exact qg_ret5 rfl rfl rfl
/-- Row.at(j) -/
theorem q_at {r b len j : Nat} {t : List Int32} (hr : qrow h r b len t) (hj : j < 2 ^ 31) : qe L xs (d + 1) 10 [.ref r, .int (nI j)] h (.inl (some (.int (zat t j))), h) := by
  have hle := qrow_le hr
  obtain ⟨f, h1, h2, h3, h4, h5⟩ := hr
  refine qe_of (M := qm_10) rfl rfl ?_
  show qg L xs _ qm_10 0 [some (.ref r), some (.int (nI j))] [] h _
  unfold zat
  refine qg_pls (n := 1) (k' := 1) (lo' := [some (.ref r), some (.int (nI j))]) (S' := [.int (nI j)]) (h' := h) rfl ?_
  refine qg_if false rfl (qc_lt0 hj) rfl ?_
  refine qg_pls (n := 2) (k' := 4) (lo' := [some (.ref r), some (.int (nI j))]) (S' := [.ref r, .int (nI j)]) (h' := h) rfl ?_
  refine qg_getf (v := .int (nI t.length)) rfl h1 rfl rfl rfl ?_
  by_cases hlt : j < t.length
  · rw [if_pos hlt, ← h5 j hlt]
    refine qg_icmp false rfl (qc_geF hlt (by omega)) rfl ?_
    refine qg_pls (n := 2) (k' := 8) (lo' := [some (.ref r), some (.int (nI j))]) (S' := [.ref r, .int (nI j)]) (h' := h) rfl ?_
    refine qg_getf (v := .ref b) rfl h1 rfl rfl rfl ?_
    refine qg_alen rfl h2 ?_
    refine qg_icmp false rfl (qc_geF (by omega) (by omega)) rfl ?_
    refine qg_pls (n := 1) (k' := 12) (lo' := [some (.ref r), some (.int (nI j))]) (S' := [.ref r]) (h' := h) rfl ?_
    refine qg_getf (v := .ref b) rfl h1 rfl rfl rfl ?_
    refine qg_pls (n := 1) (k' := 14) (lo' := [some (.ref r), some (.int (nI j))]) (S' := [.int (nI j), .ref b]) (h' := h) rfl ?_
    refine qg_ald rfl (fun _ _ _ => rfl) h2 (by omega) (by omega) ?_
    refine qg_pls (n := 3) (k' := 19) (lo' := [some (.ref r), some (.int (nI j))]) (S' := [.int ((f j) &&& 255)]) (h' := h) rfl ?_
    exact qg_ret5 rfl rfl rfl
  · rw [if_neg hlt]
    refine qg_icmp true rfl (qc_geT (by omega) (by omega)) rfl ?_
    refine qg_pls (n := 1) (k' := 19) (lo' := [some (.ref r), some (.int (nI j))]) (S' := [.int (-1)]) (h' := h) rfl ?_
    exact qg_ret5 rfl rfl rfl
/-- Row.cut(n) -/
theorem q_cut {r b len n : Nat} {t : List Int32} (hr : qrow h r b len t) (hn : n < 2 ^ 31) : ∃ h', qe L xs (d + 1) 34 [.ref r, .int (nI n)] h (.inl none, h') ∧ qrow h' r b len (t.take n) ∧ qro r h b len h' b len := by
  have hle := qrow_le hr
  obtain ⟨f, h1, h2, h3, h4, h5⟩ := hr
  have hrb : r ≠ b := q_ne h1 h2 (by intro e; cases e)
  by_cases hlt : n < t.length
  · refine ⟨(h.1.set r (ai_obj 3 [.ref b, .int (nI n)]), h.2), ?_, ⟨f, ?_, q_stay h2 hrb, ?_, h4, fun j hj => ?_⟩, ?_⟩
    · skip
      refine qe_of (M := qm_34) rfl rfl ?_
      show qg L xs _ qm_34 0 [some (.ref r), some (.int (nI n))] [] h _
      refine qg_pls (n := 1) (k' := 1) (lo' := [some (.ref r), some (.int (nI n))]) (S' := [.int (nI n)]) (h' := h) rfl ?_
      refine qg_if false rfl (qc_lt0 hn) rfl ?_
      refine qg_pls (n := 2) (k' := 4) (lo' := [some (.ref r), some (.int (nI n))]) (S' := [.ref r, .int (nI n)]) (h' := h) rfl ?_
      refine qg_getf (v := .int (nI t.length)) rfl h1 rfl rfl rfl ?_
      refine qg_icmp false rfl (qc_geF hlt (by omega)) rfl ?_
      refine qg_pls (n := 2) (k' := 8) (lo' := [some (.ref r), some (.int (nI n))]) (S' := [.int (nI n), .ref r]) (h' := h) rfl ?_
      refine qg_putf rfl h1 rfl rfl (Nat.le_of_ble_eq_true rfl) rfl ?_
      exact qg_ret7 rfl
    · rw [List.length_take, Nat.min_eq_left (by omega)]; exact q_set h1
    · rw [List.length_take]; omega
    · rw [List.length_take] at hj
      rw [h5 j (by omega)]
      simp [List.getD_eq_getElem?_getD, List.getElem?_take, show j < n by omega]
    · refine ⟨by simp, fun i i1 i2 i3 => ?_, Or.inl rfl, Nat.le_refl _, Nat.le_refl _, Nat.le_refl _⟩
      exact List.getElem?_set_ne (fun e => i1 e.symm)
  · refine ⟨h, ?_, ?_, qro_refl⟩
    · skip
      refine qe_of (M := qm_34) rfl rfl ?_
      show qg L xs _ qm_34 0 [some (.ref r), some (.int (nI n))] [] h _
      refine qg_pls (n := 1) (k' := 1) (lo' := [some (.ref r), some (.int (nI n))]) (S' := [.int (nI n)]) (h' := h) rfl ?_
      refine qg_if false rfl (qc_lt0 hn) rfl ?_
      refine qg_pls (n := 2) (k' := 4) (lo' := [some (.ref r), some (.int (nI n))]) (S' := [.ref r, .int (nI n)]) (h' := h) rfl ?_
      refine qg_getf (v := .int (nI t.length)) rfl h1 rfl rfl rfl ?_
      refine qg_icmp true rfl (qc_geT (by omega) (by omega)) rfl ?_
      exact qg_ret7 rfl
    · rw [List.take_of_length_le (by omega)]
      exact ⟨f, h1, h2, h3, h4, h5⟩
/-- Math.min -/
theorem q_min {a b : Nat} (hab : a ≤ b) (hb : b < 2 ^ 31) : qe L xs (d + 1) 32 [.int (nI a), .int (nI b)] h (.inl (some (.int (nI a))), h) := by
  refine qe_of (M := qm_32) rfl rfl ?_
  show qg L xs _ qm_32 0 [some (.int (nI a)), some (.int (nI b))] [] h _
  refine qg_pls (n := 2) (k' := 2) (lo' := [some (.int (nI a)), some (.int (nI b))]) (S' := [.int (nI b), .int (nI a)]) (h' := h) rfl ?_
  refine qg_icmp false rfl (qc_gtF hab hb) rfl ?_
  refine qg_pls (n := 2) (k' := 6) (lo' := [some (.int (nI a)), some (.int (nI b))]) (S' := [.int (nI a)]) (h' := h) rfl ?_
  exact qg_ret5 rfl rfl rfl
/-- Arrays.copyOf of bytes, longer -/
theorem q_copyB {b n m : Nat} {f : Nat → Int32} (h2 : h.1[b]? = some (ai_num .byte n f)) (hnm : n < m) (hm : m ≤ 1048576) : qe L xs (d + 2) 40 [.ref b, .int (nI m)] h (.inl (some (.ref h.1.length)), (h.1 ++ [ai_num .byte m (va_cpy f (fun _ => 0) 0 0 n)], h.2.1 + 1, h.2.2 + m)) := by
  refine qe_of (M := qm_40) rfl rfl ?_
  show qg L xs _ qm_40 0 [some (.ref b), some (.int (nI m)), none] [] h _
  refine qg_pls (n := 2) (k' := 2) (lo' := [some (.ref b), some (.int (nI m)), none]) (S' := [.ref b, .int (nI m)]) (h' := h) rfl ?_
  refine qg_alen rfl h2 ?_
  refine qg_icmp true rfl (qc_neT (by omega) (by omega) (by omega)) rfl ?_
  refine qg_pls (n := 1) (k' := 9) (lo' := [some (.ref b), some (.int (nI m)), none]) (S' := [.int (nI m)]) (h' := h) rfl ?_
  refine qg_newa rfl (hm) (by decide) ?_
  show qg L xs _ qm_40 10 [some (.ref b), some (.int (nI m)), none] [.ref h.1.length] (h.1 ++ [ai_num .byte m (fun _ => 0)], h.2.1 + 1, h.2.2 + m) _
  refine qg_pls (n := 6) (k' := 16) (lo' := [some (.ref b), some (.int (nI m)), some (.ref h.1.length)]) (S' := [.ref b, .int 0, .ref h.1.length, .int 0, .ref b]) (h' := (h.1 ++ [ai_num .byte m (fun _ => 0)], h.2.1 + 1, h.2.2 + m)) rfl ?_
  refine qg_alen rfl (q_app h2) ?_
  refine qg_pls (n := 1) (k' := 18) (lo' := [some (.ref b), some (.int (nI m)), some (.ref h.1.length)]) (S' := [.int (nI m), .int (nI n), .int 0, .ref h.1.length, .int 0, .ref b]) (h' := (h.1 ++ [ai_num .byte m (fun _ => 0)], h.2.1 + 1, h.2.2 + m)) rfl ?_
  refine qg_call (v := some (.int (nI n))) (h' := (h.1 ++ [ai_num .byte m (fun _ => 0)], h.2.1 + 1, h.2.2 + m)) (as := [.int (nI n), .int (nI m)]) rfl rfl rfl rfl rfl rfl rfl rfl (q_min (by omega) (by omega)) ?_
  show qg L xs _ qm_40 19 [some (.ref b), some (.int (nI m)), some (.ref h.1.length)] [.int (nI n), .int 0, .ref h.1.length, .int 0, .ref b] (h.1 ++ [ai_num .byte m (fun _ => 0)], h.2.1 + 1, h.2.2 + m) _
  refine qg_cpy rfl (q_copy (sp := 0) (dp := 0) (q_app h2) q_new (by omega) (by omega) (by omega) (by omega)) rfl ?_
  rw [q_newset]
  show qg L xs _ qm_40 20 [some (.ref b), some (.int (nI m)), some (.ref h.1.length)] [] (h.1 ++ [ai_num .byte m (va_cpy f (fun _ => 0) 0 0 n)], h.2.1 + 1, h.2.2 + m) _
  refine qg_pls (n := 1) (k' := 21) (lo' := [some (.ref b), some (.int (nI m)), some (.ref h.1.length)]) (S' := [.ref h.1.length]) (h' := (h.1 ++ [ai_num .byte m (va_cpy f (fun _ => 0) 0 0 n)], h.2.1 + 1, h.2.2 + m)) rfl ?_
  exact qg_ret6 rfl rfl
/-- Arrays.copyOf of ints, longer -/
theorem q_copyI {b n m : Nat} {f : Nat → Int32} (h2 : h.1[b]? = some (ai_num .int n f)) (hnm : n < m) (hm : m ≤ 1048576) : qe L xs (d + 2) 31 [.ref b, .int (nI m)] h (.inl (some (.ref h.1.length)), (h.1 ++ [ai_num .int m (va_cpy f (fun _ => 0) 0 0 n)], h.2.1 + 1, h.2.2 + m)) := by
  refine qe_of (M := qm_31) rfl rfl ?_
  show qg L xs _ qm_31 0 [some (.ref b), some (.int (nI m)), none] [] h _
  refine qg_pls (n := 2) (k' := 2) (lo' := [some (.ref b), some (.int (nI m)), none]) (S' := [.ref b, .int (nI m)]) (h' := h) rfl ?_
  refine qg_alen rfl h2 ?_
  refine qg_icmp true rfl (qc_neT (by omega) (by omega) (by omega)) rfl ?_
  refine qg_pls (n := 1) (k' := 9) (lo' := [some (.ref b), some (.int (nI m)), none]) (S' := [.int (nI m)]) (h' := h) rfl ?_
  refine qg_newa rfl (hm) (by decide) ?_
  show qg L xs _ qm_31 10 [some (.ref b), some (.int (nI m)), none] [.ref h.1.length] (h.1 ++ [ai_num .int m (fun _ => 0)], h.2.1 + 1, h.2.2 + m) _
  refine qg_pls (n := 6) (k' := 16) (lo' := [some (.ref b), some (.int (nI m)), some (.ref h.1.length)]) (S' := [.ref b, .int 0, .ref h.1.length, .int 0, .ref b]) (h' := (h.1 ++ [ai_num .int m (fun _ => 0)], h.2.1 + 1, h.2.2 + m)) rfl ?_
  refine qg_alen rfl (q_app h2) ?_
  refine qg_pls (n := 1) (k' := 18) (lo' := [some (.ref b), some (.int (nI m)), some (.ref h.1.length)]) (S' := [.int (nI m), .int (nI n), .int 0, .ref h.1.length, .int 0, .ref b]) (h' := (h.1 ++ [ai_num .int m (fun _ => 0)], h.2.1 + 1, h.2.2 + m)) rfl ?_
  refine qg_call (v := some (.int (nI n))) (h' := (h.1 ++ [ai_num .int m (fun _ => 0)], h.2.1 + 1, h.2.2 + m)) (as := [.int (nI n), .int (nI m)]) rfl rfl rfl rfl rfl rfl rfl rfl (q_min (by omega) (by omega)) ?_
  show qg L xs _ qm_31 19 [some (.ref b), some (.int (nI m)), some (.ref h.1.length)] [.int (nI n), .int 0, .ref h.1.length, .int 0, .ref b] (h.1 ++ [ai_num .int m (fun _ => 0)], h.2.1 + 1, h.2.2 + m) _
  refine qg_cpy rfl (q_copy (sp := 0) (dp := 0) (q_app h2) q_new (by omega) (by omega) (by omega) (by omega)) rfl ?_
  rw [q_newset]
  show qg L xs _ qm_31 20 [some (.ref b), some (.int (nI m)), some (.ref h.1.length)] [] (h.1 ++ [ai_num .int m (va_cpy f (fun _ => 0) 0 0 n)], h.2.1 + 1, h.2.2 + m) _
  refine qg_pls (n := 1) (k' := 21) (lo' := [some (.ref b), some (.int (nI m)), some (.ref h.1.length)]) (S' := [.ref h.1.length]) (h' := (h.1 ++ [ai_num .int m (va_cpy f (fun _ => 0) 0 0 n)], h.2.1 + 1, h.2.2 + m)) rfl ?_
  exact qg_ret6 rfl rfl
end QRW
end
section
/-! ROWS OF BYTES: what comes onto them. (Printed by wip/whole/pp.py from wip/whole/src.) -/
section QRX
variable {L : Nat} {xs : Nat → Int32} {d : Nat} {h h' : ai_H}
/-! texts: c is the number of a text, 1000 .. 1111 -/
def zt (c : Nat) : List Int32 := qr_tx.getD (c - 1000) []
theorem qZ_str {c : Nat} (h1 : 1000 ≤ c) (h2 : c < 1112) : qr_Z L xs c = some (ai_obj 7 [.retAddr (c + 1000), .int 0]) := by
  unfold qr_Z
  rw [if_neg (by omega), if_pos ⟨h1, h2⟩]
theorem qZ_val {c : Nat} (h1 : 1000 ≤ c) (h2 : c < 1112) : qr_Z L xs (c + 1000) = some (ai_num .byte (zt c).length (fun j => (zt c).getD j 0)) := by
  unfold qr_Z
  rw [if_neg (by omega), if_neg (by omega), if_pos (by omega), show c + 1000 - 2000 = c - 1000 by omega]
  rfl
def q_chr (v : Int32) : Bool := decide (((v &&& 255).toUInt32 % 65536).toInt32 = v ∧ narrow .char (.int v) = .int v ∧ zb v = v ∧ 0 ≤ v)
set_option maxRecDepth 100000 in
theorem q_chrs : (List.range 112).all (fun c => decide ((qr_tx.getD c []).length < 40) && (qr_tx.getD c []).all q_chr) = true := by decide +kernel
theorem zt_len {c : Nat} (h1 : 1000 ≤ c) (h2 : c < 1112) : (zt c).length < 40 := by
  have h := List.all_eq_true.mp q_chrs (c - 1000) (List.mem_range.mpr (by omega))
  rw [Bool.and_eq_true] at h
  exact of_decide_eq_true h.1
theorem zt_chr {c j : Nat} (h1 : 1000 ≤ c) (h2 : c < 1112) (hj : j < (zt c).length) : (((zt c).getD j 0 &&& 255).toUInt32 % 65536).toInt32 = (zt c).getD j 0 ∧ narrow .char (.int ((zt c).getD j 0)) = .int ((zt c).getD j 0) ∧ zb ((zt c).getD j 0) = (zt c).getD j 0 ∧ 0 ≤ (zt c).getD j 0 := by
  have h := List.all_eq_true.mp q_chrs (c - 1000) (List.mem_range.mpr (by omega))
  rw [Bool.and_eq_true] at h
  have hm : (zt c).getD j 0 ∈ zt c := by
    rw [List.getD_eq_getElem?_getD, List.getElem?_eq_getElem hj]
    exact List.getElem_mem hj
  exact of_decide_eq_true (List.all_eq_true.mp h.2 _ hm)
/-- String.coder() -/
theorem q_coder {c : Nat} (c1 : 1000 ≤ c) (c2 : c < 1112) : qe L xs (d + 1) 19 [.retAddr c] h (.inl (some (.int 0)), h) := by
  refine qe_of (M := qm_19) rfl rfl ?_
  show qg L xs _ qm_19 0 [some (.retAddr c)] [] h _
  refine qg_pls (n := 1) (k' := 1) (lo' := [some (.retAddr c)]) (S' := [.int 1]) (h' := h) rfl ?_
  refine qg_if false rfl (rfl) rfl ?_
  refine qg_pls (n := 1) (k' := 3) (lo' := [some (.retAddr c)]) (S' := [.retAddr c]) (h' := h) rfl ?_
  refine qg_getf (v := .int 0) rfl (qZ_str c1 c2) rfl rfl rfl ?_
  refine qg_pls (n := 1) (k' := 6) (lo' := [some (.retAddr c)]) (S' := [.int 0]) (h' := h) rfl ?_
  exact qg_ret5 rfl rfl rfl
/-- String.length() -/
theorem q_slen {c : Nat} (c1 : 1000 ≤ c) (c2 : c < 1112) : qe L xs (d + 2) 18 [.retAddr c] h (.inl (some (.int (nI (zt c).length))), h) := by
  refine qe_of (M := qm_18) rfl rfl ?_
  show qg L xs _ qm_18 0 [some (.retAddr c)] [] h _
  refine qg_pls (n := 1) (k' := 1) (lo' := [some (.retAddr c)]) (S' := [.retAddr c]) (h' := h) rfl ?_
  refine qg_getf (v := .retAddr (c + 1000)) rfl (qZ_str c1 c2) rfl rfl rfl ?_
  refine qg_alen rfl (qZ_val c1 c2) ?_
  refine qg_pls (n := 1) (k' := 4) (lo' := [some (.retAddr c)]) (S' := [.retAddr c, .int (nI ((zt c).length))]) (h' := h) rfl ?_
  refine qg_call (v := some (.int 0)) (h' := h) (as := [.retAddr c]) rfl rfl rfl rfl rfl rfl rfl (ai_rcv1 rfl rfl (qZ_str c1 c2)) (q_coder c1 c2) ?_
  show qg L xs _ qm_18 5 [some (.retAddr c)] [.int 0, .int (nI ((zt c).length))] h _
  refine qg_pls (n := 1) (k' := 6) (lo' := [some (.retAddr c)]) (S' := [.int ((nI ((zt c).length)) >>> (0 &&& 31))]) (h' := h) rfl ?_
  rw [show nI (zt c).length >>> ((0 : Int32) &&& 31) = nI (zt c).length from by simp]
  exact qg_ret5 rfl rfl rfl
/-- String.isLatin1() -/
theorem q_latin {c : Nat} (c1 : 1000 ≤ c) (c2 : c < 1112) : qe L xs (d + 1) 21 [.retAddr c] h (.inl (some (.int 1)), h) := by
  refine qe_of (M := qm_21) rfl rfl ?_
  show qg L xs _ qm_21 0 [some (.retAddr c)] [] h _
  refine qg_pls (n := 1) (k' := 1) (lo' := [some (.retAddr c)]) (S' := [.int 1]) (h' := h) rfl ?_
  refine qg_if false rfl (rfl) rfl ?_
  refine qg_pls (n := 1) (k' := 3) (lo' := [some (.retAddr c)]) (S' := [.retAddr c]) (h' := h) rfl ?_
  refine qg_getf (v := .int 0) rfl (qZ_str c1 c2) rfl rfl rfl ?_
  refine qg_if false rfl (rfl) rfl ?_
  refine qg_pls (n := 2) (k' := 8) (lo' := [some (.retAddr c)]) (S' := [.int 1]) (h' := h) rfl ?_
  exact qg_ret5 rfl rfl rfl
theorem q_chkix {a b : Nat} (hab : a < b) (hb : b < 2 ^ 31) : qe L xs (d + 1) 24 [.int (nI a), .int (nI b), .float 0] h (.inl (some (.int (nI a))), h) := by
  refine qe_of (M := qm_24) rfl rfl ?_
  show qg L xs _ qm_24 0 [some (.int (nI a)), some (.int (nI b)), some (.float 0)] [] h _
  refine qg_pls (n := 1) (k' := 1) (lo' := [some (.int (nI a)), some (.int (nI b)), some (.float 0)]) (S' := [.int (nI a)]) (h' := h) rfl ?_
  refine qg_if false rfl (qc_lt0 (by omega)) rfl ?_
  refine qg_pls (n := 2) (k' := 4) (lo' := [some (.int (nI a)), some (.int (nI b)), some (.float 0)]) (S' := [.int (nI b), .int (nI a)]) (h' := h) rfl ?_
  refine qg_icmp true rfl (qc_ltT hab hb) rfl ?_
  refine qg_pls (n := 1) (k' := 11) (lo' := [some (.int (nI a)), some (.int (nI b)), some (.float 0)]) (S' := [.int (nI a)]) (h' := h) rfl ?_
  exact qg_ret5 rfl rfl rfl
theorem q_chkix2 {a b : Nat} (hab : a < b) (hb : b < 2 ^ 31) : qe L xs (d + 2) 23 [.int (nI a), .int (nI b)] h (.inl none, h) := by
  refine qe_of (M := qm_23) rfl rfl ?_
  show qg L xs _ qm_23 0 [some (.int (nI a)), some (.int (nI b))] [] h _
  refine qg_pls (n := 3) (k' := 3) (lo' := [some (.int (nI a)), some (.int (nI b))]) (S' := [.float 0, .int (nI b), .int (nI a)]) (h' := h) rfl ?_
  refine qg_call (v := some (.int (nI a))) (h' := h) (as := [.int (nI a), .int (nI b), .float 0]) rfl rfl rfl rfl rfl rfl rfl rfl (q_chkix hab hb) ?_
  show qg L xs _ qm_23 4 [some (.int (nI a)), some (.int (nI b))] [.int (nI a)] h _
  refine qg_pls (n := 1) (k' := 5) (lo' := [some (.int (nI a)), some (.int (nI b))]) (S' := []) (h' := h) rfl ?_
  exact qg_ret7 rfl
theorem q_lchar {c j : Nat} (c1 : 1000 ≤ c) (c2 : c < 1112) (hj : j < (zt c).length) : qe L xs (d + 3) 22 [.retAddr (c + 1000), .int (nI j)] h (.inl (some (.int ((zt c).getD j 0))), h) := by
  have hlen := zt_len c1 c2
  obtain ⟨e1, e2, -, -⟩ := zt_chr c1 c2 hj
  refine qe_of (M := qm_22) rfl rfl ?_
  show qg L xs _ qm_22 0 [some (.retAddr (c + 1000)), some (.int (nI j))] [] h _
  refine qg_pls (n := 2) (k' := 2) (lo' := [some (.retAddr (c + 1000)), some (.int (nI j))]) (S' := [.retAddr (c + 1000), .int (nI j)]) (h' := h) rfl ?_
  refine qg_alen rfl (qZ_val c1 c2) ?_
  refine qg_call (v := none) (h' := h) (as := [.int (nI j), .int (nI ((zt c).length))]) rfl rfl rfl rfl rfl rfl rfl rfl (q_chkix2 hj (by omega)) ?_
  show qg L xs _ qm_22 4 [some (.retAddr (c + 1000)), some (.int (nI j))] [] h _
  refine qg_pls (n := 2) (k' := 6) (lo' := [some (.retAddr (c + 1000)), some (.int (nI j))]) (S' := [.int (nI j), .retAddr (c + 1000)]) (h' := h) rfl ?_
  refine qg_ald rfl (fun _ _ _ => rfl) (qZ_val c1 c2) (hj) (by omega) ?_
  refine qg_pls (n := 3) (k' := 10) (lo' := [some (.retAddr (c + 1000)), some (.int (nI j))]) (S' := [.int (((((zt c).getD j 0) &&& 255)).toUInt32 % 65536).toInt32]) (h' := h) rfl ?_
  rw [e1]
  exact qg_ret5 rfl rfl e2
/-- String.charAt(j) -/
theorem q_char {c j : Nat} (c1 : 1000 ≤ c) (c2 : c < 1112) (hj : j < (zt c).length) : qe L xs (d + 4) 20 [.retAddr c, .int (nI j)] h (.inl (some (.int ((zt c).getD j 0))), h) := by
  obtain ⟨e1, e2, -, -⟩ := zt_chr c1 c2 hj
  refine qe_of (M := qm_20) rfl rfl ?_
  show qg L xs _ qm_20 0 [some (.retAddr c), some (.int (nI j))] [] h _
  refine qg_pls (n := 1) (k' := 1) (lo' := [some (.retAddr c), some (.int (nI j))]) (S' := [.retAddr c]) (h' := h) rfl ?_
  refine qg_call (v := some (.int 1)) (h' := h) (as := [.retAddr c]) rfl rfl rfl rfl rfl rfl rfl (ai_rcv1 rfl rfl (qZ_str c1 c2)) (q_latin c1 c2) ?_
  show qg L xs _ qm_20 2 [some (.retAddr c), some (.int (nI j))] [.int 1] h _
  refine qg_if false rfl (rfl) rfl ?_
  refine qg_pls (n := 1) (k' := 4) (lo' := [some (.retAddr c), some (.int (nI j))]) (S' := [.retAddr c]) (h' := h) rfl ?_
  refine qg_getf (v := .retAddr (c + 1000)) rfl (qZ_str c1 c2) rfl rfl rfl ?_
  refine qg_pls (n := 1) (k' := 6) (lo' := [some (.retAddr c), some (.int (nI j))]) (S' := [.int (nI j), .retAddr (c + 1000)]) (h' := h) rfl ?_
  refine qg_call (v := some (.int ((zt c).getD j 0))) (h' := h) (as := [.retAddr (c + 1000), .int (nI j)]) rfl rfl rfl rfl rfl rfl rfl rfl (q_lchar c1 c2 hj) ?_
  show qg L xs _ qm_20 7 [some (.retAddr c), some (.int (nI j))] [.int ((zt c).getD j 0)] h _
  exact qg_ret5 rfl rfl e2
theorem getD_app1 {α : Type} {x : α} {a b : List α} {j : Nat} (h : j < a.length) : (a ++ b).getD j x = a.getD j x := by
  simp [List.getD_eq_getElem?_getD, List.getElem?_append_left h]
theorem getD_app2 {α : Type} {x y : α} {a : List α} : (a ++ [y]).getD a.length x = y := by
  simp [List.getD_eq_getElem?_getD]
theorem q_add0 {r b len : Nat} {t : List Int32} {x : Int32} (hr : qrow h r b len t) (hlt : t.length < len) : ∃ h', (∀ o, qg L xs d qm_39 43 [some (.ref r), some (.int x)] [] h' o → qg L xs d qm_39 21 [some (.ref r), some (.int x)] [] h o) ∧ qrow h' r b len (t ++ [zb x]) ∧ qro r h b len h' b len := by
  have hle := qrow_le hr
  obtain ⟨f, h1, h2, h3, h4, h5⟩ := hr
  have hrb : r ≠ b := q_ne h1 h2 (by intro e; cases e)
  refine ⟨((h.1.set b (ai_num .byte len (upd f t.length (vp_nar .byte (x.toInt8.toInt32))))).set r (ai_obj 3 [.ref b, .int (nI t.length + 1)]), h.2), fun o hg => ?_, ⟨upd f t.length (vp_nar .byte (x.toInt8.toInt32)), ?_, ?_, ?_, h4, fun j hj => ?_⟩, ?_⟩
  · skip
    refine qg_pls (n := 1) (k' := 22) (lo' := [some (.ref r), some (.int x)]) (S' := [.ref r]) (h' := h) rfl ?_
    refine qg_getf (v := .int (nI t.length)) rfl h1 rfl rfl rfl ?_
    refine qg_if false rfl (qc_lt0 (by omega)) rfl ?_
    refine qg_pls (n := 1) (k' := 25) (lo' := [some (.ref r), some (.int x)]) (S' := [.ref r]) (h' := h) rfl ?_
    refine qg_getf (v := .int (nI t.length)) rfl h1 rfl rfl rfl ?_
    refine qg_pls (n := 1) (k' := 27) (lo' := [some (.ref r), some (.int x)]) (S' := [.ref r, .int (nI t.length)]) (h' := h) rfl ?_
    refine qg_getf (v := .ref b) rfl h1 rfl rfl rfl ?_
    refine qg_alen rfl h2 ?_
    refine qg_icmp false rfl (qc_geF hlt (by omega)) rfl ?_
    refine qg_pls (n := 1) (k' := 31) (lo' := [some (.ref r), some (.int x)]) (S' := [.ref r]) (h' := h) rfl ?_
    refine qg_getf (v := .ref b) rfl h1 rfl rfl rfl ?_
    refine qg_pls (n := 1) (k' := 33) (lo' := [some (.ref r), some (.int x)]) (S' := [.ref r, .ref b]) (h' := h) rfl ?_
    refine qg_getf (v := .int (nI t.length)) rfl h1 rfl rfl rfl ?_
    refine qg_pls (n := 2) (k' := 36) (lo' := [some (.ref r), some (.int x)]) (S' := [.int (x).toInt8.toInt32, .int (nI t.length), .ref b]) (h' := h) rfl ?_
    refine qg_ast rfl (fun _ _ _ => rfl) h2 (by omega) (by omega) ?_
    refine qg_pls (n := 2) (k' := 39) (lo' := [some (.ref r), some (.int x)]) (S' := [.ref r, .ref r]) (h' := (h.1.set b (ai_num .byte len (upd f t.length (vp_nar .byte (x.toInt8.toInt32)))), h.2)) rfl ?_
    refine qg_getf (v := .int (nI t.length)) rfl (q_stay h1 (Ne.symm hrb)) rfl rfl rfl ?_
    refine qg_pls (n := 2) (k' := 42) (lo' := [some (.ref r), some (.int x)]) (S' := [.int ((nI t.length) + 1), .ref r]) (h' := (h.1.set b (ai_num .byte len (upd f t.length (vp_nar .byte (x.toInt8.toInt32)))), h.2)) rfl ?_
    refine qg_putf rfl (q_stay h1 (Ne.symm hrb)) rfl rfl (Nat.le_of_ble_eq_true rfl) rfl ?_
    exact hg
  · rw [List.length_append, show nI (t.length + [zb x].length) = nI t.length + 1 from nI_succ _]
    exact q_set (q_stay h1 (Ne.symm hrb))
  · exact q_stay (q_set h2) hrb
  · rw [List.length_append]; exact hlt
  · rw [List.length_append] at hj
    have hj : j < t.length + 1 := hj
    unfold upd
    by_cases he : j = t.length
    · rw [if_pos he, he, getD_app2]
      exact zb_zb x
    · rw [if_neg he, getD_app1 (by omega)]
      exact h5 j (by omega)
  · refine ⟨by simp, fun i i1 i2 i3 => ?_, Or.inl rfl, Nat.le_refl _, Nat.le_refl _, Nat.le_refl _⟩
    show ((h.1.set b _).set r _)[i]? = _
    rw [List.getElem?_set_ne (fun e => i1 e.symm), List.getElem?_set_ne (fun e => i2 e.symm)]
/-- Row.add(x) -/
theorem q_add {r b len : Nat} {t : List Int32} (x : Int32) (hr : qrow h r b len t) (hlt : t.length < 524288) : ∃ h' b' len', qe L xs (d + 3) 39 [.ref r, .int x] h (.inl none, h') ∧ qrow h' r b' len' (t ++ [zb x]) ∧ qro r h b len h' b' len' := by
  have hle := qrow_le hr
  by_cases hfull : t.length < len
  · obtain ⟨h', g1, g2, g3⟩ := q_add0 (L := L) (xs := xs) (d := d + 2) (x := x) hr hfull
    refine ⟨h', b, len, ?_, g2, g3⟩
    obtain ⟨f, h1, h2, h3, h4, h5⟩ := hr
    refine qe_of (M := qm_39) rfl rfl ?_
    show qg L xs _ qm_39 0 [some (.ref r), some (.int x)] [] h _
    refine qg_pls (n := 1) (k' := 1) (lo' := [some (.ref r), some (.int x)]) (S' := [.ref r]) (h' := h) rfl ?_
    refine qg_getf (v := .int (nI t.length)) rfl h1 rfl rfl rfl ?_
    refine qg_pls (n := 1) (k' := 3) (lo' := [some (.ref r), some (.int x)]) (S' := [.ref r, .int (nI t.length)]) (h' := h) rfl ?_
    refine qg_getf (v := .ref b) rfl h1 rfl rfl rfl ?_
    refine qg_alen rfl h2 ?_
    refine qg_icmp true rfl (qc_ltT hfull (by omega)) rfl ?_
    refine g1 _ ?_
    exact qg_ret7 rfl
  · obtain ⟨f, h1, h2, h3, ⟨e, h4, h6⟩, h5⟩ := hr
    have hrb : r ≠ b := q_ne h1 h2 (by intro e; cases e)
    have he : e < 11 := by
      rcases Nat.lt_or_ge e 11 with q | q
      · exact q
      · have : e = 11 := by omega
        subst this
        omega
    have hl2 : len * 2 = 256 * 2 ^ (e + 1) := by rw [Nat.pow_succ]; omega
    have hl3 := q_pw (show e + 1 ≤ 11 by omega)
    have hl4 : 256 ≤ len := by
      have := Nat.one_le_two_pow (n := e)
      omega
    have hrow : qrow ((h.1 ++ [ai_num .byte (len * 2) (va_cpy f (fun _ => 0) 0 0 len)]).set r (ai_obj 3 [.ref h.1.length, .int (nI t.length)]), h.2.1 + 1, h.2.2 + len * 2) r h.1.length (len * 2) t := by
      refine ⟨va_cpy f (fun _ => 0) 0 0 len, q_set (q_app h1), q_stay q_new (by have := q_lt h1; omega), by omega, ⟨e + 1, by omega, hl2⟩, fun j hj => ?_⟩
      unfold va_cpy
      rw [if_pos ⟨Nat.zero_le _, by omega⟩, ← h5 j hj]
      simp
    obtain ⟨h', g1, g2, g3⟩ := q_add0 (L := L) (xs := xs) (d := d + 2) (x := x) hrow (by omega)
    refine ⟨h', h.1.length, len * 2, ?_, g2, qro_trans (h' := ((h.1 ++ [ai_num .byte (len * 2) (va_cpy f (fun _ => 0) 0 0 len)]).set r (ai_obj 3 [.ref h.1.length, .int (nI t.length)]), h.2.1 + 1, h.2.2 + len * 2)) (b' := h.1.length) (len' := len * 2) ⟨?_, fun i i1 i2 i3 => ?_, Or.inr (Nat.le_refl _), by omega, ?_, ?_⟩ g3⟩
    · skip
      refine qe_of (M := qm_39) rfl rfl ?_
      show qg L xs _ qm_39 0 [some (.ref r), some (.int x)] [] h _
      refine qg_pls (n := 1) (k' := 1) (lo' := [some (.ref r), some (.int x)]) (S' := [.ref r]) (h' := h) rfl ?_
      refine qg_getf (v := .int (nI t.length)) rfl h1 rfl rfl rfl ?_
      refine qg_pls (n := 1) (k' := 3) (lo' := [some (.ref r), some (.int x)]) (S' := [.ref r, .int (nI t.length)]) (h' := h) rfl ?_
      refine qg_getf (v := .ref b) rfl h1 rfl rfl rfl ?_
      refine qg_alen rfl h2 ?_
      refine qg_icmp false rfl (qc_ltF (by omega) (by omega)) rfl ?_
      refine qg_pls (n := 1) (k' := 7) (lo' := [some (.ref r), some (.int x)]) (S' := [.ref r]) (h' := h) rfl ?_
      refine qg_getf (v := .ref b) rfl h1 rfl rfl rfl ?_
      refine qg_alen rfl h2 ?_
      refine qg_pls (n := 1) (k' := 10) (lo' := [some (.ref r), some (.int x)]) (S' := [.int 524288, .int (nI len)]) (h' := h) rfl ?_
      refine qg_icmp false rfl (qc_geF (b := 524288) (by omega) (by decide)) rfl ?_
      refine qg_pls (n := 2) (k' := 13) (lo' := [some (.ref r), some (.int x)]) (S' := [.ref r, .ref r]) (h' := h) rfl ?_
      refine qg_getf (v := .ref b) rfl h1 rfl rfl rfl ?_
      refine qg_pls (n := 1) (k' := 15) (lo' := [some (.ref r), some (.int x)]) (S' := [.ref r, .ref b, .ref r]) (h' := h) rfl ?_
      refine qg_getf (v := .ref b) rfl h1 rfl rfl rfl ?_
      refine qg_alen rfl h2 ?_
      refine qg_pls (n := 2) (k' := 19) (lo' := [some (.ref r), some (.int x)]) (S' := [.int ((nI len) * 2), .ref b, .ref r]) (h' := h) rfl ?_
      rw [nI_2]
      refine qg_call (v := some (.ref h.1.length)) (h' := (h.1 ++ [ai_num .byte (len * 2) (va_cpy f (fun _ => 0) 0 0 len)], h.2.1 + 1, h.2.2 + len * 2)) (as := [.ref b, .int (nI (len * 2))]) rfl rfl rfl rfl rfl rfl rfl rfl (q_copyB h2 (by omega) (by omega)) ?_
      show qg L xs _ qm_39 20 [some (.ref r), some (.int x)] [.ref h.1.length, .ref r] (h.1 ++ [ai_num .byte (len * 2) (va_cpy f (fun _ => 0) 0 0 len)], h.2.1 + 1, h.2.2 + len * 2) _
      refine qg_putf rfl (q_app h1) rfl rfl (Nat.le_of_ble_eq_true rfl) rfl ?_
      refine g1 _ ?_
      exact qg_ret7 rfl
    · simp
    · show ((h.1 ++ _).set r _)[i]? = _
      rw [List.getElem?_set_ne (fun e => i1 e.symm), List.getElem?_append_left i3]
    · show 16 * (h.2.1 + 1) + len ≤ _
      omega
    · show h.2.2 + len * 2 + 2 * len ≤ _
      omega
end QRX
end
section
/-! ROWS OF BYTES: words, slices, brackets. (Printed by wip/whole/pp.py from wip/whole/src.) -/
section QRY
variable {L : Nat} {xs : Nat → Int32} {d : Nat} {h h' : ai_H}
theorem qrow_obj {r b len : Nat} {t : List Int32} (hr : qrow h r b len t) : h.1[r]? = some (ai_obj 3 [.ref b, .int (nI t.length)]) := by
  obtain ⟨f, h1, -⟩ := hr
  exact h1
theorem qrow_arr {r b len : Nat} {t : List Int32} (hr : qrow h r b len t) : ∃ f, h.1[b]? = some (ai_num .byte len f) := by
  obtain ⟨f, h1, h2, -⟩ := hr
  exact ⟨f, h2⟩
theorem qrow_ne {r b len r2 b2 len2 : Nat} {t u : List Int32} (hr : qrow h r b len t) (hr2 : qrow h r2 b2 len2 u) : r2 ≠ b := by
  obtain ⟨f, h2⟩ := qrow_arr hr
  exact q_ne (qrow_obj hr2) h2 (by intro e; cases e)
/-- another row stays -/
theorem qrow_keep {r b len b' len' r2 b2 len2 : Nat} {t u : List Int32} (hq : qro r h b len h' b' len') (hr : qrow h r b len t) (hr2 : qrow h r2 b2 len2 u) (n1 : r2 ≠ r) (n2 : b2 ≠ b) : qrow h' r2 b2 len2 u ∧ b2 ≠ b' := by
  have m1 := qrow_ne hr hr2
  have m2 := qrow_ne hr2 hr
  obtain ⟨f, h1, h2, h3, h4, h5⟩ := hr2
  obtain ⟨q1, q2, q3, -⟩ := hq
  have l1 := q_lt h1
  have l2 := q_lt h2
  refine ⟨⟨f, ?_, ?_, h3, h4, h5⟩, by omega⟩
  · rw [q2 r2 n1 m1 l1]; exact h1
  · rw [q2 b2 (Ne.symm m2) n2 l2]; exact h2
theorem drop_cons {α : Type} {x : α} {u : List α} {j : Nat} (h : j < u.length) : u.drop j = u.getD j x :: u.drop (j + 1) := by
  rw [List.drop_eq_getElem_cons h, List.getD_eq_getElem?_getD, List.getElem?_eq_getElem h]
  rfl
theorem q_wordl {c r : Nat} (c1 : 1000 ≤ c) (c2 : c < 1112) : ∀ (m j : Nat) (h : ai_H) (b len : Nat) (t : List Int32), j + m = (zt c).length → qrow h r b len t → t.length + m + 1 ≤ 524288 → ∃ h' b' len', qg L xs (d + 4) qm_38 2 [some (.ref r), some (.retAddr c), some (.int (nI j))] [] h (.inl none, h') ∧ qrow h' r b' len' (t ++ ((zt c).drop j ++ [32])) ∧ qro r h b len h' b' len' := by
  have hc := zt_len c1 c2
  intro m
  induction m with
  | zero =>
    intro j h b len t hj hr hlen
    obtain ⟨h1, b1, len1, g1, g2, g3⟩ := q_add (L := L) (xs := xs) (d := d + 1) 32 hr (by omega)
    refine ⟨h1, b1, len1, ?_, ?_, g3⟩
    · skip
      refine qg_pls (n := 2) (k' := 4) (lo' := [some (.ref r), some (.retAddr c), some (.int (nI j))]) (S' := [.retAddr c, .int (nI j)]) (h' := h) rfl ?_
      refine qg_call (v := some (.int (nI (zt c).length))) (h' := h) (as := [.retAddr c]) rfl rfl rfl rfl rfl rfl rfl (ai_rcv1 rfl rfl (qZ_str c1 c2)) (q_slen c1 c2) ?_
      show qg L xs _ qm_38 5 [some (.ref r), some (.retAddr c), some (.int (nI j))] [.int (nI (zt c).length), .int (nI j)] h _
      refine qg_icmp true rfl (qc_geT (by omega) (by omega)) rfl ?_
      refine qg_pls (n := 2) (k' := 15) (lo' := [some (.ref r), some (.retAddr c), some (.int (nI j))]) (S' := [.int 32, .ref r]) (h' := h) rfl ?_
      refine qg_call (v := none) (h' := h1) (as := [.ref r, .int 32]) rfl rfl rfl rfl rfl rfl rfl (ai_rcv1 rfl rfl (qrow_obj hr)) (g1) ?_
      show qg L xs _ qm_38 16 [some (.ref r), some (.retAddr c), some (.int (nI j))] [] h1 _
      exact qg_ret7 rfl
    · rw [List.drop_eq_nil_of_le (by omega)]
      exact g2
  | succ m ih =>
    intro j h b len t hj hr hlen
    have hjl : j < (zt c).length := by omega
    obtain ⟨-, -, e3, -⟩ := zt_chr c1 c2 hjl
    obtain ⟨h1, b1, len1, g1, g2, g3⟩ := q_add (L := L) (xs := xs) (d := d + 1) ((zt c).getD j 0) hr (by omega)
    rw [e3] at g2
    obtain ⟨h2, b2, len2, k1, k2, k3⟩ := ih (j + 1) h1 b1 len1 _ (by omega) g2 (by rw [List.length_append]; show t.length + 1 + m + 1 ≤ _; omega)
    refine ⟨h2, b2, len2, ?_, ?_, qro_trans g3 k3⟩
    · skip
      refine qg_pls (n := 2) (k' := 4) (lo' := [some (.ref r), some (.retAddr c), some (.int (nI j))]) (S' := [.retAddr c, .int (nI j)]) (h' := h) rfl ?_
      refine qg_call (v := some (.int (nI (zt c).length))) (h' := h) (as := [.retAddr c]) rfl rfl rfl rfl rfl rfl rfl (ai_rcv1 rfl rfl (qZ_str c1 c2)) (q_slen c1 c2) ?_
      show qg L xs _ qm_38 5 [some (.ref r), some (.retAddr c), some (.int (nI j))] [.int (nI (zt c).length), .int (nI j)] h _
      refine qg_icmp false rfl (qc_geF hjl (by omega)) rfl ?_
      refine qg_pls (n := 3) (k' := 9) (lo' := [some (.ref r), some (.retAddr c), some (.int (nI j))]) (S' := [.int (nI j), .retAddr c, .ref r]) (h' := h) rfl ?_
      refine qg_call (v := some (.int ((zt c).getD j 0))) (h' := h) (as := [.retAddr c, .int (nI j)]) rfl rfl rfl rfl rfl rfl rfl (ai_rcv1 rfl rfl (qZ_str c1 c2)) (q_char c1 c2 hjl) ?_
      show qg L xs _ qm_38 10 [some (.ref r), some (.retAddr c), some (.int (nI j))] [.int ((zt c).getD j 0), .ref r] h _
      refine qg_call (v := none) (h' := h1) (as := [.ref r, .int ((zt c).getD j 0)]) rfl rfl rfl rfl rfl rfl rfl (ai_rcv1 rfl rfl (qrow_obj hr)) (g1) ?_
      show qg L xs _ qm_38 11 [some (.ref r), some (.retAddr c), some (.int (nI j))] [] h1 _
      refine qg_pls (n := 2) (k' := 2) (lo' := [some (.ref r), some (.retAddr c), some (.int ((nI j) + 1))]) (S' := []) (h' := h1) rfl ?_
      rw [nI_1]
      exact k1
    · rw [List.append_assoc, List.singleton_append] at k2
      rw [drop_cons (x := 0) hjl, List.cons_append]
      exact k2
/-- Row.word(text) -/
theorem q_word {c r b len : Nat} {t : List Int32} (c1 : 1000 ≤ c) (c2 : c < 1112) (hr : qrow h r b len t) (hlen : t.length + (zt c).length + 1 ≤ 524288) : ∃ h' b' len', qe L xs (d + 5) 38 [.ref r, .retAddr c] h (.inl none, h') ∧ qrow h' r b' len' (t ++ zt c ++ [32]) ∧ qro r h b len h' b' len' := by
  obtain ⟨h1, b1, len1, g1, g2, g3⟩ := q_wordl (L := L) (xs := xs) (d := d) c1 c2 (zt c).length 0 h b len t (by omega) hr hlen
  refine ⟨h1, b1, len1, ?_, by rw [List.append_assoc]; exact g2, g3⟩
  refine qe_of (M := qm_38) rfl rfl ?_
  show qg L xs _ qm_38 0 [some (.ref r), some (.retAddr c), none] [] h _
  refine qg_pls (n := 2) (k' := 2) (lo' := [some (.ref r), some (.retAddr c), some (.int 0)]) (S' := []) (h' := h) rfl ?_
  exact g1
theorem zb_and {x : Int32} (h : zb x = x) : zb (x &&& 255) = x := by
  have e : (x &&& 255).toInt8 = x.toInt8 := by
    rw [Int32.toInt8_and]
    exact Int8.and_neg_one
  show (x &&& 255).toInt8.toInt32 = x
  rw [e]
  exact h
theorem zat_lt {u : List Int32} {j : Nat} (h : j < u.length) : zat u j = u.getD j 0 &&& 255 := if_pos h
theorem take_drop_cons {α : Type} {x : α} {u : List α} {j z : Nat} (h1 : j < z) (h2 : z ≤ u.length) : (u.drop j).take (z - j) = u.getD j x :: (u.drop (j + 1)).take (z - (j + 1)) := by
  rw [List.drop_eq_getElem_cons (by omega), show z - j = (z - (j + 1)) + 1 by omega, List.take_succ_cons, List.getD_eq_getElem?_getD, List.getElem?_eq_getElem (by omega)]
  rfl
theorem q_copl {r r2 a z : Nat} (hn : r2 ≠ r) {u : List Int32} (hu : ∀ x ∈ u, zb x = x) (hz : z ≤ u.length) : ∀ (m j : Nat) (h : ai_H) (b len b2 len2 : Nat) (t : List Int32), j + m = z → qrow h r b len t → qrow h r2 b2 len2 u → b2 ≠ b → t.length + m + 1 ≤ 524288 → ∃ h' b' len', qg L xs (d + 3) qm_53 2 [some (.ref r), some (.ref r2), some (.int (nI a)), some (.int (nI z)), some (.int (nI j))] [] h (.inl none, h') ∧ qrow h' r b' len' (t ++ ((u.drop j).take (z - j) ++ [32])) ∧ qro r h b len h' b' len' := by
  intro m
  induction m with
  | zero =>
    intro j h b len b2 len2 t hj hr hr2 hb hlen
    have hle := qrow_le hr2
    obtain ⟨h1, b1, len1, g1, g2, g3⟩ := q_add (L := L) (xs := xs) (d := d) 32 hr (by omega)
    refine ⟨h1, b1, len1, ?_, ?_, g3⟩
    · skip
      refine qg_pls (n := 2) (k' := 4) (lo' := [some (.ref r), some (.ref r2), some (.int (nI a)), some (.int (nI z)), some (.int (nI j))]) (S' := [.int (nI z), .int (nI j)]) (h' := h) rfl ?_
      refine qg_icmp true rfl (qc_geT (by omega) (by omega)) rfl ?_
      refine qg_pls (n := 2) (k' := 14) (lo' := [some (.ref r), some (.ref r2), some (.int (nI a)), some (.int (nI z)), some (.int (nI j))]) (S' := [.int 32, .ref r]) (h' := h) rfl ?_
      refine qg_call (v := none) (h' := h1) (as := [.ref r, .int 32]) rfl rfl rfl rfl rfl rfl rfl (ai_rcv1 rfl rfl (qrow_obj hr)) (g1) ?_
      show qg L xs _ qm_53 15 [some (.ref r), some (.ref r2), some (.int (nI a)), some (.int (nI z)), some (.int (nI j))] [] h1 _
      exact qg_ret7 rfl
    · rw [show z - j = 0 by omega]
      exact g2
  | succ m ih =>
    intro j h b len b2 len2 t hj hr hr2 hb hlen
    have hle := qrow_le hr2
    obtain ⟨h1, b1, len1, g1, g2, g3⟩ := q_add (L := L) (xs := xs) (d := d) (zat u j) hr (by omega)
    have hx : zb (zat u j) = u.getD j 0 := by
      rw [zat_lt (by omega)]
      refine zb_and (hu _ ?_)
      rw [List.getD_eq_getElem?_getD, List.getElem?_eq_getElem (by omega)]
      exact List.getElem_mem _
    rw [hx] at g2
    obtain ⟨w1, w2⟩ := qrow_keep g3 hr hr2 hn hb
    obtain ⟨h2, b3, len3, k1, k2, k3⟩ := ih (j + 1) h1 b1 len1 b2 len2 _ (by omega) g2 w1 w2 (by rw [List.length_append]; show t.length + 1 + m + 1 ≤ _; omega)
    refine ⟨h2, b3, len3, ?_, ?_, qro_trans g3 k3⟩
    · skip
      refine qg_pls (n := 2) (k' := 4) (lo' := [some (.ref r), some (.ref r2), some (.int (nI a)), some (.int (nI z)), some (.int (nI j))]) (S' := [.int (nI z), .int (nI j)]) (h' := h) rfl ?_
      refine qg_icmp false rfl (qc_geF (by omega) (by omega)) rfl ?_
      refine qg_pls (n := 3) (k' := 8) (lo' := [some (.ref r), some (.ref r2), some (.int (nI a)), some (.int (nI z)), some (.int (nI j))]) (S' := [.int (nI j), .ref r2, .ref r]) (h' := h) rfl ?_
      refine qg_call (v := some (.int (zat u j))) (h' := h) (as := [.ref r2, .int (nI j)]) rfl rfl rfl rfl rfl rfl rfl (ai_rcv1 rfl rfl (qrow_obj hr2)) (q_at hr2 (by omega)) ?_
      show qg L xs _ qm_53 9 [some (.ref r), some (.ref r2), some (.int (nI a)), some (.int (nI z)), some (.int (nI j))] [.int (zat u j), .ref r] h _
      refine qg_call (v := none) (h' := h1) (as := [.ref r, .int (zat u j)]) rfl rfl rfl rfl rfl rfl rfl (ai_rcv1 rfl rfl (qrow_obj hr)) (g1) ?_
      show qg L xs _ qm_53 10 [some (.ref r), some (.ref r2), some (.int (nI a)), some (.int (nI z)), some (.int (nI j))] [] h1 _
      refine qg_pls (n := 2) (k' := 2) (lo' := [some (.ref r), some (.ref r2), some (.int (nI a)), some (.int (nI z)), some (.int ((nI j) + 1))]) (S' := []) (h' := h1) rfl ?_
      rw [nI_1]
      exact k1
    · rw [List.append_assoc, List.singleton_append] at k2
      rw [take_drop_cons (x := 0) (by omega) hz, List.cons_append]
      exact k2
/-- Row.copied(text, a, z) -/
theorem q_copied {r r2 a z b len b2 len2 : Nat} {t u : List Int32} (hn : r2 ≠ r) (hu : ∀ x ∈ u, zb x = x) (hz : z ≤ u.length) (haz : a ≤ z) (hr : qrow h r b len t) (hr2 : qrow h r2 b2 len2 u) (hb : b2 ≠ b) (hlen : t.length + (z - a) + 1 ≤ 524288) : ∃ h' b' len', qe L xs (d + 4) 53 [.ref r, .ref r2, .int (nI a), .int (nI z)] h (.inl none, h') ∧ qrow h' r b' len' (t ++ (u.drop a).take (z - a) ++ [32]) ∧ qro r h b len h' b' len' := by
  obtain ⟨h1, b1, len1, g1, g2, g3⟩ := q_copl (L := L) (xs := xs) (d := d) (a := a) hn hu hz (z - a) a h b len b2 len2 t (by omega) hr hr2 hb hlen
  refine ⟨h1, b1, len1, ?_, by rw [List.append_assoc]; exact g2, g3⟩
  refine qe_of (M := qm_53) rfl rfl ?_
  show qg L xs _ qm_53 0 [some (.ref r), some (.ref r2), some (.int (nI a)), some (.int (nI z)), none] [] h _
  refine qg_pls (n := 2) (k' := 2) (lo' := [some (.ref r), some (.ref r2), some (.int (nI a)), some (.int (nI z)), some (.int (nI a))]) (S' := []) (h' := h) rfl ?_
  exact g1
end QRY
end
section
/-! THE PICTURE: what the class does with the tokens of a text, over a small state and nothing else. 'none' says nothing: out of turns, or out of room. (#-names are replaced by numbers by wip/whole/pp.py.) -/
/-- at which token; how many are open; the most that were; how many operators wait; the plain form -/
abbrev zS : Type := Nat × Nat × Nat × Nat × List Int32
/-- an answer, or a fault, and the state -/
abbrev zR (α : Type) : Type := Option (Option α × zS)
abbrev zP : Type := zS → zR Nat
/-- the tokens (sort, from, to) and the text -/
abbrev zE : Type := List (Nat × Nat × Nat) × List Int32
/-- operators that wait: where it begins, what it makes -/
abbrev zK : Type := List (Nat × Nat)
def zbd {α β : Type} (r : zR α) (f : α → zS → zR β) : zR β := match r with
  | none => none
  | some (none, s) => some (none, s)
  | some (some v, s) => f v s
def zq (a b : zP) : zP := fun s => zbd (a s) fun _ s => b s
def zi (a b c : zP) : zP := fun s => zbd (a s) fun v s => if v = 0 then c s else b s
def zv (v : Nat) : zP := fun s => some (some v, s)
def zf : zP := fun s => some (none, s)
def ztk (e : zE) (i : Nat) : Nat := (e.1.getD i (102, 0, 0)).1
def zfr (e : zE) (i : Nat) : Nat := (e.1.getD i (102, 0, 0)).2.1
def zto (e : zE) (i : Nat) : Nat := (e.1.getD i (102, 0, 0)).2.2
/-- what an expression is made by when the token stands between its operands -/
def zmk (e : zE) (i : Nat) : Nat := (qr_en.getD (ztk e i) (0, 0)).2.toNatClampNeg
def zc (e : zE) (k : Nat) (a b : zP) : zP := fun s => if ztk e s.1 = k then a s else b s
/-- the text of a sort -/
def zw (k : Nat) : List Int32 := zt (qr_en.getD k (0, 0)).1
def zput (t : List Int32) : zP := fun s => if 524288 < s.2.2.2.2.length + t.length + 1 then none else some (some 0, (s.1, s.2.1, s.2.2.1, s.2.2.2.1, s.2.2.2.2 ++ t ++ [32]))
def zrise : zP := fun s => if 40 ≤ s.2.1 then some (none, s) else some (some 0, (s.1, s.2.1 + 1, max s.2.2.1 (s.2.1 + 1), s.2.2.2))
def zdown : zP := fun s => if s.2.1 = 0 then none else some (some 0, (s.1, s.2.1 - 1, s.2.2))
def znext : zP := fun s => if 100000 ≤ s.1 then none else some (some 0, (s.1 + 1, s.2))
def zstep (e : zE) : zP := fun s => if ztk e s.1 = 82 ∨ ztk e s.1 = 10 then zq zrise znext s else if ztk e s.1 = 83 ∨ ztk e s.1 = 25 then zq zdown znext s else znext s
/-- a token that must be here and stands in the plain form -/
def zcp (e : zE) (k : Nat) : zP := zc e k (zq (zput (zw k)) (zstep e)) zf
/-- one that may be here -/
def zci (e : zE) (k : Nat) : zP := zc e k (zq (zput (zw k)) (zq (zstep e) (zv 1))) (zv 0)
/-- the same, not in the plain form -/
def zsk (e : zE) (k : Nat) : zP := zc e k (zstep e) zf
def zsi (e : zE) (k : Nat) : zP := zc e k (zq (zstep e) (zv 1)) (zv 0)
def zsl (e : zE) (i : Nat) : List Int32 := (e.2.drop (zfr e i)).take (zto e i - zfr e i)
def zlow (c : Int32) : Int32 := if 65 ≤ c ∧ c ≤ 90 then c - 65 + 97 else c
def zsm (x : Int32) : Int32 := zb (zlow (x &&& 255))
/-- without zeros before it -/
def znz : List Int32 → List Int32
  | [] => []
  | x :: r => if x = 48 ∧ r ≠ [] then znz r else x :: r
def znm (e : zE) : zP := zc e 99 (fun s => zq (zput ((zsl e s.1).map zsm)) (zstep e) s) zf
def zst (e : zE) : zP := fun s => zq (zput (zsl e s.1)) (zstep e) s
def znu (e : zE) : zP := zc e 100 (fun s => zq (zput (znz (zsl e s.1))) (zstep e) s) zf
/-- again and again while it answers other than 0; each turn takes a token -/
def zlp (a : zP) : Nat → zP
  | 0 => fun _ => none
  | n + 1 => fun s => zbd (a s) fun v s1 => if v = 0 then some (some 0, s1) else if s1.1 ≤ s.1 then none else zlp a n s1
def zN : Nat := 70000
/-! statements; ex and qy read an expression and a query -/
def z_names (e : zE) : zP := zq (zcp e 82) (zq (znm e) (zq (zlp (zi (zci e 84) (zq (znm e) (zv 1)) (zv 0)) zN) (zcp e 83)))
def z_brex (e : zE) (ex : zP) : zP := zq (zcp e 82) (zq ex (zcp e 83))
def z_preset (e : zE) : zP := zc e 101 (zst e) (zi (zci e 50) (zv 0) (zq (zci e 88) (znu e)))
def z_refer (e : zE) : zP := zq (znm e) (zi (zci e 53) (zq (zcp e 20) (zi (zci e 67) (zcp e 50) (zi (zci e 9) (zv 0) (zcp e 62)))) (zput (zt 1009)))
def z_option (e : zE) (ex : zP) : zP := zi (zci e 49) (zq (zcp e 50) (zv 1)) (zi (zci e 59) (zq (zcp e 39) (zv 1)) (zi (zci e 19) (zq (z_preset e) (zv 1)) (zi (zci e 12) (zq (z_brex e ex) (zv 1)) (zi (zci e 61) (zq (z_refer e) (zv 1)) (zci e 76)))))
def z_type (e : zE) : zP := zi (zci e 35) (zv 0) (zcp e 72)
def z_column (e : zE) (ex : zP) : zP := zq (znm e) (zq (z_type e) (zlp (z_option e ex) zN))
def z_elem (e : zE) (ex : zP) : zP := zc e 99 (z_column e ex) (zi (zci e 12) (z_brex e ex) (zi (zci e 76) (z_names e) (zq (zcp e 59) (zq (zcp e 39) (z_names e)))))
def z_table (e : zE) (ex : zP) : zP := zq (zcp e 71) (zq (znm e) (zq (zcp e 82) (zq (zlp (zq (z_elem e ex) (zci e 84)) zN) (zq (zcp e 83) (zv 1)))))
def z_index (e : zE) : zP := zq (zci e 76) (zq (zcp e 32) (zq (znm e) (zq (zcp e 53) (zq (znm e) (zq (z_names e) (zv 2))))))
def z_drop (e : zE) : zP := zq (zcp e 23) (zc e 32 (zq (zcp e 32) (zq (znm e) (zv 4))) (zq (zcp e 71) (zq (znm e) (zv 3))))
/-- e {, e} -/
def z_exs (e : zE) (ex : zP) : zP := zq ex (zlp (zi (zci e 84) (zq ex (zv 1)) (zv 0)) zN)
def z_insert (e : zE) (ex qy : zP) : zP := zq (zcp e 34) (zq (zcp e 36) (zq (znm e) (zq (zc e 82 (z_names e) (zv 0)) (zc e 65 (zq qy (zv 5)) (zq (zcp e 79) (zq (zlp (zq (zcp e 82) (zq (z_exs e ex) (zq (zcp e 83) (zci e 84)))) zN) (zv 5)))))))
def z_cond (e : zE) (ex : zP) : zP := zi (zci e 81) (zq ex (zv 0)) (zv 0)
def z_update (e : zE) (ex : zP) : zP := zq (zcp e 77) (zq (znm e) (zq (zcp e 67) (zq (zlp (zq (znm e) (zq (zcp e 93) (zq ex (zci e 84)))) zN) (zq (z_cond e ex) (zv 6)))))
def z_delete (e : zE) (ex : zP) : zP := zq (zcp e 20) (zq (zcp e 28) (zq (znm e) (zq (z_cond e ex) (zv 7))))
def z_begin (e : zE) : zP := zq (zcp e 6) (zq (zi (zci e 60) (zi (zci e 15) (zv 0) (zcp e 75)) (zi (zci e 66) (zv 0) (zput (zt 1010)))) (zv 9))
def z_commit (e : zE) : zP := zq (zcp e 14) (zi (zci e 58) (zq (znu e) (zv 16)) (zv 10))
def z_rollback (e : zE) : zP := zq (zcp e 63) (zi (zci e 74) (zq (znm e) (zv 13)) (zi (zci e 58) (zq (znu e) (zv 17)) (zv 11)))
def z_lock (e : zE) : zP := zq (zcp e 44) (zq (zcp e 71) (zq (znm e) (zq (zcp e 31) (zq (zi (zci e 68) (zv 0) (zcp e 26)) (zq (zcp e 48) (zv 14))))))
def z_alias (e : zE) : zP := zi (zci e 3) (zq (znm e) (zv 0)) (zv 0)
def z_item (e : zE) (ex : zP) : zP := fun s => if ztk e s.1 = 99 ∧ ztk e (s.1 + 1) = 85 ∧ ztk e (s.1 + 2) = 89 then zq (znm e) (zq (zcp e 85) (zcp e 89)) s else zq ex (z_alias e) s
def z_items (e : zE) (ex : zP) : zP := zlp (zq (z_item e ex) (zci e 84)) zN
def z_source (e : zE) : zP := zq (znm e) (z_alias e)
def z_on (e : zE) (ex : zP) : zP := zq (z_source e) (zq (zcp e 53) (zq ex (zv 1)))
def z_join (e : zE) (ex : zP) : zP := zi (zsi e 84) (zq (zput (zt 1006)) (zq (z_source e) (zv 1))) (zi (zci e 40) (zq (zsi e 56) (zq (zcp e 38) (z_on e ex))) (zi (zci e 18) (zq (zcp e 38) (zq (z_source e) (zv 1))) (zi (zsi e 33) (zq (zcp e 38) (z_on e ex)) (zc e 38 (zq (zcp e 38) (z_on e ex)) (zv 0)))))
def z_sources (e : zE) (ex : zP) : zP := zq (z_source e) (zlp (z_join e ex) zN)
def z_order (e : zE) (ex : zP) : zP := zq ex (zi (zsi e 4) (zv 0) (zq (zci e 21) (zv 0)))
def z_orders (e : zE) (ex : zP) : zP := zlp (zq (z_order e ex) (zci e 84)) zN
def z_query (e : zE) (ex : zP) : zP := zq (zcp e 65) (zq (zci e 22) (zq (zi (zci e 89) (zv 0) (z_items e ex)) (zq (zi (zci e 28) (z_sources e ex) (zv 0)) (zq (z_cond e ex) (zq (zi (zci e 29) (zq (zcp e 8) (z_exs e ex)) (zv 0)) (zq (zi (zci e 30) (zq ex (zv 0)) (zv 0)) (zq (zi (zci e 55) (zq (zcp e 8) (z_orders e ex)) (zv 0)) (zi (zci e 43) (zq (znu e) (zi (zci e 52) (zq (znu e) (zv 0)) (zv 0))) (zv 0)))))))))
/-! expressions -/
def zpush (st ma : Nat) (p : zK) : zS → zR zK := fun s => if 300 ≤ s.2.2.2.1 then none else some (some ((st, ma) :: p), (s.1, s.2.1, s.2.2.1, s.2.2.2.1 + 1, s.2.2.2.2))
def zpop : zP := fun s => if s.2.2.2.1 = 0 then none else some (some 0, (s.1, s.2.1, s.2.2.1, s.2.2.2.1 - 1, s.2.2.2.2))
def zpre (e : zE) (k ma : Nat) : Nat → zK → zS → zR zK
  | 0, _, _ => none
  | n + 1, p, s => if ztk e s.1 = k then zbd (zrise s) fun _ s => zbd (zpush s.2.2.2.2.length ma p s) fun p s => zbd (zput (zt 1005) s) fun _ s => zbd (zput (zw k) s) fun _ s => zbd (zstep e s) fun _ s => zpre e k ma n p s else some (some p, s)
def zcb (nx : Nat) : zK → Nat → Nat → zS → zR (zK × Nat × Nat)
  | [], st, ma, s => some (some ([], st, ma), s)
  | q :: p, st, ma, s => if nx ≤ q.2 then zbd (zpop s) fun _ s => zbd (zput (zt 1008) s) fun _ s => zbd ((if q.2 = 3 ∨ q.2 = 8 then zdown else zv 0) s) fun _ s => zcb nx p q.1 q.2 s else some (some (q :: p, st, ma), s)
def zreopen : zP := fun s => if s.2.2.2.2.length < 2 then none else some (some 0, (s.1, s.2.1, s.2.2.1, s.2.2.2.1, s.2.2.2.2.take (s.2.2.2.2.length - 2)))
def zopen (st : Nat) : zP := fun s => if s.2.2.2.2.length < st ∨ 524288 < s.2.2.2.2.length + 2 then none else some (some 0, (s.1, s.2.1, s.2.2.1, s.2.2.2.1, s.2.2.2.2.take st ++ [40, 32] ++ s.2.2.2.2.drop st))
def zcomb (nx st ma : Nat) (p : zK) : zS → zR (zK × Nat) := fun s => zbd (zcb nx p st ma s) fun q s => if nx = 0 then some (some (q.1, q.2.2), s) else zbd (zpush q.2.1 nx q.1 s) fun p s => zbd ((if q.2.2 = nx then zreopen else zopen q.2.1) s) fun _ s => some (some (p, q.2.2), s)
/-- operands and operators of one family: the prefix kp makes mp; fam tells which operators belong to it -/
def zops (e : zE) (kp mp : Nat) (fam : Nat → Bool) (od : zP) : Nat → zK → zP
  | 0, _, _ => none
  | n + 1, p, s => zbd (zpre e kp mp 42 p s) fun p s1 => zbd (od s1) fun ma s4 => zbd (zcomb (if fam (zmk e s4.1) = true then zmk e s4.1 else 0) s1.2.2.2.2.length ma p s4) fun q s2 => if fam (zmk e s2.1) = true then zbd (zcp e (ztk e s2.1) s2) fun _ s3 => if s3.1 ≤ s.1 then none else zops e kp mp fam od n q.1 s3 else some (some q.2, s2)
def zfamS (m : Nat) : Bool := decide (5 ≤ m)
def zfamE (m : Nat) : Bool := decide (m = 1 ∨ m = 2)
def z_sum (e : zE) (pr : zP) : zP := zops e 88 8 zfamS pr zN []
def ztest : zP := fun s => if 300 ≤ s.2.2.2.1 then none else some (some 0, (s.1, s.2.1, s.2.2.1, s.2.2.2.1 + 1, s.2.2.2.2))
def z_members (e : zE) (ex qy : zP) : zP := zq (zcp e 82) (zq (zc e 65 qy (z_exs e ex)) (zcp e 83))
def z_test (e : zE) (pr ex qy : zP) (st : Nat) : zP := fun s =>
  if zmk e s.1 = 4 then zq (zopen st) (zq (zcp e (ztk e s.1)) (zq ztest (zq (z_sum e pr) (zq zpop (zq (zput (zt 1008)) (zv 4)))))) s
  else if ztk e s.1 = 37 then zq (zopen st) (zq (zcp e 37) (zq (zci e 49) (zq (zcp e 50) (zq (zput (zt 1008)) (zv 4))))) s
  else zq (zopen st) (zq (zci e 49) (zq (zi (zci e 31) (z_members e ex qy) (zi (zci e 7) (zq ztest (zq (z_sum e pr) (zq (zcp e 2) (zq (z_sum e pr) zpop)))) (zq (zcp e 42) (zq ztest (zq (z_sum e pr) zpop))))) (zq (zput (zt 1008)) (zv 4)))) s
def z_cmp (e : zE) (pr ex qy : zP) : zP := fun s => zbd (z_sum e pr s) fun ma s1 => if zmk e s1.1 = 4 ∨ ztk e s1.1 = 37 ∨ ztk e s1.1 = 49 ∨ ztk e s1.1 = 31 ∨ ztk e s1.1 = 7 ∨ ztk e s1.1 = 42 then z_test e pr ex qy s.2.2.2.2.length s1 else some (some ma, s1)
def z_cases (e : zE) (ex : zP) : zP := zq (zcp e 10) (zq (zlp (zq (zcp e 80) (zq ex (zq (zcp e 73) (zq ex (zc e 80 (zv 1) (zv 0)))))) zN) (zq (zi (zci e 24) ex (zv 0)) (zcp e 25)))
def z_agg (e : zE) (ex : zP) : zP := fun s => zq (zcp e (ztk e s.1)) (zq (zcp e 82) (zq (if ztk e s.1 = 16 then zi (zci e 89) (zv 0) (zq (zci e 22) ex) else zq (zci e 22) ex) (zcp e 83))) s
def z_args (e : zE) (a : zP) : zP := fun s => zq (zcp e (ztk e s.1)) (zq (zcp e 82) (zq a (zcp e 83))) s
def z_fun (e : zE) (ex : zP) : zP := fun s =>
  if ztk e s.1 = 0 ∨ ztk e s.1 = 41 ∨ ztk e s.1 = 78 ∨ ztk e s.1 = 45 then z_args e ex s
  else if ztk e s.1 = 69 then z_args e (zq ex (zq (zcp e 84) (zq ex (zi (zci e 84) ex (zv 0))))) s
  else if ztk e s.1 = 13 then z_args e (z_exs e ex) s
  else if ztk e s.1 = 51 then z_args e (zq ex (zq (zcp e 84) ex)) s
  else if ztk e s.1 = 11 then zq (zcp e 11) (zq (zcp e 82) (zq ex (zq (zcp e 3) (zq (z_type e) (zcp e 83))))) s
  else if ztk e s.1 = 16 ∨ ztk e s.1 = 70 ∨ ztk e s.1 = 47 ∨ ztk e s.1 = 46 ∨ ztk e s.1 = 5 then z_agg e ex s
  else zf s
def z_prim (e : zE) (ex qy : zP) : zP := fun s =>
  if ztk e s.1 = 100 then zq (znu e) (zv 0) s
  else if ztk e s.1 = 101 then zq (zst e) (zv 0) s
  else if ztk e s.1 = 50 then zq (zcp e 50) (zv 0) s
  else if ztk e s.1 = 99 then zq (znm e) (zi (zci e 85) (zq (znm e) (zv 0)) (zv 0)) s
  else if ztk e s.1 = 82 then zq (zsk e 82) (fun s => zbd (ex s) fun ma s => zq (zsk e 83) (zv ma) s) s
  else if ztk e s.1 = 27 then zq (zcp e 27) (zq (zcp e 82) (zq qy (zq (zcp e 83) (zv 0)))) s
  else if ztk e s.1 = 10 then zq (z_cases e ex) (zv 0) s
  else zq (z_fun e ex) (zv 0) s
def z_ex (e : zE) (ex qy : zP) : zP := zops e 49 3 zfamE (z_cmp e (z_prim e ex qy) ex qy) zN []
/-- an expression (true), a query (false), at most so deep in each other -/
def zsp (e : zE) : Nat → Bool → zP
  | 0, _ => fun _ => none
  | n + 1, true => z_ex e (zsp e n true) (zsp e n false)
  | n + 1, false => z_query e (zsp e n true)
def z_stmt (e : zE) (ex qy : zP) : zP := fun s =>
  if ztk e s.1 = 17 then zq (zcp e 17) (zc e 71 (z_table e ex) (z_index e)) s
  else if ztk e s.1 = 23 then z_drop e s
  else if ztk e s.1 = 34 then z_insert e ex qy s
  else if ztk e s.1 = 77 then z_update e ex s
  else if ztk e s.1 = 20 then z_delete e ex s
  else if ztk e s.1 = 65 then zq qy (zv 8) s
  else if ztk e s.1 = 6 then z_begin e s
  else if ztk e s.1 = 14 then z_commit e s
  else if ztk e s.1 = 63 then z_rollback e s
  else if ztk e s.1 = 64 then zq (zcp e 64) (zq (znm e) (zv 12)) s
  else if ztk e s.1 = 44 then z_lock e s
  else if ztk e s.1 = 57 then zq (zcp e 57) (zq (znu e) (zv 15)) s
  else zf s
def zdrop : zP := fun s => if s.2.2.2.2.length = 0 then none else some (some 0, (s.1, s.2.1, s.2.2.1, s.2.2.2.1, s.2.2.2.2.take (s.2.2.2.2.length - 1)))
def z_finish (e : zE) : zP := zq (zsi e 86) (zq (zsk e 102) zdrop)
end
section
/-! ROWS OF BYTES: small letters, brackets, the rest. (Printed by wip/whole/pp.py from wip/whole/src.) -/
section QRZ
variable {L : Nat} {xs : Nat → Int32} {d : Nat} {h h' : ai_H}
theorem nI_sub {a b : Nat} (h : b ≤ a) : nI a - nI b = nI (a - b) := by
  obtain ⟨c, rfl⟩ : ∃ c, a = c + b := ⟨a - b, by omega⟩
  rw [Nat.add_sub_cancel, ← nI_add, Int32.add_sub_cancel]
theorem q_sml {r r2 a z : Nat} (hn : r2 ≠ r) {u : List Int32} (hz : z ≤ u.length) : ∀ (m j : Nat) (h : ai_H) (b len b2 len2 : Nat) (t : List Int32) (l5 : Option Value), j + m = z → qrow h r b len t → qrow h r2 b2 len2 u → b2 ≠ b → t.length + m + 1 ≤ 524288 → ∃ h' b' len', qg L xs (d + 3) qm_48 2 [some (.ref r), some (.ref r2), some (.int (nI a)), some (.int (nI z)), some (.int (nI j)), l5] [] h (.inl none, h') ∧ qrow h' r b' len' (t ++ (((u.drop j).take (z - j)).map zsm ++ [32])) ∧ qro r h b len h' b' len' := by
  intro m
  induction m with
  | zero =>
    intro j h b len b2 len2 t l5 hj hr hr2 hb hlen
    have hle := qrow_le hr2
    obtain ⟨h1, b1, len1, g1, g2, g3⟩ := q_add (L := L) (xs := xs) (d := d) 32 hr (by omega)
    refine ⟨h1, b1, len1, ?_, ?_, g3⟩
    · refine qg_pls (n := 2) (k' := 4) (lo' := [some (.ref r), some (.ref r2), some (.int (nI a)), some (.int (nI z)), some (.int (nI j)), l5]) (S' := [.int (nI z), .int (nI j)]) (h' := h) rfl ?_
      refine qg_icmp true rfl (qc_geT (by omega) (by omega)) rfl ?_
      refine qg_pls (n := 2) (k' := 28) (lo' := [some (.ref r), some (.ref r2), some (.int (nI a)), some (.int (nI z)), some (.int (nI j)), l5]) (S' := [.int 32, .ref r]) (h' := h) rfl ?_
      refine qg_call (v := none) (h' := h1) (as := [.ref r, .int 32]) rfl rfl rfl rfl rfl rfl rfl (ai_rcv1 rfl rfl (qrow_obj hr)) (g1) ?_
      exact qg_ret7 rfl
    · rw [show z - j = 0 by omega]
      exact g2
  | succ m ih =>
    intro j h b len b2 len2 t l5 hj hr hr2 hb hlen
    have hle := qrow_le hr2
    obtain ⟨h1, b1, len1, g1, g2, g3⟩ := q_add (L := L) (xs := xs) (d := d) (zlow (zat u j)) hr (by omega)
    have hx : zb (zlow (zat u j)) = zsm (u.getD j 0) := by
      rw [zat_lt (by omega)]
      rfl
    rw [hx] at g2
    obtain ⟨w1, w2⟩ := qrow_keep g3 hr hr2 hn hb
    obtain ⟨h2, b3, len3, k1, k2, k3⟩ := ih (j + 1) h1 b1 len1 b2 len2 _ (some (.int (zat u j))) (by omega) g2 w1 w2 (by rw [List.length_append]; show t.length + 1 + m + 1 ≤ _; omega)
    refine ⟨h2, b3, len3, ?_, ?_, qro_trans g3 k3⟩
    · refine qg_pls (n := 2) (k' := 4) (lo' := [some (.ref r), some (.ref r2), some (.int (nI a)), some (.int (nI z)), some (.int (nI j)), l5]) (S' := [.int (nI z), .int (nI j)]) (h' := h) rfl ?_
      refine qg_icmp false rfl (qc_geF (by omega) (by omega)) rfl ?_
      refine qg_pls (n := 2) (k' := 7) (lo' := [some (.ref r), some (.ref r2), some (.int (nI a)), some (.int (nI z)), some (.int (nI j)), l5]) (S' := [.int (nI j), .ref r2]) (h' := h) rfl ?_
      refine qg_call (v := some (.int (zat u j))) (h' := h) (as := [.ref r2, .int (nI j)]) rfl rfl rfl rfl rfl rfl rfl (ai_rcv1 rfl rfl (qrow_obj hr2)) (q_at hr2 (by omega)) ?_
      refine qg_pls (n := 1) (k' := 9) (lo' := [some (.ref r), some (.ref r2), some (.int (nI a)), some (.int (nI z)), some (.int (nI j)), some (.int (zat u j))]) (S' := []) (h' := h) rfl ?_
      generalize hcd : zat u j = c at *
      refine qg_pls (n := 3) (k' := 12) (lo' := [some (.ref r), some (.ref r2), some (.int (nI a)), some (.int (nI z)), some (.int (nI j)), some (.int c)]) (S' := [.int 65, .int c, .ref r]) (h' := h) rfl ?_
      unfold zlow at g1
      by_cases h65 : c < 65
      · rw [if_neg (fun e => Int32.not_lt.mpr e.1 h65)] at g1
        refine qg_icmp true rfl (decide_eq_true h65) rfl ?_
        refine qg_pls (n := 1) (k' := 23) (lo' := [some (.ref r), some (.ref r2), some (.int (nI a)), some (.int (nI z)), some (.int (nI j)), some (.int c)]) (S' := [.int c, .ref r]) (h' := h) rfl ?_
        refine qg_call (v := none) (h' := h1) (as := [.ref r, .int c]) rfl rfl rfl rfl rfl rfl rfl (ai_rcv1 rfl rfl (qrow_obj hr)) (g1) ?_
        show qg L xs _ qm_48 24 [some (.ref r), some (.ref r2), some (.int (nI a)), some (.int (nI z)), some (.int (nI j)), some (.int c)] [] h1 _
        refine qg_pls (n := 2) (k' := 2) (lo' := [some (.ref r), some (.ref r2), some (.int (nI a)), some (.int (nI z)), some (.int ((nI j) + 1)), some (.int c)]) (S' := []) (h' := h1) rfl ?_
        rw [nI_1]
        exact k1
      · by_cases h90 : 90 < c
        · rw [if_neg (fun e => Int32.not_lt.mpr e.2 h90)] at g1
          refine qg_icmp false rfl (decide_eq_false h65) rfl ?_
          refine qg_pls (n := 2) (k' := 15) (lo' := [some (.ref r), some (.ref r2), some (.int (nI a)), some (.int (nI z)), some (.int (nI j)), some (.int c)]) (S' := [.int 90, .int c, .ref r]) (h' := h) rfl ?_
          refine qg_icmp true rfl (decide_eq_true h90) rfl ?_
          refine qg_pls (n := 1) (k' := 23) (lo' := [some (.ref r), some (.ref r2), some (.int (nI a)), some (.int (nI z)), some (.int (nI j)), some (.int c)]) (S' := [.int c, .ref r]) (h' := h) rfl ?_
          refine qg_call (v := none) (h' := h1) (as := [.ref r, .int c]) rfl rfl rfl rfl rfl rfl rfl (ai_rcv1 rfl rfl (qrow_obj hr)) (g1) ?_
          show qg L xs _ qm_48 24 [some (.ref r), some (.ref r2), some (.int (nI a)), some (.int (nI z)), some (.int (nI j)), some (.int c)] [] h1 _
          refine qg_pls (n := 2) (k' := 2) (lo' := [some (.ref r), some (.ref r2), some (.int (nI a)), some (.int (nI z)), some (.int ((nI j) + 1)), some (.int c)]) (S' := []) (h' := h1) rfl ?_
          rw [nI_1]
          exact k1
        · rw [if_pos ⟨Int32.not_lt.mp h65, Int32.not_lt.mp h90⟩] at g1
          refine qg_icmp false rfl (decide_eq_false h65) rfl ?_
          refine qg_pls (n := 2) (k' := 15) (lo' := [some (.ref r), some (.ref r2), some (.int (nI a)), some (.int (nI z)), some (.int (nI j)), some (.int c)]) (S' := [.int 90, .int c, .ref r]) (h' := h) rfl ?_
          refine qg_icmp false rfl (decide_eq_false h90) rfl ?_
          refine qg_pls (n := 6) (k' := 23) (lo' := [some (.ref r), some (.ref r2), some (.int (nI a)), some (.int (nI z)), some (.int (nI j)), some (.int c)]) (S' := [.int ((c - 65) + 97), .ref r]) (h' := h) rfl ?_
          refine qg_call (v := none) (h' := h1) (as := [.ref r, .int ((c - 65) + 97)]) rfl rfl rfl rfl rfl rfl rfl (ai_rcv1 rfl rfl (qrow_obj hr)) (g1) ?_
          show qg L xs _ qm_48 24 [some (.ref r), some (.ref r2), some (.int (nI a)), some (.int (nI z)), some (.int (nI j)), some (.int c)] [] h1 _
          refine qg_pls (n := 2) (k' := 2) (lo' := [some (.ref r), some (.ref r2), some (.int (nI a)), some (.int (nI z)), some (.int ((nI j) + 1)), some (.int c)]) (S' := []) (h' := h1) rfl ?_
          rw [nI_1]
          exact k1
    · rw [List.append_assoc, List.singleton_append] at k2
      rw [take_drop_cons (x := 0) (by omega) hz, List.map_cons, List.cons_append]
      exact k2
/-- Row.inSmallLetters(text, a, z) -/
theorem q_small {r r2 a z b len b2 len2 : Nat} {t u : List Int32} (hn : r2 ≠ r) (hz : z ≤ u.length) (haz : a ≤ z) (hr : qrow h r b len t) (hr2 : qrow h r2 b2 len2 u) (hb : b2 ≠ b) (hlen : t.length + (z - a) + 1 ≤ 524288) : ∃ h' b' len', qe L xs (d + 4) 48 [.ref r, .ref r2, .int (nI a), .int (nI z)] h (.inl none, h') ∧ qrow h' r b' len' (t ++ ((u.drop a).take (z - a)).map zsm ++ [32]) ∧ qro r h b len h' b' len' := by
  obtain ⟨h1, b1, len1, g1, g2, g3⟩ := q_sml (L := L) (xs := xs) (d := d) (a := a) hn hz (z - a) a h b len b2 len2 t none (by omega) hr hr2 hb hlen
  refine ⟨h1, b1, len1, ?_, by rw [List.append_assoc]; exact g2, g3⟩
  refine qe_of (M := qm_48) rfl rfl ?_
  show qg L xs _ qm_48 0 [some (.ref r), some (.ref r2), some (.int (nI a)), some (.int (nI z)), none, none] [] h _
  refine qg_pls (n := 2) (k' := 2) (lo' := [some (.ref r), some (.ref r2), some (.int (nI a)), some (.int (nI z)), some (.int (nI a)), none]) (S' := []) (h' := h) rfl ?_
  exact g1
/-- Row.reopen() -/
theorem q_reopen {r b len : Nat} {t : List Int32} (hr : qrow h r b len t) (h2 : 2 ≤ t.length) : ∃ h', qe L xs (d + 2) 76 [.ref r] h (.inl none, h') ∧ qrow h' r b len (t.take (t.length - 2)) ∧ qro r h b len h' b len := by
  have hle := qrow_le hr
  obtain ⟨h1, g1, g2, g3⟩ := q_cut (L := L) (xs := xs) (d := d) (n := t.length - 2) hr (by omega)
  refine ⟨h1, ?_, g2, g3⟩
  refine qe_of (M := qm_76) rfl rfl ?_
  show qg L xs _ qm_76 0 [some (.ref r)] [] h _
  refine qg_pls (n := 2) (k' := 2) (lo' := [some (.ref r)]) (S' := [.ref r, .ref r]) (h' := h) rfl ?_
  refine qg_getf (v := .int (nI t.length)) rfl (qrow_obj hr) rfl rfl rfl ?_
  refine qg_pls (n := 2) (k' := 5) (lo' := [some (.ref r)]) (S' := [.int ((nI t.length) - 2), .ref r]) (h' := h) rfl ?_
  rw [show nI t.length - 2 = nI (t.length - 2) from nI_sub h2]
  refine qg_call (v := none) (h' := h1) (as := [.ref r, .int (nI (t.length - 2))]) rfl rfl rfl rfl rfl rfl rfl (ai_rcv1 rfl rfl (qrow_obj hr)) (g1) ?_
  show qg L xs _ qm_76 6 [some (.ref r)] [] h1 _
  exact qg_ret7 rfl
/-- Row.dropLastBlank() -/
theorem q_dropl {r b len : Nat} {t : List Int32} (hr : qrow h r b len t) (h2 : 1 ≤ t.length) : ∃ h', qe L xs (d + 2) 91 [.ref r] h (.inl none, h') ∧ qrow h' r b len (t.take (t.length - 1)) ∧ qro r h b len h' b len := by
  have hle := qrow_le hr
  obtain ⟨h1, g1, g2, g3⟩ := q_cut (L := L) (xs := xs) (d := d) (n := t.length - 1) hr (by omega)
  refine ⟨h1, ?_, g2, g3⟩
  refine qe_of (M := qm_91) rfl rfl ?_
  show qg L xs _ qm_91 0 [some (.ref r)] [] h _
  refine qg_pls (n := 2) (k' := 2) (lo' := [some (.ref r)]) (S' := [.ref r, .ref r]) (h' := h) rfl ?_
  refine qg_getf (v := .int (nI t.length)) rfl (qrow_obj hr) rfl rfl rfl ?_
  refine qg_pls (n := 2) (k' := 5) (lo' := [some (.ref r)]) (S' := [.int ((nI t.length) - 1), .ref r]) (h' := h) rfl ?_
  rw [show nI t.length - 1 = nI (t.length - 1) from nI_sub h2]
  refine qg_call (v := none) (h' := h1) (as := [.ref r, .int (nI (t.length - 1))]) rfl rfl rfl rfl rfl rfl rfl (ai_rcv1 rfl rfl (qrow_obj hr)) (g1) ?_
  show qg L xs _ qm_91 6 [some (.ref r)] [] h1 _
  exact qg_ret7 rfl
/-- what a place of the row holds behind openAt -/
theorem q_ins {t : List Int32} {st : Nat} (hst : st ≤ t.length) (j : Nat) : (t.take st ++ [40, 32] ++ t.drop st).getD j 0 = if j < st then t.getD j 0 else if j = st then 40 else if j = st + 1 then 32 else t.getD (j - 2) 0 := by
  have hl : (t.take st).length = st := by rw [List.length_take]; omega
  rw [List.append_assoc]
  by_cases h1 : j < st
  · rw [if_pos h1, getD_app1 (by omega)]
    simp [List.getD_eq_getElem?_getD, List.getElem?_take, h1]
  · rw [if_neg h1, List.getD_eq_getElem?_getD, List.getElem?_append_right (by omega), hl]
    by_cases h2 : j = st
    · rw [if_pos h2, h2, Nat.sub_self]; rfl
    · rw [if_neg h2]
      by_cases h3 : j = st + 1
      · rw [if_pos h3, h3, show st + 1 - st = 1 by omega]; rfl
      · rw [if_neg h3, List.getElem?_append_right (by show 2 ≤ j - st; omega), List.getElem?_drop, List.getD_eq_getElem?_getD]
        show (t[st + (j - st - 2)]?).getD 0 = _
        rw [show st + (j - st - 2) = j - 2 by omega]
/-- Row.openAt(st) -/
theorem q_open {r b len st : Nat} {t : List Int32} (hr : qrow h r b len t) (hst : st ≤ t.length) (hlen : t.length + 2 ≤ 524288) : ∃ h' b' len', qe L xs (d + 4) 77 [.ref r, .int (nI st)] h (.inl none, h') ∧ qrow h' r b' len' (t.take st ++ [40, 32] ++ t.drop st) ∧ qro r h b len h' b' len' := by
  obtain ⟨h1, b1, len1, g1, g2, g3⟩ := q_add (L := L) (xs := xs) (d := d) 32 hr (by omega)
  obtain ⟨h2, b2, len2, k1, k2, k3⟩ := q_add (L := L) (xs := xs) (d := d) 32 g2 (by rw [List.length_append]; show t.length + 1 < _; omega)
  have hl2 : (t ++ [zb 32] ++ [zb 32]).length = t.length + 2 := by simp
  have hle := qrow_le k2
  have ho := qrow_obj k2
  rw [hl2] at ho
  obtain ⟨f, -, a2, a3, a4, a5⟩ := k2
  rw [hl2] at a3
  have hrb : r ≠ b2 := q_ne ho a2 (by intro e; cases e)
  have hlen3 : (t.take st ++ [40, 32] ++ t.drop st).length = t.length + 2 := by simp; omega
  refine ⟨((((h2.1.set b2 (ai_num .byte len2 (va_cpy f f st (st + 2) (t.length - st)))).set b2 (ai_num .byte len2 (upd (va_cpy f f st (st + 2) (t.length - st)) st (vp_nar .byte 40)))).set b2 (ai_num .byte len2 (upd (upd (va_cpy f f st (st + 2) (t.length - st)) st (vp_nar .byte 40)) (st + 1) (vp_nar .byte 32)))), h2.2), b2, len2, ?_, ⟨upd (upd (va_cpy f f st (st + 2) (t.length - st)) st (vp_nar .byte 40)) (st + 1) (vp_nar .byte 32), ?_, ?_, ?_, a4, fun j hj => ?_⟩, qro_trans g3 (qro_trans k3 ⟨?_, fun i i1 i2 i3 => ?_, Or.inl rfl, Nat.le_refl _, Nat.le_refl _, Nat.le_refl _⟩)⟩
  · skip
    refine qe_of (M := qm_77) rfl rfl ?_
    show qg L xs _ qm_77 0 [some (.ref r), some (.int (nI st)), none] [] h _
    refine qg_pls (n := 1) (k' := 1) (lo' := [some (.ref r), some (.int (nI st)), none]) (S' := [.ref r]) (h' := h) rfl ?_
    refine qg_getf (v := .int (nI t.length)) rfl (qrow_obj hr) rfl rfl rfl ?_
    refine qg_pls (n := 5) (k' := 7) (lo' := [some (.ref r), some (.int (nI st)), some (.int ((nI t.length) - (nI st)))]) (S' := [.int 32, .ref r]) (h' := h) rfl ?_
    rw [nI_sub hst]
    refine qg_call (v := none) (h' := h1) (as := [.ref r, .int 32]) rfl rfl rfl rfl rfl rfl rfl (ai_rcv1 rfl rfl (qrow_obj hr)) (g1) ?_
    show qg L xs _ qm_77 8 [some (.ref r), some (.int (nI st)), some (.int (nI (t.length - st)))] [] h1 _
    refine qg_pls (n := 2) (k' := 10) (lo' := [some (.ref r), some (.int (nI st)), some (.int (nI (t.length - st)))]) (S' := [.int 32, .ref r]) (h' := h1) rfl ?_
    refine qg_call (v := none) (h' := h2) (as := [.ref r, .int 32]) rfl rfl rfl rfl rfl rfl rfl (ai_rcv1 rfl rfl (qrow_obj g2)) (k1) ?_
    show qg L xs _ qm_77 11 [some (.ref r), some (.int (nI st)), some (.int (nI (t.length - st)))] [] h2 _
    refine qg_pls (n := 1) (k' := 12) (lo' := [some (.ref r), some (.int (nI st)), some (.int (nI (t.length - st)))]) (S' := [.int (nI st)]) (h' := h2) rfl ?_
    refine qg_if false rfl (qc_lt0 (by omega)) rfl ?_
    refine qg_pls (n := 1) (k' := 14) (lo' := [some (.ref r), some (.int (nI st)), some (.int (nI (t.length - st)))]) (S' := [.int (nI (t.length - st))]) (h' := h2) rfl ?_
    refine qg_if false rfl (qc_lt0 (by omega)) rfl ?_
    refine qg_pls (n := 1) (k' := 16) (lo' := [some (.ref r), some (.int (nI st)), some (.int (nI (t.length - st)))]) (S' := [.ref r]) (h' := h2) rfl ?_
    refine qg_getf (v := .int (nI (t.length + 2))) rfl ho rfl rfl rfl ?_
    refine qg_pls (n := 1) (k' := 18) (lo' := [some (.ref r), some (.int (nI st)), some (.int (nI (t.length - st)))]) (S' := [.ref r, .int (nI (t.length + 2))]) (h' := h2) rfl ?_
    refine qg_getf (v := .ref b2) rfl ho rfl rfl rfl ?_
    refine qg_alen rfl a2 ?_
    refine qg_icmp false rfl (qc_gtF (by omega) (by omega)) rfl ?_
    refine qg_pls (n := 1) (k' := 22) (lo' := [some (.ref r), some (.int (nI st)), some (.int (nI (t.length - st)))]) (S' := [.ref r]) (h' := h2) rfl ?_
    refine qg_getf (v := .ref b2) rfl ho rfl rfl rfl ?_
    refine qg_pls (n := 2) (k' := 25) (lo' := [some (.ref r), some (.int (nI st)), some (.int (nI (t.length - st)))]) (S' := [.ref r, .int (nI st), .ref b2]) (h' := h2) rfl ?_
    refine qg_getf (v := .ref b2) rfl ho rfl rfl rfl ?_
    refine qg_pls (n := 4) (k' := 30) (lo' := [some (.ref r), some (.int (nI st)), some (.int (nI (t.length - st)))]) (S' := [.int (nI (t.length - st)), .int ((nI st) + 2), .ref b2, .int (nI st), .ref b2]) (h' := h2) rfl ?_
    rw [show nI st + 2 = nI (st + 2) from nI_add st 2]
    refine qg_cpy rfl (q_copy (dp := st + 2) a2 a2 (by omega) (by omega) (by omega) (by omega)) rfl ?_
    show qg L xs _ qm_77 31 [some (.ref r), some (.int (nI st)), some (.int (nI (t.length - st)))] [] (h2.1.set b2 (ai_num .byte len2 (va_cpy f f st (st + 2) (t.length - st))), h2.2) _
    refine qg_pls (n := 1) (k' := 32) (lo' := [some (.ref r), some (.int (nI st)), some (.int (nI (t.length - st)))]) (S' := [.ref r]) (h' := (h2.1.set b2 (ai_num .byte len2 (va_cpy f f st (st + 2) (t.length - st))), h2.2)) rfl ?_
    refine qg_getf (v := .ref b2) rfl (q_stay ho (Ne.symm hrb)) rfl rfl rfl ?_
    refine qg_pls (n := 2) (k' := 35) (lo' := [some (.ref r), some (.int (nI st)), some (.int (nI (t.length - st)))]) (S' := [.int 40, .int (nI st), .ref b2]) (h' := (h2.1.set b2 (ai_num .byte len2 (va_cpy f f st (st + 2) (t.length - st))), h2.2)) rfl ?_
    refine qg_ast rfl (fun _ _ _ => rfl) (q_set a2) (by omega) (by omega) ?_
    show qg L xs _ qm_77 36 [some (.ref r), some (.int (nI st)), some (.int (nI (t.length - st)))] [] ((h2.1.set b2 (ai_num .byte len2 (va_cpy f f st (st + 2) (t.length - st)))).set b2 (ai_num .byte len2 (upd (va_cpy f f st (st + 2) (t.length - st)) st (vp_nar .byte 40))), h2.2) _
    refine qg_pls (n := 1) (k' := 37) (lo' := [some (.ref r), some (.int (nI st)), some (.int (nI (t.length - st)))]) (S' := [.ref r]) (h' := ((h2.1.set b2 (ai_num .byte len2 (va_cpy f f st (st + 2) (t.length - st)))).set b2 (ai_num .byte len2 (upd (va_cpy f f st (st + 2) (t.length - st)) st (vp_nar .byte 40))), h2.2)) rfl ?_
    refine qg_getf (v := .ref b2) rfl (q_stay (q_stay ho (Ne.symm hrb)) (Ne.symm hrb)) rfl rfl rfl ?_
    refine qg_pls (n := 4) (k' := 42) (lo' := [some (.ref r), some (.int (nI st)), some (.int (nI (t.length - st)))]) (S' := [.int 32, .int ((nI st) + 1), .ref b2]) (h' := ((h2.1.set b2 (ai_num .byte len2 (va_cpy f f st (st + 2) (t.length - st)))).set b2 (ai_num .byte len2 (upd (va_cpy f f st (st + 2) (t.length - st)) st (vp_nar .byte 40))), h2.2)) rfl ?_
    rw [nI_1]
    refine qg_ast rfl (fun _ _ _ => rfl) (q_set (q_set a2)) (by omega) (by omega) ?_
    exact qg_ret7 rfl
  · rw [hlen3]
    exact q_stay (q_stay (q_stay ho (Ne.symm hrb)) (Ne.symm hrb)) (Ne.symm hrb)
  · exact q_set (q_set (q_set a2))
  · rw [hlen3]; exact a3
  · rw [hlen3] at hj
    rw [q_ins hst]
    unfold upd va_cpy
    by_cases e1 : j < st
    · rw [if_neg (by omega), if_neg (by omega), if_neg (by omega), if_pos e1, a5 j (by omega), List.append_assoc, getD_app1 (by omega)]
    · rw [if_neg e1]
      by_cases e2 : j = st
      · rw [if_neg (by omega), if_pos e2, if_pos e2]; rfl
      · rw [if_neg e2, if_neg e2]
        by_cases e3 : j = st + 1
        · rw [if_pos e3, if_pos e3]; rfl
        · rw [if_neg e3, if_neg e3, if_pos (by omega), a5 _ (by omega), show st + (j - (st + 2)) = j - 2 by omega, List.append_assoc, getD_app1 (by omega)]
  · simp
  · show (((h2.1.set b2 _).set b2 _).set b2 _)[i]? = _
    rw [List.getElem?_set_ne (fun e => i2 e.symm), List.getElem?_set_ne (fun e => i2 e.symm), List.getElem?_set_ne (fun e => i2 e.symm)]
end QRZ
end
section
/-! THE CLASS, WHILE IT READS A STATEMENT: its cells and the picture. (Printed by wip/whole/pp.py from wip/whole/src.) -/
section QGR
variable {L : Nat} {xs : Nat → Int32} {d : Nat} {M : ai_M} {k k' : Nat} {lo lo' : ai_L} {S S' : List Value} {h h' : ai_H} {o : ai_O}
theorem qg_aald {pc len : Nat} {rs : List Int} {nm : String} {a v : Value} {C : String} {j n : Nat} {g : Nat → Value} (hk : (ai_Mc M)[k]? = some (pc, .aaload, len, 0, rs, nm)) (hl : ai_look (qr_Z L xs) h.1 a = some (ai_refs C n g)) (hj : j < n) (hn : n < 2 ^ 31) (hv : g j = v) (hg : qg L xs d M (k + 1) lo (v :: S) h o) : qg L xs d M k lo (.int (nI j) :: a :: S) h o := by
  refine qg_eff (t := 0) (lo' := lo) (S' := v :: S) (h' := h) hk ?_ rfl hg
  simp only [ai_eff, ai_aald]
  rw [show ai_look (qr_G L xs).1 h.1 a = _ from hl]
  dsimp only
  rw [if_pos ⟨nI_pos (by omega), by rw [nI_clamp (by omega)]; exact hj⟩, nI_clamp (by omega), hv]
theorem qg_alenq {pc len : Nat} {rs : List Int} {nm : String} {a : Value} {C : String} {n : Nat} {g : Nat → Value} (hk : (ai_Mc M)[k]? = some (pc, .arraylength, len, 0, rs, nm)) (hl : ai_look (qr_Z L xs) h.1 a = some (ai_refs C n g)) (hg : qg L xs d M (k + 1) lo (.int (nI n) :: S) h o) : qg L xs d M k lo (a :: S) h o := by
  refine qg_eff (t := 0) (lo' := lo) (S' := .int (nI n) :: S) (h' := h) hk ?_ rfl hg
  simp only [ai_eff, ai_alen]
  rw [show ai_look (qr_G L xs).1 h.1 a = _ from hl]
  rfl
/-- the grammar's object -/
def qgo (e : zE) (p : Nat) (s : zS) : ai_C := ai_obj 1 [.ref 2, .ref 4, .ref 6, .int (nI s.1), .retAddr (ztk e s.1), .int (nI s.2.1), .int (nI s.2.2.1), .ref 10, .ref 11, .int (nI p)]
/-- the class's cells show the state s and the waiting operators P; Y: cells that stay; bc, bs: how many cells and slots were made but for the plain form's -/
def qcs0 (e : zE) (Y : Nat → Option ai_C) (bc bs : Nat) (P : zK) (s : zS) (h : ai_H) (pb len : Nat) : Prop := ∃ (fm fs : Nat → Int32), h.1[1]? = some (qgo e P.length s) ∧ qrow h 4 pb len s.2.2.2.2 ∧ h.1[10]? = some (ai_num .int 300 fm) ∧ h.1[11]? = some (ai_num .int 300 fs) ∧ (∀ i q, P.reverse[i]? = some q → fm i = nI q.2 ∧ fs i = nI q.1) ∧ (P.length ≤ s.2.2.2.1 ∧ s.1 ≤ 100000 ∧ s.2.1 ≤ 40 ∧ s.2.2.1 ≤ 40 ∧ s.2.2.2.1 ≤ 300) ∧ (∀ i c, Y i = some c → h.1[i]? = some c) ∧ (Y 1 = none ∧ Y 4 = none ∧ Y 10 = none ∧ Y 11 = none ∧ Y pb = none) ∧ 16 * h.2.1 ≤ 16 * bc + len ∧ h.2.2 ≤ bs + 2 * len
def qcs (e : zE) (Y : Nat → Option ai_C) (bc bs : Nat) (P : zK) (s : zS) (h : ai_H) : Prop := ∃ pb len, qcs0 e Y bc bs P s h pb len
/-- what stays of the tokens and of the text -/
def qtk (e : zE) (Y : Nat → Option ai_C) : Prop := ∃ (tb tl so fr to n1 n2 n3 : Nat) (rc : Value) (tf f1 f2 : Nat → Int32) (g : Nat → Value), Y 2 = some (ai_obj 3 [.ref tb, .int (nI e.2.length)]) ∧ Y tb = some (ai_num .byte tl tf) ∧ e.2.length ≤ tl ∧ (∃ k, k ≤ 11 ∧ tl = 256 * 2 ^ k) ∧ (∀ j, j < e.2.length → tf j = e.2.getD j 0) ∧ Y 6 = some (ai_obj 4 [.ref so, .ref fr, .ref to, .int (nI e.1.length), rc]) ∧ Y so = some (ai_refs "QueryReader$Sort" n1 g) ∧ Y fr = some (ai_num .int n2 f1) ∧ Y to = some (ai_num .int n3 f2) ∧ (e.1.length ≤ n1 ∧ e.1.length ≤ n2 ∧ e.1.length ≤ n3 ∧ n1 < 2 ^ 31 ∧ n2 < 2 ^ 31 ∧ n3 < 2 ^ 31) ∧ (∀ i, i < e.1.length → g i = .retAddr (ztk e i) ∧ f1 i = nI (zfr e i) ∧ f2 i = nI (zto e i)) ∧ (∀ i, ztk e i < 104) ∧ (∀ i, zfr e i ≤ zto e i ∧ zto e i ≤ e.2.length) ∧ ∀ x ∈ e.2, zb x = x
variable {e : zE} {Y : Nat → Option ai_C} {bc bs : Nat} {P : zK} {s s' : zS} {pb len : Nat}
theorem qcs0_row {pb' len' : Nat} {t : List Int32} (hc : qcs0 e Y bc bs P s h pb len) (hq : qro 4 h pb len h' pb' len') (hr : qrow h' 4 pb' len' t) : qcs0 e Y bc bs P (s.1, s.2.1, s.2.2.1, s.2.2.2.1, t) h' pb' len' := by
  obtain ⟨fm, fs, c1, c2, c3, c4, c5, c6, c7, ⟨y1, y2, y3, y4, y5⟩, c9, c10⟩ := hc
  obtain ⟨q1, q2, q3, q4, q5, q6⟩ := hq
  obtain ⟨f, a2⟩ := qrow_arr c2
  have n1 : 1 ≠ pb := q_ne c1 a2 (by intro e; cases e)
  have n10 : 10 ≠ pb := q_ne c3 a2 (by intro e; cases e)
  have n11 : 11 ≠ pb := q_ne c4 a2 (by intro e; cases e)
  refine ⟨fm, fs, ?_, hr, ?_, ?_, c5, c6, fun i c hi => ?_, ⟨y1, y2, y3, y4, ?_⟩, by omega, by omega⟩
  · rw [q2 1 (by decide) n1 (q_lt c1)]; exact c1
  · rw [q2 10 (by decide) n10 (q_lt c3)]; exact c3
  · rw [q2 11 (by decide) n11 (q_lt c4)]; exact c4
  · have hl := c7 i c hi
    rw [q2 i (fun e => by rw [e, y2] at hi; cases hi) (fun e => by rw [e, y5] at hi; cases hi) (q_lt hl)]
    exact hl
  · rcases q3 with q | q
    · rw [q]; exact y5
    · cases hy : Y pb' with
      | none => rfl
      | some c => have := q_lt (c7 pb' c hy); omega
/-- the grammar's object alone has changed -/
theorem qcs0_set (hc : qcs0 e Y bc bs P s h pb len) (hp : s'.2.2.2 = s.2.2.2) (hb : s'.1 ≤ 100000 ∧ s'.2.1 ≤ 40 ∧ s'.2.2.1 ≤ 40) : qcs0 e Y bc bs P s' (h.1.set 1 (qgo e P.length s'), h.2) pb len := by
  obtain ⟨fm, fs, c1, c2, c3, c4, c5, c6, c7, ⟨y1, y2, y3, y4, y5⟩, c9, c10⟩ := hc
  obtain ⟨f, r1, r2, r3, r4, r5⟩ := c2
  have n1 : 1 ≠ pb := q_ne c1 r2 (by intro e; cases e)
  refine ⟨fm, fs, q_set c1, ?_, q_stay c3 (by decide), q_stay c4 (by decide), c5, ?_, fun i c hi => q_stay (c7 i c hi) (fun e => by rw [← e, y1] at hi; cases hi), ⟨y1, y2, y3, y4, y5⟩, c9, c10⟩
  · rw [hp]
    exact ⟨f, q_stay r1 (by decide), q_stay r2 n1, r3, r4, r5⟩
  · rw [hp]; omega
theorem qcs_obj (hc : qcs e Y bc bs P s h) : h.1[1]? = some (ai_obj 1 [.ref 2, .ref 4, .ref 6, .int (nI s.1), .retAddr (ztk e s.1), .int (nI s.2.1), .int (nI s.2.2.1), .ref 10, .ref 11, .int (nI P.length)]) := by
  obtain ⟨pb, len, fm, fs, c1, -⟩ := hc
  exact c1
theorem qcs_prot (hc : qcs e Y bc bs P s h) : ∀ i c, Y i = some c → h.1[i]? = some c := by
  obtain ⟨pb, len, fm, fs, -, -, -, -, -, -, c7, -⟩ := hc
  exact c7
theorem qcs_bd (hc : qcs e Y bc bs P s h) : P.length ≤ s.2.2.2.1 ∧ s.1 ≤ 100000 ∧ s.2.1 ≤ 40 ∧ s.2.2.1 ≤ 40 ∧ s.2.2.2.1 ≤ 300 := by
  obtain ⟨pb, len, fm, fs, -, -, -, -, -, c6, -⟩ := hc
  exact c6
theorem qcs_row (hc : qcs e Y bc bs P s h) : ∃ pb len, qrow h 4 pb len s.2.2.2.2 := by
  obtain ⟨pb, len, fm, fs, -, c2, -⟩ := hc
  exact ⟨pb, len, c2⟩
/-- one more cell was made for an exception -/
theorem qcs_thrown (hc : qcs e Y bc bs P s h) : qcs e Y (bc + 1) (bs + 6) P s (h.1, h.2.1 + 1, h.2.2 + 6) := by
  obtain ⟨pb, len, fm, fs, c1, ⟨f, r⟩, c3, c4, c5, c6, c7, c8, c9, c10⟩ := hc
  refine ⟨pb, len, fm, fs, c1, ⟨f, r⟩, c3, c4, c5, c6, c7, c8, ?_, ?_⟩
  · show 16 * (h.2.1 + 1) ≤ _
    omega
  · show h.2.2 + 6 ≤ _
    omega
/-! answers -/
def qout (md : Nat) (v : Option Nat) : Option Value ⊕ String := match v with
  | none => .inr "java/lang/IllegalArgumentException"
  | some x => if md = 0 then .inl none else .inl (some (.int (nI x)))
def qpost (e : zE) (Y : Nat → Option ai_C) (bc bs : Nat) (P : zK) (v : Option Nat) (s' : zS) (h' : ai_H) : Prop := match v with
  | some _ => qcs e Y bc bs P s' h'
  | none => ∃ P', qcs e Y (bc + 1) (bs + 6) P' s' h'
/-- the call does what the piece f does -/
def qim (L : Nat) (xs : Nat → Int32) (e : zE) (Y : Nat → Option ai_C) (bc bs d mi : Nat) (as : List Value) (md : Nat) (f : zP) : Prop := ∀ P s h v s', qcs e Y bc bs P s h → f s = some (v, s') → ∃ h', qe L xs d mi as h (qout md v, h') ∧ qpost e Y bc bs P v s' h'
theorem qim_up {d' mi md : Nat} {as : List Value} {f : zP} (hi : qim L xs e Y bc bs d mi as md f) (hd : d ≤ d') : qim L xs e Y bc bs d' mi as md f := by
  intro P s h v s' hc hf
  obtain ⟨h', g1, g2⟩ := hi P s h v s' hc hf
  exact ⟨h', qe_up hd g1, g2⟩
/-- from this place the body does what r says -/
def qsm (L : Nat) (xs : Nat → Int32) (e : zE) (Y : Nat → Option ai_C) (bc bs d : Nat) (M : ai_M) (k : Nat) (lo : ai_L) (S : List Value) (h : ai_H) (md : Nat) (P : zK) (r : zR Nat) : Prop := ∀ v s', r = some (v, s') → ∃ h', qg L xs d M k lo S h (qout md v, h') ∧ qpost e Y bc bs P v s' h'
theorem qsm_st {md : Nat} {r : zR Nat} (st : ∀ o, qg L xs d M k' lo' S' h' o → qg L xs d M k lo S h o) (hs : qsm L xs e Y bc bs d M k' lo' S' h' md P r) : qsm L xs e Y bc bs d M k lo S h md P r := by
  intro v s' hr
  obtain ⟨h2, g1, g2⟩ := hs v s' hr
  exact ⟨h2, st _ g1, g2⟩
theorem qim_of {mi md : Nat} {as : List Value} {f : zP} (hP : qr_P mi = some M) (hok : ai_argok as (ai_Ml M) = true) (hs : ∀ P s h, qcs e Y bc bs P s h → qsm L xs e Y bc bs d M 0 (as.map some ++ List.replicate (ai_Ml M - as.length) none) [] h md P (f s)) : qim L xs e Y bc bs (d + 1) mi as md f := by
  intro P s h v s' hc hf
  obtain ⟨h', g1, g2⟩ := hs P s h hc v s' hf
  exact ⟨h', qe_of hP hok g1, g2⟩
theorem qsm_pls {md n : Nat} {r : zR Nat} (e1 : ai_pl (qr_G L xs) M n k lo S h = some (k', lo', S', h')) (hs : qsm L xs e Y bc bs d M k' lo' S' h' md P r) : qsm L xs e Y bc bs d M k lo S h md P r := qsm_st (fun _ hg => qg_pls e1 hg) hs
theorem qsm_getf {md : Nat} {r : zR Nat} {pc len : Nat} {idx : Nat} {rs : List Int} {nm : String} {a v : Value} {ci f : Nat} {fs : List Value} (hk : (ai_Mc M)[k]? = some (pc, .getfield idx, len, 0, rs, nm)) (hl : ai_look (qr_Z L xs) h.1 a = some (ai_obj ci fs)) (h0 : (ai_nth (0, rs, nm) 0).toNat = ci) (h1 : (ai_nth (0, rs, nm) 1).toNat = f) (hv : fs[f]? = some v) (hs : qsm L xs e Y bc bs d M (k + 1) lo (v :: S) h md P r) : qsm L xs e Y bc bs d M k lo (a :: S) h md P r := qsm_st (fun _ hg => qg_getf hk hl h0 h1 hv hg) hs
theorem qsm_if {md : Nat} {r : zR Nat} {pc len : Nat} {c : Jvm.ClassFile.Cond} {off : Int} {rs : List Int} {nm : String} {x : Int32} (b : Bool) (hk : (ai_Mc M)[k]? = some (pc, .ifCond c off, len, 0, rs, nm)) (hb : ai_cmp c x 0 = b) (hk' : (if b = true then ai_tgt (0, rs, nm) else k + 1) = k') (hs : qsm L xs e Y bc bs d M k' lo S h md P r) : qsm L xs e Y bc bs d M k lo (.int x :: S) h md P r := qsm_st (fun _ hg => qg_if b hk hb hk' hg) hs
theorem qsm_icmp {md : Nat} {r : zR Nat} {pc len : Nat} {c : Jvm.ClassFile.Cond} {off : Int} {rs : List Int} {nm : String} {x y : Int32} (b : Bool) (hk : (ai_Mc M)[k]? = some (pc, .if_icmp c off, len, 0, rs, nm)) (hb : ai_cmp c x y = b) (hk' : (if b = true then ai_tgt (0, rs, nm) else k + 1) = k') (hs : qsm L xs e Y bc bs d M k' lo S h md P r) : qsm L xs e Y bc bs d M k lo (.int y :: .int x :: S) h md P r := qsm_st (fun _ hg => qg_icmp b hk hb hk' hg) hs
theorem qsm_acmp {md : Nat} {r : zR Nat} {pc len : Nat} {c : ACond} {off : Int} {rs : List Int} {nm : String} {x y : Nat} (b : Bool) (hk : (ai_Mc M)[k]? = some (pc, .if_acmp c off, len, 0, rs, nm)) (hz : ai_zk (qr_Z L xs) (.retAddr x) (.retAddr y) = true) (hb : ai_ac c (decide (x = y)) = b) (hk' : (if b = true then ai_tgt (0, rs, nm) else k + 1) = k') (hs : qsm L xs e Y bc bs d M k' lo S h md P r) : qsm L xs e Y bc bs d M k lo (.retAddr y :: .retAddr x :: S) h md P r := qsm_st (fun _ hg => qg_acmp b hk hz hb hk' hg) hs
/-- a call that does the piece f -/
theorem qsm_call {md mdc : Nat} {f : zP} {g : Nat → zS → zR Nat} {pc len n mi : Nat} {i : Instr} {rs : List Int} {nm : String} {as S0 : List Value} (hc : qcs e Y bc bs P s h) (him : qim L xs e Y bc bs d mi as mdc f) (hk : (ai_Mc M)[k]? = some (pc, i, len, 1, rs, nm)) (hmi : (ai_nth (1, rs, nm) 0).toNat = mi) (hn : (ai_nth (1, rs, nm) 1).toNat = n) (has : (S.take n).reverse = as) (hS0 : S.drop n = S0) (hw : Nat.ble (ai_wt S0) 8 = true) (hle : Nat.ble n S.length = true) (hx : ai_catch (ai_Mh M) k = none) (hrc : ai_rcv (qr_Z L xs) (1, rs, nm) as.head? h = true)
    (hs : ∀ v s1 h1, f s = some (some v, s1) → qcs e Y bc bs P s1 h1 → qsm L xs e Y bc bs d M (k + 1) lo (if mdc = 0 then S0 else .int (nI v) :: S0) h1 md P (g v s1)) : qsm L xs e Y bc bs d M k lo S h md P (zbd (f s) g) := by
  intro v s' hr
  unfold zbd at hr
  split at hr
  · cases hr
  · rename_i s1 hf
    cases hr
    obtain ⟨h1, g1, g2⟩ := him P s h _ _ hc hf
    exact ⟨h1, qg_callT hk hmi hn has hS0 hw hle hrc hx g1, g2⟩
  · rename_i v1 s1 hf
    obtain ⟨h1, g1, g2⟩ := him P s h _ _ hc hf
    obtain ⟨h2, g3, g4⟩ := hs v1 s1 h1 hf g2 v s' hr
    refine ⟨h2, ?_, g4⟩
    unfold qout at g1
    dsimp only at g1
    split at g1
    · rename_i hm
      rw [if_pos hm] at g3
      exact qg_call hk hmi hn has hS0 hw hle hrc g1 g3
    · rename_i hm
      rw [if_neg hm] at g3
      exact qg_call hk hmi hn has hS0 hw hle hrc g1 g3
theorem qsm_ret5 {md v : Nat} {pc len : Nat} {i : Instr} {rs : List Int} {nm : String} {ty : FieldType} (hc : qcs e Y bc bs P s h) (hk : (ai_Mc M)[k]? = some (pc, i, len, 5, rs, nm)) (hr : ai_Mr M = some ty) (hn : narrow ty (.int (nI v)) = .int (nI v)) (hmd : md ≠ 0) : qsm L xs e Y bc bs d M k lo [.int (nI v)] h md P (some (some v, s)) := by
  intro v' s' h1
  cases h1
  refine ⟨h, ?_, hc⟩
  unfold qout
  dsimp only
  rw [if_neg hmd]
  exact qg_ret5 hk hr hn
theorem qsm_ret7 {v : Nat} {pc len : Nat} {i : Instr} {rs : List Int} {nm : String} (hc : qcs e Y bc bs P s h) (hk : (ai_Mc M)[k]? = some (pc, i, len, 7, rs, nm)) : qsm L xs e Y bc bs d M k lo [] h 0 P (some (some v, s)) := by
  intro v' s' h1
  cases h1
  exact ⟨h, qg_ret7 hk, hc⟩
theorem qsm_throw {md : Nat} {pc len : Nat} {i : Instr} {rs : List Int} (hc : qcs e Y bc bs P s h) (hk : (ai_Mc M)[k]? = some (pc, i, len, 2, rs, "java/lang/IllegalArgumentException")) (hx : (ai_Mh M).isEmpty = true) (hw : Nat.ble (ai_wt S) 8 = true) : qsm L xs e Y bc bs d M k lo S h md P (some (none, s)) := by
  intro v' s' h1
  cases h1
  exact ⟨_, qg_throw hk hx hw, P, qcs_thrown hc⟩
/-- constants of the enum are of one class -/
theorem qzk {a b : Nat} (ha : a < 104) (hb : b < 104) : ai_zk (qr_Z L xs) (.retAddr a) (.retAddr b) = true := by
  simp only [ai_zk, qr_Z, if_pos ha, if_pos hb, decide_true]
theorem qZ_en {a : Nat} (ha : a < 104) : qr_Z L xs a = some (ai_obj 6 [.int (Int32.ofNat a), .retAddr (qr_en.getD a (0, 0)).1, .int (qr_en.getD a (0, 0)).2]) := if_pos ha
end QGR
end
section
/-! THE CLASS'S SMALL METHODS OVER TOKENS. (Printed by wip/whole/pp.py from wip/whole/src.) -/
section QPR
variable {L : Nat} {xs : Nat → Int32} {d : Nat} {h h' : ai_H} {e : zE} {Y : Nat → Option ai_C} {bc bs : Nat} {P : zK} {s s' : zS} {pb len : Nat}
theorem ztk_out {i : Nat} (hi : e.1.length ≤ i) : ztk e i = 102 ∧ zfr e i = 0 ∧ zto e i = 0 := by
  unfold ztk zfr zto
  rw [List.getD_eq_getElem?_getD, List.getElem?_eq_none hi]
  exact ⟨rfl, rfl, rfl⟩
/-- Tokens.sort(i) -/
theorem q_sort (ht : qtk e Y) (hp : ∀ i c, Y i = some c → h.1[i]? = some c) {i : Nat} (hi : i < 2 ^ 31) : qe L xs (d + 1) 33 [.ref 6, .int (nI i)] h (.inl (some (.retAddr (ztk e i))), h) := by
  obtain ⟨tb, tl, so, fr, to, n1, n2, n3, rc, tf, f1, f2, g, t1, t2, t3, t4, t5, t6, t7, t8, t9, ⟨l1, l2, l3, l4, l5, l6⟩, t11, -⟩ := ht
  refine qe_of (M := qm_33) rfl rfl ?_
  show qg L xs _ qm_33 0 [some (.ref 6), some (.int (nI i)), none] [] h _
  refine qg_pls (n := 1) (k' := 1) (lo' := [some (.ref 6), some (.int (nI i)), none]) (S' := [.int (nI i)]) (h' := h) rfl ?_
  refine qg_if false rfl (qc_lt0 hi) rfl ?_
  refine qg_pls (n := 2) (k' := 4) (lo' := [some (.ref 6), some (.int (nI i)), none]) (S' := [.ref 6, .int (nI i)]) (h' := h) rfl ?_
  refine qg_getf (v := .int (nI e.1.length)) rfl (hp _ _ t6) rfl rfl rfl ?_
  by_cases hlt : i < e.1.length
  · skip
    refine qg_icmp false rfl (qc_geF hlt (by omega)) rfl ?_
    refine qg_pls (n := 2) (k' := 8) (lo' := [some (.ref 6), some (.int (nI i)), none]) (S' := [.ref 6, .int (nI i)]) (h' := h) rfl ?_
    refine qg_getf (v := .ref so) rfl (hp _ _ t6) rfl rfl rfl ?_
    refine qg_alenq rfl (hp _ _ t7) ?_
    refine qg_icmp false rfl (qc_geF (by omega) (by omega)) rfl ?_
    refine qg_pls (n := 1) (k' := 12) (lo' := [some (.ref 6), some (.int (nI i)), none]) (S' := [.ref 6]) (h' := h) rfl ?_
    refine qg_getf (v := .ref so) rfl (hp _ _ t6) rfl rfl rfl ?_
    refine qg_pls (n := 1) (k' := 14) (lo' := [some (.ref 6), some (.int (nI i)), none]) (S' := [.int (nI i), .ref so]) (h' := h) rfl ?_
    refine qg_aald rfl (hp _ _ t7) (by omega) (by omega) ((t11 i hlt).1) ?_
    refine qg_pls (n := 5) (k' := 23) (lo' := [some (.ref 6), some (.int (nI i)), some (.retAddr (ztk e i))]) (S' := [.retAddr (ztk e i)]) (h' := h) rfl ?_
    exact qg_ret6 rfl rfl
  · rw [(ztk_out (e := e) (by omega)).1]
    refine qg_icmp true rfl (qc_geT (by omega) (by omega)) rfl ?_
    refine qg_pls (n := 5) (k' := 23) (lo' := [some (.ref 6), some (.int (nI i)), some (.retAddr 102)]) (S' := [.retAddr 102]) (h' := h) rfl ?_
    exact qg_ret6 rfl rfl
/-- Tokens.from(i) -/
theorem q_from (ht : qtk e Y) (hp : ∀ i c, Y i = some c → h.1[i]? = some c) {i : Nat} (hi : i < 2 ^ 31) : qe L xs (d + 1) 46 [.ref 6, .int (nI i)] h (.inl (some (.int (nI (zfr e i)))), h) := by
  obtain ⟨tb, tl, so, fr, to, n1, n2, n3, rc, tf, f1, f2, g, t1, t2, t3, t4, t5, t6, t7, t8, t9, ⟨l1, l2, l3, l4, l5, l6⟩, t11, -⟩ := ht
  refine qe_of (M := qm_46) rfl rfl ?_
  show qg L xs _ qm_46 0 [some (.ref 6), some (.int (nI i))] [] h _
  refine qg_pls (n := 1) (k' := 1) (lo' := [some (.ref 6), some (.int (nI i))]) (S' := [.int (nI i)]) (h' := h) rfl ?_
  refine qg_if false rfl (qc_lt0 hi) rfl ?_
  refine qg_pls (n := 2) (k' := 4) (lo' := [some (.ref 6), some (.int (nI i))]) (S' := [.ref 6, .int (nI i)]) (h' := h) rfl ?_
  refine qg_getf (v := .int (nI e.1.length)) rfl (hp _ _ t6) rfl rfl rfl ?_
  by_cases hlt : i < e.1.length
  · rw [← (t11 i hlt).2.1]
    refine qg_icmp false rfl (qc_geF hlt (by omega)) rfl ?_
    refine qg_pls (n := 2) (k' := 8) (lo' := [some (.ref 6), some (.int (nI i))]) (S' := [.ref 6, .int (nI i)]) (h' := h) rfl ?_
    refine qg_getf (v := .ref fr) rfl (hp _ _ t6) rfl rfl rfl ?_
    refine qg_alen rfl (hp _ _ t8) ?_
    refine qg_icmp false rfl (qc_geF (by omega) (by omega)) rfl ?_
    refine qg_pls (n := 1) (k' := 12) (lo' := [some (.ref 6), some (.int (nI i))]) (S' := [.ref 6]) (h' := h) rfl ?_
    refine qg_getf (v := .ref fr) rfl (hp _ _ t6) rfl rfl rfl ?_
    refine qg_pls (n := 1) (k' := 14) (lo' := [some (.ref 6), some (.int (nI i))]) (S' := [.int (nI i), .ref fr]) (h' := h) rfl ?_
    refine qg_ald rfl (fun _ _ _ => rfl) (hp _ _ t8) (by omega) (by omega) ?_
    refine qg_pls (n := 1) (k' := 17) (lo' := [some (.ref 6), some (.int (nI i))]) (S' := [.int (f1 i)]) (h' := h) rfl ?_
    exact qg_ret5 rfl rfl rfl
  · rw [(ztk_out (e := e) (i := i) (by omega)).2.1]
    refine qg_icmp true rfl (qc_geT (by omega) (by omega)) rfl ?_
    refine qg_pls (n := 1) (k' := 17) (lo' := [some (.ref 6), some (.int (nI i))]) (S' := [.int 0]) (h' := h) rfl ?_
    exact qg_ret5 rfl rfl rfl
/-- Tokens.to(i) -/
theorem q_to (ht : qtk e Y) (hp : ∀ i c, Y i = some c → h.1[i]? = some c) {i : Nat} (hi : i < 2 ^ 31) : qe L xs (d + 1) 47 [.ref 6, .int (nI i)] h (.inl (some (.int (nI (zto e i)))), h) := by
  obtain ⟨tb, tl, so, fr, to, n1, n2, n3, rc, tf, f1, f2, g, t1, t2, t3, t4, t5, t6, t7, t8, t9, ⟨l1, l2, l3, l4, l5, l6⟩, t11, -⟩ := ht
  refine qe_of (M := qm_47) rfl rfl ?_
  show qg L xs _ qm_47 0 [some (.ref 6), some (.int (nI i))] [] h _
  refine qg_pls (n := 1) (k' := 1) (lo' := [some (.ref 6), some (.int (nI i))]) (S' := [.int (nI i)]) (h' := h) rfl ?_
  refine qg_if false rfl (qc_lt0 hi) rfl ?_
  refine qg_pls (n := 2) (k' := 4) (lo' := [some (.ref 6), some (.int (nI i))]) (S' := [.ref 6, .int (nI i)]) (h' := h) rfl ?_
  refine qg_getf (v := .int (nI e.1.length)) rfl (hp _ _ t6) rfl rfl rfl ?_
  by_cases hlt : i < e.1.length
  · rw [← (t11 i hlt).2.2]
    refine qg_icmp false rfl (qc_geF hlt (by omega)) rfl ?_
    refine qg_pls (n := 2) (k' := 8) (lo' := [some (.ref 6), some (.int (nI i))]) (S' := [.ref 6, .int (nI i)]) (h' := h) rfl ?_
    refine qg_getf (v := .ref to) rfl (hp _ _ t6) rfl rfl rfl ?_
    refine qg_alen rfl (hp _ _ t9) ?_
    refine qg_icmp false rfl (qc_geF (by omega) (by omega)) rfl ?_
    refine qg_pls (n := 1) (k' := 12) (lo' := [some (.ref 6), some (.int (nI i))]) (S' := [.ref 6]) (h' := h) rfl ?_
    refine qg_getf (v := .ref to) rfl (hp _ _ t6) rfl rfl rfl ?_
    refine qg_pls (n := 1) (k' := 14) (lo' := [some (.ref 6), some (.int (nI i))]) (S' := [.int (nI i), .ref to]) (h' := h) rfl ?_
    refine qg_ald rfl (fun _ _ _ => rfl) (hp _ _ t9) (by omega) (by omega) ?_
    refine qg_pls (n := 1) (k' := 17) (lo' := [some (.ref 6), some (.int (nI i))]) (S' := [.int (f2 i)]) (h' := h) rfl ?_
    exact qg_ret5 rfl rfl rfl
  · rw [(ztk_out (e := e) (i := i) (by omega)).2.2]
    refine qg_icmp true rfl (qc_geT (by omega) (by omega)) rfl ?_
    refine qg_pls (n := 1) (k' := 17) (lo' := [some (.ref 6), some (.int (nI i))]) (S' := [.int 0]) (h' := h) rfl ?_
    exact qg_ret5 rfl rfl rfl
/-- Math.max -/
theorem q_max {a b : Nat} (ha : a < 2 ^ 31) (hb : b < 2 ^ 31) : qe L xs (d + 1) 43 [.int (nI a), .int (nI b)] h (.inl (some (.int (nI (max a b)))), h) := by
  refine qe_of (M := qm_43) rfl rfl ?_
  show qg L xs _ qm_43 0 [some (.int (nI a)), some (.int (nI b))] [] h _
  refine qg_pls (n := 2) (k' := 2) (lo' := [some (.int (nI a)), some (.int (nI b))]) (S' := [.int (nI b), .int (nI a)]) (h' := h) rfl ?_
  rcases Nat.lt_or_ge a b with hab | hab
  · rw [Nat.max_eq_right (by omega)]
    refine qg_icmp true rfl (qc_ltT hab hb) rfl ?_
    refine qg_pls (n := 1) (k' := 6) (lo' := [some (.int (nI a)), some (.int (nI b))]) (S' := [.int (nI b)]) (h' := h) rfl ?_
    exact qg_ret5 rfl rfl rfl
  · rw [Nat.max_eq_left hab]
    refine qg_icmp false rfl (qc_ltF hab ha) rfl ?_
    refine qg_pls (n := 2) (k' := 6) (lo' := [some (.int (nI a)), some (.int (nI b))]) (S' := [.int (nI a)]) (h' := h) rfl ?_
    exact qg_ret5 rfl rfl rfl
/-- Grammar.rise() -/
theorem qi_rise : qim L xs e Y bc bs (d + 2) 42 [.ref 1] 0 zrise := by
  intro P s h v s' hc hf
  have hb := qcs_bd hc
  unfold zrise at hf
  split at hf
  · cases hf
    refine ⟨_, ?_, P, qcs_thrown hc⟩
    refine qe_of (M := qm_42) rfl rfl ?_
    show qg L xs _ qm_42 0 [some (.ref 1)] [] h _
    refine qg_pls (n := 1) (k' := 1) (lo' := [some (.ref 1)]) (S' := [.ref 1]) (h' := h) rfl ?_
    refine qg_getf (v := .int (nI s.2.1)) rfl (qcs_obj hc) rfl rfl rfl ?_
    refine qg_pls (n := 1) (k' := 3) (lo' := [some (.ref 1)]) (S' := [.int 40, .int (nI s.2.1)]) (h' := h) rfl ?_
    refine qg_icmp false rfl (qc_ltF (b := 40) (by omega) (by omega)) rfl ?_
    exact qg_throw rfl rfl rfl
  · cases hf
    rename_i hlt
    obtain ⟨pb, len, h0⟩ := id hc
    have h9 := qcs0_set (s' := (s.1, s.2.1 + 1, max s.2.2.1 (s.2.1 + 1), s.2.2.2)) h0 rfl ⟨hb.2.1, (by show s.2.1 + 1 ≤ 40; omega), (by show max s.2.2.1 (s.2.1 + 1) ≤ 40; omega)⟩
    refine ⟨(h.1.set 1 (qgo e P.length (s.1, s.2.1 + 1, max s.2.2.1 (s.2.1 + 1), s.2.2.2)), h.2), ?_, pb, len, h9⟩
    refine qe_of (M := qm_42) rfl rfl ?_
    show qg L xs _ qm_42 0 [some (.ref 1)] [] h _
    refine qg_pls (n := 1) (k' := 1) (lo' := [some (.ref 1)]) (S' := [.ref 1]) (h' := h) rfl ?_
    refine qg_getf (v := .int (nI s.2.1)) rfl (qcs_obj hc) rfl rfl rfl ?_
    refine qg_pls (n := 1) (k' := 3) (lo' := [some (.ref 1)]) (S' := [.int 40, .int (nI s.2.1)]) (h' := h) rfl ?_
    refine qg_icmp true rfl (qc_ltT (b := 40) (by omega) (by omega)) rfl ?_
    refine qg_pls (n := 2) (k' := 11) (lo' := [some (.ref 1)]) (S' := [.ref 1, .ref 1]) (h' := h) rfl ?_
    refine qg_getf (v := .int (nI s.2.1)) rfl (qcs_obj hc) rfl rfl rfl ?_
    refine qg_pls (n := 2) (k' := 14) (lo' := [some (.ref 1)]) (S' := [.int ((nI s.2.1) + 1), .ref 1]) (h' := h) rfl ?_
    rw [nI_1]
    refine qg_putf rfl (qcs_obj hc) rfl rfl (Nat.le_of_ble_eq_true rfl) rfl ?_
    refine qg_pls (n := 2) (k' := 17) (lo' := [some (.ref 1)]) (S' := [.ref 1, .ref 1]) (h' := (h.1.set 1 (ai_obj 1 [.ref 2, .ref 4, .ref 6, .int (nI s.1), .retAddr (ztk e s.1), .int (nI (s.2.1 + 1)), .int (nI s.2.2.1), .ref 10, .ref 11, .int (nI P.length)]), h.2)) rfl ?_
    refine qg_getf (v := .int (nI s.2.2.1)) rfl (q_set (qcs_obj hc)) rfl rfl rfl ?_
    refine qg_pls (n := 1) (k' := 19) (lo' := [some (.ref 1)]) (S' := [.ref 1, .int (nI s.2.2.1), .ref 1]) (h' := (h.1.set 1 (ai_obj 1 [.ref 2, .ref 4, .ref 6, .int (nI s.1), .retAddr (ztk e s.1), .int (nI (s.2.1 + 1)), .int (nI s.2.2.1), .ref 10, .ref 11, .int (nI P.length)]), h.2)) rfl ?_
    refine qg_getf (v := .int (nI (s.2.1 + 1))) rfl (q_set (qcs_obj hc)) rfl rfl rfl ?_
    refine qg_call (v := some (.int (nI (max s.2.2.1 (s.2.1 + 1))))) (h' := (h.1.set 1 (ai_obj 1 [.ref 2, .ref 4, .ref 6, .int (nI s.1), .retAddr (ztk e s.1), .int (nI (s.2.1 + 1)), .int (nI s.2.2.1), .ref 10, .ref 11, .int (nI P.length)]), h.2)) (as := [.int (nI s.2.2.1), .int (nI (s.2.1 + 1))]) rfl rfl rfl rfl rfl rfl rfl rfl (q_max (by omega) (by omega)) ?_
    show qg L xs _ qm_42 21 [some (.ref 1)] [.int (nI (max s.2.2.1 (s.2.1 + 1))), .ref 1] (h.1.set 1 (ai_obj 1 [.ref 2, .ref 4, .ref 6, .int (nI s.1), .retAddr (ztk e s.1), .int (nI (s.2.1 + 1)), .int (nI s.2.2.1), .ref 10, .ref 11, .int (nI P.length)]), h.2) _
    refine qg_putf rfl (q_set (qcs_obj hc)) rfl rfl (Nat.le_of_ble_eq_true rfl) rfl ?_
    rw [List.set_set]
    exact qg_ret7 rfl
theorem qa_eqT {x y : Nat} (h : x = y) : ai_ac .eq (decide (x = y)) = true := decide_eq_true h
theorem qa_eqF {x y : Nat} (h : ¬ x = y) : ai_ac .eq (decide (x = y)) = false := decide_eq_false h
theorem qa_neT {x y : Nat} (h : ¬ x = y) : ai_ac .ne (decide (x = y)) = true := by
  show (!decide (x = y)) = true
  rw [decide_eq_false h]; rfl
theorem qa_neF {x y : Nat} (h : x = y) : ai_ac .ne (decide (x = y)) = false := by
  show (!decide (x = y)) = false
  rw [decide_eq_true h]; rfl
theorem zbd_id (r : zR Nat) : zbd r (fun v s => some (some v, s)) = r := by
  unfold zbd
  split
  · rfl
  · rfl
  · rfl
theorem qsm_callL {M : ai_M} {k : Nat} {lo : ai_L} {S : List Value} {md mdc : Nat} {f : zP} {pc len n mi : Nat} {i : Instr} {rs : List Int} {nm : String} {as S0 : List Value} (hc : qcs e Y bc bs P s h) (him : qim L xs e Y bc bs d mi as mdc f) (hk : (ai_Mc M)[k]? = some (pc, i, len, 1, rs, nm)) (hmi : (ai_nth (1, rs, nm) 0).toNat = mi) (hn : (ai_nth (1, rs, nm) 1).toNat = n) (has : (S.take n).reverse = as) (hS0 : S.drop n = S0) (hw : Nat.ble (ai_wt S0) 8 = true) (hle : Nat.ble n S.length = true) (hx : ai_catch (ai_Mh M) k = none) (hrc : ai_rcv (qr_Z L xs) (1, rs, nm) as.head? h = true)
    (hs : ∀ v s1 h1, f s = some (some v, s1) → qcs e Y bc bs P s1 h1 → qsm L xs e Y bc bs d M (k + 1) lo (if mdc = 0 then S0 else .int (nI v) :: S0) h1 md P (some (some v, s1))) : qsm L xs e Y bc bs d M k lo S h md P (f s) := by
  rw [← zbd_id (f s)]
  exact qsm_call hc him hk hmi hn has hS0 hw hle hx hrc hs
theorem qtk_lt (ht : qtk e Y) (i : Nat) : ztk e i < 104 := by
  obtain ⟨tb, tl, so, fr, to, n1, n2, n3, rc, tf, f1, f2, g, t1, t2, t3, t4, t5, t6, t7, t8, t9, t10, t11, t12, -⟩ := ht
  exact t12 i
theorem qtk_sl (ht : qtk e Y) (i : Nat) : zfr e i ≤ zto e i ∧ zto e i ≤ e.2.length := by
  obtain ⟨tb, tl, so, fr, to, n1, n2, n3, rc, tf, f1, f2, g, t1, t2, t3, t4, t5, t6, t7, t8, t9, t10, t11, t12, t13, -⟩ := ht
  exact t13 i
theorem qtk_by (ht : qtk e Y) : ∀ x ∈ e.2, zb x = x := by
  obtain ⟨tb, tl, so, fr, to, n1, n2, n3, rc, tf, f1, f2, g, t1, t2, t3, t4, t5, t6, t7, t8, t9, t10, t11, t12, t13, t14⟩ := ht
  exact t14
theorem qtk_text (ht : qtk e Y) (hp : ∀ i c, Y i = some c → h.1[i]? = some c) : ∃ tb tl, Y tb ≠ none ∧ qrow h 2 tb tl e.2 := by
  obtain ⟨tb, tl, so, fr, to, n1, n2, n3, rc, tf, f1, f2, g, t1, t2, t3, t4, t5, t6, t7, t8, t9, t10, t11, t12, t13, t14⟩ := ht
  exact ⟨tb, tl, by rw [t2]; exact Option.some_ne_none _, tf, hp _ _ t1, hp _ _ t2, t3, t4, t5⟩
theorem qtk_tok (ht : qtk e Y) (hp : ∀ i c, Y i = some c → h.1[i]? = some c) : ∃ fs, h.1[6]? = some (ai_obj 4 fs) := by
  obtain ⟨tb, tl, so, fr, to, n1, n2, n3, rc, tf, f1, f2, g, t1, t2, t3, t4, t5, t6, t7, t8, t9, t10, t11, t12, t13, t14⟩ := ht
  exact ⟨_, hp _ _ t6⟩
theorem qcs_prot1 (hc : qcs e Y bc bs P s h) {x : ai_C} : ∀ i c, Y i = some c → (h.1.set 1 x)[i]? = some c := by
  obtain ⟨pb, len, fm, fs, -, -, -, -, -, -, c7, ⟨y1, -⟩, -⟩ := hc
  exact fun i c hi => q_stay (c7 i c hi) (fun e => by rw [← e, y1] at hi; cases hi)
/-- the end of step() -/
theorem q_stepT (ht : qtk e Y) (hc : qcs e Y bc bs P s h) : qsm L xs e Y bc bs (d + 1) qm_41 25 [some (.ref 1)] [] h 0 P (znext s) := by
  intro v s' hr
  have hb := qcs_bd hc
  unfold znext at hr
  split at hr
  · cases hr
  · cases hr
    rename_i hlt
    obtain ⟨pb, len, h0⟩ := id hc
    have h9 := qcs0_set (s' := (s.1 + 1, s.2)) h0 rfl ⟨(by show s.1 + 1 ≤ 100000; omega), hb.2.2.1, hb.2.2.2.1⟩
    refine ⟨(h.1.set 1 (qgo e P.length (s.1 + 1, s.2)), h.2), ?_, pb, len, h9⟩
    obtain ⟨fs6, h6⟩ := qtk_tok (h := (h.1.set 1 (ai_obj 1 [.ref 2, .ref 4, .ref 6, .int (nI (s.1 + 1)), .retAddr (ztk e s.1), .int (nI s.2.1), .int (nI s.2.2.1), .ref 10, .ref 11, .int (nI P.length)]), h.2)) ht (qcs_prot1 hc)
    refine qg_pls (n := 2) (k' := 27) (lo' := [some (.ref 1)]) (S' := [.ref 1, .ref 1]) (h' := h) rfl ?_
    refine qg_getf (v := .int (nI s.1)) rfl (qcs_obj hc) rfl rfl rfl ?_
    refine qg_pls (n := 2) (k' := 30) (lo' := [some (.ref 1)]) (S' := [.int ((nI s.1) + 1), .ref 1]) (h' := h) rfl ?_
    rw [nI_1]
    refine qg_putf rfl (qcs_obj hc) rfl rfl (Nat.le_of_ble_eq_true rfl) rfl ?_
    refine qg_pls (n := 2) (k' := 33) (lo' := [some (.ref 1)]) (S' := [.ref 1, .ref 1]) (h' := (h.1.set 1 (ai_obj 1 [.ref 2, .ref 4, .ref 6, .int (nI (s.1 + 1)), .retAddr (ztk e s.1), .int (nI s.2.1), .int (nI s.2.2.1), .ref 10, .ref 11, .int (nI P.length)]), h.2)) rfl ?_
    refine qg_getf (v := .ref 6) rfl (q_set (qcs_obj hc)) rfl rfl rfl ?_
    refine qg_pls (n := 1) (k' := 35) (lo' := [some (.ref 1)]) (S' := [.ref 1, .ref 6, .ref 1]) (h' := (h.1.set 1 (ai_obj 1 [.ref 2, .ref 4, .ref 6, .int (nI (s.1 + 1)), .retAddr (ztk e s.1), .int (nI s.2.1), .int (nI s.2.2.1), .ref 10, .ref 11, .int (nI P.length)]), h.2)) rfl ?_
    refine qg_getf (v := .int (nI (s.1 + 1))) rfl (q_set (qcs_obj hc)) rfl rfl rfl ?_
    refine qg_call (v := some (.retAddr (ztk e (s.1 + 1)))) (h' := (h.1.set 1 (ai_obj 1 [.ref 2, .ref 4, .ref 6, .int (nI (s.1 + 1)), .retAddr (ztk e s.1), .int (nI s.2.1), .int (nI s.2.2.1), .ref 10, .ref 11, .int (nI P.length)]), h.2)) (as := [.ref 6, .int (nI (s.1 + 1))]) rfl rfl rfl rfl rfl rfl rfl (ai_rcv1 rfl rfl h6) (q_sort ht (qcs_prot1 hc) (by omega)) ?_
    show qg L xs _ qm_41 37 [some (.ref 1)] [.retAddr (ztk e (s.1 + 1)), .ref 1] (h.1.set 1 (ai_obj 1 [.ref 2, .ref 4, .ref 6, .int (nI (s.1 + 1)), .retAddr (ztk e s.1), .int (nI s.2.1), .int (nI s.2.2.1), .ref 10, .ref 11, .int (nI P.length)]), h.2) _
    refine qg_putf rfl (q_set (qcs_obj hc)) rfl rfl (Nat.le_of_ble_eq_true rfl) rfl ?_
    rw [List.set_set]
    exact qg_ret7 rfl
/-- Grammar.step() -/
theorem qi_step (ht : qtk e Y) : qim L xs e Y bc bs (d + 3) 41 [.ref 1] 0 (zstep e) := by
  have hlt := qtk_lt ht
  refine qim_of (M := qm_41) rfl rfl (fun P s h hc => ?_)
  show qsm L xs e Y bc bs _ qm_41 0 [some (.ref 1)] [] h _ _ _
  have hb := qcs_bd hc
  unfold zstep
  refine qsm_pls (n := 1) (k' := 1) (lo' := [some (.ref 1)]) (S' := [.ref 1]) (h' := h) rfl ?_
  refine qsm_getf (v := .retAddr (ztk e s.1)) rfl (qcs_obj hc) rfl rfl rfl ?_
  refine qsm_pls (n := 1) (k' := 3) (lo' := [some (.ref 1)]) (S' := [.retAddr 82, .retAddr (ztk e s.1)]) (h' := h) rfl ?_
  by_cases h1 : ztk e s.1 = 82
  · rw [if_pos (Or.inl h1)]
    refine qsm_acmp true rfl (qzk (hlt _) (by decide)) (qa_eqT h1) rfl ?_
    refine qsm_pls (n := 1) (k' := 9) (lo' := [some (.ref 1)]) (S' := [.ref 1]) (h' := h) rfl ?_
    refine qsm_call hc (qi_rise) rfl rfl rfl rfl rfl rfl rfl rfl (ai_rcv1 rfl rfl (qcs_obj hc)) (fun v1 s1 h1 f1 hc1 => ?_)
    show qsm L xs e Y bc bs _ qm_41 10 [some (.ref 1)] [] h1 _ _ _
    refine qsm_pls (n := 1) (k' := 25) (lo' := [some (.ref 1)]) (S' := []) (h' := h1) rfl ?_
    exact q_stepT ht hc1
  · skip
    refine qsm_acmp false rfl (qzk (hlt _) (by decide)) (qa_eqF h1) rfl ?_
    refine qsm_pls (n := 1) (k' := 5) (lo' := [some (.ref 1)]) (S' := [.ref 1]) (h' := h) rfl ?_
    refine qsm_getf (v := .retAddr (ztk e s.1)) rfl (qcs_obj hc) rfl rfl rfl ?_
    refine qsm_pls (n := 1) (k' := 7) (lo' := [some (.ref 1)]) (S' := [.retAddr 10, .retAddr (ztk e s.1)]) (h' := h) rfl ?_
    by_cases h2 : ztk e s.1 = 10
    · rw [if_pos (Or.inr h2)]
      refine qsm_acmp false rfl (qzk (hlt _) (by decide)) (qa_neF h2) rfl ?_
      refine qsm_pls (n := 1) (k' := 9) (lo' := [some (.ref 1)]) (S' := [.ref 1]) (h' := h) rfl ?_
      refine qsm_call hc (qi_rise) rfl rfl rfl rfl rfl rfl rfl rfl (ai_rcv1 rfl rfl (qcs_obj hc)) (fun v1 s1 h1 f1 hc1 => ?_)
      show qsm L xs e Y bc bs _ qm_41 10 [some (.ref 1)] [] h1 _ _ _
      refine qsm_pls (n := 1) (k' := 25) (lo' := [some (.ref 1)]) (S' := []) (h' := h1) rfl ?_
      exact q_stepT ht hc1
    · rw [if_neg (fun h => h.elim h1 h2)]
      refine qsm_acmp true rfl (qzk (hlt _) (by decide)) (qa_neT h2) rfl ?_
      refine qsm_pls (n := 1) (k' := 12) (lo' := [some (.ref 1)]) (S' := [.ref 1]) (h' := h) rfl ?_
      refine qsm_getf (v := .retAddr (ztk e s.1)) rfl (qcs_obj hc) rfl rfl rfl ?_
      refine qsm_pls (n := 1) (k' := 14) (lo' := [some (.ref 1)]) (S' := [.retAddr 83, .retAddr (ztk e s.1)]) (h' := h) rfl ?_
      have down : ∀ (hd : ztk e s.1 = 83 ∨ ztk e s.1 = 25), qsm L xs e Y bc bs (d + 2) qm_41 19 [some (.ref 1)] [] h 0 P (zq zdown znext s) := by
        intro hd v s' hr
        unfold zq zdown at hr
        by_cases h0 : s.2.1 = 0
        · rw [if_pos h0] at hr; cases hr
        · rw [if_neg h0] at hr
          obtain ⟨pb, len, hc0⟩ := id hc
          have h9 : qcs e Y bc bs P (s.1, s.2.1 - 1, s.2.2) (h.1.set 1 (qgo e P.length (s.1, s.2.1 - 1, s.2.2)), h.2) := ⟨pb, len, qcs0_set hc0 rfl ⟨hb.2.1, (by show s.2.1 - 1 ≤ 40; omega), hb.2.2.2.1⟩⟩
          obtain ⟨h2, g1, g2⟩ := q_stepT (L := L) (xs := xs) (d := d + 1) ht h9 v s' hr
          refine ⟨h2, ?_, g2⟩
          refine qg_pls (n := 2) (k' := 21) (lo' := [some (.ref 1)]) (S' := [.ref 1, .ref 1]) (h' := h) rfl ?_
          refine qg_getf (v := .int (nI s.2.1)) rfl (qcs_obj hc) rfl rfl rfl ?_
          refine qg_pls (n := 2) (k' := 24) (lo' := [some (.ref 1)]) (S' := [.int ((nI s.2.1) - 1), .ref 1]) (h' := h) rfl ?_
          rw [show nI s.2.1 - 1 = nI (s.2.1 - 1) from nI_sub (b := 1) (by omega)]
          refine qg_putf rfl (qcs_obj hc) rfl rfl (Nat.le_of_ble_eq_true rfl) rfl ?_
          exact g1
      by_cases h3 : ztk e s.1 = 83
      · rw [if_pos (Or.inl h3)]
        refine qsm_acmp true rfl (qzk (hlt _) (by decide)) (qa_eqT h3) rfl ?_
        exact down (Or.inl h3)
      · skip
        refine qsm_acmp false rfl (qzk (hlt _) (by decide)) (qa_eqF h3) rfl ?_
        refine qsm_pls (n := 1) (k' := 16) (lo' := [some (.ref 1)]) (S' := [.ref 1]) (h' := h) rfl ?_
        refine qsm_getf (v := .retAddr (ztk e s.1)) rfl (qcs_obj hc) rfl rfl rfl ?_
        refine qsm_pls (n := 1) (k' := 18) (lo' := [some (.ref 1)]) (S' := [.retAddr 25, .retAddr (ztk e s.1)]) (h' := h) rfl ?_
        by_cases h4 : ztk e s.1 = 25
        · rw [if_pos (Or.inr h4)]
          refine qsm_acmp false rfl (qzk (hlt _) (by decide)) (qa_neF h4) rfl ?_
          exact down (Or.inr h4)
        · rw [if_neg (fun h => h.elim h3 h4)]
          refine qsm_acmp true rfl (qzk (hlt _) (by decide)) (qa_neT h4) rfl ?_
          exact q_stepT ht hc
end QPR
end
