section
-- ===== PART A: goes FIRST, ahead of the names: the tables' words, and 'selects' of the private methods out of them =====
/-- a private method of a class that the tables say can be made, by its rows of tables_1 -/
def lw_okq (q : MethodName × Nat) : Prop := (q.1.cls ≠ "java/lang/invoke/MethodHandle" ∧ q.1.cls ≠ "java/lang/invoke/VarHandle") ∧ Cond.instantiable q.1.cls q.2 ∈ tables_1 ∧ Cond.privateMethod q.1 ∈ tables_1 ∧ Cond.instanceMethod q.1 ∈ tables_1
theorem lw_p0 : lw_okq (⟨"UnitText", "letWait", "(II)V"⟩, 5) := ⟨⟨by decide +kernel, by decide +kernel⟩, List.mem_of_getElem? (i := 22) (by decide +kernel), List.mem_of_getElem? (i := 220) (by decide +kernel), List.mem_of_getElem? (i := 221) (by decide +kernel)⟩
theorem lw_p1 : lw_okq (⟨"UnitText$Book", "byteBehind", "(III)I"⟩, 6) := ⟨⟨by decide +kernel, by decide +kernel⟩, List.mem_of_getElem? (i := 87) (by decide +kernel), List.mem_of_getElem? (i := 284) (by decide +kernel), List.mem_of_getElem? (i := 285) (by decide +kernel)⟩
theorem lw_p2 : lw_okq (⟨"UnitText$Teller", "putByte", "(I)V"⟩, 5) := ⟨⟨by decide +kernel, by decide +kernel⟩, List.mem_of_getElem? (i := 178) (by decide +kernel), List.mem_of_getElem? (i := 313) (by decide +kernel), List.mem_of_getElem? (i := 314) (by decide +kernel)⟩
theorem lw_p3 : lw_okq (⟨"UnitText$Teller", "putName", "(LUnitText$Book;I)V"⟩, 5) := ⟨⟨by decide +kernel, by decide +kernel⟩, List.mem_of_getElem? (i := 178) (by decide +kernel), List.mem_of_getElem? (i := 317) (by decide +kernel), List.mem_of_getElem? (i := 318) (by decide +kernel)⟩
theorem lw_p4 : lw_okq (⟨"UnitText$Teller", "putText", "(Ljava/lang/String;)V"⟩, 5) := ⟨⟨by decide +kernel, by decide +kernel⟩, List.mem_of_getElem? (i := 178) (by decide +kernel), List.mem_of_getElem? (i := 323) (by decide +kernel), List.mem_of_getElem? (i := 324) (by decide +kernel)⟩
theorem lw_p5 : lw_okq (⟨"UnitText$Teller", "putOperand", "(LUnitText$Book;I)V"⟩, 5) := ⟨⟨by decide +kernel, by decide +kernel⟩, List.mem_of_getElem? (i := 178) (by decide +kernel), List.mem_of_getElem? (i := 375) (by decide +kernel), List.mem_of_getElem? (i := 376) (by decide +kernel)⟩
theorem lw_p6 : lw_okq (⟨"UnitText$Teller", "putString", "(LUnitText$Book;I)V"⟩, 5) := ⟨⟨by decide +kernel, by decide +kernel⟩, List.mem_of_getElem? (i := 178) (by decide +kernel), List.mem_of_getElem? (i := 379) (by decide +kernel), List.mem_of_getElem? (i := 380) (by decide +kernel)⟩
theorem lw_p7 : lw_okq (⟨"UnitText$Teller", "putStringByte", "(I)V"⟩, 5) := ⟨⟨by decide +kernel, by decide +kernel⟩, List.mem_of_getElem? (i := 178) (by decide +kernel), List.mem_of_getElem? (i := 384) (by decide +kernel), List.mem_of_getElem? (i := 385) (by decide +kernel)⟩
theorem lw_p8 : lw_okq (⟨"UnitText$Teller", "putRegister", "(LUnitText$Book;I)V"⟩, 5) := ⟨⟨by decide +kernel, by decide +kernel⟩, List.mem_of_getElem? (i := 178) (by decide +kernel), List.mem_of_getElem? (i := 393) (by decide +kernel), List.mem_of_getElem? (i := 394) (by decide +kernel)⟩
theorem lw_p9 : lw_okq (⟨"UnitText$Teller", "putNumber", "(I)V"⟩, 5) := ⟨⟨by decide +kernel, by decide +kernel⟩, List.mem_of_getElem? (i := 178) (by decide +kernel), List.mem_of_getElem? (i := 397) (by decide +kernel), List.mem_of_getElem? (i := 398) (by decide +kernel)⟩
theorem lw_p10 : lw_okq (⟨"UnitText$Teller", "putExpression", "(LUnitText$Book;I)V"⟩, 5) := ⟨⟨by decide +kernel, by decide +kernel⟩, List.mem_of_getElem? (i := 178) (by decide +kernel), List.mem_of_getElem? (i := 403) (by decide +kernel), List.mem_of_getElem? (i := 404) (by decide +kernel)⟩
theorem lw_p11 : lw_okq (⟨"UnitText$Teller", "findBegins", "(LUnitText$Book;)V"⟩, 5) := ⟨⟨by decide +kernel, by decide +kernel⟩, List.mem_of_getElem? (i := 178) (by decide +kernel), List.mem_of_getElem? (i := 410) (by decide +kernel), List.mem_of_getElem? (i := 411) (by decide +kernel)⟩
theorem lw_p12 : lw_okq (⟨"UnitText$Teller", "sortAt", "(LUnitText$Book;I)I"⟩, 5) := ⟨⟨by decide +kernel, by decide +kernel⟩, List.mem_of_getElem? (i := 178) (by decide +kernel), List.mem_of_getElem? (i := 414) (by decide +kernel), List.mem_of_getElem? (i := 415) (by decide +kernel)⟩
theorem lw_p13 : lw_okq (⟨"UnitText$Teller", "beginOf", "(I)I"⟩, 5) := ⟨⟨by decide +kernel, by decide +kernel⟩, List.mem_of_getElem? (i := 178) (by decide +kernel), List.mem_of_getElem? (i := 419) (by decide +kernel), List.mem_of_getElem? (i := 420) (by decide +kernel)⟩
theorem lw_p14 : lw_okq (⟨"UnitText$Teller", "putTree", "(LUnitText$Book;III)V"⟩, 5) := ⟨⟨by decide +kernel, by decide +kernel⟩, List.mem_of_getElem? (i := 178) (by decide +kernel), List.mem_of_getElem? (i := 431) (by decide +kernel), List.mem_of_getElem? (i := 432) (by decide +kernel)⟩
theorem lw_p15 : lw_okq (⟨"UnitText$Teller", "putLeaf", "(LUnitText$Book;II)V"⟩, 5) := ⟨⟨by decide +kernel, by decide +kernel⟩, List.mem_of_getElem? (i := 178) (by decide +kernel), List.mem_of_getElem? (i := 454) (by decide +kernel), List.mem_of_getElem? (i := 455) (by decide +kernel)⟩
def lw_privs_1 : List (MethodName × Nat) := [(⟨"UnitText", "letWait", "(II)V"⟩, 5), (⟨"UnitText$Book", "byteBehind", "(III)I"⟩, 6), (⟨"UnitText$Teller", "putByte", "(I)V"⟩, 5), (⟨"UnitText$Teller", "putName", "(LUnitText$Book;I)V"⟩, 5), (⟨"UnitText$Teller", "putText", "(Ljava/lang/String;)V"⟩, 5), (⟨"UnitText$Teller", "putOperand", "(LUnitText$Book;I)V"⟩, 5), (⟨"UnitText$Teller", "putString", "(LUnitText$Book;I)V"⟩, 5), (⟨"UnitText$Teller", "putStringByte", "(I)V"⟩, 5), (⟨"UnitText$Teller", "putRegister", "(LUnitText$Book;I)V"⟩, 5), (⟨"UnitText$Teller", "putNumber", "(I)V"⟩, 5), (⟨"UnitText$Teller", "putExpression", "(LUnitText$Book;I)V"⟩, 5), (⟨"UnitText$Teller", "findBegins", "(LUnitText$Book;)V"⟩, 5), (⟨"UnitText$Teller", "sortAt", "(LUnitText$Book;I)I"⟩, 5), (⟨"UnitText$Teller", "beginOf", "(I)I"⟩, 5), (⟨"UnitText$Teller", "putTree", "(LUnitText$Book;III)V"⟩, 5), (⟨"UnitText$Teller", "putLeaf", "(LUnitText$Book;II)V"⟩, 5)]
theorem lw_r1 : ∀ q ∈ lw_privs_1, lw_okq q := List.forall_mem_cons.mpr ⟨lw_p0, List.forall_mem_cons.mpr ⟨lw_p1, List.forall_mem_cons.mpr ⟨lw_p2, List.forall_mem_cons.mpr ⟨lw_p3, List.forall_mem_cons.mpr ⟨lw_p4, List.forall_mem_cons.mpr ⟨lw_p5, List.forall_mem_cons.mpr ⟨lw_p6, List.forall_mem_cons.mpr ⟨lw_p7, List.forall_mem_cons.mpr ⟨lw_p8, List.forall_mem_cons.mpr ⟨lw_p9, List.forall_mem_cons.mpr ⟨lw_p10, List.forall_mem_cons.mpr ⟨lw_p11, List.forall_mem_cons.mpr ⟨lw_p12, List.forall_mem_cons.mpr ⟨lw_p13, List.forall_mem_cons.mpr ⟨lw_p14, List.forall_mem_cons.mpr ⟨lw_p15, fun _ h => absurd h List.not_mem_nil⟩⟩⟩⟩⟩⟩⟩⟩⟩⟩⟩⟩⟩⟩⟩⟩
theorem lw_p16 : lw_okq (⟨"UnitText$Words", "scanOne", "()I"⟩, 6) := ⟨⟨by decide +kernel, by decide +kernel⟩, List.mem_of_getElem? (i := 36) (by decide +kernel), List.mem_of_getElem? (i := 487) (by decide +kernel), List.mem_of_getElem? (i := 488) (by decide +kernel)⟩
theorem lw_p17 : lw_okq (⟨"UnitText$Words", "scanComment", "()I"⟩, 6) := ⟨⟨by decide +kernel, by decide +kernel⟩, List.mem_of_getElem? (i := 36) (by decide +kernel), List.mem_of_getElem? (i := 495) (by decide +kernel), List.mem_of_getElem? (i := 496) (by decide +kernel)⟩
theorem lw_p18 : lw_okq (⟨"UnitText$Words", "scanNumber", "()I"⟩, 6) := ⟨⟨by decide +kernel, by decide +kernel⟩, List.mem_of_getElem? (i := 36) (by decide +kernel), List.mem_of_getElem? (i := 502) (by decide +kernel), List.mem_of_getElem? (i := 503) (by decide +kernel)⟩
theorem lw_p19 : lw_okq (⟨"UnitText$Words", "scanDigits", "(II)I"⟩, 6) := ⟨⟨by decide +kernel, by decide +kernel⟩, List.mem_of_getElem? (i := 36) (by decide +kernel), List.mem_of_getElem? (i := 506) (by decide +kernel), List.mem_of_getElem? (i := 507) (by decide +kernel)⟩
theorem lw_p20 : lw_okq (⟨"UnitText$Words", "bad", "(I)I"⟩, 6) := ⟨⟨by decide +kernel, by decide +kernel⟩, List.mem_of_getElem? (i := 36) (by decide +kernel), List.mem_of_getElem? (i := 517) (by decide +kernel), List.mem_of_getElem? (i := 518) (by decide +kernel)⟩
theorem lw_p21 : lw_okq (⟨"UnitText$Words", "scanName", "()I"⟩, 6) := ⟨⟨by decide +kernel, by decide +kernel⟩, List.mem_of_getElem? (i := 36) (by decide +kernel), List.mem_of_getElem? (i := 524) (by decide +kernel), List.mem_of_getElem? (i := 525) (by decide +kernel)⟩
theorem lw_p22 : lw_okq (⟨"UnitText$Words", "scanCharacter", "()I"⟩, 6) := ⟨⟨by decide +kernel, by decide +kernel⟩, List.mem_of_getElem? (i := 36) (by decide +kernel), List.mem_of_getElem? (i := 538) (by decide +kernel), List.mem_of_getElem? (i := 539) (by decide +kernel)⟩
theorem lw_p23 : lw_okq (⟨"UnitText$Words", "scanString", "()I"⟩, 6) := ⟨⟨by decide +kernel, by decide +kernel⟩, List.mem_of_getElem? (i := 36) (by decide +kernel), List.mem_of_getElem? (i := 550) (by decide +kernel), List.mem_of_getElem? (i := 551) (by decide +kernel)⟩
theorem lw_p24 : lw_okq (⟨"UnitText$Words", "scanSign", "(I)I"⟩, 6) := ⟨⟨by decide +kernel, by decide +kernel⟩, List.mem_of_getElem? (i := 36) (by decide +kernel), List.mem_of_getElem? (i := 554) (by decide +kernel), List.mem_of_getElem? (i := 555) (by decide +kernel)⟩
theorem lw_p25 : lw_okq (⟨"UnitText$Words", "addWord", "(III)V"⟩, 6) := ⟨⟨by decide +kernel, by decide +kernel⟩, List.mem_of_getElem? (i := 36) (by decide +kernel), List.mem_of_getElem? (i := 561) (by decide +kernel), List.mem_of_getElem? (i := 562) (by decide +kernel)⟩
theorem lw_p26 : lw_okq (⟨"UnitText$Reader", "step", "()V"⟩, 11) := ⟨⟨by decide +kernel, by decide +kernel⟩, List.mem_of_getElem? (i := 30) (by decide +kernel), List.mem_of_getElem? (i := 573) (by decide +kernel), List.mem_of_getElem? (i := 574) (by decide +kernel)⟩
theorem lw_p27 : lw_okq (⟨"UnitText$Reader", "refuse", "(I)V"⟩, 11) := ⟨⟨by decide +kernel, by decide +kernel⟩, List.mem_of_getElem? (i := 30) (by decide +kernel), List.mem_of_getElem? (i := 590) (by decide +kernel), List.mem_of_getElem? (i := 591) (by decide +kernel)⟩
theorem lw_p28 : lw_okq (⟨"java/lang/Throwable", "fillInStackTrace", "(I)Ljava/lang/Throwable;"⟩, 6) := ⟨⟨by decide +kernel, by decide +kernel⟩, List.mem_of_getElem? (i := 630) (by decide +kernel), List.mem_of_getElem? (i := 628) (by decide +kernel), List.mem_of_getElem? (i := 629) (by decide +kernel)⟩
theorem lw_p29 : lw_okq (⟨"UnitText$Reader", "isAtLabel", "()Z"⟩, 11) := ⟨⟨by decide +kernel, by decide +kernel⟩, List.mem_of_getElem? (i := 30) (by decide +kernel), List.mem_of_getElem? (i := 671) (by decide +kernel), List.mem_of_getElem? (i := 672) (by decide +kernel)⟩
theorem lw_p30 : lw_okq (⟨"UnitText$Reader", "addStatement", "(III)I"⟩, 11) := ⟨⟨by decide +kernel, by decide +kernel⟩, List.mem_of_getElem? (i := 30) (by decide +kernel), List.mem_of_getElem? (i := 675) (by decide +kernel), List.mem_of_getElem? (i := 676) (by decide +kernel)⟩
theorem lw_p31 : lw_okq (⟨"UnitText$Reader", "nameNumber", "()I"⟩, 11) := ⟨⟨by decide +kernel, by decide +kernel⟩, List.mem_of_getElem? (i := 30) (by decide +kernel), List.mem_of_getElem? (i := 685) (by decide +kernel), List.mem_of_getElem? (i := 686) (by decide +kernel)⟩
def lw_privs_2 : List (MethodName × Nat) := [(⟨"UnitText$Words", "scanOne", "()I"⟩, 6), (⟨"UnitText$Words", "scanComment", "()I"⟩, 6), (⟨"UnitText$Words", "scanNumber", "()I"⟩, 6), (⟨"UnitText$Words", "scanDigits", "(II)I"⟩, 6), (⟨"UnitText$Words", "bad", "(I)I"⟩, 6), (⟨"UnitText$Words", "scanName", "()I"⟩, 6), (⟨"UnitText$Words", "scanCharacter", "()I"⟩, 6), (⟨"UnitText$Words", "scanString", "()I"⟩, 6), (⟨"UnitText$Words", "scanSign", "(I)I"⟩, 6), (⟨"UnitText$Words", "addWord", "(III)V"⟩, 6), (⟨"UnitText$Reader", "step", "()V"⟩, 11), (⟨"UnitText$Reader", "refuse", "(I)V"⟩, 11), (⟨"java/lang/Throwable", "fillInStackTrace", "(I)Ljava/lang/Throwable;"⟩, 6), (⟨"UnitText$Reader", "isAtLabel", "()Z"⟩, 11), (⟨"UnitText$Reader", "addStatement", "(III)I"⟩, 11), (⟨"UnitText$Reader", "nameNumber", "()I"⟩, 11)]
theorem lw_r2 : ∀ q ∈ lw_privs_2, lw_okq q := List.forall_mem_cons.mpr ⟨lw_p16, List.forall_mem_cons.mpr ⟨lw_p17, List.forall_mem_cons.mpr ⟨lw_p18, List.forall_mem_cons.mpr ⟨lw_p19, List.forall_mem_cons.mpr ⟨lw_p20, List.forall_mem_cons.mpr ⟨lw_p21, List.forall_mem_cons.mpr ⟨lw_p22, List.forall_mem_cons.mpr ⟨lw_p23, List.forall_mem_cons.mpr ⟨lw_p24, List.forall_mem_cons.mpr ⟨lw_p25, List.forall_mem_cons.mpr ⟨lw_p26, List.forall_mem_cons.mpr ⟨lw_p27, List.forall_mem_cons.mpr ⟨lw_p28, List.forall_mem_cons.mpr ⟨lw_p29, List.forall_mem_cons.mpr ⟨lw_p30, List.forall_mem_cons.mpr ⟨lw_p31, fun _ h => absurd h List.not_mem_nil⟩⟩⟩⟩⟩⟩⟩⟩⟩⟩⟩⟩⟩⟩⟩⟩
theorem lw_p32 : lw_okq (⟨"UnitText$Reader", "demand", "(I)V"⟩, 11) := ⟨⟨by decide +kernel, by decide +kernel⟩, List.mem_of_getElem? (i := 30) (by decide +kernel), List.mem_of_getElem? (i := 700) (by decide +kernel), List.mem_of_getElem? (i := 701) (by decide +kernel)⟩
theorem lw_p33 : lw_okq (⟨"UnitText$Reader", "readOperand", "()V"⟩, 11) := ⟨⟨by decide +kernel, by decide +kernel⟩, List.mem_of_getElem? (i := 30) (by decide +kernel), List.mem_of_getElem? (i := 708) (by decide +kernel), List.mem_of_getElem? (i := 709) (by decide +kernel)⟩
theorem lw_p34 : lw_okq (⟨"UnitText$Reader", "addOperand", "(I)V"⟩, 11) := ⟨⟨by decide +kernel, by decide +kernel⟩, List.mem_of_getElem? (i := 30) (by decide +kernel), List.mem_of_getElem? (i := 712) (by decide +kernel), List.mem_of_getElem? (i := 713) (by decide +kernel)⟩
theorem lw_p35 : lw_okq (⟨"UnitText$Reader", "readRegister", "()V"⟩, 11) := ⟨⟨by decide +kernel, by decide +kernel⟩, List.mem_of_getElem? (i := 30) (by decide +kernel), List.mem_of_getElem? (i := 716) (by decide +kernel), List.mem_of_getElem? (i := 717) (by decide +kernel)⟩
theorem lw_p36 : lw_okq (⟨"UnitText$Reader", "readString", "()V"⟩, 11) := ⟨⟨by decide +kernel, by decide +kernel⟩, List.mem_of_getElem? (i := 30) (by decide +kernel), List.mem_of_getElem? (i := 721) (by decide +kernel), List.mem_of_getElem? (i := 722) (by decide +kernel)⟩
theorem lw_p37 : lw_okq (⟨"UnitText$Reader", "countItem", "()V"⟩, 11) := ⟨⟨by decide +kernel, by decide +kernel⟩, List.mem_of_getElem? (i := 30) (by decide +kernel), List.mem_of_getElem? (i := 728) (by decide +kernel), List.mem_of_getElem? (i := 729) (by decide +kernel)⟩
theorem lw_p38 : lw_okq (⟨"UnitText$Reader", "readBase", "()V"⟩, 11) := ⟨⟨by decide +kernel, by decide +kernel⟩, List.mem_of_getElem? (i := 30) (by decide +kernel), List.mem_of_getElem? (i := 736) (by decide +kernel), List.mem_of_getElem? (i := 737) (by decide +kernel)⟩
theorem lw_p39 : lw_okq (⟨"UnitText$Reader", "readMark", "()V"⟩, 11) := ⟨⟨by decide +kernel, by decide +kernel⟩, List.mem_of_getElem? (i := 30) (by decide +kernel), List.mem_of_getElem? (i := 743) (by decide +kernel), List.mem_of_getElem? (i := 744) (by decide +kernel)⟩
theorem lw_p40 : lw_okq (⟨"UnitText$Reader", "readSides", "(II)V"⟩, 11) := ⟨⟨by decide +kernel, by decide +kernel⟩, List.mem_of_getElem? (i := 30) (by decide +kernel), List.mem_of_getElem? (i := 760) (by decide +kernel), List.mem_of_getElem? (i := 761) (by decide +kernel)⟩
theorem lw_p41 : lw_okq (⟨"UnitText$Reader", "readOne", "(I)V"⟩, 11) := ⟨⟨by decide +kernel, by decide +kernel⟩, List.mem_of_getElem? (i := 30) (by decide +kernel), List.mem_of_getElem? (i := 764) (by decide +kernel), List.mem_of_getElem? (i := 765) (by decide +kernel)⟩
theorem lw_p42 : lw_okq (⟨"UnitText$Reader", "checkOne", "(I)V"⟩, 11) := ⟨⟨by decide +kernel, by decide +kernel⟩, List.mem_of_getElem? (i := 30) (by decide +kernel), List.mem_of_getElem? (i := 768) (by decide +kernel), List.mem_of_getElem? (i := 769) (by decide +kernel)⟩
theorem lw_p43 : lw_okq (⟨"UnitTextModel", "wait", "(II)V"⟩, 36) := ⟨⟨by decide +kernel, by decide +kernel⟩, List.mem_of_getElem? (i := 781) (by decide +kernel), List.mem_of_getElem? (i := 904) (by decide +kernel), List.mem_of_getElem? (i := 905) (by decide +kernel)⟩
theorem lw_p44 : lw_okq (⟨"UnitTextModel", "next", "()V"⟩, 36) := ⟨⟨by decide +kernel, by decide +kernel⟩, List.mem_of_getElem? (i := 781) (by decide +kernel), List.mem_of_getElem? (i := 916) (by decide +kernel), List.mem_of_getElem? (i := 917) (by decide +kernel)⟩
theorem lw_p45 : lw_okq (⟨"UnitTextModel", "bad", "(II)V"⟩, 36) := ⟨⟨by decide +kernel, by decide +kernel⟩, List.mem_of_getElem? (i := 781) (by decide +kernel), List.mem_of_getElem? (i := 920) (by decide +kernel), List.mem_of_getElem? (i := 921) (by decide +kernel)⟩
theorem lw_p46 : lw_okq (⟨"UnitTextModel", "nameWord", "()V"⟩, 36) := ⟨⟨by decide +kernel, by decide +kernel⟩, List.mem_of_getElem? (i := 781) (by decide +kernel), List.mem_of_getElem? (i := 927) (by decide +kernel), List.mem_of_getElem? (i := 928) (by decide +kernel)⟩
theorem lw_p47 : lw_okq (⟨"UnitTextModel", "numberWord", "()V"⟩, 36) := ⟨⟨by decide +kernel, by decide +kernel⟩, List.mem_of_getElem? (i := 781) (by decide +kernel), List.mem_of_getElem? (i := 937) (by decide +kernel), List.mem_of_getElem? (i := 938) (by decide +kernel)⟩
def lw_privs_3 : List (MethodName × Nat) := [(⟨"UnitText$Reader", "demand", "(I)V"⟩, 11), (⟨"UnitText$Reader", "readOperand", "()V"⟩, 11), (⟨"UnitText$Reader", "addOperand", "(I)V"⟩, 11), (⟨"UnitText$Reader", "readRegister", "()V"⟩, 11), (⟨"UnitText$Reader", "readString", "()V"⟩, 11), (⟨"UnitText$Reader", "countItem", "()V"⟩, 11), (⟨"UnitText$Reader", "readBase", "()V"⟩, 11), (⟨"UnitText$Reader", "readMark", "()V"⟩, 11), (⟨"UnitText$Reader", "readSides", "(II)V"⟩, 11), (⟨"UnitText$Reader", "readOne", "(I)V"⟩, 11), (⟨"UnitText$Reader", "checkOne", "(I)V"⟩, 11), (⟨"UnitTextModel", "wait", "(II)V"⟩, 36), (⟨"UnitTextModel", "next", "()V"⟩, 36), (⟨"UnitTextModel", "bad", "(II)V"⟩, 36), (⟨"UnitTextModel", "nameWord", "()V"⟩, 36), (⟨"UnitTextModel", "numberWord", "()V"⟩, 36)]
theorem lw_r3 : ∀ q ∈ lw_privs_3, lw_okq q := List.forall_mem_cons.mpr ⟨lw_p32, List.forall_mem_cons.mpr ⟨lw_p33, List.forall_mem_cons.mpr ⟨lw_p34, List.forall_mem_cons.mpr ⟨lw_p35, List.forall_mem_cons.mpr ⟨lw_p36, List.forall_mem_cons.mpr ⟨lw_p37, List.forall_mem_cons.mpr ⟨lw_p38, List.forall_mem_cons.mpr ⟨lw_p39, List.forall_mem_cons.mpr ⟨lw_p40, List.forall_mem_cons.mpr ⟨lw_p41, List.forall_mem_cons.mpr ⟨lw_p42, List.forall_mem_cons.mpr ⟨lw_p43, List.forall_mem_cons.mpr ⟨lw_p44, List.forall_mem_cons.mpr ⟨lw_p45, List.forall_mem_cons.mpr ⟨lw_p46, List.forall_mem_cons.mpr ⟨lw_p47, fun _ h => absurd h List.not_mem_nil⟩⟩⟩⟩⟩⟩⟩⟩⟩⟩⟩⟩⟩⟩⟩⟩
theorem lw_p48 : lw_okq (⟨"UnitTextModel", "at", "(I)I"⟩, 36) := ⟨⟨by decide +kernel, by decide +kernel⟩, List.mem_of_getElem? (i := 781) (by decide +kernel), List.mem_of_getElem? (i := 941) (by decide +kernel), List.mem_of_getElem? (i := 942) (by decide +kernel)⟩
theorem lw_p49 : lw_okq (⟨"UnitTextModel", "character", "()V"⟩, 36) := ⟨⟨by decide +kernel, by decide +kernel⟩, List.mem_of_getElem? (i := 781) (by decide +kernel), List.mem_of_getElem? (i := 949) (by decide +kernel), List.mem_of_getElem? (i := 950) (by decide +kernel)⟩
theorem lw_p50 : lw_okq (⟨"UnitTextModel", "inside", "(II)I"⟩, 36) := ⟨⟨by decide +kernel, by decide +kernel⟩, List.mem_of_getElem? (i := 781) (by decide +kernel), List.mem_of_getElem? (i := 953) (by decide +kernel), List.mem_of_getElem? (i := 954) (by decide +kernel)⟩
theorem lw_p51 : lw_okq (⟨"UnitTextModel", "stringWord", "()V"⟩, 36) := ⟨⟨by decide +kernel, by decide +kernel⟩, List.mem_of_getElem? (i := 781) (by decide +kernel), List.mem_of_getElem? (i := 957) (by decide +kernel), List.mem_of_getElem? (i := 958) (by decide +kernel)⟩
theorem lw_p52 : lw_okq (⟨"UnitTextModel", "signWord", "(I)V"⟩, 36) := ⟨⟨by decide +kernel, by decide +kernel⟩, List.mem_of_getElem? (i := 781) (by decide +kernel), List.mem_of_getElem? (i := 961) (by decide +kernel), List.mem_of_getElem? (i := 962) (by decide +kernel)⟩
theorem lw_p53 : lw_okq (⟨"UnitTextModel", "readLine", "()Z"⟩, 36) := ⟨⟨by decide +kernel, by decide +kernel⟩, List.mem_of_getElem? (i := 781) (by decide +kernel), List.mem_of_getElem? (i := 965) (by decide +kernel), List.mem_of_getElem? (i := 966) (by decide +kernel)⟩
theorem lw_p54 : lw_okq (⟨"UnitTextModel", "fail", "(I)Z"⟩, 36) := ⟨⟨by decide +kernel, by decide +kernel⟩, List.mem_of_getElem? (i := 781) (by decide +kernel), List.mem_of_getElem? (i := 969) (by decide +kernel), List.mem_of_getElem? (i := 970) (by decide +kernel)⟩
theorem lw_p55 : lw_okq (⟨"UnitTextModel", "register", "()I"⟩, 36) := ⟨⟨by decide +kernel, by decide +kernel⟩, List.mem_of_getElem? (i := 781) (by decide +kernel), List.mem_of_getElem? (i := 973) (by decide +kernel), List.mem_of_getElem? (i := 974) (by decide +kernel)⟩
theorem lw_p56 : lw_okq (⟨"UnitTextModel", "is", "(IIII)Z"⟩, 36) := ⟨⟨by decide +kernel, by decide +kernel⟩, List.mem_of_getElem? (i := 781) (by decide +kernel), List.mem_of_getElem? (i := 977) (by decide +kernel), List.mem_of_getElem? (i := 978) (by decide +kernel)⟩
theorem lw_p57 : lw_okq (⟨"UnitTextModel", "byteOf", "(I)I"⟩, 36) := ⟨⟨by decide +kernel, by decide +kernel⟩, List.mem_of_getElem? (i := 781) (by decide +kernel), List.mem_of_getElem? (i := 981) (by decide +kernel), List.mem_of_getElem? (i := 982) (by decide +kernel)⟩
theorem lw_p58 : lw_okq (⟨"UnitTextModel", "number", "()I"⟩, 36) := ⟨⟨by decide +kernel, by decide +kernel⟩, List.mem_of_getElem? (i := 781) (by decide +kernel), List.mem_of_getElem? (i := 985) (by decide +kernel), List.mem_of_getElem? (i := 986) (by decide +kernel)⟩
theorem lw_p59 : lw_okq (⟨"UnitTextModel", "isName", "(II)Z"⟩, 36) := ⟨⟨by decide +kernel, by decide +kernel⟩, List.mem_of_getElem? (i := 781) (by decide +kernel), List.mem_of_getElem? (i := 989) (by decide +kernel), List.mem_of_getElem? (i := 990) (by decide +kernel)⟩
theorem lw_p60 : lw_okq (⟨"UnitTextModel", "state", "(II)Z"⟩, 36) := ⟨⟨by decide +kernel, by decide +kernel⟩, List.mem_of_getElem? (i := 781) (by decide +kernel), List.mem_of_getElem? (i := 993) (by decide +kernel), List.mem_of_getElem? (i := 994) (by decide +kernel)⟩
theorem lw_p61 : lw_okq (⟨"UnitTextModel", "isSign", "(I)Z"⟩, 36) := ⟨⟨by decide +kernel, by decide +kernel⟩, List.mem_of_getElem? (i := 781) (by decide +kernel), List.mem_of_getElem? (i := 997) (by decide +kernel), List.mem_of_getElem? (i := 998) (by decide +kernel)⟩
theorem lw_p62 : lw_okq (⟨"UnitTextModel", "operands", "(I)Z"⟩, 36) := ⟨⟨by decide +kernel, by decide +kernel⟩, List.mem_of_getElem? (i := 781) (by decide +kernel), List.mem_of_getElem? (i := 1001) (by decide +kernel), List.mem_of_getElem? (i := 1002) (by decide +kernel)⟩
theorem lw_p63 : lw_okq (⟨"UnitTextModel", "takeOperand", "()Z"⟩, 36) := ⟨⟨by decide +kernel, by decide +kernel⟩, List.mem_of_getElem? (i := 781) (by decide +kernel), List.mem_of_getElem? (i := 1005) (by decide +kernel), List.mem_of_getElem? (i := 1006) (by decide +kernel)⟩
def lw_privs_4 : List (MethodName × Nat) := [(⟨"UnitTextModel", "at", "(I)I"⟩, 36), (⟨"UnitTextModel", "character", "()V"⟩, 36), (⟨"UnitTextModel", "inside", "(II)I"⟩, 36), (⟨"UnitTextModel", "stringWord", "()V"⟩, 36), (⟨"UnitTextModel", "signWord", "(I)V"⟩, 36), (⟨"UnitTextModel", "readLine", "()Z"⟩, 36), (⟨"UnitTextModel", "fail", "(I)Z"⟩, 36), (⟨"UnitTextModel", "register", "()I"⟩, 36), (⟨"UnitTextModel", "is", "(IIII)Z"⟩, 36), (⟨"UnitTextModel", "byteOf", "(I)I"⟩, 36), (⟨"UnitTextModel", "number", "()I"⟩, 36), (⟨"UnitTextModel", "isName", "(II)Z"⟩, 36), (⟨"UnitTextModel", "state", "(II)Z"⟩, 36), (⟨"UnitTextModel", "isSign", "(I)Z"⟩, 36), (⟨"UnitTextModel", "operands", "(I)Z"⟩, 36), (⟨"UnitTextModel", "takeOperand", "()Z"⟩, 36)]
theorem lw_r4 : ∀ q ∈ lw_privs_4, lw_okq q := List.forall_mem_cons.mpr ⟨lw_p48, List.forall_mem_cons.mpr ⟨lw_p49, List.forall_mem_cons.mpr ⟨lw_p50, List.forall_mem_cons.mpr ⟨lw_p51, List.forall_mem_cons.mpr ⟨lw_p52, List.forall_mem_cons.mpr ⟨lw_p53, List.forall_mem_cons.mpr ⟨lw_p54, List.forall_mem_cons.mpr ⟨lw_p55, List.forall_mem_cons.mpr ⟨lw_p56, List.forall_mem_cons.mpr ⟨lw_p57, List.forall_mem_cons.mpr ⟨lw_p58, List.forall_mem_cons.mpr ⟨lw_p59, List.forall_mem_cons.mpr ⟨lw_p60, List.forall_mem_cons.mpr ⟨lw_p61, List.forall_mem_cons.mpr ⟨lw_p62, List.forall_mem_cons.mpr ⟨lw_p63, fun _ h => absurd h List.not_mem_nil⟩⟩⟩⟩⟩⟩⟩⟩⟩⟩⟩⟩⟩⟩⟩⟩
theorem lw_p64 : lw_okq (⟨"UnitTextModel", "isBase", "()Z"⟩, 36) := ⟨⟨by decide +kernel, by decide +kernel⟩, List.mem_of_getElem? (i := 781) (by decide +kernel), List.mem_of_getElem? (i := 1009) (by decide +kernel), List.mem_of_getElem? (i := 1010) (by decide +kernel)⟩
theorem lw_p65 : lw_okq (⟨"UnitTextModel", "tally", "()Z"⟩, 36) := ⟨⟨by decide +kernel, by decide +kernel⟩, List.mem_of_getElem? (i := 781) (by decide +kernel), List.mem_of_getElem? (i := 1013) (by decide +kernel), List.mem_of_getElem? (i := 1014) (by decide +kernel)⟩
theorem lw_p66 : lw_okq (⟨"UnitTextModel", "emit", "(II)V"⟩, 36) := ⟨⟨by decide +kernel, by decide +kernel⟩, List.mem_of_getElem? (i := 781) (by decide +kernel), List.mem_of_getElem? (i := 1017) (by decide +kernel), List.mem_of_getElem? (i := 1018) (by decide +kernel)⟩
theorem lw_p67 : lw_okq (⟨"UnitTextModel", "based", "(I)Z"⟩, 36) := ⟨⟨by decide +kernel, by decide +kernel⟩, List.mem_of_getElem? (i := 781) (by decide +kernel), List.mem_of_getElem? (i := 1021) (by decide +kernel), List.mem_of_getElem? (i := 1022) (by decide +kernel)⟩
theorem lw_p68 : lw_okq (⟨"UnitTextModel", "closes", "()Z"⟩, 36) := ⟨⟨by decide +kernel, by decide +kernel⟩, List.mem_of_getElem? (i := 781) (by decide +kernel), List.mem_of_getElem? (i := 1025) (by decide +kernel), List.mem_of_getElem? (i := 1026) (by decide +kernel)⟩
theorem lw_p69 : lw_okq (⟨"UnitTextModel", "marked", "(I)Z"⟩, 36) := ⟨⟨by decide +kernel, by decide +kernel⟩, List.mem_of_getElem? (i := 781) (by decide +kernel), List.mem_of_getElem? (i := 1029) (by decide +kernel), List.mem_of_getElem? (i := 1030) (by decide +kernel)⟩
theorem lw_p70 : lw_okq (⟨"UnitTextModel", "mark", "()I"⟩, 36) := ⟨⟨by decide +kernel, by decide +kernel⟩, List.mem_of_getElem? (i := 781) (by decide +kernel), List.mem_of_getElem? (i := 1033) (by decide +kernel), List.mem_of_getElem? (i := 1034) (by decide +kernel)⟩
theorem lw_p71 : lw_okq (⟨"UnitTextModel", "expression", "()Z"⟩, 36) := ⟨⟨by decide +kernel, by decide +kernel⟩, List.mem_of_getElem? (i := 781) (by decide +kernel), List.mem_of_getElem? (i := 1037) (by decide +kernel), List.mem_of_getElem? (i := 1038) (by decide +kernel)⟩
theorem lw_p72 : lw_okq (⟨"UnitTextModel", "wanted", "()I"⟩, 36) := ⟨⟨by decide +kernel, by decide +kernel⟩, List.mem_of_getElem? (i := 781) (by decide +kernel), List.mem_of_getElem? (i := 1041) (by decide +kernel), List.mem_of_getElem? (i := 1042) (by decide +kernel)⟩
theorem lw_p73 : lw_okq (⟨"UnitTextModel", "ahead", "()V"⟩, 36) := ⟨⟨by decide +kernel, by decide +kernel⟩, List.mem_of_getElem? (i := 781) (by decide +kernel), List.mem_of_getElem? (i := 1045) (by decide +kernel), List.mem_of_getElem? (i := 1046) (by decide +kernel)⟩
theorem lw_p74 : lw_okq (⟨"UnitTextModel", "operator", "()I"⟩, 36) := ⟨⟨by decide +kernel, by decide +kernel⟩, List.mem_of_getElem? (i := 781) (by decide +kernel), List.mem_of_getElem? (i := 1049) (by decide +kernel), List.mem_of_getElem? (i := 1050) (by decide +kernel)⟩
theorem lw_p75 : lw_okq (⟨"UnitTextModel", "reduce", "(I)V"⟩, 36) := ⟨⟨by decide +kernel, by decide +kernel⟩, List.mem_of_getElem? (i := 781) (by decide +kernel), List.mem_of_getElem? (i := 1056) (by decide +kernel), List.mem_of_getElem? (i := 1057) (by decide +kernel)⟩
theorem lw_p76 : lw_okq (⟨"UnitTextModel", "keep", "()V"⟩, 36) := ⟨⟨by decide +kernel, by decide +kernel⟩, List.mem_of_getElem? (i := 781) (by decide +kernel), List.mem_of_getElem? (i := 1060) (by decide +kernel), List.mem_of_getElem? (i := 1061) (by decide +kernel)⟩
theorem lw_p77 : lw_okq (⟨"UnitTextModel", "sayNumber", "(J)V"⟩, 36) := ⟨⟨by decide +kernel, by decide +kernel⟩, List.mem_of_getElem? (i := 781) (by decide +kernel), List.mem_of_getElem? (i := 1109) (by decide +kernel), List.mem_of_getElem? (i := 1110) (by decide +kernel)⟩
theorem lw_p78 : lw_okq (⟨"UnitTextModel", "say", "(I)V"⟩, 36) := ⟨⟨by decide +kernel, by decide +kernel⟩, List.mem_of_getElem? (i := 781) (by decide +kernel), List.mem_of_getElem? (i := 1115) (by decide +kernel), List.mem_of_getElem? (i := 1116) (by decide +kernel)⟩
theorem lw_p79 : lw_okq (⟨"UnitTextModel", "sayName", "(I)V"⟩, 36) := ⟨⟨by decide +kernel, by decide +kernel⟩, List.mem_of_getElem? (i := 781) (by decide +kernel), List.mem_of_getElem? (i := 1119) (by decide +kernel), List.mem_of_getElem? (i := 1120) (by decide +kernel)⟩
def lw_privs_5 : List (MethodName × Nat) := [(⟨"UnitTextModel", "isBase", "()Z"⟩, 36), (⟨"UnitTextModel", "tally", "()Z"⟩, 36), (⟨"UnitTextModel", "emit", "(II)V"⟩, 36), (⟨"UnitTextModel", "based", "(I)Z"⟩, 36), (⟨"UnitTextModel", "closes", "()Z"⟩, 36), (⟨"UnitTextModel", "marked", "(I)Z"⟩, 36), (⟨"UnitTextModel", "mark", "()I"⟩, 36), (⟨"UnitTextModel", "expression", "()Z"⟩, 36), (⟨"UnitTextModel", "wanted", "()I"⟩, 36), (⟨"UnitTextModel", "ahead", "()V"⟩, 36), (⟨"UnitTextModel", "operator", "()I"⟩, 36), (⟨"UnitTextModel", "reduce", "(I)V"⟩, 36), (⟨"UnitTextModel", "keep", "()V"⟩, 36), (⟨"UnitTextModel", "sayNumber", "(J)V"⟩, 36), (⟨"UnitTextModel", "say", "(I)V"⟩, 36), (⟨"UnitTextModel", "sayName", "(I)V"⟩, 36)]
theorem lw_r5 : ∀ q ∈ lw_privs_5, lw_okq q := List.forall_mem_cons.mpr ⟨lw_p64, List.forall_mem_cons.mpr ⟨lw_p65, List.forall_mem_cons.mpr ⟨lw_p66, List.forall_mem_cons.mpr ⟨lw_p67, List.forall_mem_cons.mpr ⟨lw_p68, List.forall_mem_cons.mpr ⟨lw_p69, List.forall_mem_cons.mpr ⟨lw_p70, List.forall_mem_cons.mpr ⟨lw_p71, List.forall_mem_cons.mpr ⟨lw_p72, List.forall_mem_cons.mpr ⟨lw_p73, List.forall_mem_cons.mpr ⟨lw_p74, List.forall_mem_cons.mpr ⟨lw_p75, List.forall_mem_cons.mpr ⟨lw_p76, List.forall_mem_cons.mpr ⟨lw_p77, List.forall_mem_cons.mpr ⟨lw_p78, List.forall_mem_cons.mpr ⟨lw_p79, fun _ h => absurd h List.not_mem_nil⟩⟩⟩⟩⟩⟩⟩⟩⟩⟩⟩⟩⟩⟩⟩⟩
theorem lw_p80 : lw_okq (⟨"UnitTextModel", "sayOperand", "(I)V"⟩, 36) := ⟨⟨by decide +kernel, by decide +kernel⟩, List.mem_of_getElem? (i := 781) (by decide +kernel), List.mem_of_getElem? (i := 1123) (by decide +kernel), List.mem_of_getElem? (i := 1124) (by decide +kernel)⟩
theorem lw_p81 : lw_okq (⟨"UnitTextModel", "sayRegister", "(I)V"⟩, 36) := ⟨⟨by decide +kernel, by decide +kernel⟩, List.mem_of_getElem? (i := 781) (by decide +kernel), List.mem_of_getElem? (i := 1127) (by decide +kernel), List.mem_of_getElem? (i := 1128) (by decide +kernel)⟩
theorem lw_p82 : lw_okq (⟨"UnitTextModel", "sayString", "(I)V"⟩, 36) := ⟨⟨by decide +kernel, by decide +kernel⟩, List.mem_of_getElem? (i := 781) (by decide +kernel), List.mem_of_getElem? (i := 1131) (by decide +kernel), List.mem_of_getElem? (i := 1132) (by decide +kernel)⟩
theorem lw_p83 : lw_okq (⟨"UnitTextModel", "sayMark", "(I)V"⟩, 36) := ⟨⟨by decide +kernel, by decide +kernel⟩, List.mem_of_getElem? (i := 781) (by decide +kernel), List.mem_of_getElem? (i := 1135) (by decide +kernel), List.mem_of_getElem? (i := 1136) (by decide +kernel)⟩
theorem lw_p84 : lw_okq (⟨"UnitTextModel", "sayItems", "(II)V"⟩, 36) := ⟨⟨by decide +kernel, by decide +kernel⟩, List.mem_of_getElem? (i := 781) (by decide +kernel), List.mem_of_getElem? (i := 1139) (by decide +kernel), List.mem_of_getElem? (i := 1140) (by decide +kernel)⟩
theorem lw_p85 : lw_okq (⟨"UnitTextModel", "findBegins", "(II)V"⟩, 36) := ⟨⟨by decide +kernel, by decide +kernel⟩, List.mem_of_getElem? (i := 781) (by decide +kernel), List.mem_of_getElem? (i := 1143) (by decide +kernel), List.mem_of_getElem? (i := 1144) (by decide +kernel)⟩
theorem lw_p86 : lw_okq (⟨"UnitTextModel", "whatOf", "(I)I"⟩, 36) := ⟨⟨by decide +kernel, by decide +kernel⟩, List.mem_of_getElem? (i := 781) (by decide +kernel), List.mem_of_getElem? (i := 1147) (by decide +kernel), List.mem_of_getElem? (i := 1148) (by decide +kernel)⟩
theorem lw_p87 : lw_okq (⟨"UnitTextModel", "add", "(I)V"⟩, 36) := ⟨⟨by decide +kernel, by decide +kernel⟩, List.mem_of_getElem? (i := 781) (by decide +kernel), List.mem_of_getElem? (i := 1151) (by decide +kernel), List.mem_of_getElem? (i := 1152) (by decide +kernel)⟩
theorem lw_p88 : lw_okq (⟨"UnitTextModel", "saySign", "(I)V"⟩, 36) := ⟨⟨by decide +kernel, by decide +kernel⟩, List.mem_of_getElem? (i := 781) (by decide +kernel), List.mem_of_getElem? (i := 1155) (by decide +kernel), List.mem_of_getElem? (i := 1156) (by decide +kernel)⟩
theorem lw_p89 : lw_okq (⟨"UnitTextModel", "sayLeaf", "(I)V"⟩, 36) := ⟨⟨by decide +kernel, by decide +kernel⟩, List.mem_of_getElem? (i := 781) (by decide +kernel), List.mem_of_getElem? (i := 1159) (by decide +kernel), List.mem_of_getElem? (i := 1160) (by decide +kernel)⟩
theorem lw_p90 : lw_okq (⟨"UnitTextModel", "addSide", "(IZ)V"⟩, 36) := ⟨⟨by decide +kernel, by decide +kernel⟩, List.mem_of_getElem? (i := 781) (by decide +kernel), List.mem_of_getElem? (i := 1164) (by decide +kernel), List.mem_of_getElem? (i := 1165) (by decide +kernel)⟩
def lw_privs_6 : List (MethodName × Nat) := [(⟨"UnitTextModel", "sayOperand", "(I)V"⟩, 36), (⟨"UnitTextModel", "sayRegister", "(I)V"⟩, 36), (⟨"UnitTextModel", "sayString", "(I)V"⟩, 36), (⟨"UnitTextModel", "sayMark", "(I)V"⟩, 36), (⟨"UnitTextModel", "sayItems", "(II)V"⟩, 36), (⟨"UnitTextModel", "findBegins", "(II)V"⟩, 36), (⟨"UnitTextModel", "whatOf", "(I)I"⟩, 36), (⟨"UnitTextModel", "add", "(I)V"⟩, 36), (⟨"UnitTextModel", "saySign", "(I)V"⟩, 36), (⟨"UnitTextModel", "sayLeaf", "(I)V"⟩, 36), (⟨"UnitTextModel", "addSide", "(IZ)V"⟩, 36)]
theorem lw_r6 : ∀ q ∈ lw_privs_6, lw_okq q := List.forall_mem_cons.mpr ⟨lw_p80, List.forall_mem_cons.mpr ⟨lw_p81, List.forall_mem_cons.mpr ⟨lw_p82, List.forall_mem_cons.mpr ⟨lw_p83, List.forall_mem_cons.mpr ⟨lw_p84, List.forall_mem_cons.mpr ⟨lw_p85, List.forall_mem_cons.mpr ⟨lw_p86, List.forall_mem_cons.mpr ⟨lw_p87, List.forall_mem_cons.mpr ⟨lw_p88, List.forall_mem_cons.mpr ⟨lw_p89, List.forall_mem_cons.mpr ⟨lw_p90, fun _ h => absurd h List.not_mem_nil⟩⟩⟩⟩⟩⟩⟩⟩⟩⟩⟩
def lw_privs : List (MethodName × Nat) := lw_privs_1 ++ (lw_privs_2 ++ (lw_privs_3 ++ (lw_privs_4 ++ (lw_privs_5 ++ (lw_privs_6)))))
def lw_tbl : List Cond := k2_sels lw_privs ++ tables_1
theorem lw_privs_ok : ∀ q ∈ lw_privs, lw_okq q := by
  show ∀ q ∈ lw_privs_1 ++ (lw_privs_2 ++ (lw_privs_3 ++ (lw_privs_4 ++ (lw_privs_5 ++ (lw_privs_6))))), lw_okq q
  exact List.forall_mem_append.mpr ⟨lw_r1, List.forall_mem_append.mpr ⟨lw_r2, List.forall_mem_append.mpr ⟨lw_r3, List.forall_mem_append.mpr ⟨lw_r4, List.forall_mem_append.mpr ⟨lw_r5, lw_r6⟩⟩⟩⟩⟩
end
section
/-! ===== BEGIN words of one list among another's, by their places ===== -/
theorem goodIn_r {big : List Cond} (ws : List Cond) (ps : List Nat) (hp : ws = ps.filterMap (fun i => big[i]?)) (h : ws.all goodWord = true) : GoodIn big ws := by
  intro w hw
  have h1 := List.all_eq_true.mp h w hw
  rw [hp] at hw
  obtain ⟨i, -, hi⟩ := List.mem_filterMap.mp hw
  have hm : w ∈ big := by first | exact List.mem_of_getElem? hi | exact List.getElem?_mem hi
  exact ⟨hm, good_of_word h1⟩
theorem goodIn_app {big a b : List Cond} (ha : GoodIn big a) (hb : GoodIn big b) : GoodIn big (a ++ b) := fun w h => (List.mem_append.mp h).elim (ha w) (hb w)
theorem goodIn_ca {big a b : List Cond} {c : Cond} (ha : GoodIn big (c :: a)) (hb : GoodIn big b) : GoodIn big (c :: (a ++ b)) := fun w h => (List.mem_cons.mp h).elim (fun e => ha w (List.mem_cons.mpr (Or.inl e))) (fun h => (List.mem_append.mp h).elim (fun h => ha w (List.mem_cons.mpr (Or.inr h))) (hb w))
theorem goodIn_sub {big ws : List Cond} (hm : ∀ w ∈ ws, w ∈ big) (h : ws.all goodWord = true) : GoodIn big ws := fun w hw => ⟨hm w hw, good_of_word (List.all_eq_true.mp h w hw)⟩
/-! ===== END ===== -/

/-! ===== BEGIN exceptions that leave a method, and their catching by the caller (launches without stack traces) ===== -/
section VXA
/-! The laws vx_back, vx_callV, vx_callS, vx_callSW, vx_throw0, vx_throwS follow proofs of the library, with one case more: JvmDerived/Free/Laws.lean (Back.of_free), Shelf42/LK1.lean (callV, callS), Shelf/KitTraced.lean (throwNew0V, throwNewS). -/
/-- where a method has thrown q: the class by its name, the cell, what was written, the world -/
def vx_T (XC : String → State → State → Prop) (st : State) (q : Addr) (t : State) (mc ms : Nat) (free : Addr → Prop) : Prop :=
  ∃ (E : String) (ce : Cell) (L : List Loc), XC E st t ∧ t.heap[q]? = some ce ∧ ce.vm = .none ∧ st.vm.findClass E = some ce.cls ∧ st.WarmedH t.vm ∧ st.sameButNew ({ t with vm := st.vm } : State) L mc ms ∧ ∀ z ∈ L, free z.base
def vx_Q (Qc : Array Value → State → Outcome → State → Prop) (XC : String → State → State → Prop) (mc ms : Nat) (free : Addr → Prop) : Array Value → State → Outcome → State → Prop := fun a st o t =>
  (Qc a st o t ∧ ∃ L, FrameEnd st o t L mc ms ∧ ∀ q ∈ L, free q.base) ∨ ∃ q, o = .threw q ∧ vx_T XC st q t mc ms free
/-- a callee that returns or throws -/
def vx_Met (l : Launch) (y : MethodName) (ws : List Cond) (rm : Room) (Pc : Array Value → State → Prop) (Qc : Array Value → State → Outcome → State → Prop) (XC : String → State → State → Prop) (mc ms : Nat) (free : Addr → Prop) : Prop :=
  MetFree l y (headSpec ws rm) Pc (fun _ _ _ _ _ => True) (vx_Q Qc XC mc ms free)
def vx_Post (XC : String → State → State → Prop) (mc ms : Nat) (free : Addr → Prop) : Pt → Array Value → Addr → Pt → Prop := fun A a q B =>
  ∃ (g : JFrame) (mk : MethodId) (t : State) (L : List Loc) (E : String) (ce : Cell), B.U.heap = t.heap ∧ B.U.vm = t.vm ∧ XC E (A.U.calling g mk a) t ∧ t.heap[q]? = some ce ∧ ce.vm = .none ∧ A.U.vm.findClass E = some ce.cls ∧ B.locs = A.locs ++ L ∧ (∀ z ∈ L, free z.base) ∧ B.cells = A.cells + mc ∧ B.slots = A.slots + ms
def vx_Back (l : Launch) (R : Room) (p : Program) (e : Env) (below : List Frame) (s : State) (sargs : Array Value) (y : MethodName) (len W9 : Nat)
    (Pre : Pt → Array Value → Prop) (Post : Pt → Array Value → Option Value → Pt → Prop) (PostX : Pt → Array Value → Addr → Pt → Prop) : Prop :=
  ∀ (m : MethodId) (meth : Method) (c : Code) (A : Pt) (g : JFrame) (ig : Instr) (mk : MethodId) (a : Array Value),
    Stand p l e R s m sargs below meth c A.U A.locs A.cells A.slots → g.method = m → g.locals.size = c.maxLocals → decode c.code g.pc = .ok (ig, len) →
    2 * g.monitorRoom + (g.stack.map fun v => v.category).sum ≤ W9 → A.U.methodNamed? y = some mk → Pre A a →
    (∃ (v : Option Value) (B : Pt), Stand p l e R s m sargs below meth c B.U B.locs B.cells B.slots ∧ Post A a v B ∧
      Steps p.tables e below (doInvoke e (A.U.setTop g) [] mk a).1 (B.U.setTop { g with pc := g.pc + len, stack := v.toList ++ g.stack })) ∨
    (∃ (q : Addr) (B : Pt), Stand p l e R s m sargs below meth c B.U B.locs B.cells B.slots ∧ PostX A a q B ∧
      Steps p.tables e below (doInvoke e (A.U.setTop g) [] mk a).1 ((B.U.setTop g).pushFrame (.throwing q)))
section Payer
variable {l : Launch} {R : Room} {p : Program} {e : Env} {below : List Frame} {s : State} {sargs : Array Value} {y : MethodName} {len W9 : Nat}
theorem vx_back {ws : List Cond} {rm : Room} {Pc : Array Value → State → Prop} {Qc : Array Value → State → Outcome → State → Prop} {XC : String → State → State → Prop} {mc ms : Nat} {free : Addr → Prop} {bytes : ByteArray} {maxL : Nat} {ret : Option FieldType}
    (hM : vx_Met l y ws rm Pc Qc XC mc ms free) (hblind : FrameBlind Pc) (hrc : rm.cells = mc) (hrs : rm.slots = ms)
    (hframes : rm.frames + 1 ≤ R.frames) (hlocals : W9 + (maxL + 11) + rm.locals ≤ R.locals)
    (hws : ∀ w ∈ ws, ∀ a' U, s.WarmedH U.vm → w.before a' U = true) (hcode : Cond.code y bytes maxL ret ∈ ws) (hinit : ∀ a' U, s.WarmedH U.vm → (Cond.initialized y.cls).before a' U = true) :
    vx_Back l R p e below s sargs y len W9 (PreOf R mc ms Pc) (PostOf Qc mc ms free) (vx_Post XC mc ms free) := by
  intro m meth c A g ig mk a X hg hsize hdg hW hn hp
  have h1 : (headSpec ws rm).pre.before a A.U = true := atoms_intro fun w hw => hws w hw _ _ X.warmed
  have h2 : (Cond.code y bytes maxL ret).before a A.U = true := hws _ hcode _ _ X.warmed
  have h3 : (Cond.initialized y.cls).before a A.U = true := hinit _ _ X.warmed
  have h4 : A.cells + (headSpec ws rm).room.cells ≤ R.cells := by rw [show (headSpec ws rm).room.cells = mc from hrc]; exact hp.1
  have h5 : A.slots + (headSpec ws rm).room.slots ≤ R.slots := by rw [show (headSpec ws rm).room.slots = ms from hrs]; exact hp.2.1
  have hPc : Pc a (A.U.calling g mk a) := hblind _ _ _ _ hp.2.2
  obtain ⟨U, Ls, c0, s0⟩ := A
  dsimp only [Pt.U, Pt.locs, Pt.cells, Pt.slots] at h1 h2 h3 h4 h5 X hn hPc ⊢
  obtain ⟨methY, cY, hmY, hcY, -, hlY, -, -, -, -⟩ := Cond.code_spec hn h2
  obtain ⟨kY, hkY, -⟩ := className_of_methodNamed hn
  have hinitY : kY.init = .initialized := Cond.initialized_spec (findClass_of_methodNamed hn) hkY h3
  have h : At U g.method c below := by rw [hg]; exact X.here
  have hlocals9 : W9 + (maxL + 11) + (headSpec ws rm).room.locals ≤ R.locals := hlocals
  have happ : (headSpec ws rm).appliesLoose y e.platform (U.calling g mk a) = true :=
    Spec.appliesLoose_calling (g := g) h hdg hn hkY hinitY
      (X.room_calling (g := g) (R' := (headSpec ws rm).room) hsize hmY hcY hframes (by rw [hlY]; omega) h4 h5) h1
  obtain ⟨mid, hmid⟩ := h.above
  have hfr : (U.setTop g).frames = (.java g :: mid) ++ below := by rw [State.frames_setTop' g h.top, hmid]; rfl
  obtain ⟨o, s₂, hsteps, -, hend, hq⟩ := Steps.callFree hM p X.admits X.cas X.clock (acts := []) hfr happ hPc trivial
  have hq' : vx_Q Qc XC mc ms free a (U.calling g mk a) o s₂ := hq
  rw [State.frames_setTop' g h.top] at hend
  obtain ⟨g₀, hg0⟩ := Option.isSome_iff_exists.mp h.top
  obtain ⟨r, hr⟩ := State.topJava?_eq_some.mp hg0
  have hr' : (({ U with heap := s₂.heap, slotsUsed := s₂.slotsUsed } : State).setVm s₂.vm).frames = .java g₀ :: r := hr
  rcases hq' with ⟨hqc, L, hfe, hL⟩ | ⟨q, rfl, E, ce, L, hx, hce, hcv, hcl, hW₂, hsm, hL⟩
  · obtain ⟨⟨v, rfl⟩, hW₂, e2, q2, q3, q4, q5, q6⟩ := id hfe
    have e3 : s₂ = ({ (U.calling g mk a).setFrames s₂.frames with heap := s₂.heap, slotsUsed := s₂.slotsUsed } : State).setVm s₂.vm := by
      have : s₂ = ({ s₂ with vm := (U.calling g mk a).vm } : State).setVm s₂.vm := rfl
      rw [e2] at this
      exact this
    obtain ⟨c₂, i₂, len₂, hc₂, hd₂, hf₂⟩ := hend
    have hW' : U.WarmedH s₂.vm := hW₂
    have hcc : c₂ = c := by
      have h1 : s₂.code? g.method = U.code? g.method := by
        rw [State.code?_eq, State.code?_eq, hW'.alike.method?]
      exact Option.some.inj (hc₂.symm.trans (h1.trans h.code))
    subst hcc
    have hlen : len₂ = len := by rw [hdg] at hd₂; cases hd₂; rfl
    subst hlen
    have hs₂ : s₂ = (({ U with heap := s₂.heap, slotsUsed := s₂.slotsUsed } : State).setVm s₂.vm).setTop { g with pc := g.pc + len₂, stack := v.toList ++ g.stack } := by
      refine e3.trans ?_
      rw [hf₂, State.calling_eq h.top, State.setFrames_setFrames, State.setTop_of_frames _ hr', hr]
      rfl
    have hsame : U.sameButNew ({ U with heap := s₂.heap, slotsUsed := s₂.slotsUsed } : State) L mc ms := by
      refine ⟨?_, q2, q3, q4, q5, q6⟩
      obtain ⟨t, ht, -⟩ := State.frames_cons hr
      show ({ U with heap := s₂.heap, slotsUsed := s₂.slotsUsed } : State) = { U.setFrames U.frames with heap := s₂.heap, slotsUsed := s₂.slotsUsed }
      rw [State.setFrames_self ht]
    subst hg
    refine Or.inl ⟨v, ⟨(({ U with heap := s₂.heap, slotsUsed := s₂.slotsUsed } : State).setVm s₂.vm), Ls ++ L, c0 + mc, s0 + ms⟩,
      ⟨X.admits, X.cas, X.clock, X.frames, X.room, X.hears, X.method, X.code, (X.here.setHeapUsed s₂.heap s₂.slotsUsed).setVm hW'.alike, X.tail, State.WarmedH.trans X.warmed hW', X.limits, X.bytes, X.same.trans (hsame.setVm s.vm)⟩,
      ⟨g, mk, s₂, L, rfl, rfl, hqc, rfl, hL, rfl, rfl⟩, ?_⟩
    show Steps p.tables e below _ ((({ U with heap := s₂.heap, slotsUsed := s₂.slotsUsed } : State).setVm s₂.vm).setTop { g with pc := g.pc + len₂, stack := v.toList ++ g.stack })
    rw [← hs₂]
    exact hsteps
  · obtain ⟨e2, q2, q3, q4, q5, q6⟩ := id hsm
    have e3 : s₂ = ({ (U.calling g mk a).setFrames s₂.frames with heap := s₂.heap, slotsUsed := s₂.slotsUsed } : State).setVm s₂.vm := by
      have : s₂ = ({ s₂ with vm := (U.calling g mk a).vm } : State).setVm s₂.vm := rfl
      rw [e2] at this
      exact this
    have hf₂ : s₂.frames = .throwing q :: .java g :: U.frames.tail := hend
    have hW' : U.WarmedH s₂.vm := hW₂
    have hs₂ : s₂ = ((({ U with heap := s₂.heap, slotsUsed := s₂.slotsUsed } : State).setVm s₂.vm).setTop g).pushFrame (.throwing q) := by
      refine e3.trans ?_
      rw [hf₂, State.calling_eq h.top, State.setFrames_setFrames, State.pushFrame, State.frames_setTop _ hr', State.setTop_of_frames _ hr', State.setFrames_setFrames, hr]
      rfl
    have hsame : U.sameButNew ({ U with heap := s₂.heap, slotsUsed := s₂.slotsUsed } : State) L mc ms := by
      refine ⟨?_, q2, q3, q4, q5, q6⟩
      obtain ⟨t, ht, -⟩ := State.frames_cons hr
      show ({ U with heap := s₂.heap, slotsUsed := s₂.slotsUsed } : State) = { U.setFrames U.frames with heap := s₂.heap, slotsUsed := s₂.slotsUsed }
      rw [State.setFrames_self ht]
    subst hg
    refine Or.inr ⟨q, ⟨(({ U with heap := s₂.heap, slotsUsed := s₂.slotsUsed } : State).setVm s₂.vm), Ls ++ L, c0 + mc, s0 + ms⟩,
      ⟨X.admits, X.cas, X.clock, X.frames, X.room, X.hears, X.method, X.code, (X.here.setHeapUsed s₂.heap s₂.slotsUsed).setVm hW'.alike, X.tail, State.WarmedH.trans X.warmed hW', X.limits, X.bytes, X.same.trans (hsame.setVm s.vm)⟩,
      ⟨g, mk, s₂, L, E, ce, rfl, rfl, hx, hce, hcv, hcl, rfl, hL, rfl, rfl⟩, ?_⟩
    show Steps p.tables e below _ (((({ U with heap := s₂.heap, slotsUsed := s₂.slotsUsed } : State).setVm s₂.vm).setTop g).pushFrame (.throwing q))
    rw [← hs₂]
    exact hsteps
end Payer
section Calls
variable {p : Program} {l : Launch} {e : Env} {R : Room} {s : State} {m : MethodId} {args : Array Value} {below : List Frame} {meth : Method} {c : Code} {T : State} {locs : List Loc} {cells slots : Nat}
theorem vx_callV (X : Stand p l e R s m args below meth c T locs cells slots) (hexec : p.tables.exec = Jvm.exec) {own C : String} {index : Nat} {y : MethodName} {bytes : ByteArray} {maxL : Nat} {ret : Option FieldType}
    (hown : s.vm.findClass own = some m.cls) (hlink : (Cond.methodLink own index y).before args s = true) (hinst : (Cond.instanceMethod y).before args s = true) (hsel : (Cond.selects C y y).before args s = true)
    (hcode : (Cond.code y bytes maxL ret).before args s = true) (hy : y.cls ≠ "java/lang/invoke/MethodHandle" ∧ y.cls ≠ "java/lang/invoke/VarHandle")
    {W9 : Nat} {Pre : Pt → Array Value → Prop} {Post : Pt → Array Value → Option Value → Pt → Prop} {PostX : Pt → Array Value → Addr → Pt → Prop} (hK : vx_Back l R p e below s args y 3 W9 Pre Post PostX)
    {b : Addr} {cellB : Cell} (hcell : T.heap[b]? = some cellB) (hobj : cellB.vm.isStatics = false) (hcls : s.vm.findClass C = some cellB.cls)
    {g : JFrame} (hg : g.method = m) (hsize : g.locals.size = c.maxLocals) {argsL rest : List Value} (hlen : ∀ sig, parseMethodDescriptor y.desc = some sig → argsL.length = sig.parameters.length)
    (hstack : g.stack = argsL.reverse ++ .ref b :: rest) (hW : 2 * g.monitorRoom + (rest.map fun v => v.category).sum ≤ W9) (hdg : decode c.code g.pc = .ok (.invokevirtual index, 3))
    (hpre : ∀ vm₁, s.WarmedH vm₁ → Pre ⟨T.setVm vm₁, locs, cells, slots⟩ (Value.ref b :: argsL).toArray) :
    (∃ (v : Option Value) (vm₁ : Vm) (B : Pt), s.WarmedH vm₁ ∧ Stand p l e R s m args below meth c B.U B.locs B.cells B.slots ∧ Post ⟨T.setVm vm₁, locs, cells, slots⟩ (Value.ref b :: argsL).toArray v B ∧
      ∀ target, Steps p.tables e below (B.U.setTop { g with pc := g.pc + 3, stack := v.toList ++ rest }) target → Steps p.tables e below (T.setTop g) target) ∨
    (∃ (q : Addr) (vm₁ : Vm) (B : Pt), s.WarmedH vm₁ ∧ Stand p l e R s m args below meth c B.U B.locs B.cells B.slots ∧ PostX ⟨T.setVm vm₁, locs, cells, slots⟩ (Value.ref b :: argsL).toArray q B ∧
      Steps p.tables e below (T.setTop g) ((B.U.setTop { g with stack := rest }).pushFrame (.throwing q))) := by
  obtain ⟨mk, methM, hnamed, hmethM, hstM, habM⟩ := Cond.instanceMethod_spec hinst
  obtain ⟨methM', cM, hmethM', -, -, -, -, -, -, hsigM⟩ := Cond.code_spec hnamed hcode
  cases hmethM.symm.trans hmethM'
  obtain ⟨c2, r2, m2, q1, q2, q3, q4, kP, hkP, hkPi⟩ := Cond.selects_spec hsel
  cases hcls.symm.trans q1
  cases (State.methodFound?_of_named hnamed hy).symm.trans q2
  cases hnamed.symm.trans q3
  have hselP : selectMethod e.platform s.vm cellB.cls mk = .method mk := by rw [Launch.admits_selectMethod X.admits]; exact q4
  obtain ⟨vm₁, X₁, hstep₁⟩ := X.invokevirtual hexec hown hlink hnamed hmethM hstM hkP hkPi hy (a := b) (cell := cellB) hcell
    (fun z h => by rw [h] at hobj; cases hobj) hselP hmethM habM hkP hkPi (g := g) hg (argsL := argsL) (rest := rest) (hlen _ hsigM) hstack hdg
  rcases hK m meth c ⟨T.setVm vm₁, locs, cells, slots⟩ { g with stack := rest } (.invokevirtual index) mk (Value.ref b :: argsL).toArray X₁ hg hsize hdg hW (X₁.named hnamed) (hpre vm₁ X₁.warmed) with ⟨v, B, X', hpost, hsteps⟩ | ⟨q, B, X', hpost, hsteps⟩
  · exact Or.inl ⟨v, vm₁, B, X₁.warmed, X', hpost, fun target h => hstep₁ _ fun acts => by rw [doInvoke_state]; exact hsteps.trans h⟩
  · exact Or.inr ⟨q, vm₁, B, X₁.warmed, X', hpost, hstep₁ _ fun acts => by rw [doInvoke_state]; exact hsteps⟩
theorem vx_callS (X : Stand p l e R s m args below meth c T locs cells slots) (hexec : p.tables.exec = Jvm.exec) {own : String} {index : Nat} {y : MethodName} {bytes : ByteArray} {maxL : Nat} {ret : Option FieldType}
    (hown : s.vm.findClass own = some m.cls) (hlink : (Cond.methodLink own index y).before args s = true) (hstat : (Cond.static y).before args s = true) (hinit : (Cond.initialized y.cls).before args s = true)
    (hcode : (Cond.code y bytes maxL ret).before args s = true) (hy : y.cls ≠ "java/lang/invoke/MethodHandle" ∧ y.cls ≠ "java/lang/invoke/VarHandle")
    {W9 : Nat} {Pre : Pt → Array Value → Prop} {Post : Pt → Array Value → Option Value → Pt → Prop} {PostX : Pt → Array Value → Addr → Pt → Prop} (hK : vx_Back l R p e below s args y 3 W9 Pre Post PostX)
    {g : JFrame} (hg : g.method = m) (hsize : g.locals.size = c.maxLocals) {argsL rest : List Value} (hlen : ∀ sig, parseMethodDescriptor y.desc = some sig → argsL.length = sig.parameters.length)
    (hstack : g.stack = argsL.reverse ++ rest) (hW : 2 * g.monitorRoom + (rest.map fun v => v.category).sum ≤ W9) (hdg : decode c.code g.pc = .ok (.invokestatic index, 3))
    (hpre : ∀ vm₁, s.WarmedH vm₁ → Pre ⟨T.setVm vm₁, locs, cells, slots⟩ argsL.toArray) :
    (∃ (v : Option Value) (vm₁ : Vm) (B : Pt), s.WarmedH vm₁ ∧ Stand p l e R s m args below meth c B.U B.locs B.cells B.slots ∧ Post ⟨T.setVm vm₁, locs, cells, slots⟩ argsL.toArray v B ∧
      ∀ target, Steps p.tables e below (B.U.setTop { g with pc := g.pc + 3, stack := v.toList ++ rest }) target → Steps p.tables e below (T.setTop g) target) ∨
    (∃ (q : Addr) (vm₁ : Vm) (B : Pt), s.WarmedH vm₁ ∧ Stand p l e R s m args below meth c B.U B.locs B.cells B.slots ∧ PostX ⟨T.setVm vm₁, locs, cells, slots⟩ argsL.toArray q B ∧
      Steps p.tables e below (T.setTop g) ((B.U.setTop { g with stack := rest }).pushFrame (.throwing q))) := by
  obtain ⟨mk, hnamed⟩ := Cond.code_named hcode
  obtain ⟨methM, cM, hmethM, -, -, -, -, -, -, hsigM⟩ := Cond.code_spec hnamed hcode
  have hstatic : methM.isStatic = true := Cond.static_spec hnamed hmethM hstat
  obtain ⟨kP, hkP, -⟩ := className_of_methodNamed hnamed
  have hinitP : kP.init = .initialized := Cond.initialized_spec (findClass_of_methodNamed hnamed) hkP hinit
  obtain ⟨vm₁, X₁, hstep₁⟩ := X.invokestatic hexec hown hlink hnamed hmethM hstatic hkP hinitP hy (g := g) hg (argsL := argsL) (rest := rest) (hlen _ hsigM) hstack hdg
  rcases hK m meth c ⟨T.setVm vm₁, locs, cells, slots⟩ { g with stack := rest } (.invokestatic index) mk argsL.toArray X₁ hg hsize hdg hW (X₁.named hnamed) (hpre vm₁ X₁.warmed) with ⟨v, B, X', hpost, hsteps⟩ | ⟨q, B, X', hpost, hsteps⟩
  · exact Or.inl ⟨v, vm₁, B, X₁.warmed, X', hpost, fun target h => hstep₁ _ fun acts => by rw [doInvoke_state]; exact hsteps.trans h⟩
  · exact Or.inr ⟨q, vm₁, B, X₁.warmed, X', hpost, hstep₁ _ fun acts => by rw [doInvoke_state]; exact hsteps⟩
end Calls
theorem vx_cls {s : State} {T : State} {vm₁ : Vm} {E : String} {k : ClassId} (hW : s.WarmedH vm₁) (h : (T.setVm vm₁).vm.findClass E = some k) : s.vm.findClass E = some k := by
  have h1 : vm₁.findClass E = some k := h
  rw [hW.alike.findClass] at h1
  exact h1
/-- the method's frame g, with q thrown over it -/
def vx_W (p : Program) (l : Launch) (e : Env) (R : Room) (s : State) (m : MethodId) (args : Array Value) (below : List Frame) (meth : Method) (c : Code) (H : Heap) (locs : List Loc) (cells slots : Nat) (Q : State → Prop) (g : JFrame) (q : Addr) : Prop :=
  ∀ T : State, T.heap = H → Stand p l e R s m args below meth c T locs cells slots → ∃ t, Steps p.tables e below ((T.setTop g).pushFrame (.throwing q)) t ∧ Q t
def vx_Run (p : Program) (l : Launch) (e : Env) (R : Room) (s : State) (m : MethodId) (args : Array Value) (below : List Frame) (meth : Method) (c : Code) (H : Heap) (locs : List Loc) (cells slots mc ms : Nat) (g : JFrame) (rest : List Value) (Qa : State → Outcome → State → Prop) (XC : String → State → State → Prop) (free : Addr → Prop) : Prop :=
  ∀ T : State, T.heap = H → Stand p l e R s m args below meth c T locs cells slots →
    (∃ (v : Option Value) (st₀ t T' : State) (L : List Loc), st₀.heap = H ∧ Stand p l e R s m args below meth c T' (locs ++ L) (cells + mc) (slots + ms) ∧ (∀ q ∈ L, free q.base) ∧ T'.heap = t.heap ∧ T'.vm = t.vm ∧ Qa st₀ (.returned v) t ∧
      Goes p e below T g T' { g with pc := g.pc + 3, stack := v.toList ++ rest }) ∨
    (∃ (q : Addr) (st₀ t T' : State) (L : List Loc) (E : String) (ce : Cell), st₀.heap = H ∧ Stand p l e R s m args below meth c T' (locs ++ L) (cells + mc) (slots + ms) ∧ (∀ z ∈ L, free z.base) ∧ T'.heap = t.heap ∧ T'.vm = t.vm ∧ XC E st₀ t ∧ t.heap[q]? = some ce ∧ ce.vm = .none ∧ s.vm.findClass E = some ce.cls ∧
      Steps p.tables e below (T.setTop g) ((T'.setTop { g with stack := rest }).pushFrame (.throwing q)))
def vx_X {S : Type} (px : S → Prop) (B : String → S → State → Prop) (A : Nat → Prop) : String → State → State → Prop := fun E st t => ∃ u : S, px u ∧ B E u t ∧ va_F A st t
section Runs
variable {p : Program} {l : Launch} {e : Env} {R : Room} {s : State} {m : MethodId} {args : Array Value} {below : List Frame} {meth : Method} {c : Code} {H : Heap} {locs : List Loc} {cells slots : Nat}
variable {y : MethodName} {bytes cc : ByteArray} {maxL nL mc ms n index : Nat} {ret : Option FieldType} {ws : List Cond} {rm : Room} {Pc : Array Value → State → Prop} {Qc : Array Value → State → Outcome → State → Prop} {XC : String → State → State → Prop} {free : Addr → Prop} {Ts : List Cond} {own C : String} {b : Addr} {As rest : List Value} {g : JFrame}
theorem vx_callBack (cb : CallB R s args own index y bytes maxL ret ws rm mc ms n) (hM : vx_Met l y ws rm Pc Qc XC mc ms free) (hbl : FrameBlind Pc) : vx_Back l R p e below s args y 3 8 (PreOf R mc ms Pc) (PostOf Qc mc ms free) (vx_Post XC mc ms free) := by
  obtain ⟨hrc, hrs, hfr, hlo, hws, hcw, -, hini, -⟩ := cb
  exact vx_back (bytes := bytes) (maxL := maxL) (ret := ret) hM hbl hrc hrs hfr hlo hws hcw (fun a' U hW => word_at hW (Or.inl (by first | rfl | simp [Cond.onTables, Cond.keeps, Cond.steady])) hini)
theorem vx_runV (S : CallFix p m c cc nL s args Ts own) (hM : vx_Met l y ws rm Pc Qc XC mc ms free) (cw : CallW R s args own C index y bytes maxL ret ws rm mc ms n) (hp : PreV s H C b Pc As)
    (hg : g.method = m) (hn : As.length = n) (hsize : g.locals.size = nL) (hstack : g.stack = As.reverse ++ .ref b :: rest) (hW : 2 * g.monitorRoom + (rest.map fun v => v.category).sum ≤ 8) (hdg : decode cc g.pc = .ok (.invokevirtual index, 3)) (hf : cells + mc ≤ R.cells ∧ slots + ms ≤ R.slots) :
    vx_Run p l e R s m args below meth c H locs cells slots mc ms g rest (Qc (Value.ref b :: As).toArray) XC free := by
  have hK : vx_Back l R p e below s args y 3 8 (PreOf R mc ms Pc) (PostOf Qc mc ms free) (vx_Post XC mc ms free) := vx_callBack cw.1 hM hp.1
  obtain ⟨⟨-, -, -, -, -, -, hcode, -, hy, hlen, hl⟩, hin, hse⟩ := cw
  obtain ⟨hx, hb, hml, ho, -⟩ := S
  obtain ⟨-, ⟨cellB, hcB, hoB, hclB⟩, hPc⟩ := hp
  intro T hT X
  rcases vx_callV X hx (C := C) (bytes := bytes) (maxL := maxL) (ret := ret) ho hl hin hse hcode hy hK (by rw [hT]; exact hcB) hoB hclB hg (hsize.trans hml.symm) (argsL := As) (rest := rest) (fun sig h => hn.trans (hlen sig h)) hstack hW (by rw [hb]; exact hdg)
    (fun vm₁ hW₁ => ⟨hf.1, hf.2, hPc (T.setVm vm₁) hT hW₁⟩) with ⟨v, vm₁, ⟨U', l2, c2, s2⟩, hW₁, X', ⟨g', mk, t, L, e1, e2, hq, h1, hL, h2, h3⟩, st⟩ | ⟨q, vm₁, ⟨U', l2, c2, s2⟩, hW₁, X', ⟨g', mk, t, L, E, ce, e1, e2, hq, hce, hcv, hcl, h1, hL, h2, h3⟩, st⟩
  · dsimp only [Pt.U, Pt.locs, Pt.cells, Pt.slots] at X' e1 e2 h1 h2 h3 st
    subst h1; subst h2; subst h3
    exact Or.inl ⟨v, (T.setVm vm₁).calling g' mk (Value.ref b :: As).toArray, t, U', L, hT, X', hL, e1, e2, hq, st⟩
  · dsimp only [Pt.U, Pt.locs, Pt.cells, Pt.slots] at X' e1 e2 h1 h2 h3 st hcl
    subst h1; subst h2; subst h3
    exact Or.inr ⟨q, (T.setVm vm₁).calling g' mk (Value.ref b :: As).toArray, t, U', L, E, ce, hT, X', hL, e1, e2, hq, hce, hcv, vx_cls hW₁ hcl, st⟩
theorem vx_runS (S : CallFix p m c cc nL s args Ts own) (hM : vx_Met l y ws rm Pc Qc XC mc ms free) (cw : CallB R s args own index y bytes maxL ret ws rm mc ms n ∧ (Cond.static y).before args s = true) (hp : PreS s H Pc As)
    (hg : g.method = m) (hn : As.length = n) (hsize : g.locals.size = nL) (hstack : g.stack = As.reverse ++ rest) (hW : 2 * g.monitorRoom + (rest.map fun v => v.category).sum ≤ 8) (hdg : decode cc g.pc = .ok (.invokestatic index, 3)) (hf : cells + mc ≤ R.cells ∧ slots + ms ≤ R.slots) :
    vx_Run p l e R s m args below meth c H locs cells slots mc ms g rest (Qc As.toArray) XC free := by
  have hK : vx_Back l R p e below s args y 3 8 (PreOf R mc ms Pc) (PostOf Qc mc ms free) (vx_Post XC mc ms free) := vx_callBack cw.1 hM hp.1
  obtain ⟨⟨-, -, -, -, -, -, hcode, hini, hy, hlen, hl⟩, hstt⟩ := cw
  obtain ⟨hx, hb, hml, ho, -⟩ := S
  intro T hT X
  rcases vx_callS X hx (bytes := bytes) (maxL := maxL) (ret := ret) ho hl hstt hini hcode hy hK hg (hsize.trans hml.symm) (argsL := As) (rest := rest) (fun sig h => hn.trans (hlen sig h)) hstack hW (by rw [hb]; exact hdg)
    (fun vm₁ hW₁ => ⟨hf.1, hf.2, hp.2 (T.setVm vm₁) hT hW₁⟩) with ⟨v, vm₁, ⟨U', l2, c2, s2⟩, hW₁, X', ⟨g', mk, t, L, e1, e2, hq, h1, hL, h2, h3⟩, st⟩ | ⟨q, vm₁, ⟨U', l2, c2, s2⟩, hW₁, X', ⟨g', mk, t, L, E, ce, e1, e2, hq, hce, hcv, hcl, h1, hL, h2, h3⟩, st⟩
  · dsimp only [Pt.U, Pt.locs, Pt.cells, Pt.slots] at X' e1 e2 h1 h2 h3 st
    subst h1; subst h2; subst h3
    exact Or.inl ⟨v, (T.setVm vm₁).calling g' mk As.toArray, t, U', L, hT, X', hL, e1, e2, hq, st⟩
  · dsimp only [Pt.U, Pt.locs, Pt.cells, Pt.slots] at X' e1 e2 h1 h2 h3 st hcl
    subst h1; subst h2; subst h3
    exact Or.inr ⟨q, (T.setVm vm₁).calling g' mk As.toArray, t, U', L, E, ce, hT, X', hL, e1, e2, hq, hce, hcv, vx_cls hW₁ hcl, st⟩
end Runs
section Rows
variable {p : Program} {l : Launch} {e : Env} {R : Room} {s : State} {m : MethodId} {args : Array Value} {below : List Frame} {meth : Method} {c : Code} {H : Heap} {locs : List Loc} {cells slots : Nat} {Q : State → Prop}
variable {mc ms : Nat} {free : Addr → Prop} {A0 A1 : Nat → Prop} {H0 : Heap} {a : Array Value} {pc : Nat} {ls : Array Slot} {st0 rest : List Value}
theorem vx_keep {st₀ t T' : State} {L : List Loc} (h0 : st₀.heap = H) (e1 : T'.heap = t.heap) (hS : va_S A0 H0 H locs) (hA : ∀ q, q < H.size → A1 q → A0 q) (hf : ∀ q, free q → A0 q) (hL : ∀ q ∈ L, free q.base) (hF : va_F A1 st₀ t) :
    H.size ≤ T'.heap.size ∧ (∀ q : Nat, q < H.size → ¬ A1 q → T'.heap[q]? = H[q]?) ∧ va_S A0 H0 T'.heap (locs ++ L) := by
  obtain ⟨hz, hk⟩ := hF
  rw [h0] at hz hk
  exact ⟨by rw [e1]; exact hz, fun q h1 h2 => by rw [e1]; exact hk q h1 h2,
    ⟨Nat.le_trans hS.1 (by rw [e1]; exact hz), fun q h1 h2 => by rw [e1, hk q (Nat.lt_of_lt_of_le h1 hS.1) (fun z => h2 (hA q (Nat.lt_of_lt_of_le h1 hS.1) z))]; exact hS.2.1 q h1 h2, fun q hq => by
      rcases List.mem_append.mp hq with h | h
      · exact hS.2.2 q h
      · exact hf _ (hL q h)⟩⟩
theorem vx_calli {S SX : Type} {post : Int32 → S → Prop} {px : SX → Prop} {B : S → State → Prop} {BX : String → SX → State → Prop} {AX : Nat → Prop} (hr : vx_Run p l e R s m args below meth c H locs cells slots mc ms (F0 m pc ls st0) rest (va_Qi post B A1 a) (vx_X px BX AX) free) (hS : va_S A0 H0 H locs) (hA : ∀ q, q < H.size → A1 q → A0 q) (hf : ∀ q, free q → A0 q) (hAX : ∀ q, q < H.size → AX q → A0 q)
    (kx : ∀ (E : String) (ce : Cell) (q9 : Addr) (u : SX) (t : State) (H1 : Heap) (locs1 : List Loc), t.heap = H1 → s.vm.Alike t.vm → px u → BX E u t → H.size ≤ H1.size → (∀ q : Nat, q < H.size → ¬ AX q → H1[q]? = H[q]?) → va_S A0 H0 H1 locs1 → H1[q9]? = some ce → ce.vm = .none → s.vm.findClass E = some ce.cls → vx_W p l e R s m args below meth c H1 locs1 (cells + mc) (slots + ms) Q (F0 m pc ls rest) q9)
    (kk : ∀ (r : Int32) (u : S) (t : State) (H1 : Heap) (locs1 : List Loc), t.heap = H1 → s.vm.Alike t.vm → post r u → B u t → H.size ≤ H1.size → (∀ q : Nat, q < H.size → ¬ A1 q → H1[q]? = H[q]?) → va_S A0 H0 H1 locs1 → W p l e R s m args below meth c H1 locs1 (cells + mc) (slots + ms) Q (F0 m (pc + 3) ls (.int r :: rest))) : W p l e R s m args below meth c H locs cells slots Q (F0 m pc ls st0) := by
  intro T hT X
  rcases hr T hT X with ⟨v, st₀, t, T', L, h0, X', hL, e1, e2, ⟨⟨r, u, hv, hp, hb⟩, hF⟩, st⟩ | ⟨q, st₀, t, T', L, E, ce, h0, X', hL, e1, e2, ⟨u, hp, hb, hF⟩, hce, hcv, hcl, st⟩
  · cases hv
    obtain ⟨k1, k2, k3⟩ := vx_keep h0 e1 hS hA hf hL hF
    obtain ⟨t2, a1, b1⟩ := kk r u t T'.heap (locs ++ L) e1.symm (by rw [← e2]; exact X'.warmed.alike) hp hb k1 k2 k3 T' rfl X'
    exact ⟨t2, st t2 a1, b1⟩
  · obtain ⟨k1, k2, k3⟩ := vx_keep h0 e1 hS hAX hf hL hF
    obtain ⟨t2, a1, b1⟩ := kx E ce q u t T'.heap (locs ++ L) e1.symm (by rw [← e2]; exact X'.warmed.alike) hp hb k1 k2 k3 (by rw [e1]; exact hce) hcv hcl T' rfl X'
    exact ⟨t2, st.trans a1, b1⟩
theorem vx_calll {S SX : Type} {post : Int64 → S → Prop} {px : SX → Prop} {B : S → State → Prop} {BX : String → SX → State → Prop} {AX : Nat → Prop} (hr : vx_Run p l e R s m args below meth c H locs cells slots mc ms (F0 m pc ls st0) rest (va_Ql post B A1 a) (vx_X px BX AX) free) (hS : va_S A0 H0 H locs) (hA : ∀ q, q < H.size → A1 q → A0 q) (hf : ∀ q, free q → A0 q) (hAX : ∀ q, q < H.size → AX q → A0 q)
    (kx : ∀ (E : String) (ce : Cell) (q9 : Addr) (u : SX) (t : State) (H1 : Heap) (locs1 : List Loc), t.heap = H1 → s.vm.Alike t.vm → px u → BX E u t → H.size ≤ H1.size → (∀ q : Nat, q < H.size → ¬ AX q → H1[q]? = H[q]?) → va_S A0 H0 H1 locs1 → H1[q9]? = some ce → ce.vm = .none → s.vm.findClass E = some ce.cls → vx_W p l e R s m args below meth c H1 locs1 (cells + mc) (slots + ms) Q (F0 m pc ls rest) q9)
    (kk : ∀ (r : Int64) (u : S) (t : State) (H1 : Heap) (locs1 : List Loc), t.heap = H1 → s.vm.Alike t.vm → post r u → B u t → H.size ≤ H1.size → (∀ q : Nat, q < H.size → ¬ A1 q → H1[q]? = H[q]?) → va_S A0 H0 H1 locs1 → W p l e R s m args below meth c H1 locs1 (cells + mc) (slots + ms) Q (F0 m (pc + 3) ls (.long r :: rest))) : W p l e R s m args below meth c H locs cells slots Q (F0 m pc ls st0) := by
  intro T hT X
  rcases hr T hT X with ⟨v, st₀, t, T', L, h0, X', hL, e1, e2, ⟨⟨r, u, hv, hp, hb⟩, hF⟩, st⟩ | ⟨q, st₀, t, T', L, E, ce, h0, X', hL, e1, e2, ⟨u, hp, hb, hF⟩, hce, hcv, hcl, st⟩
  · cases hv
    obtain ⟨k1, k2, k3⟩ := vx_keep h0 e1 hS hA hf hL hF
    obtain ⟨t2, a1, b1⟩ := kk r u t T'.heap (locs ++ L) e1.symm (by rw [← e2]; exact X'.warmed.alike) hp hb k1 k2 k3 T' rfl X'
    exact ⟨t2, st t2 a1, b1⟩
  · obtain ⟨k1, k2, k3⟩ := vx_keep h0 e1 hS hAX hf hL hF
    obtain ⟨t2, a1, b1⟩ := kx E ce q u t T'.heap (locs ++ L) e1.symm (by rw [← e2]; exact X'.warmed.alike) hp hb k1 k2 k3 (by rw [e1]; exact hce) hcv hcl T' rfl X'
    exact ⟨t2, st.trans a1, b1⟩
theorem vx_callf {S SX : Type} {post : UInt32 → S → Prop} {px : SX → Prop} {B : S → State → Prop} {BX : String → SX → State → Prop} {AX : Nat → Prop} (hr : vx_Run p l e R s m args below meth c H locs cells slots mc ms (F0 m pc ls st0) rest (va_Qf post B A1 a) (vx_X px BX AX) free) (hS : va_S A0 H0 H locs) (hA : ∀ q, q < H.size → A1 q → A0 q) (hf : ∀ q, free q → A0 q) (hAX : ∀ q, q < H.size → AX q → A0 q)
    (kx : ∀ (E : String) (ce : Cell) (q9 : Addr) (u : SX) (t : State) (H1 : Heap) (locs1 : List Loc), t.heap = H1 → s.vm.Alike t.vm → px u → BX E u t → H.size ≤ H1.size → (∀ q : Nat, q < H.size → ¬ AX q → H1[q]? = H[q]?) → va_S A0 H0 H1 locs1 → H1[q9]? = some ce → ce.vm = .none → s.vm.findClass E = some ce.cls → vx_W p l e R s m args below meth c H1 locs1 (cells + mc) (slots + ms) Q (F0 m pc ls rest) q9)
    (kk : ∀ (r : UInt32) (u : S) (t : State) (H1 : Heap) (locs1 : List Loc), t.heap = H1 → s.vm.Alike t.vm → post r u → B u t → H.size ≤ H1.size → (∀ q : Nat, q < H.size → ¬ A1 q → H1[q]? = H[q]?) → va_S A0 H0 H1 locs1 → W p l e R s m args below meth c H1 locs1 (cells + mc) (slots + ms) Q (F0 m (pc + 3) ls (.float r :: rest))) : W p l e R s m args below meth c H locs cells slots Q (F0 m pc ls st0) := by
  intro T hT X
  rcases hr T hT X with ⟨v, st₀, t, T', L, h0, X', hL, e1, e2, ⟨⟨r, u, hv, hp, hb⟩, hF⟩, st⟩ | ⟨q, st₀, t, T', L, E, ce, h0, X', hL, e1, e2, ⟨u, hp, hb, hF⟩, hce, hcv, hcl, st⟩
  · cases hv
    obtain ⟨k1, k2, k3⟩ := vx_keep h0 e1 hS hA hf hL hF
    obtain ⟨t2, a1, b1⟩ := kk r u t T'.heap (locs ++ L) e1.symm (by rw [← e2]; exact X'.warmed.alike) hp hb k1 k2 k3 T' rfl X'
    exact ⟨t2, st t2 a1, b1⟩
  · obtain ⟨k1, k2, k3⟩ := vx_keep h0 e1 hS hAX hf hL hF
    obtain ⟨t2, a1, b1⟩ := kx E ce q u t T'.heap (locs ++ L) e1.symm (by rw [← e2]; exact X'.warmed.alike) hp hb k1 k2 k3 (by rw [e1]; exact hce) hcv hcl T' rfl X'
    exact ⟨t2, st.trans a1, b1⟩
theorem vx_calld {S SX : Type} {post : UInt64 → S → Prop} {px : SX → Prop} {B : S → State → Prop} {BX : String → SX → State → Prop} {AX : Nat → Prop} (hr : vx_Run p l e R s m args below meth c H locs cells slots mc ms (F0 m pc ls st0) rest (va_Qd post B A1 a) (vx_X px BX AX) free) (hS : va_S A0 H0 H locs) (hA : ∀ q, q < H.size → A1 q → A0 q) (hf : ∀ q, free q → A0 q) (hAX : ∀ q, q < H.size → AX q → A0 q)
    (kx : ∀ (E : String) (ce : Cell) (q9 : Addr) (u : SX) (t : State) (H1 : Heap) (locs1 : List Loc), t.heap = H1 → s.vm.Alike t.vm → px u → BX E u t → H.size ≤ H1.size → (∀ q : Nat, q < H.size → ¬ AX q → H1[q]? = H[q]?) → va_S A0 H0 H1 locs1 → H1[q9]? = some ce → ce.vm = .none → s.vm.findClass E = some ce.cls → vx_W p l e R s m args below meth c H1 locs1 (cells + mc) (slots + ms) Q (F0 m pc ls rest) q9)
    (kk : ∀ (r : UInt64) (u : S) (t : State) (H1 : Heap) (locs1 : List Loc), t.heap = H1 → s.vm.Alike t.vm → post r u → B u t → H.size ≤ H1.size → (∀ q : Nat, q < H.size → ¬ A1 q → H1[q]? = H[q]?) → va_S A0 H0 H1 locs1 → W p l e R s m args below meth c H1 locs1 (cells + mc) (slots + ms) Q (F0 m (pc + 3) ls (.double r :: rest))) : W p l e R s m args below meth c H locs cells slots Q (F0 m pc ls st0) := by
  intro T hT X
  rcases hr T hT X with ⟨v, st₀, t, T', L, h0, X', hL, e1, e2, ⟨⟨r, u, hv, hp, hb⟩, hF⟩, st⟩ | ⟨q, st₀, t, T', L, E, ce, h0, X', hL, e1, e2, ⟨u, hp, hb, hF⟩, hce, hcv, hcl, st⟩
  · cases hv
    obtain ⟨k1, k2, k3⟩ := vx_keep h0 e1 hS hA hf hL hF
    obtain ⟨t2, a1, b1⟩ := kk r u t T'.heap (locs ++ L) e1.symm (by rw [← e2]; exact X'.warmed.alike) hp hb k1 k2 k3 T' rfl X'
    exact ⟨t2, st t2 a1, b1⟩
  · obtain ⟨k1, k2, k3⟩ := vx_keep h0 e1 hS hAX hf hL hF
    obtain ⟨t2, a1, b1⟩ := kx E ce q u t T'.heap (locs ++ L) e1.symm (by rw [← e2]; exact X'.warmed.alike) hp hb k1 k2 k3 (by rw [e1]; exact hce) hcv hcl T' rfl X'
    exact ⟨t2, st.trans a1, b1⟩
theorem vx_callv {S SX : Type} {post : S → Prop} {px : SX → Prop} {B : S → State → Prop} {BX : String → SX → State → Prop} {AX : Nat → Prop} (hr : vx_Run p l e R s m args below meth c H locs cells slots mc ms (F0 m pc ls st0) rest (va_Qv post B A1 a) (vx_X px BX AX) free) (hS : va_S A0 H0 H locs) (hA : ∀ q, q < H.size → A1 q → A0 q) (hf : ∀ q, free q → A0 q) (hAX : ∀ q, q < H.size → AX q → A0 q)
    (kx : ∀ (E : String) (ce : Cell) (q9 : Addr) (u : SX) (t : State) (H1 : Heap) (locs1 : List Loc), t.heap = H1 → s.vm.Alike t.vm → px u → BX E u t → H.size ≤ H1.size → (∀ q : Nat, q < H.size → ¬ AX q → H1[q]? = H[q]?) → va_S A0 H0 H1 locs1 → H1[q9]? = some ce → ce.vm = .none → s.vm.findClass E = some ce.cls → vx_W p l e R s m args below meth c H1 locs1 (cells + mc) (slots + ms) Q (F0 m pc ls rest) q9)
    (kk : ∀ (u : S) (t : State) (H1 : Heap) (locs1 : List Loc), t.heap = H1 → s.vm.Alike t.vm → post u → B u t → H.size ≤ H1.size → (∀ q : Nat, q < H.size → ¬ A1 q → H1[q]? = H[q]?) → va_S A0 H0 H1 locs1 → W p l e R s m args below meth c H1 locs1 (cells + mc) (slots + ms) Q (F0 m (pc + 3) ls (rest))) : W p l e R s m args below meth c H locs cells slots Q (F0 m pc ls st0) := by
  intro T hT X
  rcases hr T hT X with ⟨v, st₀, t, T', L, h0, X', hL, e1, e2, ⟨⟨u, hv, hp, hb⟩, hF⟩, st⟩ | ⟨q, st₀, t, T', L, E, ce, h0, X', hL, e1, e2, ⟨u, hp, hb, hF⟩, hce, hcv, hcl, st⟩
  · cases hv
    obtain ⟨k1, k2, k3⟩ := vx_keep h0 e1 hS hA hf hL hF
    obtain ⟨t2, a1, b1⟩ := kk u t T'.heap (locs ++ L) e1.symm (by rw [← e2]; exact X'.warmed.alike) hp hb k1 k2 k3 T' rfl X'
    exact ⟨t2, st t2 a1, b1⟩
  · obtain ⟨k1, k2, k3⟩ := vx_keep h0 e1 hS hAX hf hL hF
    obtain ⟨t2, a1, b1⟩ := kx E ce q u t T'.heap (locs ++ L) e1.symm (by rw [← e2]; exact X'.warmed.alike) hp hb k1 k2 k3 (by rw [e1]; exact hce) hcv hcl T' rfl X'
    exact ⟨t2, st.trans a1, b1⟩
end Rows
section Ends
variable {p : Program} {l : Launch} {e : Env} {R : Room} {s : State} {m : MethodId} {args : Array Value} {below : List Frame} {meth : Method} {c : Code} {H : Heap} {locs : List Loc} {cells slots : Nat} {Q : State → Prop}
variable {mc ms : Nat} {free : Addr → Prop} {A0 A1 : Nat → Prop} {H0 : Heap} {a : Array Value} {ls : Array Slot} {st0 rest : List Value}
variable {Qc : Array Value → State → Outcome → State → Prop} {XC : String → State → State → Prop}
/-- what a body that may throw owes at its end -/
def vx_MQ (below : List Frame) (Qc : Array Value → State → Outcome → State → Prop) (XC : String → State → State → Prop) (a : Array Value) (s : State) (mc ms : Nat) (free : Addr → Prop) : State → Prop := fun t =>
  ∃ o, t.status = .running ∧ Ended t below o ∧ vx_Q Qc XC mc ms free a s o t
theorem vx_ret {g : JFrame} {mc ms : Nat} (k : W p l e R s m args below meth c H locs cells slots (MQ below Qc args s mc ms free) g) : W p l e R s m args below meth c H locs cells slots (vx_MQ below Qc XC args s mc ms free) g := by
  intro T hT X
  obtain ⟨t, a1, o, b1, b2, b3, b4⟩ := k T hT X
  exact ⟨t, a1, o, b1, b2, Or.inl ⟨b3, b4⟩⟩
/-- not caught here: it goes on to the caller -/
theorem vx_widen {g : JFrame} {q : Addr} {k n : Nat} (h1 : cells ≤ k) (h2 : slots ≤ n) (kk : vx_W p l e R s m args below meth c H locs k n Q g q) : vx_W p l e R s m args below meth c H locs cells slots Q g q := fun T hT X => kk T hT (stand_widen X h1 h2)
theorem vx_out {pc : Nat} {E : String} {ce : Cell} {q : Addr} {mc ms : Nat} (hout : ∀ x ∈ c.exceptionTable.toList, covers x pc = false) (hlocks : meth.locks = false) (hcell : H[q]? = some ce) (hv : ce.vm = .none) (hcl : s.vm.findClass E = some ce.cls)
    (hx : ∀ t : State, t.heap = H → s.vm.Alike t.vm → XC E s t) (hf : ∀ z ∈ locs, free z.base) (hc : cells ≤ mc) (hs : slots ≤ ms) :
    vx_W p l e R s m args below meth c H locs cells slots (vx_MQ below Qc XC args s mc ms free) (F0 m pc ls rest) q := by
  intro T hT X
  obtain ⟨st1, hrun, hend, hW, hsm⟩ := X.leaveThrown q (g := F0 m pc ls rest) rfl rfl rfl hout hlocks
  have hcell9 : (T.setFrames (.throwing q :: below)).heap[q]? = some ce := by
    show T.heap[q]? = some ce
    rw [hT]; exact hcell
  exact ⟨_, st1, .threw q, hrun, hend, Or.inr ⟨q, rfl, E, ce, locs, hx _ hT hW.alike, hcell9, hv, hcl, hW, hsm.mono hc hs, hf⟩⟩
theorem vx_frame {U : State} {k n : Nat} (h : s.sameButNew ({ U with vm := s.vm } : State) locs k n) : s.heap.size ≤ U.heap.size ∧ ∀ q : Nat, q < s.heap.size → (∀ z ∈ locs, z.base ≠ q) → U.heap[q]? = s.heap[q]? := by
  obtain ⟨-, h2, -, -, -, h6⟩ := h
  refine ⟨h2, fun q hq hz => ?_⟩
  obtain ⟨c9, e1, e2, e3, e4⟩ := h6 q _ (Array.getElem?_eq_getElem hq)
  have hs : c9.slots = (s.heap[q]).slots := Array.ext_getElem? fun i => e4 i fun hm => hz _ hm rfl
  have h9 : c9 = s.heap[q] := by
    rw [hs] at e2
    exact e2
  have e5 : U.heap[q]? = some c9 := e1
  rw [e5, h9, Array.getElem?_eq_getElem hq]
/-- the words of a throw but the four that speak of the heap -/
def vx_no (w : Cond) : Bool := decide (w ≠ .isRef (.static Bundle.tN "UNASSIGNED_STACK" Bundle.steD)) && decide (w ≠ .isRef (.static Bundle.tN "SUPPRESSED_SENTINEL" Bundle.listD)) && decide (w ≠ .laysStatic Bundle.tN "UNASSIGNED_STACK" Bundle.steD) && decide (w ≠ .laysStatic Bundle.tN "SUPPRESSED_SENTINEL" Bundle.listD)
def vx_at0 (own : String) (ic : Nat) (X : String) (names : List String) : List Cond := (Bundle.ownAtoms0 own ic X names).filter vx_no
def vx_atS (own : String) (ic : Nat) (X : String) (names : List String) : List Cond := (Bundle.ownAtoms own ic X names).filter vx_no
/-- a word that the tables alone decide, or a good one -/
def vx_ot (w : Cond) : Bool := w.onTables || goodWord w
theorem vx_ot_at {args a' : Array Value} {s U : State} {w : Cond} (hW : s.WarmedH U.vm) (hvm : s.vm = U.vm) (hg : vx_ot w = true) (h : w.before args s = true) : w.before a' U = true := by
  simp only [vx_ot, Bool.or_eq_true] at hg
  rcases hg with hg | hg
  · exact va_tabs hg hvm h
  · exact word_at hW (good_of_word hg) h
/-- a list's words: the good ones out of the method's own list, the others by premises of their own -/
theorem vx_hat {args : Array Value} {s : State} {L B : List Cond} (h1 : ∀ w ∈ L.filter goodWord, w.before args s = true) (h2 : ∀ w ∈ L.filter (fun w => !goodWord w), w ∈ B) (h3 : ∀ w ∈ B, w.before args s = true) : ∀ w ∈ L, w.before args s = true := by
  intro w hw
  by_cases g : goodWord w = true
  · exact h1 w (List.mem_filter.mpr ⟨hw, g⟩)
  · refine h3 w (h2 w (List.mem_filter.mpr ⟨hw, ?_⟩))
    show (!goodWord w) = true
    cases hgw : goodWord w
    · rfl
    · exact absurd hgw g
theorem vx_c {args : Array Value} {s : State} {w : Cond} {B : List Cond} (h : w.before args s = true) (t : ∀ w ∈ B, w.before args s = true) : ∀ w' ∈ w :: B, w'.before args s = true := fun w' h' => (List.mem_cons.mp h').elim (fun e => by rw [e]; exact h) (t w')
theorem vx_n {args : Array Value} {s : State} : ∀ w ∈ ([] : List Cond), w.before args s = true := fun _ h => nomatch h
theorem vx_own {args : Array Value} {s : State} {L : List Cond} (h1 : ∀ w ∈ L.filter vx_no, w.before args s = true)
    (hU : (Cond.isRef (.static Bundle.tN "UNASSIGNED_STACK" Bundle.steD)).before args s = true) (hN : (Cond.isRef (.static Bundle.tN "SUPPRESSED_SENTINEL" Bundle.listD)).before args s = true)
    (lU : (Cond.laysStatic Bundle.tN "UNASSIGNED_STACK" Bundle.steD).before args s = true) (lN : (Cond.laysStatic Bundle.tN "SUPPRESSED_SENTINEL" Bundle.listD).before args s = true) : ∀ w ∈ L, w.before args s = true := by
  intro w hw
  by_cases e1 : w = .isRef (.static Bundle.tN "UNASSIGNED_STACK" Bundle.steD)
  · rw [e1]; exact hU
  · by_cases e2 : w = .isRef (.static Bundle.tN "SUPPRESSED_SENTINEL" Bundle.listD)
    · rw [e2]; exact hN
    · by_cases e3 : w = .laysStatic Bundle.tN "UNASSIGNED_STACK" Bundle.steD
      · rw [e3]; exact lU
      · by_cases e4 : w = .laysStatic Bundle.tN "SUPPRESSED_SENTINEL" Bundle.listD
        · rw [e4]; exact lN
        · exact h1 w (List.mem_filter.mpr ⟨hw, by unfold vx_no; rw [decide_eq_true e1, decide_eq_true e2, decide_eq_true e3, decide_eq_true e4]; rfl⟩)
/-- where a static field lies, its class's statics cell in H -/
def vx_L (C n d : String) (A : Nat → Prop) (U : State) (H : Heap) : Prop := ∃ (c : ClassId) (k : Class) (i : Nat) (f : Field) (a : Nat) (cell : Cell), U.vm.findClass C = some c ∧ U.fieldFound? C n d = some (c, k, i, f) ∧ f.isStatic = true ∧ k.statics = some a ∧ H[a]? = some cell ∧ cell.vm.isStatics = true ∧ cell.cls = c ∧ f.slot < cell.slots.size ∧ k.staticTypes[f.slot]? = some f.type ∧ ¬ A a
theorem vx_L.moved {C n d : String} {A : Nat → Prop} {u U : State} {H : Heap} (hvm : u.vm.Alike U.vm) (h : vx_L C n d A u H) : vx_L C n d A U H := by
  obtain ⟨c, k, i, f, a, cell, h1, h2, h3, h4, h5, h6, h7, h8, h9, h10⟩ := h
  obtain ⟨k', hi', he⟩ := State.fieldFound?_setVm hvm h2
  exact ⟨c, k', i, f, a, cell, by rw [hvm.findClass]; exact h1, hi', h3, by rw [he]; exact h4, h5, h6, h7, h8, by rw [he]; exact h9, h10⟩
theorem vx_L.kept {C n d : String} {A : Nat → Prop} {U : State} {H H1 : Heap} (h : vx_L C n d A U H) (hq : ∀ a : Nat, a < H.size → ¬ A a → H1[a]? = H[a]?) : vx_L C n d A U H1 := by
  obtain ⟨c, k, i, f, a, cell, h1, h2, h3, h4, h5, h6, h7, h8, h9, h10⟩ := h
  exact ⟨c, k, i, f, a, cell, h1, h2, h3, h4, by rw [hq a (Array.getElem?_eq_some_iff.mp h5).1 h10]; exact h5, h6, h7, h8, h9, h10⟩
theorem vx_L.narrow {C n d : String} {A B : Nat → Prop} {U : State} {H : Heap} (h : vx_L C n d A U H) (hAB : ∀ q, B q → A q) : vx_L C n d B U H := by
  obtain ⟨c, k, i, f, a, cell, h1, h2, h3, h4, h5, h6, h7, h8, h9, h10⟩ := h
  exact ⟨c, k, i, f, a, cell, h1, h2, h3, h4, h5, h6, h7, h8, h9, fun z => h10 (hAB _ z)⟩
theorem vx_L.word {C n d : String} {A : Nat → Prop} {s : State} {args : Array Value} (h : vx_L C n d A s s.heap) : (Cond.laysStatic C n d).before args s = true := by
  obtain ⟨c, k, i, f, a, cell, h1, h2, h3, h4, h5, h6, h7, h8, h9, -⟩ := h
  show (Cond.laysStatic C n d).holds args s none s [] = true
  exact Cond.laysStatic_of h1 h2 h3 h4 h5 h6 h7 h8 h9
/-- .. and what it holds: null or some reference -/
def vx_Zq (C n d : String) (A : Nat → Prop) (U : State) (H : Heap) : Prop := va_Zq C n d A U H ∧ vx_L C n d A U H
theorem vx_Zq.moved {C n d : String} {A : Nat → Prop} {u U : State} {H : Heap} (hvm : u.vm.Alike U.vm) (h : vx_Zq C n d A u H) : vx_Zq C n d A U H := ⟨va_Zq.moved hvm h.1, vx_L.moved hvm h.2⟩
theorem vx_Zq.kept {C n d : String} {A : Nat → Prop} {U : State} {H H1 : Heap} (h : vx_Zq C n d A U H) (hq : ∀ a : Nat, a < H.size → ¬ A a → H1[a]? = H[a]?) : vx_Zq C n d A U H1 := ⟨va_Zq.kept h.1 hq, vx_L.kept h.2 hq⟩
theorem vx_Zq.narrow {C n d : String} {A B : Nat → Prop} {U : State} {H : Heap} (h : vx_Zq C n d A U H) (hAB : ∀ q, B q → A q) : vx_Zq C n d B U H := ⟨va_Zq.narrow h.1 hAB, vx_L.narrow h.2 hAB⟩
theorem vx_Zqof {args : Array Value} {s : State} {C n d : String} {A : Nat → Prop} (hl : (Cond.laysStatic C n d).before args s = true) (hini : (Cond.initialized C).before args s = true) (h : (Cond.isRef (.static C n d)).before args s = true) (hA : ∀ a : Nat, a < s.heap.size → ¬ A a) : vx_Zq C n d A s s.heap := by
  refine ⟨va_Zqof hl hini h hA, ?_⟩
  obtain ⟨c, k, i, f, a, cell, h1, h2, h3, h4, h5, h6, h7, h8, h9⟩ := Cond.laysStatic_spec hl
  exact ⟨c, k, i, f, a, cell, h1, h2, h3, h4, h5, h6, h7, h8, h9, hA a (Array.getElem?_eq_some_iff.mp h5).1⟩
theorem vx_isRef {C n d : String} {v : Value} {A : Nat → Prop} {s : State} {args : Array Value} (h : va_Z C n d v A s s.heap) (hv : v.isRef = true) : (Cond.isRef (.static C n d)).before args s = true := by
  obtain ⟨cf, kf, fi, f, a, cell, h1, h2, h3, h4, h5, h6, h7, -⟩ := h
  have he : (Term.static C n d).eval args s none [] s = some v := by
    simp [Term.eval, State.fieldNamed?, h1, h2, h4, h5, h6, h7]
  simp only [Cond.before, Cond.holds, Cond.value, he]
  cases v <;> simp_all [Value.isRef]
theorem vx_isRefq {C n d : String} {A : Nat → Prop} {s : State} {args : Array Value} (h : va_Zq C n d A s s.heap) : (Cond.isRef (.static C n d)).before args s = true := by
  rcases h with h | ⟨t, h⟩
  · exact vx_isRef h rfl
  · exact vx_isRef h rfl
/-- the same frame, seen from here: as if the method were called anew in this heap -/
theorem vx_rebase {T : State} (X : Stand p l e R s m args below meth c T locs cells slots) {R' : Room} (hf : R'.frames ≤ R.frames) (hl : R'.locals ≤ R.locals) (hc : cells + R'.cells ≤ R.cells) (hs : slots + R'.slots ≤ R.slots) :
    Stand p l e R' ((T.setVm s.vm).setFrames (.invoking m args :: below)) m args below meth c T [] 0 0 := by
  have htop : (T.setVm s.vm).topJava?.isSome := X.here.top
  have hF : ((T.setVm s.vm).setFrames (.invoking m args :: below)).frames = .invoking m args :: below := State.frames_setFrames _ (State.cur_lt_of_top htop)
  obtain ⟨g₀, hg0⟩ := Option.isSome_iff_exists.mp htop
  obtain ⟨r, hr⟩ := State.topJava?_eq_some.mp hg0
  have hl9 : e.platform.stackLimits (T.setVm s.vm).me = e.platform.stackLimits s.me := X.limits
  have hb9 : (T.setVm s.vm).me.stackBytes = s.me.stackBytes := X.bytes
  refine ⟨X.admits, X.cas, X.clock, hF, ?_, X.hears, X.method, X.code, X.here, X.tail, X.warmed, ?_, ?_, ?_⟩
  · have h := X.room
    have hU : ((T.setVm s.vm).setFrames (.invoking m args :: below)).localsInUse = s.localsInUse := by
      rw [State.localsInUse_invoking hF (meth := meth) (c := c) X.method X.code, State.localsInUse_invoking X.frames X.method X.code]
    simp only [State.hasRoom, Bool.and_eq_true, decide_eq_true_eq] at h ⊢
    obtain ⟨⟨⟨⟨h1, h2, h3, h4, h5, h6⟩, h7⟩, h8⟩, h9⟩ := h
    rw [X.frames, List.length_cons] at h2 h3
    have q1 := X.heapSize
    have q2 := X.used
    simp only [hF, hU, List.length_cons, State.stackLimits_setFrames, State.stackBytes_setFrames, hl9, hb9]
    refine ⟨⟨⟨⟨by omega, by omega, by omega, by omega, by omega, h6⟩, ?_⟩, ?_⟩, X.book⟩
    · show T.heap.size + R'.cells ≤ e.platform.maxCells
      omega
    · show T.slotsUsed + R'.slots ≤ e.platform.maxSlots
      omega
  · rw [State.stackLimits_setFrames]; rfl
  · rw [State.stackBytes_setFrames]; rfl
  · refine ⟨?_, Nat.le_refl _, Nat.le_refl _, ?_, ?_, fun a c9 h9 => ⟨c9, h9, rfl, rfl, fun _ _ => rfl⟩⟩
    · obtain ⟨t, ht, -⟩ := State.frames_cons hr
      show T.setVm s.vm = { ((T.setVm s.vm).setFrames (.invoking m args :: below)).setFrames (T.setVm s.vm).frames with heap := T.heap, slotsUsed := T.slotsUsed }
      rw [State.setFrames_setFrames, State.setFrames_self ht]
      rfl
    · show T.slotsUsed = T.slotsUsed + ((T.heap.toList.drop T.heap.size).map (·.slots.size)).sum
      rw [List.drop_eq_nil_of_le (Nat.le_of_eq Array.length_toList)]
      rfl
    · show ((T.heap.toList.drop T.heap.size).map (·.slots.size)).sum ≤ 0
      rw [List.drop_eq_nil_of_le (Nat.le_of_eq Array.length_toList)]
      exact Nat.le_refl _
/-- 'throw new E()': new; dup; invokespecial; athrow -/
theorem vx_throw0 {cc : ByteArray} {pc : Nat} (hexec : p.tables.exec = Jvm.exec) (hb : c.code = cc) (hl : l.stackTraces = false) {own cls : String} {names : List String} {ik ic mc ms : Nat} {A : Nat → Prop}
    (hown : s.vm.findClass own = some m.cls) (hcls : Bundle.fit cls = true) (hnames : ∀ n ∈ names, Bundle.fit n = true)
    (hk : (Cond.classLink own ik cls).before args s = true) (hini : (Cond.initialized cls).before args s = true) (hat : ∀ w ∈ vx_at0 own ic cls names, w.before args s = true)
    (hgood : ∀ w ∈ Cond.classLink own ik cls :: Cond.initialized cls :: vx_at0 own ic cls names, vx_ot w = true)
    (hU : vx_Zq Bundle.tN "UNASSIGNED_STACK" Bundle.steD A s s.heap) (hN : vx_Zq Bundle.tN "SUPPRESSED_SENTINEL" Bundle.listD A s s.heap) (hS : va_S A s.heap H locs) (hsize : ls.size = c.maxLocals)
    (d0 : decode cc pc = .ok (.new ik, 3)) (d3 : decode cc (pc + 3) = .ok (.dup, 1)) (d4 : decode cc (pc + 4) = .ok (.invokespecial ic, 3)) (d7 : decode cc (pc + 7) = .ok (.athrow, 1))
    (hout : ∀ x ∈ c.exceptionTable.toList, covers x (pc + 7) = false)
    (hRframes : names.length + 3 < R.frames) (hRlocals : (rest.map fun v => v.category).sum + (13 * (names.length + 1) + 42) ≤ R.locals) (hRcells : cells + 1 ≤ R.cells) (hRslots : slots + 6 ≤ R.slots) (hlocks : meth.locks = false)
    (hx : ∀ t : State, s.vm.Alike t.vm → H.size ≤ t.heap.size → (∀ q : Nat, q < H.size → t.heap[q]? = H[q]?) → XC cls s t)
    (hf : ∀ z ∈ locs, free z.base) (hc : cells + 1 ≤ mc) (hs : slots + 6 ≤ ms) :
    W p l e R s m args below meth c H locs cells slots (vx_MQ below Qc XC args s mc ms free) (F0 m pc ls rest) := by
  intro T hT X
  have htr : e.platform.stackTraces = false := (show e.platform.stackTraces = l.stackTraces by rw [X.admits.platform]).trans hl
  have Y := vx_rebase X (R' := { frames := R.frames, locals := R.locals, cells := 1, slots := 6 }) (Nat.le_refl _) (Nat.le_refl _) hRcells hRslots
  obtain ⟨s', hA⟩ : ∃ z, z = (T.setVm s.vm).setFrames (.invoking m args :: below) := ⟨_, rfl⟩
  rw [← hA] at Y
  have hvm : s'.vm = s.vm := by rw [hA]; rfl
  have hhp : s'.heap = H := by rw [hA]; exact hT
  have hW0 : s.WarmedH s'.vm := by rw [hvm]; exact State.WarmedH.refl s
  have hat' : ∀ w ∈ vx_at0 own ic cls names, w.before args s' = true := fun w hw => vx_ot_at hW0 hvm.symm (hgood w (List.mem_cons_of_mem _ (List.mem_cons_of_mem _ hw))) (hat w hw)
  have hk' : (Cond.classLink own ik cls).before args s' = true := vx_ot_at hW0 hvm.symm (hgood _ List.mem_cons_self) hk
  have hini' : (Cond.initialized cls).before args s' = true := vx_ot_at hW0 hvm.symm (hgood _ (List.mem_cons_of_mem _ List.mem_cons_self)) hini
  have hU' : vx_Zq Bundle.tN "UNASSIGNED_STACK" Bundle.steD A s' s'.heap := by rw [hhp]; exact vx_Zq.moved hW0.alike (hU.kept hS.2.1)
  have hN' : vx_Zq Bundle.tN "SUPPRESSED_SENTINEL" Bundle.listD A s' s'.heap := by rw [hhp]; exact vx_Zq.moved hW0.alike (hN.kept hS.2.1)
  have h : ∀ w ∈ Bundle.ownAtoms0 own ic cls names, w.before args s' = true := vx_own hat' (vx_isRefq hU'.1) (vx_isRefq hN'.1) hU'.2.word hN'.2.word
  have hown' : s'.vm.findClass own = some m.cls := by rw [hvm]; exact hown
  have hins : (Cond.instantiable cls 6).before args s' = true := h _ (by simp [Bundle.ownAtoms0])
  obtain ⟨vm₁, cX, kX, hfX, hkX, -, -, X₁, st1⟩ := Y.newCold hexec (own := own) (C := cls) (index := ik) (n := 6) hown' hk' hins hini'
    (g := F0 m pc ls rest) rfl (by rw [hb]; exact d0) (Nat.le_refl _) (Nat.le_refl _)
  generalize hT1 : (T.setVm vm₁).pushCell { cls := cX, slots := kX.instanceTypes.map defaultValue, vm := .none } = T1 at X₁ st1
  have hcat : (Value.ref T.heap.size).category = 1 := rfl
  have hcellA : T1.heap[T.heap.size]? = some (freshCell cX kX) := by rw [← hT1]; exact State.heap_pushCell_size _ _
  have d3' : decode c.code (pc + 3) = .ok (.dup, 1) := by rw [hb]; exact d3
  obtain ⟨U, hsteps, hrun, hend, hW, hsame, ce, hce, hO⟩ := X₁.ctorThrow0 hexec htr (own := own) (cls := cls) (names := names) (ic := ic) hown' hcls hnames h (fun x hx => nomatch hx) hfX hkX hcellA (by rw [hhp, hT]; exact Nat.le_refl _)
    (g := { method := m, pc := pc + 4, locals := ls, stack := .ref T.heap.size :: .ref T.heap.size :: rest, locked := none }) rfl hsize rfl rfl (rest := rest) rfl
    (by rw [hb]; exact d4) (by rw [hb]; exact d7) hout hRframes (by simp only [List.map_cons, List.sum_cons, hcat]; omega) hlocks
  obtain ⟨f1, f2⟩ := vx_frame hsame
  rw [hhp] at f1 f2
  have hWs : s.WarmedH U.vm := State.WarmedH.trans hW0 hW
  have hcl : s.vm.findClass cls = some ce.cls := by
    have h9 := hO.cls
    rw [hvm] at h9
    exact h9
  have hall : s.sameButNew ({ U with vm := s.vm } : State) locs mc ms := by
    subst hA
    obtain ⟨e1, e2⟩ := hsame
    rw [State.setFrames_setFrames] at e1
    have h2 : (T.setVm s.vm).sameButNew ({ U with vm := s.vm } : State) [] (0 + 1) (0 + 6) := ⟨e1, e2⟩
    have h3 := X.same.trans h2
    rw [List.append_nil] at h3
    exact h3.mono hc hs
  refine ⟨U, ?_, .threw T.heap.size, hrun, hend, Or.inr ⟨T.heap.size, rfl, cls, ce, locs, hx U hWs.alike f1 (fun q hq => f2 q hq (fun z hz => nomatch hz)), hce, hO.vm, hcl, hWs, hall, hf⟩⟩
  refine st1 _ ?_
  show Steps p.tables e below (T1.setTop { method := m, pc := pc + 3, locals := ls, stack := .ref T.heap.size :: rest, locked := none }) _
  jvm_step X₁.here [X₁.here.top, hexec, d3', Value.category]
  exact hsteps
/-- 'throw new E("text")': new; dup; ldc; invokespecial; athrow -/
theorem vx_throwS {cc : ByteArray} {pc : Nat} (hexec : p.tables.exec = Jvm.exec) (hb : c.code = cc) (hl : l.stackTraces = false) {own cls text : String} {names : List String} {ik is ic mc ms sa : Nat} {A : Nat → Prop}
    (hown : s.vm.findClass own = some m.cls) (hcls : Bundle.fit cls = true) (hnames : ∀ n ∈ names, Bundle.fit n = true)
    (hk : (Cond.classLink own ik cls).before args s = true) (hini : (Cond.initialized cls).before args s = true) (hstr : vk_R own is text sa s) (hat : ∀ w ∈ vx_atS own ic cls names, w.before args s = true)
    (hgood : ∀ w ∈ Cond.classLink own ik cls :: Cond.initialized cls :: vx_atS own ic cls names, vx_ot w = true)
    (hU : vx_Zq Bundle.tN "UNASSIGNED_STACK" Bundle.steD A s s.heap) (hN : vx_Zq Bundle.tN "SUPPRESSED_SENTINEL" Bundle.listD A s s.heap) (hS : va_S A s.heap H locs) (hsize : ls.size = c.maxLocals)
    (d0 : decode cc pc = .ok (.new ik, 3)) (d3 : decode cc (pc + 3) = .ok (.dup, 1)) (d4 : decode cc (pc + 4) = .ok (.ldc is, 2)) (d6 : decode cc (pc + 6) = .ok (.invokespecial ic, 3)) (d9 : decode cc (pc + 9) = .ok (.athrow, 1))
    (hout : ∀ x ∈ c.exceptionTable.toList, covers x (pc + 9) = false)
    (hRframes : names.length + 3 < R.frames) (hRlocals : (rest.map fun v => v.category).sum + (13 * (names.length + 1) + 43) ≤ R.locals) (hRcells : cells + 1 ≤ R.cells) (hRslots : slots + 6 ≤ R.slots) (hlocks : meth.locks = false)
    (hx : ∀ t : State, s.vm.Alike t.vm → H.size ≤ t.heap.size → (∀ q : Nat, q < H.size → t.heap[q]? = H[q]?) → XC cls s t)
    (hf : ∀ z ∈ locs, free z.base) (hc : cells + 1 ≤ mc) (hs : slots + 6 ≤ ms) :
    W p l e R s m args below meth c H locs cells slots (vx_MQ below Qc XC args s mc ms free) (F0 m pc ls rest) := by
  intro T hT X
  have htr : e.platform.stackTraces = false := (show e.platform.stackTraces = l.stackTraces by rw [X.admits.platform]).trans hl
  have Y := vx_rebase X (R' := { frames := R.frames, locals := R.locals, cells := 1, slots := 6 }) (Nat.le_refl _) (Nat.le_refl _) hRcells hRslots
  obtain ⟨s', hA⟩ : ∃ z, z = (T.setVm s.vm).setFrames (.invoking m args :: below) := ⟨_, rfl⟩
  rw [← hA] at Y
  have hvm : s'.vm = s.vm := by rw [hA]; rfl
  have hhp : s'.heap = H := by rw [hA]; exact hT
  have hW0 : s.WarmedH s'.vm := by rw [hvm]; exact State.WarmedH.refl s
  have hat' : ∀ w ∈ vx_atS own ic cls names, w.before args s' = true := fun w hw => vx_ot_at hW0 hvm.symm (hgood w (List.mem_cons_of_mem _ (List.mem_cons_of_mem _ hw))) (hat w hw)
  have hk' : (Cond.classLink own ik cls).before args s' = true := vx_ot_at hW0 hvm.symm (hgood _ List.mem_cons_self) hk
  have hini' : (Cond.initialized cls).before args s' = true := vx_ot_at hW0 hvm.symm (hgood _ (List.mem_cons_of_mem _ List.mem_cons_self)) hini
  have hU' : vx_Zq Bundle.tN "UNASSIGNED_STACK" Bundle.steD A s' s'.heap := by rw [hhp]; exact vx_Zq.moved hW0.alike (hU.kept hS.2.1)
  have hN' : vx_Zq Bundle.tN "SUPPRESSED_SENTINEL" Bundle.listD A s' s'.heap := by rw [hhp]; exact vx_Zq.moved hW0.alike (hN.kept hS.2.1)
  have h : ∀ w ∈ Bundle.ownAtoms own ic cls names, w.before args s' = true := vx_own hat' (vx_isRefq hU'.1) (vx_isRefq hN'.1) hU'.2.word hN'.2.word
  have hown' : s'.vm.findClass own = some m.cls := by rw [hvm]; exact hown
  have hins : (Cond.instantiable cls 6).before args s' = true := h _ (by simp [Bundle.ownAtoms])
  obtain ⟨vm₁, cX, kX, hfX, hkX, -, -, X₁, st1⟩ := Y.newCold hexec (own := own) (C := cls) (index := ik) (n := 6) hown' hk' hins hini'
    (g := F0 m pc ls rest) rfl (by rw [hb]; exact d0) (Nat.le_refl _) (Nat.le_refl _)
  generalize hT1 : (T.setVm vm₁).pushCell { cls := cX, slots := kX.instanceTypes.map defaultValue, vm := .none } = T1 at X₁ st1
  have hcat : (Value.ref T.heap.size).category = 1 := rfl
  have hcellA : T1.heap[T.heap.size]? = some (freshCell cX kX) := by rw [← hT1]; exact State.heap_pushCell_size _ _
  have d3' : decode c.code (pc + 3) = .ok (.dup, 1) := by rw [hb]; exact d3
  have d4' : decode c.code (pc + 4) = .ok (.ldc is, 2) := by rw [hb]; exact d4
  have hstr' : vk_R own is text sa s' := vk_R.warm hW0 hstr
  obtain ⟨U, hsteps, hrun, hend, hW, hsame, ce, hce, hO⟩ := X₁.ctorThrowS hexec htr (own := own) (cls := cls) (names := names) (ic := ic) hown' hcls hnames h (fun x hx => nomatch hx) hfX hkX hcellA (by rw [hhp, hT]; exact Nat.le_refl _) (msg := .ref sa) rfl
    (g := { method := m, pc := pc + 6, locals := ls, stack := .ref sa :: .ref T.heap.size :: .ref T.heap.size :: rest, locked := none }) rfl hsize rfl rfl (rest := rest) rfl
    (by rw [hb]; exact d6) (by rw [hb]; exact d9) hout hRframes (by simp only [List.map_cons, List.sum_cons, hcat]; omega) hlocks
  obtain ⟨f1, f2⟩ := vx_frame hsame
  rw [hhp] at f1 f2
  have hWs : s.WarmedH U.vm := State.WarmedH.trans hW0 hW
  have hcl : s.vm.findClass cls = some ce.cls := by
    have h9 := hO.cls
    rw [hvm] at h9
    exact h9
  have hall : s.sameButNew ({ U with vm := s.vm } : State) locs mc ms := by
    subst hA
    obtain ⟨e1, e2⟩ := hsame
    rw [State.setFrames_setFrames] at e1
    have h2 : (T.setVm s.vm).sameButNew ({ U with vm := s.vm } : State) [] (0 + 1) (0 + 6) := ⟨e1, e2⟩
    have h3 := X.same.trans h2
    rw [List.append_nil] at h3
    exact h3.mono hc hs
  refine ⟨U, ?_, .threw T.heap.size, hrun, hend, Or.inr ⟨T.heap.size, rfl, cls, ce, locs, hx U hWs.alike f1 (fun q hq => f2 q hq (fun z hz => nomatch hz)), hce, hO.vm, hcl, hWs, hall, hf⟩⟩
  refine st1 _ ?_
  show Steps p.tables e below (T1.setTop { method := m, pc := pc + 3, locals := ls, stack := .ref T.heap.size :: rest, locked := none }) _
  jvm_step X₁.here [X₁.here.top, hexec, d3', Value.category]
  exact X₁.ldcString hexec (own := own) (text := text) (index := is) (a := sa) hown' hstr'.1 hstr'.2
    (g := { method := m, pc := pc + 4, locals := ls, stack := .ref T.heap.size :: .ref T.heap.size :: rest, locked := none }) rfl d4' _ hsteps
/-- 'throw new E("text")', the text by a wide index -/
theorem vx_throwSW {cc : ByteArray} {pc : Nat} (hexec : p.tables.exec = Jvm.exec) (hb : c.code = cc) (hl : l.stackTraces = false) {own cls text : String} {names : List String} {ik is ic mc ms sa : Nat} {A : Nat → Prop}
    (hown : s.vm.findClass own = some m.cls) (hcls : Bundle.fit cls = true) (hnames : ∀ n ∈ names, Bundle.fit n = true)
    (hk : (Cond.classLink own ik cls).before args s = true) (hini : (Cond.initialized cls).before args s = true) (hstr : vk_R own is text sa s) (hat : ∀ w ∈ vx_atS own ic cls names, w.before args s = true)
    (hgood : ∀ w ∈ Cond.classLink own ik cls :: Cond.initialized cls :: vx_atS own ic cls names, vx_ot w = true)
    (hU : vx_Zq Bundle.tN "UNASSIGNED_STACK" Bundle.steD A s s.heap) (hN : vx_Zq Bundle.tN "SUPPRESSED_SENTINEL" Bundle.listD A s s.heap) (hS : va_S A s.heap H locs) (hsize : ls.size = c.maxLocals)
    (d0 : decode cc pc = .ok (.new ik, 3)) (d3 : decode cc (pc + 3) = .ok (.dup, 1)) (d4 : decode cc (pc + 4) = .ok (.ldc_w is, 3)) (d7 : decode cc (pc + 7) = .ok (.invokespecial ic, 3)) (d10 : decode cc (pc + 10) = .ok (.athrow, 1))
    (hout : ∀ x ∈ c.exceptionTable.toList, covers x (pc + 10) = false)
    (hRframes : names.length + 3 < R.frames) (hRlocals : (rest.map fun v => v.category).sum + (13 * (names.length + 1) + 43) ≤ R.locals) (hRcells : cells + 1 ≤ R.cells) (hRslots : slots + 6 ≤ R.slots) (hlocks : meth.locks = false)
    (hx : ∀ t : State, s.vm.Alike t.vm → H.size ≤ t.heap.size → (∀ q : Nat, q < H.size → t.heap[q]? = H[q]?) → XC cls s t)
    (hf : ∀ z ∈ locs, free z.base) (hc : cells + 1 ≤ mc) (hs : slots + 6 ≤ ms) :
    W p l e R s m args below meth c H locs cells slots (vx_MQ below Qc XC args s mc ms free) (F0 m pc ls rest) := by
  intro T hT X
  have htr : e.platform.stackTraces = false := (show e.platform.stackTraces = l.stackTraces by rw [X.admits.platform]).trans hl
  have Y := vx_rebase X (R' := { frames := R.frames, locals := R.locals, cells := 1, slots := 6 }) (Nat.le_refl _) (Nat.le_refl _) hRcells hRslots
  obtain ⟨s', hA⟩ : ∃ z, z = (T.setVm s.vm).setFrames (.invoking m args :: below) := ⟨_, rfl⟩
  rw [← hA] at Y
  have hvm : s'.vm = s.vm := by rw [hA]; rfl
  have hhp : s'.heap = H := by rw [hA]; exact hT
  have hW0 : s.WarmedH s'.vm := by rw [hvm]; exact State.WarmedH.refl s
  have hat' : ∀ w ∈ vx_atS own ic cls names, w.before args s' = true := fun w hw => vx_ot_at hW0 hvm.symm (hgood w (List.mem_cons_of_mem _ (List.mem_cons_of_mem _ hw))) (hat w hw)
  have hk' : (Cond.classLink own ik cls).before args s' = true := vx_ot_at hW0 hvm.symm (hgood _ List.mem_cons_self) hk
  have hini' : (Cond.initialized cls).before args s' = true := vx_ot_at hW0 hvm.symm (hgood _ (List.mem_cons_of_mem _ List.mem_cons_self)) hini
  have hU' : vx_Zq Bundle.tN "UNASSIGNED_STACK" Bundle.steD A s' s'.heap := by rw [hhp]; exact vx_Zq.moved hW0.alike (hU.kept hS.2.1)
  have hN' : vx_Zq Bundle.tN "SUPPRESSED_SENTINEL" Bundle.listD A s' s'.heap := by rw [hhp]; exact vx_Zq.moved hW0.alike (hN.kept hS.2.1)
  have h : ∀ w ∈ Bundle.ownAtoms own ic cls names, w.before args s' = true := vx_own hat' (vx_isRefq hU'.1) (vx_isRefq hN'.1) hU'.2.word hN'.2.word
  have hown' : s'.vm.findClass own = some m.cls := by rw [hvm]; exact hown
  have hins : (Cond.instantiable cls 6).before args s' = true := h _ (by simp [Bundle.ownAtoms])
  obtain ⟨vm₁, cX, kX, hfX, hkX, -, -, X₁, st1⟩ := Y.newCold hexec (own := own) (C := cls) (index := ik) (n := 6) hown' hk' hins hini'
    (g := F0 m pc ls rest) rfl (by rw [hb]; exact d0) (Nat.le_refl _) (Nat.le_refl _)
  generalize hT1 : (T.setVm vm₁).pushCell { cls := cX, slots := kX.instanceTypes.map defaultValue, vm := .none } = T1 at X₁ st1
  have hcat : (Value.ref T.heap.size).category = 1 := rfl
  have hcellA : T1.heap[T.heap.size]? = some (freshCell cX kX) := by rw [← hT1]; exact State.heap_pushCell_size _ _
  have d3' : decode c.code (pc + 3) = .ok (.dup, 1) := by rw [hb]; exact d3
  have d4' : decode c.code (pc + 4) = .ok (.ldc_w is, 3) := by rw [hb]; exact d4
  have hstr' : vk_R own is text sa s' := vk_R.warm hW0 hstr
  obtain ⟨U, hsteps, hrun, hend, hW, hsame, ce, hce, hO⟩ := X₁.ctorThrowS hexec htr (own := own) (cls := cls) (names := names) (ic := ic) hown' hcls hnames h (fun x hx => nomatch hx) hfX hkX hcellA (by rw [hhp, hT]; exact Nat.le_refl _) (msg := .ref sa) rfl
    (g := { method := m, pc := pc + 7, locals := ls, stack := .ref sa :: .ref T.heap.size :: .ref T.heap.size :: rest, locked := none }) rfl hsize rfl rfl (rest := rest) rfl
    (by rw [hb]; exact d7) (by rw [hb]; exact d10) hout hRframes (by simp only [List.map_cons, List.sum_cons, hcat]; omega) hlocks
  obtain ⟨f1, f2⟩ := vx_frame hsame
  rw [hhp] at f1 f2
  have hWs : s.WarmedH U.vm := State.WarmedH.trans hW0 hW
  have hcl : s.vm.findClass cls = some ce.cls := by
    have h9 := hO.cls
    rw [hvm] at h9
    exact h9
  have hall : s.sameButNew ({ U with vm := s.vm } : State) locs mc ms := by
    subst hA
    obtain ⟨e1, e2⟩ := hsame
    rw [State.setFrames_setFrames] at e1
    have h2 : (T.setVm s.vm).sameButNew ({ U with vm := s.vm } : State) [] (0 + 1) (0 + 6) := ⟨e1, e2⟩
    have h3 := X.same.trans h2
    rw [List.append_nil] at h3
    exact h3.mono hc hs
  refine ⟨U, ?_, .threw T.heap.size, hrun, hend, Or.inr ⟨T.heap.size, rfl, cls, ce, locs, hx U hWs.alike f1 (fun q hq => f2 q hq (fun z hz => nomatch hz)), hce, hO.vm, hcl, hWs, hall, hf⟩⟩
  refine st1 _ ?_
  show Steps p.tables e below (T1.setTop { method := m, pc := pc + 3, locals := ls, stack := .ref T.heap.size :: rest, locked := none }) _
  jvm_step X₁.here [X₁.here.top, hexec, d3', Value.category]
  exact X₁.ldcStringW hexec (own := own) (text := text) (index := is) (a := sa) hown' hstr'.1 hstr'.2
    (g := { method := m, pc := pc + 4, locals := ls, stack := .ref T.heap.size :: .ref T.heap.size :: rest, locked := none }) rfl d4' _ hsteps
end Ends
section Bodies
variable {l : Launch}
theorem vx_ofW {y : MethodName} {ws ws' : List Cond} {rm : Room} {Pc : Array Value → State → Prop} {Qc : Array Value → State → Outcome → State → Prop} {XC : String → State → State → Prop} {mc ms : Nat} {free : Addr → Prop} {cc : ByteArray} {maxL : Nat} {ret : Option FieldType}
    (hy : plainName y.cls = true) (hw : ws = Cond.code y cc maxL ret :: ws')
    (body : ∀ p e s m args below meth c s₁, BodyLoose p l y (headSpec ws rm) cc maxL ret e s m args below meth c s₁ → c.maxLocals = maxL → (∀ x ∈ c.exceptionTable.toList, False) → Pc args s →
      W p l e (headSpec ws rm).room s m args below meth c s.heap [] 0 0 (vx_MQ below Qc XC args s mc ms free) (entryFrame m args maxL)) : vx_Met l y ws rm Pc Qc XC mc ms free := by
  refine MetFree.of_bodyS (code := cc) (maxLocals := maxL) (ret := ret) hy ?_ ?_
  · intro args s m h hn
    obtain ⟨meth, c, h1, h2, h3, h4, h5, h6, -, -⟩ := Cond.code_spec hn (atoms_spec (ws := ws) h _ (by rw [hw]; exact List.mem_cons_self))
    exact ⟨meth, c, h1, h2, h3, h4, h5, h6⟩
  · intro p e s m args below meth c s₁ B hml hP _
    have hh0 : s₁.heap = s.heap := by rw [B.state]; rfl
    have ht : ∀ x ∈ c.exceptionTable.toList, False := by
      obtain ⟨meth9, c9, h1, h2, -, -, -, -, h7, -⟩ := Cond.code_spec B.named (atoms_spec (ws := ws) B.pre _ (by rw [hw]; exact List.mem_cons_self))
      cases Option.some.inj (h1.symm.trans B.method)
      cases Option.some.inj (h2.symm.trans (Stand.of_body B).code)
      intro x hx
      rw [Array.isEmpty_iff.mp h7] at hx
      cases hx
    obtain ⟨t, a1, o, b1, b2, b3⟩ := body p e s m args below meth c s₁ B hml ht hP s₁ hh0 (Stand.of_body B)
    exact ⟨t, o, a1, b1, b2, b3⟩
/-- the table of a body with handlers -/
theorem vx_table {p : Program} {x y : MethodName} {S : Spec} {cc bytes : ByteArray} {maxL maxL' : Nat} {ret ret' : Option FieldType} {e : Env} {s s₁ : State} {m : MethodId} {args : Array Value} {below : List Frame} {meth : Method} {c : Code} {hh : List (Nat × Nat × Nat × Nat)}
    (B : BodyLoose p l y S cc maxL ret e s m args below meth c s₁) (h : (Cond.codeWith y bytes maxL' ret' hh).before args s = true) : c.exceptionTable.toList = tableOf hh := by
  obtain ⟨m9, meth9, c9, hn9, h1, h2, -, -, h6, -⟩ := Cond.codeWith_spec h
  cases Option.some.inj (hn9.symm.trans B.named)
  cases Option.some.inj (h1.symm.trans B.method)
  cases Option.some.inj (h2.symm.trans (Stand.of_body B).code)
  rw [← h6, table_eq]
end Bodies
end VXA
/-! ===== END ===== -/
/-! ===== BEGIN a static call of a method with an exception table ===== -/
section VXS
variable {p : Program} {l : Launch} {e : Env} {R : Room} {s : State} {m : MethodId} {args : Array Value} {below : List Frame} {meth : Method} {c : Code} {T : State} {H : Heap} {locs : List Loc} {cells slots : Nat}
abbrev vx_CSW (R : Room) (s : State) (args : Array Value) (own : String) (index : Nat) (y : MethodName) (bytes : ByteArray) (maxL : Nat) (ret : Option FieldType) (hh : List (Nat × Nat × Nat × Nat)) (ws : List Cond) (rm : Room) (mc ms n : Nat) : Prop :=
  (rm.cells = mc ∧ rm.slots = ms ∧ rm.frames + 1 ≤ R.frames ∧ 8 + (maxL + 11) + rm.locals ≤ R.locals ∧ (∀ w ∈ ws, ∀ (a' : Array Value) (U : State), s.WarmedH U.vm → w.before a' U = true) ∧ Cond.codeWith y bytes maxL ret hh ∈ ws) ∧
  (Cond.codeWith y bytes maxL ret hh).before args s = true ∧ (Cond.initialized y.cls).before args s = true ∧ (y.cls ≠ "java/lang/invoke/MethodHandle" ∧ y.cls ≠ "java/lang/invoke/VarHandle") ∧
  (∀ sig, parseMethodDescriptor y.desc = some sig → n = sig.parameters.length) ∧ (Cond.methodLink own index y).before args s = true ∧ (Cond.static y).before args s = true
theorem vx_cwSW {own : String} {index maxL mc ms : Nat} {y : MethodName} {bytes : ByteArray} {ret : Option FieldType} {hh : List (Nat × Nat × Nat × Nat)} {Ts ws ws' : List Cond} {rm : Room} (n : Nat) (ht : ∀ w ∈ Ts, w.before args s = true) (hT : GoodIn Ts (va_wsS own index y ws)) (hw : ws = Cond.codeWith y bytes maxL ret hh :: ws') (hrc : rm.cells = mc) (hrs : rm.slots = ms)
    (hd : y.cls ≠ "java/lang/invoke/MethodHandle" ∧ y.cls ≠ "java/lang/invoke/VarHandle" ∧ (parseMethodDescriptor y.desc).map (fun d => d.parameters.length) = some n) (hR : rm.frames + 1 ≤ R.frames ∧ 8 + (maxL + 11) + rm.locals ≤ R.locals) :
    vx_CSW R s args own index y bytes maxL ret hh ws rm mc ms n := by
  have ok : ∀ w ∈ va_wsS own index y ws, w.before args s = true := fun w h => ht w (hT w h).1
  have hG : GoodIn Ts ws := fun w h => hT w (by unfold va_wsS; exact List.mem_append_right _ h)
  have hc : Cond.codeWith y bytes maxL ret hh ∈ ws := by rw [hw]; exact List.mem_cons_self
  refine ⟨⟨hrc, hrs, hR.1, hR.2, pay_in ht hG, hc⟩, ht _ (hG _ hc).1, ok _ (by simp [va_wsS]), ⟨hd.1, hd.2.1⟩, fun sig h => ?_, ok _ (by simp [va_wsS]), ok _ (by simp [va_wsS])⟩
  have h2 := hd.2.2
  rw [h] at h2
  exact (Option.some.inj h2).symm
theorem vx_callSW (X : Stand p l e R s m args below meth c T locs cells slots) (hexec : p.tables.exec = Jvm.exec) {own : String} {index : Nat} {y : MethodName} {bytes : ByteArray} {maxL : Nat} {ret : Option FieldType} {hh : List (Nat × Nat × Nat × Nat)}
    (hown : s.vm.findClass own = some m.cls) (hlink : (Cond.methodLink own index y).before args s = true) (hstat : (Cond.static y).before args s = true) (hinit : (Cond.initialized y.cls).before args s = true)
    (hcode : (Cond.codeWith y bytes maxL ret hh).before args s = true) (hy : y.cls ≠ "java/lang/invoke/MethodHandle" ∧ y.cls ≠ "java/lang/invoke/VarHandle")
    {W9 : Nat} {Pre : Pt → Array Value → Prop} {Post : Pt → Array Value → Option Value → Pt → Prop} (hK : Back l R p e below s args y 3 W9 Pre Post)
    {g : JFrame} (hg : g.method = m) (hsize : g.locals.size = c.maxLocals) {argsL rest : List Value} (hlen : ∀ sig, parseMethodDescriptor y.desc = some sig → argsL.length = sig.parameters.length)
    (hstack : g.stack = argsL.reverse ++ rest) (hW : 2 * g.monitorRoom + (rest.map fun v => v.category).sum ≤ W9) (hdg : decode c.code g.pc = .ok (.invokestatic index, 3))
    (hpre : ∀ vm₁, s.WarmedH vm₁ → Pre ⟨T.setVm vm₁, locs, cells, slots⟩ argsL.toArray) :
    ∃ (v : Option Value) (vm₁ : Vm) (B : Pt), s.WarmedH vm₁ ∧ Stand p l e R s m args below meth c B.U B.locs B.cells B.slots ∧ Post ⟨T.setVm vm₁, locs, cells, slots⟩ argsL.toArray v B ∧
      ∀ target, Steps p.tables e below (B.U.setTop { g with pc := g.pc + 3, stack := v.toList ++ rest }) target → Steps p.tables e below (T.setTop g) target := by
  obtain ⟨mk, methM, cM, hnamed, hmethM, -, -, -, -, -, -, hsigM⟩ := Cond.codeWith_spec hcode
  have hstatic : methM.isStatic = true := Cond.static_spec hnamed hmethM hstat
  obtain ⟨kP, hkP, -⟩ := className_of_methodNamed hnamed
  have hinitP : kP.init = .initialized := Cond.initialized_spec (findClass_of_methodNamed hnamed) hkP hinit
  obtain ⟨vm₁, X₁, hstep₁⟩ := X.invokestatic hexec hown hlink hnamed hmethM hstatic hkP hinitP hy (g := g) hg (argsL := argsL) (rest := rest) (hlen _ hsigM) hstack hdg
  obtain ⟨v, B, X', hpost, hsteps⟩ := hK m meth c ⟨T.setVm vm₁, locs, cells, slots⟩ { g with stack := rest } (.invokestatic index) mk argsL.toArray X₁ hg hsize hdg hW (X₁.named hnamed) (hpre vm₁ X₁.warmed)
  exact ⟨v, vm₁, B, X₁.warmed, X', hpost, fun target h => hstep₁ _ fun acts => by rw [doInvoke_state]; exact hsteps.trans h⟩
theorem vx_runSW {y : MethodName} {bytes cc : ByteArray} {maxL nL mc ms n index : Nat} {ret : Option FieldType} {hh : List (Nat × Nat × Nat × Nat)} {ws : List Cond} {rm : Room} {Pc : Array Value → State → Prop} {Qc : Array Value → State → Outcome → State → Prop} {free : Addr → Prop} {Ts : List Cond} {own : String} {As rest : List Value} {g : JFrame}
    (S : CallFix p m c cc nL s args Ts own) (hM : Met l y ws rm Pc Qc mc ms free) (cw : vx_CSW R s args own index y bytes maxL ret hh ws rm mc ms n) (hp : PreS s H Pc As)
    (hg : g.method = m) (hn : As.length = n) (hsize : g.locals.size = nL) (hstack : g.stack = As.reverse ++ rest) (hW : 2 * g.monitorRoom + (rest.map fun v => v.category).sum ≤ 8) (hdg : decode cc g.pc = .ok (.invokestatic index, 3)) (hf : cells + mc ≤ R.cells ∧ slots + ms ≤ R.slots) :
    va_Run p l e R s m args below meth c H locs cells slots mc ms g rest (Qc As.toArray) (free) := by
  obtain ⟨⟨hrc, hrs, hfr, hlo, hws, hcw⟩, hcode, hini, hy, hlen, hl, hstt⟩ := cw
  have hK : Back l R p e below s args y 3 8 (PreOf R mc ms Pc) (PostOf Qc mc ms free) := va_backW (hh := hh) (bytes := bytes) (maxL := maxL) (ret := ret) hM hp.1 hrc hrs hfr hlo hws hcw (fun a' U hW => word_at hW (Or.inl (by first | rfl | simp [Cond.onTables, Cond.keeps, Cond.steady])) hini)
  obtain ⟨hx, hb, hml, ho, -⟩ := S
  intro T hT X
  obtain ⟨v, vm₁, ⟨U', l2, c2, s2⟩, hW₁, X', ⟨g', mk, t, L, e1, e2, hq, h1, hL, h2, h3⟩, st⟩ := vx_callSW X hx (hh := hh) (bytes := bytes) (maxL := maxL) (ret := ret) ho hl hstt hini hcode hy hK hg (hsize.trans hml.symm) (argsL := As) (rest := rest) (fun sig h => hn.trans (hlen sig h)) hstack hW (by rw [hb]; exact hdg)
    (fun vm₁ hW₁ => ⟨hf.1, hf.2, hp.2 (T.setVm vm₁) hT hW₁⟩)
  dsimp only [Pt.U, Pt.locs, Pt.cells, Pt.slots] at X' e1 e2 h1 h2 h3 st
  subst h1; subst h2; subst h3
  exact ⟨v, (T.setVm vm₁).calling g' mk As.toArray, t, U', L, hT, X', hL, e1, e2, hq, st⟩
/-- a thing of a world lies in the heap -/
theorem vx_lt {D : va_G} {cl : List vw_C} {ws : va_W} {H1 : Heap} (h : va_P D cl ws H1) {k : Nat} {q : Nat × va_E} (hk : ws[k]? = some q) : q.1 < H1.size := (h k q hk).lt
end VXS
/-! ===== END ===== -/
/-! ===== BEGIN methods with a table of their own: called by a name, returning or throwing ===== -/
section VXH
/-! vx_backW, vx_callVX, vx_callSX, vx_callVW, vx_runVW, vx_runVX, vx_runSX, vx_ofWH follow the same proofs as their sisters above (Free/Laws.lean, Shelf42/LK1.lean); vx_outP calls Shelf42/NT130.lean (outThrough). -/
section
variable {l : Launch} {R : Room} {p : Program} {e : Env} {below : List Frame} {s : State} {sargs : Array Value} {y : MethodName} {len W9 : Nat}
theorem vx_backW {ws : List Cond} {rm : Room} {Pc : Array Value → State → Prop} {Qc : Array Value → State → Outcome → State → Prop} {XC : String → State → State → Prop} {mc ms : Nat} {free : Addr → Prop} {bytes : ByteArray} {maxL : Nat} {ret : Option FieldType} {hh : List (Nat × Nat × Nat × Nat)}
    (hM : vx_Met l y ws rm Pc Qc XC mc ms free) (hblind : FrameBlind Pc) (hrc : rm.cells = mc) (hrs : rm.slots = ms)
    (hframes : rm.frames + 1 ≤ R.frames) (hlocals : W9 + (maxL + 11) + rm.locals ≤ R.locals)
    (hws : ∀ w ∈ ws, ∀ a' U, s.WarmedH U.vm → w.before a' U = true) (hcode : Cond.codeWith y bytes maxL ret hh ∈ ws) (hinit : ∀ a' U, s.WarmedH U.vm → (Cond.initialized y.cls).before a' U = true) :
    vx_Back l R p e below s sargs y len W9 (PreOf R mc ms Pc) (PostOf Qc mc ms free) (vx_Post XC mc ms free) := by
  intro m meth c A g ig mk a X hg hsize hdg hW hn hp
  have h1 : (headSpec ws rm).pre.before a A.U = true := atoms_intro fun w hw => hws w hw _ _ X.warmed
  have h2 : (Cond.codeWith y bytes maxL ret hh).before a A.U = true := hws _ hcode _ _ X.warmed
  have h3 : (Cond.initialized y.cls).before a A.U = true := hinit _ _ X.warmed
  have h4 : A.cells + (headSpec ws rm).room.cells ≤ R.cells := by rw [show (headSpec ws rm).room.cells = mc from hrc]; exact hp.1
  have h5 : A.slots + (headSpec ws rm).room.slots ≤ R.slots := by rw [show (headSpec ws rm).room.slots = ms from hrs]; exact hp.2.1
  have hPc : Pc a (A.U.calling g mk a) := hblind _ _ _ _ hp.2.2
  obtain ⟨U, Ls, c0, s0⟩ := A
  dsimp only [Pt.U, Pt.locs, Pt.cells, Pt.slots] at h1 h2 h3 h4 h5 X hn hPc ⊢
  obtain ⟨m9, methY, cY, hn9, hmY, hcY, -, hlY, -⟩ := Cond.codeWith_spec h2
  cases Option.some.inj (hn9.symm.trans hn)
  obtain ⟨kY, hkY, -⟩ := className_of_methodNamed hn
  have hinitY : kY.init = .initialized := Cond.initialized_spec (findClass_of_methodNamed hn) hkY h3
  have h : At U g.method c below := by rw [hg]; exact X.here
  have hlocals9 : W9 + (maxL + 11) + (headSpec ws rm).room.locals ≤ R.locals := hlocals
  have happ : (headSpec ws rm).appliesLoose y e.platform (U.calling g mk a) = true :=
    Spec.appliesLoose_calling (g := g) h hdg hn hkY hinitY
      (X.room_calling (g := g) (R' := (headSpec ws rm).room) hsize hmY hcY hframes (by rw [hlY]; omega) h4 h5) h1
  obtain ⟨mid, hmid⟩ := h.above
  have hfr : (U.setTop g).frames = (.java g :: mid) ++ below := by rw [State.frames_setTop' g h.top, hmid]; rfl
  obtain ⟨o, s₂, hsteps, -, hend, hq⟩ := Steps.callFree hM p X.admits X.cas X.clock (acts := []) hfr happ hPc trivial
  have hq' : vx_Q Qc XC mc ms free a (U.calling g mk a) o s₂ := hq
  rw [State.frames_setTop' g h.top] at hend
  obtain ⟨g₀, hg0⟩ := Option.isSome_iff_exists.mp h.top
  obtain ⟨r, hr⟩ := State.topJava?_eq_some.mp hg0
  have hr' : (({ U with heap := s₂.heap, slotsUsed := s₂.slotsUsed } : State).setVm s₂.vm).frames = .java g₀ :: r := hr
  rcases hq' with ⟨hqc, L, hfe, hL⟩ | ⟨q, rfl, E, ce, L, hx, hce, hcv, hcl, hW₂, hsm, hL⟩
  · obtain ⟨⟨v, rfl⟩, hW₂, e2, q2, q3, q4, q5, q6⟩ := id hfe
    have e3 : s₂ = ({ (U.calling g mk a).setFrames s₂.frames with heap := s₂.heap, slotsUsed := s₂.slotsUsed } : State).setVm s₂.vm := by
      have : s₂ = ({ s₂ with vm := (U.calling g mk a).vm } : State).setVm s₂.vm := rfl
      rw [e2] at this
      exact this
    obtain ⟨c₂, i₂, len₂, hc₂, hd₂, hf₂⟩ := hend
    have hW' : U.WarmedH s₂.vm := hW₂
    have hcc : c₂ = c := by
      have h1 : s₂.code? g.method = U.code? g.method := by
        rw [State.code?_eq, State.code?_eq, hW'.alike.method?]
      exact Option.some.inj (hc₂.symm.trans (h1.trans h.code))
    subst hcc
    have hlen : len₂ = len := by rw [hdg] at hd₂; cases hd₂; rfl
    subst hlen
    have hs₂ : s₂ = (({ U with heap := s₂.heap, slotsUsed := s₂.slotsUsed } : State).setVm s₂.vm).setTop { g with pc := g.pc + len₂, stack := v.toList ++ g.stack } := by
      refine e3.trans ?_
      rw [hf₂, State.calling_eq h.top, State.setFrames_setFrames, State.setTop_of_frames _ hr', hr]
      rfl
    have hsame : U.sameButNew ({ U with heap := s₂.heap, slotsUsed := s₂.slotsUsed } : State) L mc ms := by
      refine ⟨?_, q2, q3, q4, q5, q6⟩
      obtain ⟨t, ht, -⟩ := State.frames_cons hr
      show ({ U with heap := s₂.heap, slotsUsed := s₂.slotsUsed } : State) = { U.setFrames U.frames with heap := s₂.heap, slotsUsed := s₂.slotsUsed }
      rw [State.setFrames_self ht]
    subst hg
    refine Or.inl ⟨v, ⟨(({ U with heap := s₂.heap, slotsUsed := s₂.slotsUsed } : State).setVm s₂.vm), Ls ++ L, c0 + mc, s0 + ms⟩,
      ⟨X.admits, X.cas, X.clock, X.frames, X.room, X.hears, X.method, X.code, (X.here.setHeapUsed s₂.heap s₂.slotsUsed).setVm hW'.alike, X.tail, State.WarmedH.trans X.warmed hW', X.limits, X.bytes, X.same.trans (hsame.setVm s.vm)⟩,
      ⟨g, mk, s₂, L, rfl, rfl, hqc, rfl, hL, rfl, rfl⟩, ?_⟩
    show Steps p.tables e below _ ((({ U with heap := s₂.heap, slotsUsed := s₂.slotsUsed } : State).setVm s₂.vm).setTop { g with pc := g.pc + len₂, stack := v.toList ++ g.stack })
    rw [← hs₂]
    exact hsteps
  · obtain ⟨e2, q2, q3, q4, q5, q6⟩ := id hsm
    have e3 : s₂ = ({ (U.calling g mk a).setFrames s₂.frames with heap := s₂.heap, slotsUsed := s₂.slotsUsed } : State).setVm s₂.vm := by
      have : s₂ = ({ s₂ with vm := (U.calling g mk a).vm } : State).setVm s₂.vm := rfl
      rw [e2] at this
      exact this
    have hf₂ : s₂.frames = .throwing q :: .java g :: U.frames.tail := hend
    have hW' : U.WarmedH s₂.vm := hW₂
    have hs₂ : s₂ = ((({ U with heap := s₂.heap, slotsUsed := s₂.slotsUsed } : State).setVm s₂.vm).setTop g).pushFrame (.throwing q) := by
      refine e3.trans ?_
      rw [hf₂, State.calling_eq h.top, State.setFrames_setFrames, State.pushFrame, State.frames_setTop _ hr', State.setTop_of_frames _ hr', State.setFrames_setFrames, hr]
      rfl
    have hsame : U.sameButNew ({ U with heap := s₂.heap, slotsUsed := s₂.slotsUsed } : State) L mc ms := by
      refine ⟨?_, q2, q3, q4, q5, q6⟩
      obtain ⟨t, ht, -⟩ := State.frames_cons hr
      show ({ U with heap := s₂.heap, slotsUsed := s₂.slotsUsed } : State) = { U.setFrames U.frames with heap := s₂.heap, slotsUsed := s₂.slotsUsed }
      rw [State.setFrames_self ht]
    subst hg
    refine Or.inr ⟨q, ⟨(({ U with heap := s₂.heap, slotsUsed := s₂.slotsUsed } : State).setVm s₂.vm), Ls ++ L, c0 + mc, s0 + ms⟩,
      ⟨X.admits, X.cas, X.clock, X.frames, X.room, X.hears, X.method, X.code, (X.here.setHeapUsed s₂.heap s₂.slotsUsed).setVm hW'.alike, X.tail, State.WarmedH.trans X.warmed hW', X.limits, X.bytes, X.same.trans (hsame.setVm s.vm)⟩,
      ⟨g, mk, s₂, L, E, ce, rfl, rfl, hx, hce, hcv, hcl, rfl, hL, rfl, rfl⟩, ?_⟩
    show Steps p.tables e below _ (((({ U with heap := s₂.heap, slotsUsed := s₂.slotsUsed } : State).setVm s₂.vm).setTop g).pushFrame (.throwing q))
    rw [← hs₂]
    exact hsteps
end
variable {p : Program} {l : Launch} {e : Env} {R : Room} {s : State} {m : MethodId} {args : Array Value} {below : List Frame} {meth : Method} {c : Code} {T : State} {H : Heap} {locs : List Loc} {cells slots : Nat}
theorem vx_callVX (X : Stand p l e R s m args below meth c T locs cells slots) (hexec : p.tables.exec = Jvm.exec) {own C : String} {index : Nat} {y : MethodName} {bytes : ByteArray} {maxL : Nat} {ret : Option FieldType} {hh : List (Nat × Nat × Nat × Nat)}
    (hown : s.vm.findClass own = some m.cls) (hlink : (Cond.methodLink own index y).before args s = true) (hinst : (Cond.instanceMethod y).before args s = true) (hsel : (Cond.selects C y y).before args s = true)
    (hcode : (Cond.codeWith y bytes maxL ret hh).before args s = true) (hy : y.cls ≠ "java/lang/invoke/MethodHandle" ∧ y.cls ≠ "java/lang/invoke/VarHandle")
    {W9 : Nat} {Pre : Pt → Array Value → Prop} {Post : Pt → Array Value → Option Value → Pt → Prop} {PostX : Pt → Array Value → Addr → Pt → Prop} (hK : vx_Back l R p e below s args y 3 W9 Pre Post PostX)
    {b : Addr} {cellB : Cell} (hcell : T.heap[b]? = some cellB) (hobj : cellB.vm.isStatics = false) (hcls : s.vm.findClass C = some cellB.cls)
    {g : JFrame} (hg : g.method = m) (hsize : g.locals.size = c.maxLocals) {argsL rest : List Value} (hlen : ∀ sig, parseMethodDescriptor y.desc = some sig → argsL.length = sig.parameters.length)
    (hstack : g.stack = argsL.reverse ++ .ref b :: rest) (hW : 2 * g.monitorRoom + (rest.map fun v => v.category).sum ≤ W9) (hdg : decode c.code g.pc = .ok (.invokevirtual index, 3))
    (hpre : ∀ vm₁, s.WarmedH vm₁ → Pre ⟨T.setVm vm₁, locs, cells, slots⟩ (Value.ref b :: argsL).toArray) :
    (∃ (v : Option Value) (vm₁ : Vm) (B : Pt), s.WarmedH vm₁ ∧ Stand p l e R s m args below meth c B.U B.locs B.cells B.slots ∧ Post ⟨T.setVm vm₁, locs, cells, slots⟩ (Value.ref b :: argsL).toArray v B ∧
      ∀ target, Steps p.tables e below (B.U.setTop { g with pc := g.pc + 3, stack := v.toList ++ rest }) target → Steps p.tables e below (T.setTop g) target) ∨
    (∃ (q : Addr) (vm₁ : Vm) (B : Pt), s.WarmedH vm₁ ∧ Stand p l e R s m args below meth c B.U B.locs B.cells B.slots ∧ PostX ⟨T.setVm vm₁, locs, cells, slots⟩ (Value.ref b :: argsL).toArray q B ∧
      Steps p.tables e below (T.setTop g) ((B.U.setTop { g with stack := rest }).pushFrame (.throwing q))) := by
  obtain ⟨mk, methM, hnamed, hmethM, hstM, habM⟩ := Cond.instanceMethod_spec hinst
  obtain ⟨m8, methM', cM, hn8, hmethM', -, -, -, -, -, -, hsigM⟩ := Cond.codeWith_spec hcode
  cases Option.some.inj (hn8.symm.trans hnamed)
  cases hmethM.symm.trans hmethM'
  obtain ⟨c2, r2, m2, q1, q2, q3, q4, kP, hkP, hkPi⟩ := Cond.selects_spec hsel
  cases hcls.symm.trans q1
  cases (State.methodFound?_of_named hnamed hy).symm.trans q2
  cases hnamed.symm.trans q3
  have hselP : selectMethod e.platform s.vm cellB.cls mk = .method mk := by rw [Launch.admits_selectMethod X.admits]; exact q4
  obtain ⟨vm₁, X₁, hstep₁⟩ := X.invokevirtual hexec hown hlink hnamed hmethM hstM hkP hkPi hy (a := b) (cell := cellB) hcell
    (fun z h => by rw [h] at hobj; cases hobj) hselP hmethM habM hkP hkPi (g := g) hg (argsL := argsL) (rest := rest) (hlen _ hsigM) hstack hdg
  rcases hK m meth c ⟨T.setVm vm₁, locs, cells, slots⟩ { g with stack := rest } (.invokevirtual index) mk (Value.ref b :: argsL).toArray X₁ hg hsize hdg hW (X₁.named hnamed) (hpre vm₁ X₁.warmed) with ⟨v, B, X', hpost, hsteps⟩ | ⟨q, B, X', hpost, hsteps⟩
  · exact Or.inl ⟨v, vm₁, B, X₁.warmed, X', hpost, fun target h => hstep₁ _ fun acts => by rw [doInvoke_state]; exact hsteps.trans h⟩
  · exact Or.inr ⟨q, vm₁, B, X₁.warmed, X', hpost, hstep₁ _ fun acts => by rw [doInvoke_state]; exact hsteps⟩
theorem vx_callSX (X : Stand p l e R s m args below meth c T locs cells slots) (hexec : p.tables.exec = Jvm.exec) {own : String} {index : Nat} {y : MethodName} {bytes : ByteArray} {maxL : Nat} {ret : Option FieldType} {hh : List (Nat × Nat × Nat × Nat)}
    (hown : s.vm.findClass own = some m.cls) (hlink : (Cond.methodLink own index y).before args s = true) (hstat : (Cond.static y).before args s = true) (hinit : (Cond.initialized y.cls).before args s = true)
    (hcode : (Cond.codeWith y bytes maxL ret hh).before args s = true) (hy : y.cls ≠ "java/lang/invoke/MethodHandle" ∧ y.cls ≠ "java/lang/invoke/VarHandle")
    {W9 : Nat} {Pre : Pt → Array Value → Prop} {Post : Pt → Array Value → Option Value → Pt → Prop} {PostX : Pt → Array Value → Addr → Pt → Prop} (hK : vx_Back l R p e below s args y 3 W9 Pre Post PostX)
    {g : JFrame} (hg : g.method = m) (hsize : g.locals.size = c.maxLocals) {argsL rest : List Value} (hlen : ∀ sig, parseMethodDescriptor y.desc = some sig → argsL.length = sig.parameters.length)
    (hstack : g.stack = argsL.reverse ++ rest) (hW : 2 * g.monitorRoom + (rest.map fun v => v.category).sum ≤ W9) (hdg : decode c.code g.pc = .ok (.invokestatic index, 3))
    (hpre : ∀ vm₁, s.WarmedH vm₁ → Pre ⟨T.setVm vm₁, locs, cells, slots⟩ argsL.toArray) :
    (∃ (v : Option Value) (vm₁ : Vm) (B : Pt), s.WarmedH vm₁ ∧ Stand p l e R s m args below meth c B.U B.locs B.cells B.slots ∧ Post ⟨T.setVm vm₁, locs, cells, slots⟩ argsL.toArray v B ∧
      ∀ target, Steps p.tables e below (B.U.setTop { g with pc := g.pc + 3, stack := v.toList ++ rest }) target → Steps p.tables e below (T.setTop g) target) ∨
    (∃ (q : Addr) (vm₁ : Vm) (B : Pt), s.WarmedH vm₁ ∧ Stand p l e R s m args below meth c B.U B.locs B.cells B.slots ∧ PostX ⟨T.setVm vm₁, locs, cells, slots⟩ argsL.toArray q B ∧
      Steps p.tables e below (T.setTop g) ((B.U.setTop { g with stack := rest }).pushFrame (.throwing q))) := by
  obtain ⟨mk, methM, cM, hnamed, hmethM, -, -, -, -, -, -, hsigM⟩ := Cond.codeWith_spec hcode
  have hstatic : methM.isStatic = true := Cond.static_spec hnamed hmethM hstat
  obtain ⟨kP, hkP, -⟩ := className_of_methodNamed hnamed
  have hinitP : kP.init = .initialized := Cond.initialized_spec (findClass_of_methodNamed hnamed) hkP hinit
  obtain ⟨vm₁, X₁, hstep₁⟩ := X.invokestatic hexec hown hlink hnamed hmethM hstatic hkP hinitP hy (g := g) hg (argsL := argsL) (rest := rest) (hlen _ hsigM) hstack hdg
  rcases hK m meth c ⟨T.setVm vm₁, locs, cells, slots⟩ { g with stack := rest } (.invokestatic index) mk argsL.toArray X₁ hg hsize hdg hW (X₁.named hnamed) (hpre vm₁ X₁.warmed) with ⟨v, B, X', hpost, hsteps⟩ | ⟨q, B, X', hpost, hsteps⟩
  · exact Or.inl ⟨v, vm₁, B, X₁.warmed, X', hpost, fun target h => hstep₁ _ fun acts => by rw [doInvoke_state]; exact hsteps.trans h⟩
  · exact Or.inr ⟨q, vm₁, B, X₁.warmed, X', hpost, hstep₁ _ fun acts => by rw [doInvoke_state]; exact hsteps⟩
theorem vx_callVW (X : Stand p l e R s m args below meth c T locs cells slots) (hexec : p.tables.exec = Jvm.exec) {own C : String} {index : Nat} {y : MethodName} {bytes : ByteArray} {maxL : Nat} {ret : Option FieldType} {hh : List (Nat × Nat × Nat × Nat)}
    (hown : s.vm.findClass own = some m.cls) (hlink : (Cond.methodLink own index y).before args s = true) (hinst : (Cond.instanceMethod y).before args s = true) (hsel : (Cond.selects C y y).before args s = true)
    (hcode : (Cond.codeWith y bytes maxL ret hh).before args s = true) (hy : y.cls ≠ "java/lang/invoke/MethodHandle" ∧ y.cls ≠ "java/lang/invoke/VarHandle")
    {W9 : Nat} {Pre : Pt → Array Value → Prop} {Post : Pt → Array Value → Option Value → Pt → Prop} (hK : Back l R p e below s args y 3 W9 Pre Post)
    {b : Addr} {cellB : Cell} (hcell : T.heap[b]? = some cellB) (hobj : cellB.vm.isStatics = false) (hcls : s.vm.findClass C = some cellB.cls)
    {g : JFrame} (hg : g.method = m) (hsize : g.locals.size = c.maxLocals) {argsL rest : List Value} (hlen : ∀ sig, parseMethodDescriptor y.desc = some sig → argsL.length = sig.parameters.length)
    (hstack : g.stack = argsL.reverse ++ .ref b :: rest) (hW : 2 * g.monitorRoom + (rest.map fun v => v.category).sum ≤ W9) (hdg : decode c.code g.pc = .ok (.invokevirtual index, 3))
    (hpre : ∀ vm₁, s.WarmedH vm₁ → Pre ⟨T.setVm vm₁, locs, cells, slots⟩ (Value.ref b :: argsL).toArray) :
    ∃ (v : Option Value) (vm₁ : Vm) (B : Pt), s.WarmedH vm₁ ∧ Stand p l e R s m args below meth c B.U B.locs B.cells B.slots ∧ Post ⟨T.setVm vm₁, locs, cells, slots⟩ (Value.ref b :: argsL).toArray v B ∧
      ∀ target, Steps p.tables e below (B.U.setTop { g with pc := g.pc + 3, stack := v.toList ++ rest }) target → Steps p.tables e below (T.setTop g) target := by
  obtain ⟨mk, methM, hnamed, hmethM, hstM, habM⟩ := Cond.instanceMethod_spec hinst
  obtain ⟨m8, methM', cM, hn8, hmethM', -, -, -, -, -, -, hsigM⟩ := Cond.codeWith_spec hcode
  cases Option.some.inj (hn8.symm.trans hnamed)
  cases hmethM.symm.trans hmethM'
  obtain ⟨c2, r2, m2, q1, q2, q3, q4, kP, hkP, hkPi⟩ := Cond.selects_spec hsel
  cases hcls.symm.trans q1
  cases (State.methodFound?_of_named hnamed hy).symm.trans q2
  cases hnamed.symm.trans q3
  have hselP : selectMethod e.platform s.vm cellB.cls mk = .method mk := by rw [Launch.admits_selectMethod X.admits]; exact q4
  obtain ⟨vm₁, X₁, hstep₁⟩ := X.invokevirtual hexec hown hlink hnamed hmethM hstM hkP hkPi hy (a := b) (cell := cellB) hcell
    (fun z h => by rw [h] at hobj; cases hobj) hselP hmethM habM hkP hkPi (g := g) hg (argsL := argsL) (rest := rest) (hlen _ hsigM) hstack hdg
  obtain ⟨v, B, X', hpost, hsteps⟩ := hK m meth c ⟨T.setVm vm₁, locs, cells, slots⟩ { g with stack := rest } (.invokevirtual index) mk (Value.ref b :: argsL).toArray X₁ hg hsize hdg hW (X₁.named hnamed) (hpre vm₁ X₁.warmed)
  exact ⟨v, vm₁, B, X₁.warmed, X', hpost, fun target h => hstep₁ _ fun acts => by rw [doInvoke_state]; exact hsteps.trans h⟩
abbrev vx_CVW (R : Room) (s : State) (args : Array Value) (own C : String) (index : Nat) (y : MethodName) (bytes : ByteArray) (maxL : Nat) (ret : Option FieldType) (hh : List (Nat × Nat × Nat × Nat)) (ws : List Cond) (rm : Room) (mc ms n : Nat) : Prop :=
  (rm.cells = mc ∧ rm.slots = ms ∧ rm.frames + 1 ≤ R.frames ∧ 8 + (maxL + 11) + rm.locals ≤ R.locals ∧ (∀ w ∈ ws, ∀ (a' : Array Value) (U : State), s.WarmedH U.vm → w.before a' U = true) ∧ Cond.codeWith y bytes maxL ret hh ∈ ws) ∧
  (Cond.codeWith y bytes maxL ret hh).before args s = true ∧ (Cond.initialized y.cls).before args s = true ∧ (y.cls ≠ "java/lang/invoke/MethodHandle" ∧ y.cls ≠ "java/lang/invoke/VarHandle") ∧
  (∀ sig, parseMethodDescriptor y.desc = some sig → n = sig.parameters.length) ∧ (Cond.methodLink own index y).before args s = true ∧ (Cond.instanceMethod y).before args s = true ∧ (Cond.selects C y y).before args s = true
theorem vx_cwVW {own C : String} {index maxL mc ms : Nat} {y : MethodName} {bytes : ByteArray} {ret : Option FieldType} {hh : List (Nat × Nat × Nat × Nat)} {Ts ws ws' : List Cond} {rm : Room} (n : Nat) (ht : ∀ w ∈ Ts, w.before args s = true) (hT : GoodIn Ts (wsV own index C y ws)) (hw : ws = Cond.codeWith y bytes maxL ret hh :: ws') (hrc : rm.cells = mc) (hrs : rm.slots = ms)
    (hd : y.cls = C ∧ y.cls ≠ "java/lang/invoke/MethodHandle" ∧ y.cls ≠ "java/lang/invoke/VarHandle" ∧ (parseMethodDescriptor y.desc).map (fun d => d.parameters.length) = some n) (hR : rm.frames + 1 ≤ R.frames ∧ 8 + (maxL + 11) + rm.locals ≤ R.locals) :
    vx_CVW R s args own C index y bytes maxL ret hh ws rm mc ms n := by
  obtain ⟨hC, hd⟩ := hd
  subst hC
  have ok : ∀ w ∈ wsV own index y.cls y ws, w.before args s = true := fun w h => ht w (hT w h).1
  have hG : GoodIn Ts ws := fun w h => hT w (by unfold wsV; exact List.mem_append_right _ h)
  have hc : Cond.codeWith y bytes maxL ret hh ∈ ws := by rw [hw]; exact List.mem_cons_self
  refine ⟨⟨hrc, hrs, hR.1, hR.2, pay_in ht hG, hc⟩, ht _ (hG _ hc).1, ok _ (by simp [wsV]), ⟨hd.1, hd.2.1⟩, fun sig h => ?_, ok _ (by simp [wsV]), ok _ (by simp [wsV]), ok _ (by simp [wsV])⟩
  have h2 := hd.2.2
  rw [h] at h2
  exact (Option.some.inj h2).symm
theorem vx_runVW {y : MethodName} {bytes cc : ByteArray} {maxL nL mc ms n index : Nat} {ret : Option FieldType} {hh : List (Nat × Nat × Nat × Nat)} {ws : List Cond} {rm : Room} {Pc : Array Value → State → Prop} {Qc : Array Value → State → Outcome → State → Prop} {free : Addr → Prop} {Ts : List Cond} {own C : String} {b : Addr} {As rest : List Value} {g : JFrame}
    (S : CallFix p m c cc nL s args Ts own) (hM : Met l y ws rm Pc Qc mc ms free) (cw : vx_CVW R s args own C index y bytes maxL ret hh ws rm mc ms n) (hp : PreV s H C b Pc As)
    (hg : g.method = m) (hn : As.length = n) (hsize : g.locals.size = nL) (hstack : g.stack = As.reverse ++ .ref b :: rest) (hW : 2 * g.monitorRoom + (rest.map fun v => v.category).sum ≤ 8) (hdg : decode cc g.pc = .ok (.invokevirtual index, 3)) (hf : cells + mc ≤ R.cells ∧ slots + ms ≤ R.slots) :
    va_Run p l e R s m args below meth c H locs cells slots mc ms g rest (Qc (Value.ref b :: As).toArray) free := by
  obtain ⟨⟨hrc, hrs, hfr, hlo, hws, hcw⟩, hcode, hini, hy, hlen, hl, hin, hse⟩ := cw
  have hK : Back l R p e below s args y 3 8 (PreOf R mc ms Pc) (PostOf Qc mc ms free) := va_backW (hh := hh) (bytes := bytes) (maxL := maxL) (ret := ret) hM hp.1 hrc hrs hfr hlo hws hcw (fun a' U hW => word_at hW (Or.inl (by first | rfl | simp [Cond.onTables, Cond.keeps, Cond.steady])) hini)
  obtain ⟨hx, hb, hml, ho, -⟩ := S
  obtain ⟨-, ⟨cellB, hcB, hoB, hclB⟩, hPc⟩ := hp
  intro T hT X
  obtain ⟨v, vm₁, ⟨U', l2, c2, s2⟩, hW₁, X', ⟨g', mk, t, L, e1, e2, hq, h1, hL, h2, h3⟩, st⟩ := vx_callVW X hx (C := C) (hh := hh) (bytes := bytes) (maxL := maxL) (ret := ret) ho hl hin hse hcode hy hK (by rw [hT]; exact hcB) hoB hclB hg (hsize.trans hml.symm) (argsL := As) (rest := rest) (fun sig h => hn.trans (hlen sig h)) hstack hW (by rw [hb]; exact hdg)
    (fun vm₁ hW₁ => ⟨hf.1, hf.2, hPc (T.setVm vm₁) hT hW₁⟩)
  dsimp only [Pt.U, Pt.locs, Pt.cells, Pt.slots] at X' e1 e2 h1 h2 h3 st
  subst h1; subst h2; subst h3
  exact ⟨v, (T.setVm vm₁).calling g' mk (Value.ref b :: As).toArray, t, U', L, hT, X', hL, e1, e2, hq, st⟩
section
variable {y : MethodName} {bytes cc : ByteArray} {maxL nL mc ms n index : Nat} {ret : Option FieldType} {ws : List Cond} {rm : Room} {Pc : Array Value → State → Prop} {Qc : Array Value → State → Outcome → State → Prop} {XC : String → State → State → Prop} {free : Addr → Prop} {Ts : List Cond} {own C : String} {b : Addr} {As rest : List Value} {g : JFrame}
theorem vx_runVX {hh : List (Nat × Nat × Nat × Nat)} (S : CallFix p m c cc nL s args Ts own) (hM : vx_Met l y ws rm Pc Qc XC mc ms free) (cw : vx_CVW R s args own C index y bytes maxL ret hh ws rm mc ms n) (hp : PreV s H C b Pc As)
    (hg : g.method = m) (hn : As.length = n) (hsize : g.locals.size = nL) (hstack : g.stack = As.reverse ++ .ref b :: rest) (hW : 2 * g.monitorRoom + (rest.map fun v => v.category).sum ≤ 8) (hdg : decode cc g.pc = .ok (.invokevirtual index, 3)) (hf : cells + mc ≤ R.cells ∧ slots + ms ≤ R.slots) :
    vx_Run p l e R s m args below meth c H locs cells slots mc ms g rest (Qc (Value.ref b :: As).toArray) XC free := by
  obtain ⟨⟨hrc, hrs, hfr, hlo, hws, hcw⟩, hcode, hini, hy, hlen, hl, hin, hse⟩ := cw
  have hK : vx_Back l R p e below s args y 3 8 (PreOf R mc ms Pc) (PostOf Qc mc ms free) (vx_Post XC mc ms free) := vx_backW (hh := hh) (bytes := bytes) (maxL := maxL) (ret := ret) hM hp.1 hrc hrs hfr hlo hws hcw (fun a' U hW => word_at hW (Or.inl (by first | rfl | simp [Cond.onTables, Cond.keeps, Cond.steady])) hini)
  obtain ⟨hx, hb, hml, ho, -⟩ := S
  obtain ⟨-, ⟨cellB, hcB, hoB, hclB⟩, hPc⟩ := hp
  intro T hT X
  rcases vx_callVX X hx (C := C) (hh := hh) (bytes := bytes) (maxL := maxL) (ret := ret) ho hl hin hse hcode hy hK (by rw [hT]; exact hcB) hoB hclB hg (hsize.trans hml.symm) (argsL := As) (rest := rest) (fun sig h => hn.trans (hlen sig h)) hstack hW (by rw [hb]; exact hdg)
    (fun vm₁ hW₁ => ⟨hf.1, hf.2, hPc (T.setVm vm₁) hT hW₁⟩) with ⟨v, vm₁, ⟨U', l2, c2, s2⟩, hW₁, X', ⟨g', mk, t, L, e1, e2, hq, h1, hL, h2, h3⟩, st⟩ | ⟨q, vm₁, ⟨U', l2, c2, s2⟩, hW₁, X', ⟨g', mk, t, L, E, ce, e1, e2, hq, hce, hcv, hcl, h1, hL, h2, h3⟩, st⟩
  · dsimp only [Pt.U, Pt.locs, Pt.cells, Pt.slots] at X' e1 e2 h1 h2 h3 st
    subst h1; subst h2; subst h3
    exact Or.inl ⟨v, (T.setVm vm₁).calling g' mk (Value.ref b :: As).toArray, t, U', L, hT, X', hL, e1, e2, hq, st⟩
  · dsimp only [Pt.U, Pt.locs, Pt.cells, Pt.slots] at X' e1 e2 h1 h2 h3 st hcl
    subst h1; subst h2; subst h3
    exact Or.inr ⟨q, (T.setVm vm₁).calling g' mk (Value.ref b :: As).toArray, t, U', L, E, ce, hT, X', hL, e1, e2, hq, hce, hcv, vx_cls hW₁ hcl, st⟩
theorem vx_runSX {hh : List (Nat × Nat × Nat × Nat)} (S : CallFix p m c cc nL s args Ts own) (hM : vx_Met l y ws rm Pc Qc XC mc ms free) (cw : vx_CSW R s args own index y bytes maxL ret hh ws rm mc ms n) (hp : PreS s H Pc As)
    (hg : g.method = m) (hn : As.length = n) (hsize : g.locals.size = nL) (hstack : g.stack = As.reverse ++ rest) (hW : 2 * g.monitorRoom + (rest.map fun v => v.category).sum ≤ 8) (hdg : decode cc g.pc = .ok (.invokestatic index, 3)) (hf : cells + mc ≤ R.cells ∧ slots + ms ≤ R.slots) :
    vx_Run p l e R s m args below meth c H locs cells slots mc ms g rest (Qc As.toArray) XC free := by
  obtain ⟨⟨hrc, hrs, hfr, hlo, hws, hcw⟩, hcode, hini, hy, hlen, hl, hstt⟩ := cw
  have hK : vx_Back l R p e below s args y 3 8 (PreOf R mc ms Pc) (PostOf Qc mc ms free) (vx_Post XC mc ms free) := vx_backW (hh := hh) (bytes := bytes) (maxL := maxL) (ret := ret) hM hp.1 hrc hrs hfr hlo hws hcw (fun a' U hW => word_at hW (Or.inl (by first | rfl | simp [Cond.onTables, Cond.keeps, Cond.steady])) hini)
  obtain ⟨hx, hb, hml, ho, -⟩ := S
  intro T hT X
  rcases vx_callSX X hx (hh := hh) (bytes := bytes) (maxL := maxL) (ret := ret) ho hl hstt hini hcode hy hK hg (hsize.trans hml.symm) (argsL := As) (rest := rest) (fun sig h => hn.trans (hlen sig h)) hstack hW (by rw [hb]; exact hdg)
    (fun vm₁ hW₁ => ⟨hf.1, hf.2, hp.2 (T.setVm vm₁) hT hW₁⟩) with ⟨v, vm₁, ⟨U', l2, c2, s2⟩, hW₁, X', ⟨g', mk, t, L, e1, e2, hq, h1, hL, h2, h3⟩, st⟩ | ⟨q, vm₁, ⟨U', l2, c2, s2⟩, hW₁, X', ⟨g', mk, t, L, E, ce, e1, e2, hq, hce, hcv, hcl, h1, hL, h2, h3⟩, st⟩
  · dsimp only [Pt.U, Pt.locs, Pt.cells, Pt.slots] at X' e1 e2 h1 h2 h3 st
    subst h1; subst h2; subst h3
    exact Or.inl ⟨v, (T.setVm vm₁).calling g' mk As.toArray, t, U', L, hT, X', hL, e1, e2, hq, st⟩
  · dsimp only [Pt.U, Pt.locs, Pt.cells, Pt.slots] at X' e1 e2 h1 h2 h3 st hcl
    subst h1; subst h2; subst h3
    exact Or.inr ⟨q, (T.setVm vm₁).calling g' mk As.toArray, t, U', L, E, ce, hT, X', hL, e1, e2, hq, hce, hcv, vx_cls hW₁ hcl, st⟩
end
end VXH
theorem vx_ofWH {l : Launch} {y : MethodName} {ws ws' : List Cond} {rm : Room} {Pc : Array Value → State → Prop} {Qc : Array Value → State → Outcome → State → Prop} {XC : String → State → State → Prop} {mc ms : Nat} {free : Addr → Prop} {cc : ByteArray} {maxL : Nat} {ret : Option FieldType} {hh : List (Nat × Nat × Nat × Nat)}
    (hy : plainName y.cls = true) (hw : ws = Cond.codeWith y cc maxL ret hh :: ws')
    (body : ∀ p e s m args below meth c s₁, BodyLoose p l y (headSpec ws rm) cc maxL ret e s m args below meth c s₁ → c.maxLocals = maxL → Pc args s →
      W p l e (headSpec ws rm).room s m args below meth c s.heap [] 0 0 (vx_MQ below Qc XC args s mc ms free) (entryFrame m args maxL)) : vx_Met l y ws rm Pc Qc XC mc ms free := by
  refine MetFree.of_bodyS (code := cc) (maxLocals := maxL) (ret := ret) hy ?_ ?_
  · intro args s m h hn
    obtain ⟨m9, meth, c, hn9, h1, h2, h3, h4, -, h5, h6, -⟩ := Cond.codeWith_spec (atoms_spec (ws := ws) h _ (by rw [hw]; exact List.mem_cons_self))
    cases hn.symm.trans hn9
    exact ⟨meth, c, h1, h2, h3, h4, h5, h6⟩
  · intro p e s m args below meth c s₁ B hml hP _
    have hh0 : s₁.heap = s.heap := by rw [B.state]; rfl
    obtain ⟨t, a1, o, b1, b2, b3⟩ := body p e s m args below meth c s₁ B hml hP s₁ hh0 (Stand.of_body B)
    exact ⟨t, o, a1, b1, b2, b3⟩
/-! ===== END ===== -/
end
section
def RX0 : String := "UnitText$Book"
def TX0 : u_T := fun k => match k with
  | 0 => ("UnitText$Book", "statements", "LUnitText$Table;", true)
  | 1 => ("UnitText$Book", "operands", "LUnitText$Table;", true)
  | 2 => ("UnitText$Book", "items", "LUnitText$Table;", true)
  | 3 => ("UnitText$Book", "names", "LUnitText$Table;", true)
  | 4 => ("UnitText$Book", "bytes", "[I", true)
  | _ => ("UnitText$Book", "byteCount", "I", false)
def tyX0 : Nat → FieldType := fun k => match k with
  | 0 => .object "UnitText$Table"
  | 1 => .object "UnitText$Table"
  | 2 => .object "UnitText$Table"
  | 3 => .object "UnitText$Table"
  | 4 => .array .int
  | _ => .int
abbrev wsX00 : List Cond := u_ws RX0 TX0 6
theorem nmX0 : ∀ a, a < 6 → ∀ b, b < 6 → a ≠ b → (TX0 a).2.1 ≠ (TX0 b).2.1 := by decide +kernel
theorem tyX0_ok : ∀ k, k < 6 → parseFieldDescriptor (TX0 k).2.2.1 = some (tyX0 k) := by decide +kernel
abbrev cX0_init : ByteArray := prog_2_method_1_code
def yX0_init : MethodName := ⟨RX0, "<init>", "()V"⟩
abbrev cX0_clear : ByteArray := prog_2_method_2_code
def yX0_clear : MethodName := ⟨RX0, "clear", "()V"⟩
abbrev cX0_addItem : ByteArray := prog_2_method_3_code
def yX0_addItem : MethodName := ⟨RX0, "addItem", "(II)V"⟩
abbrev cX0_addByte : ByteArray := prog_2_method_4_code
def yX0_addByte : MethodName := ⟨RX0, "addByte", "(I)V"⟩
abbrev cX0_addName : ByteArray := prog_2_method_5_code
def yX0_addName : MethodName := ⟨RX0, "addName", "([III)I"⟩
abbrev cX0_findName : ByteArray := prog_2_method_6_code
def yX0_findName : MethodName := ⟨RX0, "findName", "([III)I"⟩
abbrev cX0_byteOfName : ByteArray := prog_2_method_7_code
def yX0_byteOfName : MethodName := ⟨RX0, "byteOfName", "(II)I"⟩
abbrev cX0_byteOfString : ByteArray := prog_2_method_8_code
def yX0_byteOfString : MethodName := ⟨RX0, "byteOfString", "(II)I"⟩
abbrev cX0_byteBehind : ByteArray := prog_2_method_9_code
def yX0_byteBehind : MethodName := ⟨RX0, "byteBehind", "(III)I"⟩
def RX1 : String := "UnitText$Items"
def TX1 : u_T := fun k => match k with
  | _ => ("", "", "", false)
def tyX1 : Nat → FieldType := fun k => match k with
  | _ => .int
abbrev wsX10 : List Cond := u_ws RX1 TX1 0
theorem nmX1 : ∀ a, a < 0 → ∀ b, b < 0 → a ≠ b → (TX1 a).2.1 ≠ (TX1 b).2.1 := by decide +kernel
theorem tyX1_ok : ∀ k, k < 0 → parseFieldDescriptor (TX1 k).2.2.1 = some (tyX1 k) := by decide +kernel
abbrev cX1_isTwoSided : ByteArray := prog_3_method_2_code
def yX1_isTwoSided : MethodName := ⟨RX1, "isTwoSided", "(I)Z"⟩
abbrev cX1_isAhead : ByteArray := prog_3_method_3_code
def yX1_isAhead : MethodName := ⟨RX1, "isAhead", "(I)Z"⟩
abbrev cX1_levelOf : ByteArray := prog_3_method_4_code
def yX1_levelOf : MethodName := ⟨RX1, "levelOf", "(I)I"⟩
abbrev cX1_signOf : ByteArray := prog_3_method_5_code
def yX1_signOf : MethodName := ⟨RX1, "signOf", "(I)Ljava/lang/String;"⟩
def RX2 : String := "UnitText$Marks"
def TX2 : u_T := fun k => match k with
  | _ => ("", "", "", false)
def tyX2 : Nat → FieldType := fun k => match k with
  | _ => .int
abbrev wsX20 : List Cond := u_ws RX2 TX2 0
theorem nmX2 : ∀ a, a < 0 → ∀ b, b < 0 → a ≠ b → (TX2 a).2.1 ≠ (TX2 b).2.1 := by decide +kernel
theorem tyX2_ok : ∀ k, k < 0 → parseFieldDescriptor (TX2 k).2.2.1 = some (tyX2 k) := by decide +kernel
abbrev cX2_nameOf : ByteArray := prog_4_method_2_code
def yX2_nameOf : MethodName := ⟨RX2, "nameOf", "(I)Ljava/lang/String;"⟩
abbrev cX2_numberOf : ByteArray := prog_4_method_3_code
def yX2_numberOf : MethodName := ⟨RX2, "numberOf", "(LUnitText$Words;I)I"⟩
def RX3 : String := "UnitText$Reader"
def TX3 : u_T := fun k => match k with
  | 0 => ("UnitText$Reader", "words", "LUnitText$Words;", true)
  | 1 => ("UnitText$Reader", "done", "LUnitText$Book;", false)
  | 2 => ("UnitText$Reader", "open", "LUnitText$Book;", false)
  | 3 => ("UnitText$Reader", "at", "I", false)
  | 4 => ("UnitText$Reader", "kind", "I", false)
  | 5 => ("UnitText$Reader", "place", "I", false)
  | 6 => ("UnitText$Reader", "operandRow", "I", false)
  | 7 => ("UnitText$Reader", "firstItem", "I", false)
  | 8 => ("UnitText$Reader", "countedItems", "I", false)
  | 9 => ("UnitText$Reader", "faultNumber", "I", false)
  | _ => ("UnitText$Reader", "faultPlace", "I", false)
def tyX3 : Nat → FieldType := fun k => match k with
  | 0 => .object "UnitText$Words"
  | 1 => .object "UnitText$Book"
  | 2 => .object "UnitText$Book"
  | 3 => .int
  | 4 => .int
  | 5 => .int
  | 6 => .int
  | 7 => .int
  | 8 => .int
  | 9 => .int
  | _ => .int
abbrev wsX30 : List Cond := u_ws RX3 TX3 11
theorem nmX3 : ∀ a, a < 11 → ∀ b, b < 11 → a ≠ b → (TX3 a).2.1 ≠ (TX3 b).2.1 := by decide +kernel
theorem tyX3_ok : ∀ k, k < 11 → parseFieldDescriptor (TX3 k).2.2.1 = some (tyX3 k) := by decide +kernel
abbrev cX3_init : ByteArray := prog_5_method_1_code
def yX3_init : MethodName := ⟨RX3, "<init>", "()V"⟩
abbrev cX3_begin : ByteArray := prog_5_method_2_code
def yX3_begin : MethodName := ⟨RX3, "begin", "()V"⟩
abbrev cX3_hasLine : ByteArray := prog_5_method_3_code
def yX3_hasLine : MethodName := ⟨RX3, "hasLine", "()Z"⟩
abbrev cX3_finish : ByteArray := prog_5_method_4_code
def yX3_finish : MethodName := ⟨RX3, "finish", "()I"⟩
abbrev cX3_step : ByteArray := prog_5_method_5_code
def yX3_step : MethodName := ⟨RX3, "step", "()V"⟩
abbrev cX3_refuse : ByteArray := prog_5_method_6_code
def yX3_refuse : MethodName := ⟨RX3, "refuse", "(I)V"⟩
abbrev cX3_demand : ByteArray := prog_5_method_7_code
def yX3_demand : MethodName := ⟨RX3, "demand", "(I)V"⟩
abbrev cX3_readLabels : ByteArray := prog_5_method_8_code
def yX3_readLabels : MethodName := ⟨RX3, "readLabels", "(I)V"⟩
abbrev cX3_isAtLabel : ByteArray := prog_5_method_9_code
def yX3_isAtLabel : MethodName := ⟨RX3, "isAtLabel", "()Z"⟩
abbrev cX3_readWord : ByteArray := prog_5_method_10_code
def yX3_readWord : MethodName := ⟨RX3, "readWord", "(I)V"⟩
abbrev cX3_addStatement : ByteArray := prog_5_method_11_code
def yX3_addStatement : MethodName := ⟨RX3, "addStatement", "(III)I"⟩
abbrev cX3_nameNumber : ByteArray := prog_5_method_12_code
def yX3_nameNumber : MethodName := ⟨RX3, "nameNumber", "()I"⟩
abbrev cX3_readOperand : ByteArray := prog_5_method_13_code
def yX3_readOperand : MethodName := ⟨RX3, "readOperand", "()V"⟩
abbrev cX3_addOperand : ByteArray := prog_5_method_14_code
def yX3_addOperand : MethodName := ⟨RX3, "addOperand", "(I)V"⟩
abbrev cX3_readRegister : ByteArray := prog_5_method_15_code
def yX3_readRegister : MethodName := ⟨RX3, "readRegister", "()V"⟩
abbrev cX3_readBase : ByteArray := prog_5_method_16_code
def yX3_readBase : MethodName := ⟨RX3, "readBase", "()V"⟩
abbrev cX3_readString : ByteArray := prog_5_method_17_code
def yX3_readString : MethodName := ⟨RX3, "readString", "()V"⟩
abbrev cX3_readMark : ByteArray := prog_5_method_18_code
def yX3_readMark : MethodName := ⟨RX3, "readMark", "()V"⟩
abbrev cX3_canBeginExpression : ByteArray := prog_5_method_19_code
def yX3_canBeginExpression : MethodName := ⟨RX3, "canBeginExpression", "(I)Z"⟩
abbrev cX3_readSides : ByteArray := prog_5_method_20_code
def yX3_readSides : MethodName := ⟨RX3, "readSides", "(II)V"⟩
abbrev cX3_readOne : ByteArray := prog_5_method_21_code
def yX3_readOne : MethodName := ⟨RX3, "readOne", "(I)V"⟩
abbrev cX3_sortAhead : ByteArray := prog_5_method_22_code
def yX3_sortAhead : MethodName := ⟨RX3, "sortAhead", "(I)I"⟩
abbrev cX3_checkOne : ByteArray := prog_5_method_23_code
def yX3_checkOne : MethodName := ⟨RX3, "checkOne", "(I)V"⟩
abbrev cX3_countItem : ByteArray := prog_5_method_24_code
def yX3_countItem : MethodName := ⟨RX3, "countItem", "()V"⟩
def RX4 : String := "UnitText$Reckoner"
def TX4 : u_T := fun k => match k with
  | _ => ("UnitText$Reckoner", "stack", "[I", true)
def tyX4 : Nat → FieldType := fun k => match k with
  | _ => .array .int
abbrev wsX40 : List Cond := u_ws RX4 TX4 1
theorem nmX4 : ∀ a, a < 1 → ∀ b, b < 1 → a ≠ b → (TX4 a).2.1 ≠ (TX4 b).2.1 := by decide +kernel
theorem tyX4_ok : ∀ k, k < 1 → parseFieldDescriptor (TX4 k).2.2.1 = some (tyX4 k) := by decide +kernel
abbrev cX4_init : ByteArray := prog_6_method_1_code
def yX4_init : MethodName := ⟨RX4, "<init>", "()V"⟩
abbrev cX4_workOut : ByteArray := prog_6_method_2_code
def yX4_workOut : MethodName := ⟨RX4, "workOut", "(LUnitText$Book;I)J"⟩
abbrev cX4_join : ByteArray := prog_6_method_3_code
def yX4_join : MethodName := ⟨RX4, "join", "(III)J"⟩
def RX5 : String := "UnitText$Registers"
def TX5 : u_T := fun k => match k with
  | _ => ("", "", "", false)
def tyX5 : Nat → FieldType := fun k => match k with
  | _ => .int
abbrev wsX50 : List Cond := u_ws RX5 TX5 0
theorem nmX5 : ∀ a, a < 0 → ∀ b, b < 0 → a ≠ b → (TX5 a).2.1 ≠ (TX5 b).2.1 := by decide +kernel
theorem tyX5_ok : ∀ k, k < 0 → parseFieldDescriptor (TX5 k).2.2.1 = some (tyX5 k) := by decide +kernel
abbrev cX5_numberOf : ByteArray := prog_7_method_2_code
def yX5_numberOf : MethodName := ⟨RX5, "numberOf", "([III)I"⟩
abbrev cX5_memberAt : ByteArray := prog_7_method_3_code
def yX5_memberAt : MethodName := ⟨RX5, "memberAt", "([III)I"⟩
abbrev cX5_ofFamily : ByteArray := prog_7_method_4_code
def yX5_ofFamily : MethodName := ⟨RX5, "ofFamily", "(II)I"⟩
def RX6 : String := "UnitText$Table"
def TX6 : u_T := fun k => match k with
  | 0 => ("UnitText$Table", "cells", "[I", true)
  | 1 => ("UnitText$Table", "width", "I", true)
  | 2 => ("UnitText$Table", "most", "I", true)
  | _ => ("UnitText$Table", "size", "I", false)
def tyX6 : Nat → FieldType := fun k => match k with
  | 0 => .array .int
  | 1 => .int
  | 2 => .int
  | _ => .int
abbrev wsX60 : List Cond := u_ws RX6 TX6 4
theorem nmX6 : ∀ a, a < 4 → ∀ b, b < 4 → a ≠ b → (TX6 a).2.1 ≠ (TX6 b).2.1 := by decide +kernel
theorem tyX6_ok : ∀ k, k < 4 → parseFieldDescriptor (TX6 k).2.2.1 = some (tyX6 k) := by decide +kernel
abbrev cX6_init : ByteArray := prog_8_method_1_code
def yX6_init : MethodName := ⟨RX6, "<init>", "(II)V"⟩
abbrev cX6_isFull : ByteArray := prog_8_method_2_code
def yX6_isFull : MethodName := ⟨RX6, "isFull", "()Z"⟩
abbrev cX6_addRow : ByteArray := prog_8_method_3_code
def yX6_addRow : MethodName := ⟨RX6, "addRow", "()I"⟩
abbrev cX6_setCell : ByteArray := prog_8_method_4_code
def yX6_setCell : MethodName := ⟨RX6, "setCell", "(III)V"⟩
abbrev cX6_cell : ByteArray := prog_8_method_5_code
def yX6_cell : MethodName := ⟨RX6, "cell", "(III)I"⟩
def RX7 : String := "UnitText$Teller"
def TX7 : u_T := fun k => match k with
  | 0 => ("UnitText$Teller", "out", "[I", true)
  | 1 => ("UnitText$Teller", "size", "I", false)
  | 2 => ("UnitText$Teller", "begins", "[I", true)
  | 3 => ("UnitText$Teller", "firstItem", "I", false)
  | _ => ("UnitText$Teller", "itemCount", "I", false)
def tyX7 : Nat → FieldType := fun k => match k with
  | 0 => .array .int
  | 1 => .int
  | 2 => .array .int
  | 3 => .int
  | _ => .int
abbrev wsX70 : List Cond := u_ws RX7 TX7 5
theorem nmX7 : ∀ a, a < 5 → ∀ b, b < 5 → a ≠ b → (TX7 a).2.1 ≠ (TX7 b).2.1 := by decide +kernel
theorem tyX7_ok : ∀ k, k < 5 → parseFieldDescriptor (TX7 k).2.2.1 = some (tyX7 k) := by decide +kernel
abbrev cX7_init : ByteArray := prog_9_method_1_code
def yX7_init : MethodName := ⟨RX7, "<init>", "()V"⟩
abbrev cX7_write : ByteArray := prog_9_method_2_code
def yX7_write : MethodName := ⟨RX7, "write", "(LUnitText$Book;I)I"⟩
abbrev cX7_putByte : ByteArray := prog_9_method_3_code
def yX7_putByte : MethodName := ⟨RX7, "putByte", "(I)V"⟩
abbrev cX7_byteOfOut : ByteArray := prog_9_method_4_code
def yX7_byteOfOut : MethodName := ⟨RX7, "byteOfOut", "(I)I"⟩
abbrev cX7_putText : ByteArray := prog_9_method_5_code
def yX7_putText : MethodName := ⟨RX7, "putText", "(Ljava/lang/String;)V"⟩
abbrev cX7_putName : ByteArray := prog_9_method_6_code
def yX7_putName : MethodName := ⟨RX7, "putName", "(LUnitText$Book;I)V"⟩
abbrev cX7_putNumber : ByteArray := prog_9_method_7_code
def yX7_putNumber : MethodName := ⟨RX7, "putNumber", "(I)V"⟩
abbrev cX7_putOperand : ByteArray := prog_9_method_8_code
def yX7_putOperand : MethodName := ⟨RX7, "putOperand", "(LUnitText$Book;I)V"⟩
abbrev cX7_putRegister : ByteArray := prog_9_method_9_code
def yX7_putRegister : MethodName := ⟨RX7, "putRegister", "(LUnitText$Book;I)V"⟩
abbrev cX7_putString : ByteArray := prog_9_method_10_code
def yX7_putString : MethodName := ⟨RX7, "putString", "(LUnitText$Book;I)V"⟩
abbrev cX7_putStringByte : ByteArray := prog_9_method_11_code
def yX7_putStringByte : MethodName := ⟨RX7, "putStringByte", "(I)V"⟩
abbrev cX7_putExpression : ByteArray := prog_9_method_12_code
def yX7_putExpression : MethodName := ⟨RX7, "putExpression", "(LUnitText$Book;I)V"⟩
abbrev cX7_findBegins : ByteArray := prog_9_method_13_code
def yX7_findBegins : MethodName := ⟨RX7, "findBegins", "(LUnitText$Book;)V"⟩
abbrev cX7_beginOf : ByteArray := prog_9_method_14_code
def yX7_beginOf : MethodName := ⟨RX7, "beginOf", "(I)I"⟩
abbrev cX7_sortAt : ByteArray := prog_9_method_15_code
def yX7_sortAt : MethodName := ⟨RX7, "sortAt", "(LUnitText$Book;I)I"⟩
abbrev cX7_putTree : ByteArray := prog_9_method_16_code
def yX7_putTree : MethodName := ⟨RX7, "putTree", "(LUnitText$Book;III)V"⟩
abbrev cX7_putLeaf : ByteArray := prog_9_method_17_code
def yX7_putLeaf : MethodName := ⟨RX7, "putLeaf", "(LUnitText$Book;II)V"⟩
def RX8 : String := "UnitText$Words"
def TX8 : u_T := fun k => match k with
  | 0 => ("UnitText$Words", "text", "[I", true)
  | 1 => ("UnitText$Words", "table", "LUnitText$Table;", true)
  | 2 => ("UnitText$Words", "length", "I", false)
  | 3 => ("UnitText$Words", "limit", "I", false)
  | 4 => ("UnitText$Words", "next", "I", false)
  | _ => ("UnitText$Words", "value", "I", false)
def tyX8 : Nat → FieldType := fun k => match k with
  | 0 => .array .int
  | 1 => .object "UnitText$Table"
  | 2 => .int
  | 3 => .int
  | 4 => .int
  | _ => .int
abbrev wsX80 : List Cond := u_ws RX8 TX8 6
theorem nmX8 : ∀ a, a < 6 → ∀ b, b < 6 → a ≠ b → (TX8 a).2.1 ≠ (TX8 b).2.1 := by decide +kernel
theorem tyX8_ok : ∀ k, k < 6 → parseFieldDescriptor (TX8 k).2.2.1 = some (tyX8 k) := by decide +kernel
abbrev cX8_init : ByteArray := prog_10_method_1_code
def yX8_init : MethodName := ⟨RX8, "<init>", "()V"⟩
abbrev cX8_addByte : ByteArray := prog_10_method_2_code
def yX8_addByte : MethodName := ⟨RX8, "addByte", "(I)V"⟩
abbrev cX8_scan : ByteArray := prog_10_method_3_code
def yX8_scan : MethodName := ⟨RX8, "scan", "()V"⟩
abbrev cX8_addWord : ByteArray := prog_10_method_4_code
def yX8_addWord : MethodName := ⟨RX8, "addWord", "(III)V"⟩
abbrev cX8_scanOne : ByteArray := prog_10_method_5_code
def yX8_scanOne : MethodName := ⟨RX8, "scanOne", "()I"⟩
abbrev cX8_bad : ByteArray := prog_10_method_6_code
def yX8_bad : MethodName := ⟨RX8, "bad", "(I)I"⟩
abbrev cX8_scanComment : ByteArray := prog_10_method_7_code
def yX8_scanComment : MethodName := ⟨RX8, "scanComment", "()I"⟩
abbrev cX8_scanName : ByteArray := prog_10_method_8_code
def yX8_scanName : MethodName := ⟨RX8, "scanName", "()I"⟩
abbrev cX8_scanNumber : ByteArray := prog_10_method_9_code
def yX8_scanNumber : MethodName := ⟨RX8, "scanNumber", "()I"⟩
abbrev cX8_scanDigits : ByteArray := prog_10_method_10_code
def yX8_scanDigits : MethodName := ⟨RX8, "scanDigits", "(II)I"⟩
abbrev cX8_scanCharacter : ByteArray := prog_10_method_11_code
def yX8_scanCharacter : MethodName := ⟨RX8, "scanCharacter", "()I"⟩
abbrev cX8_scanString : ByteArray := prog_10_method_12_code
def yX8_scanString : MethodName := ⟨RX8, "scanString", "()I"⟩
abbrev cX8_scanSign : ByteArray := prog_10_method_13_code
def yX8_scanSign : MethodName := ⟨RX8, "scanSign", "(I)I"⟩
abbrev cX8_kindOfSign : ByteArray := prog_10_method_14_code
def yX8_kindOfSign : MethodName := ⟨RX8, "kindOfSign", "(I)I"⟩
abbrev cX8_byteAt : ByteArray := prog_10_method_15_code
def yX8_byteAt : MethodName := ⟨RX8, "byteAt", "(I)I"⟩
abbrev cX8_codeAt : ByteArray := prog_10_method_16_code
def yX8_codeAt : MethodName := ⟨RX8, "codeAt", "(II)I"⟩
abbrev cX8_widthAt : ByteArray := prog_10_method_17_code
def yX8_widthAt : MethodName := ⟨RX8, "widthAt", "(I)I"⟩
abbrev cX8_isDigit : ByteArray := prog_10_method_18_code
def yX8_isDigit : MethodName := ⟨RX8, "isDigit", "(I)Z"⟩
abbrev cX8_isNameByte : ByteArray := prog_10_method_19_code
def yX8_isNameByte : MethodName := ⟨RX8, "isNameByte", "(I)Z"⟩
abbrev cX8_digitOf : ByteArray := prog_10_method_20_code
def yX8_digitOf : MethodName := ⟨RX8, "digitOf", "(I)I"⟩
abbrev cX8_size : ByteArray := prog_10_method_21_code
def yX8_size : MethodName := ⟨RX8, "size", "()I"⟩
abbrev cX8_kindOf : ByteArray := prog_10_method_22_code
def yX8_kindOf : MethodName := ⟨RX8, "kindOf", "(I)I"⟩
abbrev cX8_placeOf : ByteArray := prog_10_method_23_code
def yX8_placeOf : MethodName := ⟨RX8, "placeOf", "(I)I"⟩
abbrev cX8_valueOf : ByteArray := prog_10_method_24_code
def yX8_valueOf : MethodName := ⟨RX8, "valueOf", "(I)I"⟩
abbrev cX8_spells : ByteArray := prog_10_method_25_code
def yX8_spells : MethodName := ⟨RX8, "spells", "(ILjava/lang/String;)Z"⟩
def RX9 : String := "UnitText"
def TX9 : u_T := fun k => match k with
  | 0 => ("UnitText", "waiting", "[I", true)
  | 1 => ("UnitText", "asked", "[I", true)
  | 2 => ("UnitText", "reader", "LUnitText$Reader;", true)
  | 3 => ("UnitText", "reckoner", "LUnitText$Reckoner;", true)
  | _ => ("UnitText", "teller", "LUnitText$Teller;", true)
def tyX9 : Nat → FieldType := fun k => match k with
  | 0 => .array .int
  | 1 => .array .int
  | 2 => .object "UnitText$Reader"
  | 3 => .object "UnitText$Reckoner"
  | _ => .object "UnitText$Teller"
abbrev wsX90 : List Cond := u_ws RX9 TX9 5
theorem nmX9 : ∀ a, a < 5 → ∀ b, b < 5 → a ≠ b → (TX9 a).2.1 ≠ (TX9 b).2.1 := by decide +kernel
theorem tyX9_ok : ∀ k, k < 5 → parseFieldDescriptor (TX9 k).2.2.1 = some (tyX9 k) := by decide +kernel
abbrev cX9_init : ByteArray := prog_1_method_1_code
def yX9_init : MethodName := ⟨RX9, "<init>", "()V"⟩
abbrev cX9_feed : ByteArray := prog_1_method_2_code
def yX9_feed : MethodName := ⟨RX9, "feed", "(IIIII)V"⟩
abbrev cX9_letWait : ByteArray := prog_1_method_3_code
def yX9_letWait : MethodName := ⟨RX9, "letWait", "(II)V"⟩
abbrev cX9_end : ByteArray := prog_1_method_4_code
def yX9_end : MethodName := ⟨RX9, "end", "(I)I"⟩
abbrev cX9_read : ByteArray := prog_1_method_5_code
def yX9_read : MethodName := ⟨RX9, "read", "()I"⟩
abbrev cX9_fault : ByteArray := prog_1_method_6_code
def yX9_fault : MethodName := ⟨RX9, "fault", "(I)I"⟩
abbrev cX9_count : ByteArray := prog_1_method_7_code
def yX9_count : MethodName := ⟨RX9, "count", "(I)I"⟩
abbrev cX9_statement : ByteArray := prog_1_method_8_code
def yX9_statement : MethodName := ⟨RX9, "statement", "(II)I"⟩
abbrev cX9_operand : ByteArray := prog_1_method_9_code
def yX9_operand : MethodName := ⟨RX9, "operand", "(II)I"⟩
abbrev cX9_constant : ByteArray := prog_1_method_10_code
def yX9_constant : MethodName := ⟨RX9, "constant", "(I)J"⟩
abbrev cX9_item : ByteArray := prog_1_method_11_code
def yX9_item : MethodName := ⟨RX9, "item", "(II)I"⟩
abbrev cX9_name : ByteArray := prog_1_method_12_code
def yX9_name : MethodName := ⟨RX9, "name", "(II)I"⟩
abbrev cX9_string : ByteArray := prog_1_method_13_code
def yX9_string : MethodName := ⟨RX9, "string", "(II)I"⟩
abbrev cX9_find : ByteArray := prog_1_method_14_code
def yX9_find : MethodName := ⟨RX9, "find", "(JJ)I"⟩
abbrev cX9_tell : ByteArray := prog_1_method_15_code
def yX9_tell : MethodName := ⟨RX9, "tell", "(I)I"⟩
abbrev cX9_letter : ByteArray := prog_1_method_16_code
def yX9_letter : MethodName := ⟨RX9, "letter", "(I)I"⟩
def RX10 : String := "UnitTextModel"
def TX10 : u_T := fun k => match k with
  | 0 => ("UnitTextModel", "thrown", "I", false)
  | 1 => ("UnitTextModel", "waiting", "[I", true)
  | 2 => ("UnitTextModel", "text", "[I", true)
  | 3 => ("UnitTextModel", "size", "I", false)
  | 4 => ("UnitTextModel", "many", "[I", true)
  | 5 => ("UnitTextModel", "statement", "[I", true)
  | 6 => ("UnitTextModel", "operand", "[I", true)
  | 7 => ("UnitTextModel", "item", "[I", true)
  | 8 => ("UnitTextModel", "name", "[I", true)
  | 9 => ("UnitTextModel", "nameSize", "[I", true)
  | 10 => ("UnitTextModel", "letters", "[I", true)
  | 11 => ("UnitTextModel", "lettersNow", "I", false)
  | 12 => ("UnitTextModel", "lettersSize", "I", false)
  | 13 => ("UnitTextModel", "faultNumber", "I", false)
  | 14 => ("UnitTextModel", "faultPlace", "I", false)
  | 15 => ("UnitTextModel", "sort", "I", false)
  | 16 => ("UnitTextModel", "value", "I", false)
  | 17 => ("UnitTextModel", "from", "I", false)
  | 18 => ("UnitTextModel", "to", "I", false)
  | 19 => ("UnitTextModel", "line", "I", false)
  | 20 => ("UnitTextModel", "fault", "I", false)
  | 21 => ("UnitTextModel", "place", "I", false)
  | 22 => ("UnitTextModel", "sign", "[I", true)
  | 23 => ("UnitTextModel", "signs", "I", false)
  | 24 => ("UnitTextModel", "counted", "I", false)
  | 25 => ("UnitTextModel", "countedHere", "I", false)
  | 26 => ("UnitTextModel", "deep", "I", false)
  | 27 => ("UnitTextModel", "open", "I", false)
  | 28 => ("UnitTextModel", "out", "[I", true)
  | 29 => ("UnitTextModel", "outSize", "I", false)
  | 30 => ("UnitTextModel", "begin", "[I", true)
  | 31 => ("UnitTextModel", "task", "[I", true)
  | 32 => ("UnitTextModel", "stack", "[I", true)
  | 33 => ("UnitTextModel", "spare", "[I", true)
  | 34 => ("UnitTextModel", "operandText", "[I", true)
  | _ => ("UnitTextModel", "tasks", "I", false)
def tyX10 : Nat → FieldType := fun k => match k with
  | 0 => .int
  | 1 => .array .int
  | 2 => .array .int
  | 3 => .int
  | 4 => .array .int
  | 5 => .array .int
  | 6 => .array .int
  | 7 => .array .int
  | 8 => .array .int
  | 9 => .array .int
  | 10 => .array .int
  | 11 => .int
  | 12 => .int
  | 13 => .int
  | 14 => .int
  | 15 => .int
  | 16 => .int
  | 17 => .int
  | 18 => .int
  | 19 => .int
  | 20 => .int
  | 21 => .int
  | 22 => .array .int
  | 23 => .int
  | 24 => .int
  | 25 => .int
  | 26 => .int
  | 27 => .int
  | 28 => .array .int
  | 29 => .int
  | 30 => .array .int
  | 31 => .array .int
  | 32 => .array .int
  | 33 => .array .int
  | 34 => .array .int
  | _ => .int
abbrev wsX100 : List Cond := u_ws RX10 TX10 36
theorem nmX10 : ∀ a, a < 36 → ∀ b, b < 36 → a ≠ b → (TX10 a).2.1 ≠ (TX10 b).2.1 := by decide +kernel
theorem tyX10_ok : ∀ k, k < 36 → parseFieldDescriptor (TX10 k).2.2.1 = some (tyX10 k) := by decide +kernel
abbrev cX10_init : ByteArray := prog_12_method_1_code
def yX10_init : MethodName := ⟨RX10, "<init>", "()V"⟩
abbrev cX10_thrown : ByteArray := prog_12_method_2_code
def yX10_thrown : MethodName := ⟨RX10, "thrown", "()I"⟩
abbrev cX10_wait : ByteArray := prog_12_method_3_code
def yX10_wait : MethodName := ⟨RX10, "wait", "(II)V"⟩
abbrev cX10_feed : ByteArray := prog_12_method_4_code
def yX10_feed : MethodName := ⟨RX10, "feed", "(IIIII)V"⟩
abbrev cX10_end : ByteArray := prog_12_method_5_code
def yX10_end : MethodName := ⟨RX10, "end", "(I)I"⟩
abbrev cX10_at : ByteArray := prog_12_method_6_code
def yX10_at : MethodName := ⟨RX10, "at", "(I)I"⟩
abbrev cX10_isDigit : ByteArray := prog_12_method_7_code
def yX10_isDigit : MethodName := ⟨RX10, "isDigit", "(I)Z"⟩
abbrev cX10_isLetter : ByteArray := prog_12_method_8_code
def yX10_isLetter : MethodName := ⟨RX10, "isLetter", "(I)Z"⟩
abbrev cX10_isInName : ByteArray := prog_12_method_9_code
def yX10_isInName : MethodName := ⟨RX10, "isInName", "(I)Z"⟩
abbrev cX10_digitOf : ByteArray := prog_12_method_10_code
def yX10_digitOf : MethodName := ⟨RX10, "digitOf", "(I)I"⟩
abbrev cX10_bad : ByteArray := prog_12_method_11_code
def yX10_bad : MethodName := ⟨RX10, "bad", "(II)V"⟩
abbrev cX10_next : ByteArray := prog_12_method_12_code
def yX10_next : MethodName := ⟨RX10, "next", "()V"⟩
abbrev cX10_nameWord : ByteArray := prog_12_method_13_code
def yX10_nameWord : MethodName := ⟨RX10, "nameWord", "()V"⟩
abbrev cX10_numberWord : ByteArray := prog_12_method_14_code
def yX10_numberWord : MethodName := ⟨RX10, "numberWord", "()V"⟩
abbrev cX10_inside : ByteArray := prog_12_method_15_code
def yX10_inside : MethodName := ⟨RX10, "inside", "(II)I"⟩
abbrev cX10_character : ByteArray := prog_12_method_16_code
def yX10_character : MethodName := ⟨RX10, "character", "()V"⟩
abbrev cX10_stringWord : ByteArray := prog_12_method_17_code
def yX10_stringWord : MethodName := ⟨RX10, "stringWord", "()V"⟩
abbrev cX10_signWord : ByteArray := prog_12_method_18_code
def yX10_signWord : MethodName := ⟨RX10, "signWord", "(I)V"⟩
abbrev cX10_isSign : ByteArray := prog_12_method_19_code
def yX10_isSign : MethodName := ⟨RX10, "isSign", "(I)Z"⟩
abbrev cX10_byteOf : ByteArray := prog_12_method_20_code
def yX10_byteOf : MethodName := ⟨RX10, "byteOf", "(I)I"⟩
abbrev cX10_is : ByteArray := prog_12_method_21_code
def yX10_is : MethodName := ⟨RX10, "is", "(IIII)Z"⟩
abbrev cX10_register : ByteArray := prog_12_method_22_code
def yX10_register : MethodName := ⟨RX10, "register", "()I"⟩
abbrev cX10_mark : ByteArray := prog_12_method_23_code
def yX10_mark : MethodName := ⟨RX10, "mark", "()I"⟩
abbrev cX10_fail : ByteArray := prog_12_method_24_code
def yX10_fail : MethodName := ⟨RX10, "fail", "(I)Z"⟩
abbrev cX10_isName : ByteArray := prog_12_method_25_code
def yX10_isName : MethodName := ⟨RX10, "isName", "(II)Z"⟩
abbrev cX10_number : ByteArray := prog_12_method_26_code
def yX10_number : MethodName := ⟨RX10, "number", "()I"⟩
abbrev cX10_emit : ByteArray := prog_12_method_27_code
def yX10_emit : MethodName := ⟨RX10, "emit", "(II)V"⟩
abbrev cX10_tally : ByteArray := prog_12_method_28_code
def yX10_tally : MethodName := ⟨RX10, "tally", "()Z"⟩
abbrev cX10_binds : ByteArray := prog_12_method_29_code
def yX10_binds : MethodName := ⟨RX10, "binds", "(I)I"⟩
abbrev cX10_operator : ByteArray := prog_12_method_30_code
def yX10_operator : MethodName := ⟨RX10, "operator", "()I"⟩
abbrev cX10_ahead : ByteArray := prog_12_method_31_code
def yX10_ahead : MethodName := ⟨RX10, "ahead", "()V"⟩
abbrev cX10_reduce : ByteArray := prog_12_method_32_code
def yX10_reduce : MethodName := ⟨RX10, "reduce", "(I)V"⟩
abbrev cX10_wanted : ByteArray := prog_12_method_33_code
def yX10_wanted : MethodName := ⟨RX10, "wanted", "()I"⟩
abbrev cX10_expression : ByteArray := prog_12_method_34_code
def yX10_expression : MethodName := ⟨RX10, "expression", "()Z"⟩
abbrev cX10_closes : ByteArray := prog_12_method_35_code
def yX10_closes : MethodName := ⟨RX10, "closes", "()Z"⟩
abbrev cX10_based : ByteArray := prog_12_method_36_code
def yX10_based : MethodName := ⟨RX10, "based", "(I)Z"⟩
abbrev cX10_isBase : ByteArray := prog_12_method_37_code
def yX10_isBase : MethodName := ⟨RX10, "isBase", "()Z"⟩
abbrev cX10_marked : ByteArray := prog_12_method_38_code
def yX10_marked : MethodName := ⟨RX10, "marked", "(I)Z"⟩
abbrev cX10_takeOperand : ByteArray := prog_12_method_39_code
def yX10_takeOperand : MethodName := ⟨RX10, "takeOperand", "()Z"⟩
abbrev cX10_state : ByteArray := prog_12_method_40_code
def yX10_state : MethodName := ⟨RX10, "state", "(II)Z"⟩
abbrev cX10_operands : ByteArray := prog_12_method_41_code
def yX10_operands : MethodName := ⟨RX10, "operands", "(I)Z"⟩
abbrev cX10_readLine : ByteArray := prog_12_method_42_code
def yX10_readLine : MethodName := ⟨RX10, "readLine", "()Z"⟩
abbrev cX10_read : ByteArray := prog_12_method_43_code
def yX10_read : MethodName := ⟨RX10, "read", "()I"⟩
abbrev cX10_keep : ByteArray := prog_12_method_44_code
def yX10_keep : MethodName := ⟨RX10, "keep", "()V"⟩
abbrev cX10_fault : ByteArray := prog_12_method_45_code
def yX10_fault : MethodName := ⟨RX10, "fault", "(I)I"⟩
abbrev cX10_count : ByteArray := prog_12_method_46_code
def yX10_count : MethodName := ⟨RX10, "count", "(I)I"⟩
abbrev cX10_statement : ByteArray := prog_12_method_47_code
def yX10_statement : MethodName := ⟨RX10, "statement", "(II)I"⟩
abbrev cX10_operand : ByteArray := prog_12_method_48_code
def yX10_operand : MethodName := ⟨RX10, "operand", "(II)I"⟩
abbrev cX10_item : ByteArray := prog_12_method_49_code
def yX10_item : MethodName := ⟨RX10, "item", "(II)I"⟩
abbrev cX10_worked : ByteArray := prog_12_method_50_code
def yX10_worked : MethodName := ⟨RX10, "worked", "(III)I"⟩
abbrev cX10_constant : ByteArray := prog_12_method_51_code
def yX10_constant : MethodName := ⟨RX10, "constant", "(I)J"⟩
abbrev cX10_name : ByteArray := prog_12_method_52_code
def yX10_name : MethodName := ⟨RX10, "name", "(II)I"⟩
abbrev cX10_string : ByteArray := prog_12_method_53_code
def yX10_string : MethodName := ⟨RX10, "string", "(II)I"⟩
abbrev cX10_find : ByteArray := prog_12_method_54_code
def yX10_find : MethodName := ⟨RX10, "find", "(JJ)I"⟩
abbrev cX10_say : ByteArray := prog_12_method_55_code
def yX10_say : MethodName := ⟨RX10, "say", "(I)V"⟩
abbrev cX10_sayNumber : ByteArray := prog_12_method_56_code
def yX10_sayNumber : MethodName := ⟨RX10, "sayNumber", "(J)V"⟩
abbrev cX10_sayName : ByteArray := prog_12_method_57_code
def yX10_sayName : MethodName := ⟨RX10, "sayName", "(I)V"⟩
abbrev cX10_sayRegister : ByteArray := prog_12_method_58_code
def yX10_sayRegister : MethodName := ⟨RX10, "sayRegister", "(I)V"⟩
abbrev cX10_sayString : ByteArray := prog_12_method_59_code
def yX10_sayString : MethodName := ⟨RX10, "sayString", "(I)V"⟩
abbrev cX10_saySign : ByteArray := prog_12_method_60_code
def yX10_saySign : MethodName := ⟨RX10, "saySign", "(I)V"⟩
abbrev cX10_whatOf : ByteArray := prog_12_method_61_code
def yX10_whatOf : MethodName := ⟨RX10, "whatOf", "(I)I"⟩
abbrev cX10_findBegins : ByteArray := prog_12_method_62_code
def yX10_findBegins : MethodName := ⟨RX10, "findBegins", "(II)V"⟩
abbrev cX10_add : ByteArray := prog_12_method_63_code
def yX10_add : MethodName := ⟨RX10, "add", "(I)V"⟩
abbrev cX10_addSide : ByteArray := prog_12_method_64_code
def yX10_addSide : MethodName := ⟨RX10, "addSide", "(IZ)V"⟩
abbrev cX10_sayLeaf : ByteArray := prog_12_method_65_code
def yX10_sayLeaf : MethodName := ⟨RX10, "sayLeaf", "(I)V"⟩
abbrev cX10_sayItems : ByteArray := prog_12_method_66_code
def yX10_sayItems : MethodName := ⟨RX10, "sayItems", "(II)V"⟩
abbrev cX10_sayMark : ByteArray := prog_12_method_67_code
def yX10_sayMark : MethodName := ⟨RX10, "sayMark", "(I)V"⟩
abbrev cX10_sayOperand : ByteArray := prog_12_method_68_code
def yX10_sayOperand : MethodName := ⟨RX10, "sayOperand", "(I)V"⟩
abbrev cX10_tell : ByteArray := prog_12_method_69_code
def yX10_tell : MethodName := ⟨RX10, "tell", "(I)I"⟩
abbrev cX10_letter : ByteArray := prog_12_method_70_code
def yX10_letter : MethodName := ⟨RX10, "letter", "(I)I"⟩
def RJ9 : String := "java/lang/Math"
def TJ9 : u_T := fun k => match k with
  | _ => ("", "", "", false)
def tyJ9 : Nat → FieldType := fun k => match k with
  | _ => .int
abbrev wsJ90 : List Cond := u_ws RJ9 TJ9 0
theorem nmJ9 : ∀ a, a < 0 → ∀ b, b < 0 → a ≠ b → (TJ9 a).2.1 ≠ (TJ9 b).2.1 := by decide +kernel
theorem tyJ9_ok : ∀ k, k < 0 → parseFieldDescriptor (TJ9 k).2.2.1 = some (tyJ9 k) := by decide +kernel
abbrev cJ9_min_7cf53 : ByteArray := prog_15_method_69_code
def yJ9_min_7cf53 : MethodName := ⟨RJ9, "min", "(II)I"⟩
abbrev cJ9_min_f86c9 : ByteArray := prog_15_method_70_code
def yJ9_min_f86c9 : MethodName := ⟨RJ9, "min", "(JJ)J"⟩
def RJ0 : String := "java/lang/String"
def TJ0 : u_T := fun k => match k with
  | _ => ("", "", "", false)
def tyJ0 : Nat → FieldType := fun k => match k with
  | _ => .int
abbrev wsJ00 : List Cond := u_ws RJ0 TJ0 0
theorem nmJ0 : ∀ a, a < 0 → ∀ b, b < 0 → a ≠ b → (TJ0 a).2.1 ≠ (TJ0 b).2.1 := by decide +kernel
theorem tyJ0_ok : ∀ k, k < 0 → parseFieldDescriptor (TJ0 k).2.2.1 = some (tyJ0 k) := by decide +kernel
abbrev cJ0_length_8abf5 : ByteArray := prog_17_method_54_code
def yJ0_length_8abf5 : MethodName := ⟨RJ0, "length", "()I"⟩
abbrev cJ0_charAt_5068e : ByteArray := prog_17_method_56_code
def yJ0_charAt_5068e : MethodName := ⟨RJ0, "charAt", "(I)C"⟩
abbrev cJ0_coder_7d493 : ByteArray := prog_17_method_152_code
def yJ0_coder_7d493 : MethodName := ⟨RJ0, "coder", "()B"⟩
abbrev cJ0_isLatin1_aae02 : ByteArray := prog_17_method_154_code
def yJ0_isLatin1_aae02 : MethodName := ⟨RJ0, "isLatin1", "()Z"⟩
abbrev cJ0_checkIndex_df160 : ByteArray := prog_17_method_155_code
def yJ0_checkIndex_df160 : MethodName := ⟨RJ0, "checkIndex", "(II)V"⟩
def RJ1 : String := "java/lang/StringLatin1"
def TJ1 : u_T := fun k => match k with
  | _ => ("", "", "", false)
def tyJ1 : Nat → FieldType := fun k => match k with
  | _ => .int
abbrev wsJ10 : List Cond := u_ws RJ1 TJ1 0
theorem nmJ1 : ∀ a, a < 0 → ∀ b, b < 0 → a ≠ b → (TJ1 a).2.1 ≠ (TJ1 b).2.1 := by decide +kernel
theorem tyJ1_ok : ∀ k, k < 0 → parseFieldDescriptor (TJ1 k).2.2.1 = some (tyJ1 k) := by decide +kernel
abbrev cJ1_charAt_3b067 : ByteArray := prog_18_method_2_code
def yJ1_charAt_3b067 : MethodName := ⟨RJ1, "charAt", "([BI)C"⟩
def RJ2 : String := "java/lang/StringUTF16"
def TJ2 : u_T := fun k => match k with
  | _ => ("", "", "", false)
def tyJ2 : Nat → FieldType := fun k => match k with
  | _ => .int
abbrev wsJ20 : List Cond := u_ws RJ2 TJ2 0
theorem nmJ2 : ∀ a, a < 0 → ∀ b, b < 0 → a ≠ b → (TJ2 a).2.1 ≠ (TJ2 b).2.1 := by decide +kernel
theorem tyJ2_ok : ∀ k, k < 0 → parseFieldDescriptor (TJ2 k).2.2.1 = some (tyJ2 k) := by decide +kernel
abbrev cJ2_getChar_3b067 : ByteArray := prog_19_method_5_code
def yJ2_getChar_3b067 : MethodName := ⟨RJ2, "getChar", "([BI)C"⟩
abbrev cJ2_length_9d52b : ByteArray := prog_19_method_6_code
def yJ2_length_9d52b : MethodName := ⟨RJ2, "length", "([B)I"⟩
abbrev cJ2_charAt_3b067 : ByteArray := prog_19_method_83_code
def yJ2_charAt_3b067 : MethodName := ⟨RJ2, "charAt", "([BI)C"⟩
abbrev cJ2_checkIndex_2214a : ByteArray := prog_19_method_91_code
def yJ2_checkIndex_2214a : MethodName := ⟨RJ2, "checkIndex", "(I[B)V"⟩
def RJ3 : String := "jdk/internal/util/Preconditions"
def TJ3 : u_T := fun k => match k with
  | _ => ("", "", "", false)
def tyJ3 : Nat → FieldType := fun k => match k with
  | _ => .int
abbrev wsJ30 : List Cond := u_ws RJ3 TJ3 0
theorem nmJ3 : ∀ a, a < 0 → ∀ b, b < 0 → a ≠ b → (TJ3 a).2.1 ≠ (TJ3 b).2.1 := by decide +kernel
theorem tyJ3_ok : ∀ k, k < 0 → parseFieldDescriptor (TJ3 k).2.2.1 = some (tyJ3 k) := by decide +kernel
abbrev cJ3_checkIndex_8e157 : ByteArray := prog_21_method_11_code
def yJ3_checkIndex_8e157 : MethodName := ⟨RJ3, "checkIndex", "(IILjava/util/function/BiFunction;)I"⟩
def RL : String := "UnitTextLaw"
abbrev cL_read : ByteArray := method_3_code
def yL_read : MethodName := ⟨RL, "read", "(LUnitText;[J)I"⟩
abbrev cL_law : ByteArray := code
def yL_law : MethodName := ⟨RL, "law", "([I)Z"⟩
abbrev vwCl : List vw_C := [(RX0, TX0, 6), (RX3, TX3, 11), (RX4, TX4, 1), (RX6, TX6, 4), (RX7, TX7, 5), (RX8, TX8, 6), (RX9, TX9, 5), (RX10, TX10, 36)]
def zT : List Cond := lw_tbl.filter goodWord
theorem zT_in {w : Cond} (h : w ∈ zT) : w ∈ lw_tbl := (List.mem_filter.mp h).1
theorem zT_good {w : Cond} (h : w ∈ zT) : (w.onTables && w.keeps) = true ∨ ∃ ty, w = .arrayClass ty := good_of_word (List.mem_filter.mp h).2
theorem zT_mk {w : Cond} (h : w ∈ lw_tbl) (hg : goodWord w = true) : w ∈ zT := List.mem_filter.mpr ⟨h, hg⟩
theorem inX0 : ∀ w ∈ wsX00, w ∈ zT := by decide +kernel
theorem inX3 : ∀ w ∈ wsX30, w ∈ zT := by decide +kernel
theorem inX4 : ∀ w ∈ wsX40, w ∈ zT := by decide +kernel
theorem inX6 : ∀ w ∈ wsX60, w ∈ zT := by decide +kernel
theorem inX7 : ∀ w ∈ wsX70, w ∈ zT := by decide +kernel
theorem inX8 : ∀ w ∈ wsX80, w ∈ zT := by decide +kernel
theorem inX9 : ∀ w ∈ wsX90, w ∈ zT := by decide +kernel
theorem inX10 : ∀ w ∈ wsX100, w ∈ zT := by decide +kernel
end
section
/-! The abstract machine: the heap is a list of cells, a reference the number of a cell; zW: from this pc, with these locals, this stack and these cells, the method comes to an end that Q allows. -/
def zc (ad : Nat → Nat) (v : Value) : Value := match v with
  | .ref k => .ref (ad k)
  | .int x => .int x
  | .long x => .long x
  | .float x => .float x
  | .double x => .double x
  | .null => .null
  | .retAddr x => .retAddr x
theorem zc_cat (ad : Nat → Nat) (v : Value) : (zc ad v).category = v.category := by cases v <;> rfl
theorem zc_cats (ad : Nat → Nat) (l : List Value) : ((l.map (zc ad)).map fun v => v.category).sum = (l.map fun v => v.category).sum := by
  rw [List.map_map]
  exact congrArg List.sum (List.map_congr_left fun v _ => zc_cat ad v)
abbrev zE : Type := (Nat × vp_A) ⊕ (Nat × List Value)
def zcE (tc : Nat → ClassId) (ad : Nat → Nat) (c : zE) : va_E := match c with
  | .inl a => .inl (tc a.1, a.2)
  | .inr o => .inr (o.1, o.2.map (zc ad))
def zH (tc : Nat → ClassId) (ad : Nat → Nat) (h : List zE) : va_W := h.mapIdx (fun k c => (ad k, zcE tc ad c))
theorem zH_at {tc : Nat → ClassId} {ad : Nat → Nat} {h : List zE} {k : Nat} {c : zE} (hk : h[k]? = some c) : (zH tc ad h)[k]? = some (ad k, zcE tc ad c) := by
  unfold zH
  rw [List.getElem?_mapIdx, hk]
  rfl
theorem zH_of {tc : Nat → ClassId} {ad : Nat → Nat} {h : List zE} {k : Nat} {q : Nat × va_E} (hk : (zH tc ad h)[k]? = some q) : ∃ c, h[k]? = some c ∧ q = (ad k, zcE tc ad c) := by
  unfold zH at hk
  rw [List.getElem?_mapIdx] at hk
  cases e : h[k]? with
  | none => rw [e] at hk; cases hk
  | some c => rw [e] at hk; exact ⟨c, rfl, (Option.some.inj hk).symm⟩
theorem zH_set {tc : Nat → ClassId} {ad : Nat → Nat} {h : List zE} {k : Nat} {c : zE} : (zH tc ad h).set k (ad k, zcE tc ad c) = zH tc ad (h.set k c) := by
  apply List.ext_getElem?
  intro i
  unfold zH
  rw [List.getElem?_set, List.getElem?_mapIdx, List.getElem?_mapIdx, List.getElem?_set, List.length_mapIdx]
  by_cases e : k = i
  · subst e
    by_cases g : k < h.length <;> simp [g]
  · simp [e]
theorem zH_len {tc : Nat → ClassId} {ad : Nat → Nat} {h : List zE} : (zH tc ad h).length = h.length := by
  unfold zH
  exact List.length_mapIdx
/-- what holds no reference to the cells n0 .. n1 - 1 -/
def zfv (n0 n1 : Nat) (v : Value) : Bool := match v with
  | .ref k => decide (k < n0) || decide (n1 ≤ k)
  | _ => true
def zfc (n0 n1 : Nat) (c : zE) : Bool := match c with
  | .inl _ => true
  | .inr o => o.2.all (zfv n0 n1)
def zfo (n0 n1 : Nat) (x : Option Value) : Bool := match x with
  | none => true
  | some v => zfv n0 n1 v
theorem zfv_eq {ad ad' : Nat → Nat} {n0 n1 : Nat} {v : Value} (h : zfv n0 n1 v = true) (ha : ∀ k, k < n0 ∨ n1 ≤ k → ad' k = ad k) : zc ad' v = zc ad v := by
  cases v <;> try rfl
  case ref k =>
    simp only [zfv, Bool.or_eq_true, decide_eq_true_eq] at h
    exact congrArg Value.ref (ha k h)
theorem zfv_nn (n : Nat) (v : Value) : zfv n n v = true := by
  cases v <;> try rfl
  case ref k =>
    simp only [zfv, Bool.or_eq_true, decide_eq_true_eq]
    exact Nat.lt_or_ge k n
theorem zfo_nn (n : Nat) (v : Option Value) : zfo n n v = true := by
  cases v with
  | none => rfl
  | some v => exact zfv_nn n v
theorem zfs_eq {ad ad' : Nat → Nat} {n0 n1 : Nat} {st : List Value} (h : st.all (zfv n0 n1) = true) (ha : ∀ k, k < n0 ∨ n1 ≤ k → ad' k = ad k) : st.map (zc ad') = st.map (zc ad) :=
  List.map_congr_left fun v hv => zfv_eq (List.all_eq_true.mp h v hv) ha
theorem zfc_eq {tc : Nat → ClassId} {ad ad' : Nat → Nat} {n0 n1 : Nat} {c : zE} (h : zfc n0 n1 c = true) (ha : ∀ k, k < n0 ∨ n1 ≤ k → ad' k = ad k) : zcE tc ad' c = zcE tc ad c := by
  cases c with
  | inl a => rfl
  | inr o => exact congrArg (fun x => (Sum.inr (o.1, x) : va_E)) (zfs_eq (show o.2.all (zfv n0 n1) = true from h) ha)
theorem zH_eq {tc : Nat → ClassId} {ad ad' : Nat → Nat} {n1 : Nat} {h : List zE} (hh : h.all (zfc h.length n1) = true) (ha : ∀ k, k < h.length ∨ n1 ≤ k → ad' k = ad k) : zH tc ad' h = zH tc ad h := by
  apply List.ext_getElem?
  intro i
  unfold zH
  rw [List.getElem?_mapIdx, List.getElem?_mapIdx]
  cases e : h[i]? with
  | none => rfl
  | some c =>
    have hi : i < h.length := (List.getElem?_eq_some_iff.mp e).1
    have hc := zfc_eq (tc := tc) (List.all_eq_true.mp hh c (List.mem_of_getElem? e)) ha
    show some (ad' i, zcE tc ad' c) = some (ad i, zcE tc ad c)
    rw [hc, ha i (Or.inl hi)]
theorem zH_push {tc : Nat → ClassId} {ad : Nat → Nat} {h : List zE} {c : zE} {q : Nat} (hh : h.all (zfc h.length (h.length + 1)) = true) (hc : zfc h.length (h.length + 1) c = true) :
    zH tc (fun k => if k = h.length then q else ad k) (h ++ [c]) = zH tc ad h ++ [(q, zcE tc ad c)] := by
  have ha : ∀ k, k < h.length ∨ h.length + 1 ≤ k → (fun k => if k = h.length then q else ad k) k = ad k := fun k hk => if_neg (by omega)
  have e1 := zH_eq (tc := tc) hh ha
  have e2 := zfc_eq (tc := tc) hc ha
  unfold zH at e1 ⊢
  rw [List.mapIdx_append, e1]
  refine congrArg (fun x => List.mapIdx (fun k c => (ad k, zcE tc ad c)) h ++ x) ?_
  show [((fun k => if k = h.length then q else ad k) (0 + h.length), zcE tc _ c)] = _
  rw [e2]
  simp
/-! globals: launch, numbers of classes and slots, array classes (0 int[], 1 long[]), addresses of what nobody writes (cells from 1000 on), what is known of them -/
abbrev zGl : Type := Launch × va_G × (Nat → ClassId) × (Nat → Nat) × ((Nat → Prop) → State → Heap → Prop)
abbrev zMd : Type := MethodName × ByteArray × Nat × Option FieldType
abbrev zO : Type := Option Value ⊕ String
abbrev zty (g : zGl) : List (ClassId × FieldType) := [(g.2.2.1 0, .int), (g.2.2.1 1, .long)]
def zRm (d mc ms : Nat) : Room := { frames := 20 + d, cells := mc, slots := ms, locals := 300 + 40 * d }
def zRo (R : Room) (d mc ms : Nat) : Prop := 20 + d ≤ R.frames ∧ 300 + 40 * d ≤ R.locals ∧ mc ≤ R.cells ∧ ms ≤ R.slots
/-- what stays while a method runs -/
def zFx (g : zGl) (M : zMd) (p : Program) (s : State) (m : MethodId) (args : Array Value) (meth : Method) (c : Code) : Prop :=
  p.tables.exec = Jvm.exec ∧ c.code = M.2.1 ∧ c.maxLocals = M.2.2.1 ∧ meth.sig.returnType = M.2.2.2 ∧ meth.locks = false ∧ s.vm.findClass M.1.cls = some m.cls ∧ (∀ w ∈ zT, w.before args s = true) ∧ (∀ x ∈ c.exceptionTable.toList, False) ∧ meth.name = M.1.name ∧ va_K g.2.1 vwCl (zty g) s
/-- the cells -/
def zSt (g : zGl) (A : Nat → Prop) (s : State) (ad : Nat → Nat) (h : List zE) (H : Heap) (locs : List Loc) : Prop :=
  va_P g.2.1 vwCl (zH g.2.2.1 ad h) H ∧ va_D A (zH g.2.2.1 ad h) ∧ va_S A s.heap H locs ∧ (∀ q, s.heap.size ≤ q → A q) ∧ g.2.2.2.2 A s s.heap ∧ (∀ i, ad (1000 + i) = g.2.2.2.1 i) ∧ h.length ≤ 1000
def zLo (cls : Array Slot) (nL : Nat) (ad : Nat → Nat) (ls : List (Option Value)) : Prop := cls.size = nL ∧ lv_wf cls ∧ ∀ (i : Nat) (v : Value), ls[i]? = some (some v) → cls[i]? = some (.val (zc ad v))
def zEn (g : zGl) (ad0 : Nat → Nat) (n0 : Nat) (A : Nat → Prop) (ad : Nat → Nat) (h : List zE) (st t : State) : Prop :=
  (∀ k, k < n0 ∨ h.length ≤ k → ad k = ad0 k) ∧ n0 ≤ h.length ∧ h.length ≤ 1000 ∧ va_P g.2.1 vwCl (zH g.2.2.1 ad h) t.heap ∧ va_D A (zH g.2.2.1 ad h) ∧ va_F A st t
def zQc (g : zGl) (Q : zO → List zE → Prop) (ad0 : Nat → Nat) (n0 : Nat) (A : Nat → Prop) : Array Value → State → Outcome → State → Prop := fun _ st o t =>
  ∃ (v : Option Value) (h : List zE) (ad : Nat → Nat), o = .returned (v.map (zc ad)) ∧ Q (.inl v) h ∧ zEn g ad0 n0 A ad h st t
def zXC (g : zGl) (Q : zO → List zE → Prop) (ad0 : Nat → Nat) (n0 : Nat) (A : Nat → Prop) : String → State → State → Prop := fun E st t =>
  ∃ (h : List zE) (ad : Nat → Nat), Q (.inr E) h ∧ zEn g ad0 n0 A ad h st t
def zW (g : zGl) (M : zMd) (d mc ms n0 : Nat) (Q : zO → List zE → Prop) (cells slots : Nat) (h : List zE) (ls : List (Option Value)) (st : List Value) (pc : Nat) : Prop :=
  ∀ (p : Program) (e : Env) (R : Room) (s : State) (m : MethodId) (args : Array Value) (below : List Frame) (meth : Method) (c : Code) (H : Heap) (locs : List Loc) (A : Nat → Prop) (ad ad0 : Nat → Nat) (cls : Array Slot),
    zFx g M p s m args meth c → zRo R d mc ms → zSt g A s ad h H locs → (∀ k, k < n0 ∨ h.length ≤ k → ad k = ad0 k) → n0 ≤ h.length → zLo cls M.2.2.1 ad ls →
    W p g.1 e R s m args below meth c H locs cells slots (vx_MQ below (zQc g Q ad0 n0 A) (zXC g Q ad0 n0 A) args s mc ms A) (F0 m pc cls (st.map (zc ad)))
abbrev zPc (g : zGl) (ad : Nat → Nat) (as : List Value) (h : List zE) (sz : Nat) : Array Value → State → Prop :=
  va_Pc (as.map (zc ad)) (fun U => U.heap.size = sz ∧ va_P g.2.1 vwCl (zH g.2.2.1 ad h) U.heap ∧ va_K g.2.1 vwCl (zty g) U ∧ va_D (va_A (zH g.2.2.1 ad h) sz) (zH g.2.2.1 ad h) ∧ g.2.2.2.2 (va_A (zH g.2.2.1 ad h) sz) U U.heap)
def zMet (g : zGl) (M : zMd) (d mc ms : Nat) (as : List Value) (h : List zE) (Q : zO → List zE → Prop) : Prop :=
  h.length ≤ 1000 → ∀ (ad : Nat → Nat) (sz : Nat), (∀ i, ad (1000 + i) = g.2.2.2.1 i) →
    vx_Met g.1 M.1 (Cond.code M.1 M.2.1 M.2.2.1 M.2.2.2 :: zT) (zRm d mc ms) (zPc g ad as h sz) (zQc g Q ad h.length (va_A (zH g.2.2.1 ad h) sz)) (zXC g Q ad h.length (va_A (zH g.2.2.1 ad h) sz)) mc ms (va_A (zH g.2.2.1 ad h) sz)
/-- the locals with which a method begins -/
def zar : List Value → List (Option Value)
  | [] => []
  | v :: r => if v.category = 2 then some v :: none :: zar r else some v :: zar r
def zen (nL : Nat) (as : List Value) : List (Option Value) := zar as ++ List.replicate (nL - (zar as).length) none
/-- what is asked of the knowledge of what nobody writes -/
def zGok (g : zGl) : Prop := (∀ (A : Nat → Prop) (u U : State) (H : Heap), u.vm.Alike U.vm → g.2.2.2.2 A u H → g.2.2.2.2 A U H) ∧ (∀ (A : Nat → Prop) (U : State) (H H1 : Heap), (∀ a : Nat, a < H.size → ¬ A a → H1[a]? = H[a]?) → g.2.2.2.2 A U H → g.2.2.2.2 A U H1) ∧ (∀ (A B : Nat → Prop) (U : State) (H : Heap), (∀ q, B q → A q) → g.2.2.2.2 A U H → g.2.2.2.2 B U H)


theorem zar_at {ad : Nat → Nat} : ∀ (as : List Value) (b i : Nat) (v : Value), (zar as)[i]? = some (some v) → (b + i, zc ad v) ∈ lv_args b (as.map (zc ad))
  | [], _, i, v, h => by simp [zar] at h
  | a :: r, b, i, v, h => by
    show _ ∈ (b, zc ad a) :: lv_args (if (zc ad a).category = 2 then b + 2 else b + 1) (r.map (zc ad))
    rw [zc_cat]
    unfold zar at h
    by_cases hc : a.category = 2
    · rw [if_pos hc] at h
      rw [if_pos hc]
      match i, h with
      | 0, h => cases h; exact List.mem_cons_self
      | 1, h => simp at h
      | i + 2, h =>
        have := zar_at (ad := ad) r (b + 2) i v (by simpa using h)
        exact List.mem_cons_of_mem _ (by rw [show b + (i + 2) = b + 2 + i by omega]; exact this)
    · rw [if_neg hc] at h
      rw [if_neg hc]
      match i, h with
      | 0, h => cases h; exact List.mem_cons_self
      | i + 1, h =>
        have := zar_at (ad := ad) r (b + 1) i v (by simpa using h)
        exact List.mem_cons_of_mem _ (by rw [show b + (i + 1) = b + 1 + i by omega]; exact this)
theorem zar_len {ad : Nat → Nat} : ∀ (as : List Value), (lg_sl (as.map (zc ad))).length = (zar as).length
  | [] => rfl
  | a :: r => by
    have ih := zar_len (ad := ad) r
    unfold lg_sl at ih ⊢
    unfold zar
    rw [List.map_cons, List.flatMap_cons, List.length_append, ih, zc_cat]
    by_cases hc : a.category = 2
    · rw [if_pos hc, if_pos hc]; simp; omega
    · rw [if_neg hc, if_neg hc]; simp; omega
theorem zLo_en {ad : Nat → Nat} {as : List Value} {nL : Nat} (hl : (zar as).length ≤ nL) :
    zLo ((lg_sl (as.map (zc ad)) ++ List.replicate (nL - (lg_sl (as.map (zc ad))).length) Slot.unset).toArray) nL ad (zen nL as) := by
  have h := lv_entry (as.map (zc ad)) (n := nL) (by rw [zar_len]; exact hl)
  refine ⟨h.1, h.2.1, fun i v hi => ?_⟩
  unfold zen at hi
  rw [List.getElem?_append] at hi
  split at hi
  · have := zar_at (ad := ad) as 0 i v hi
    rw [Nat.zero_add] at this
    exact h.2.2 _ this
  · rw [List.getElem?_replicate] at hi
    split at hi <;> simp at hi
theorem zMet.ofW {g : zGl} {M : zMd} {d mc ms : Nat} {as : List Value} {h : List zE} {Q : zO → List zE → Prop} (hy : plainName M.1.cls = true) (hl : (zar as).length ≤ M.2.2.1)
    (k : zW g M d mc ms h.length Q 0 0 h (zen M.2.2.1 as) [] 0) : zMet g M d mc ms as h Q := by
  intro hh ad sz hsa
  refine vx_ofW (cc := M.2.1) (maxL := M.2.2.1) (ret := M.2.2.2) hy rfl ?_
  intro p e s m args below meth c s₁ B hml htab hv
  obtain ⟨rfl, hsz, hP, hK, hD, hG⟩ := hv
  subst hsz
  have hts0 := atoms_spec (ws := Cond.code M.1 M.2.1 M.2.2.1 M.2.2.2 :: zT) B.pre
  have K := k p e (zRm d mc ms) s m (as.map (zc ad)).toArray below meth c s.heap [] (va_A (zH g.2.2.1 ad h) s.heap.size) ad ad _
    ⟨B.exec, B.bytes, hml, B.returns, B.notSynchronized, findClass_of_methodNamed B.named, fun w hw => hts0 w (List.mem_cons_of_mem _ hw), htab, (name_of_methodNamed B.named B.method).1, hK⟩
    ⟨Nat.le_refl _, Nat.le_refl _, Nat.le_refl _, Nat.le_refl _⟩ ⟨hP, hD, va_S.rf, fun q hq => Or.inr hq, hG, hsa, hh⟩ (fun _ _ => rfl) (Nat.le_refl _) (zLo_en hl)
  rw [lg_entry_eq]
  exact K

section ZR
variable {g : zGl} {M : zMd} {d mc ms n0 cells slots pc : Nat} {Q : zO → List zE → Prop} {h : List zE} {ls : List (Option Value)} {st : List Value}
theorem z_iadd {x y : Int32} (hd : decode M.2.1 pc = .ok (.iadd, 1)) (k : zW g M d mc ms n0 Q cells slots h ls (.int (x + y) :: st) (pc + 1)) : zW g M d mc ms n0 Q cells slots h ls (.int y :: .int x :: st) (pc) := by
  intro p e R s m args below meth c H locs A ad ad0 cls F Ro S E hn L
  exact lv_iadd F.1 F.2.1 hd (k p e R s m args below meth c H locs A ad ad0 cls F Ro S E hn L)
theorem z_isub {x y : Int32} (hd : decode M.2.1 pc = .ok (.isub, 1)) (k : zW g M d mc ms n0 Q cells slots h ls (.int (x - y) :: st) (pc + 1)) : zW g M d mc ms n0 Q cells slots h ls (.int y :: .int x :: st) (pc) := by
  intro p e R s m args below meth c H locs A ad ad0 cls F Ro S E hn L
  exact lv_isub F.1 F.2.1 hd (k p e R s m args below meth c H locs A ad ad0 cls F Ro S E hn L)
theorem z_imul {x y : Int32} (hd : decode M.2.1 pc = .ok (.imul, 1)) (k : zW g M d mc ms n0 Q cells slots h ls (.int (x * y) :: st) (pc + 1)) : zW g M d mc ms n0 Q cells slots h ls (.int y :: .int x :: st) (pc) := by
  intro p e R s m args below meth c H locs A ad ad0 cls F Ro S E hn L
  exact lv_imul F.1 F.2.1 hd (k p e R s m args below meth c H locs A ad ad0 cls F Ro S E hn L)
theorem z_iand {x y : Int32} (hd : decode M.2.1 pc = .ok (.iand, 1)) (k : zW g M d mc ms n0 Q cells slots h ls (.int (x &&& y) :: st) (pc + 1)) : zW g M d mc ms n0 Q cells slots h ls (.int y :: .int x :: st) (pc) := by
  intro p e R s m args below meth c H locs A ad ad0 cls F Ro S E hn L
  exact lv_iand F.1 F.2.1 hd (k p e R s m args below meth c H locs A ad ad0 cls F Ro S E hn L)
theorem z_ior {x y : Int32} (hd : decode M.2.1 pc = .ok (.ior, 1)) (k : zW g M d mc ms n0 Q cells slots h ls (.int (x ||| y) :: st) (pc + 1)) : zW g M d mc ms n0 Q cells slots h ls (.int y :: .int x :: st) (pc) := by
  intro p e R s m args below meth c H locs A ad ad0 cls F Ro S E hn L
  exact lv_ior F.1 F.2.1 hd (k p e R s m args below meth c H locs A ad ad0 cls F Ro S E hn L)
theorem z_ixor {x y : Int32} (hd : decode M.2.1 pc = .ok (.ixor, 1)) (k : zW g M d mc ms n0 Q cells slots h ls (.int (x ^^^ y) :: st) (pc + 1)) : zW g M d mc ms n0 Q cells slots h ls (.int y :: .int x :: st) (pc) := by
  intro p e R s m args below meth c H locs A ad ad0 cls F Ro S E hn L
  exact lv_ixor F.1 F.2.1 hd (k p e R s m args below meth c H locs A ad ad0 cls F Ro S E hn L)
theorem z_ladd {x y : Int64} (hd : decode M.2.1 pc = .ok (.ladd, 1)) (k : zW g M d mc ms n0 Q cells slots h ls (.long (x + y) :: st) (pc + 1)) : zW g M d mc ms n0 Q cells slots h ls (.long y :: .long x :: st) (pc) := by
  intro p e R s m args below meth c H locs A ad ad0 cls F Ro S E hn L
  exact lv_ladd F.1 F.2.1 hd (k p e R s m args below meth c H locs A ad ad0 cls F Ro S E hn L)
theorem z_lsub {x y : Int64} (hd : decode M.2.1 pc = .ok (.lsub, 1)) (k : zW g M d mc ms n0 Q cells slots h ls (.long (x - y) :: st) (pc + 1)) : zW g M d mc ms n0 Q cells slots h ls (.long y :: .long x :: st) (pc) := by
  intro p e R s m args below meth c H locs A ad ad0 cls F Ro S E hn L
  exact lv_lsub F.1 F.2.1 hd (k p e R s m args below meth c H locs A ad ad0 cls F Ro S E hn L)
theorem z_lmul {x y : Int64} (hd : decode M.2.1 pc = .ok (.lmul, 1)) (k : zW g M d mc ms n0 Q cells slots h ls (.long (x * y) :: st) (pc + 1)) : zW g M d mc ms n0 Q cells slots h ls (.long y :: .long x :: st) (pc) := by
  intro p e R s m args below meth c H locs A ad ad0 cls F Ro S E hn L
  exact lv_lmul F.1 F.2.1 hd (k p e R s m args below meth c H locs A ad ad0 cls F Ro S E hn L)
theorem z_land {x y : Int64} (hd : decode M.2.1 pc = .ok (.land, 1)) (k : zW g M d mc ms n0 Q cells slots h ls (.long (x &&& y) :: st) (pc + 1)) : zW g M d mc ms n0 Q cells slots h ls (.long y :: .long x :: st) (pc) := by
  intro p e R s m args below meth c H locs A ad ad0 cls F Ro S E hn L
  exact lv_land F.1 F.2.1 hd (k p e R s m args below meth c H locs A ad ad0 cls F Ro S E hn L)
theorem z_lor {x y : Int64} (hd : decode M.2.1 pc = .ok (.lor, 1)) (k : zW g M d mc ms n0 Q cells slots h ls (.long (x ||| y) :: st) (pc + 1)) : zW g M d mc ms n0 Q cells slots h ls (.long y :: .long x :: st) (pc) := by
  intro p e R s m args below meth c H locs A ad ad0 cls F Ro S E hn L
  exact lv_lor F.1 F.2.1 hd (k p e R s m args below meth c H locs A ad ad0 cls F Ro S E hn L)
theorem z_idiv {x y : Int32} (hd : decode M.2.1 pc = .ok (.idiv, 1)) (hne : ¬ y = 0) (k : zW g M d mc ms n0 Q cells slots h ls (.int (x / y) :: st) (pc + 1)) : zW g M d mc ms n0 Q cells slots h ls (.int y :: .int x :: st) (pc) := by
  intro p e R s m args below meth c H locs A ad ad0 cls F Ro S E hn L
  exact lv_idiv F.1 F.2.1 hd hne (k p e R s m args below meth c H locs A ad ad0 cls F Ro S E hn L)
theorem z_irem {x y : Int32} (hd : decode M.2.1 pc = .ok (.irem, 1)) (hne : ¬ y = 0) (k : zW g M d mc ms n0 Q cells slots h ls (.int (x - x / y * y) :: st) (pc + 1)) : zW g M d mc ms n0 Q cells slots h ls (.int y :: .int x :: st) (pc) := by
  intro p e R s m args below meth c H locs A ad ad0 cls F Ro S E hn L
  exact lv_irem F.1 F.2.1 hd hne (k p e R s m args below meth c H locs A ad ad0 cls F Ro S E hn L)
theorem z_ldiv {x y : Int64} (hd : decode M.2.1 pc = .ok (.ldiv, 1)) (hne : ¬ y = 0) (k : zW g M d mc ms n0 Q cells slots h ls (.long (x / y) :: st) (pc + 1)) : zW g M d mc ms n0 Q cells slots h ls (.long y :: .long x :: st) (pc) := by
  intro p e R s m args below meth c H locs A ad ad0 cls F Ro S E hn L
  exact lv_ldiv F.1 F.2.1 hd hne (k p e R s m args below meth c H locs A ad ad0 cls F Ro S E hn L)
theorem z_lrem {x y : Int64} (hd : decode M.2.1 pc = .ok (.lrem, 1)) (hne : ¬ y = 0) (k : zW g M d mc ms n0 Q cells slots h ls (.long (x - x / y * y) :: st) (pc + 1)) : zW g M d mc ms n0 Q cells slots h ls (.long y :: .long x :: st) (pc) := by
  intro p e R s m args below meth c H locs A ad ad0 cls F Ro S E hn L
  exact lv_lrem F.1 F.2.1 hd hne (k p e R s m args below meth c H locs A ad ad0 cls F Ro S E hn L)
theorem z_ineg {x : Int32} (hd : decode M.2.1 pc = .ok (.ineg, 1)) (k : zW g M d mc ms n0 Q cells slots h ls (.int (-x) :: st) (pc + 1)) : zW g M d mc ms n0 Q cells slots h ls (.int x :: st) (pc) := by
  intro p e R s m args below meth c H locs A ad ad0 cls F Ro S E hn L
  exact lv_ineg F.1 F.2.1 hd (k p e R s m args below meth c H locs A ad ad0 cls F Ro S E hn L)
theorem z_i2l {x : Int32} (hd : decode M.2.1 pc = .ok (.i2l, 1)) (k : zW g M d mc ms n0 Q cells slots h ls (.long (x.toInt64) :: st) (pc + 1)) : zW g M d mc ms n0 Q cells slots h ls (.int x :: st) (pc) := by
  intro p e R s m args below meth c H locs A ad ad0 cls F Ro S E hn L
  exact lv_i2l F.1 F.2.1 hd rfl (k p e R s m args below meth c H locs A ad ad0 cls F Ro S E hn L)
theorem z_l2i {x : Int64} (hd : decode M.2.1 pc = .ok (.l2i, 1)) (k : zW g M d mc ms n0 Q cells slots h ls (.int (x.toInt32) :: st) (pc + 1)) : zW g M d mc ms n0 Q cells slots h ls (.long x :: st) (pc) := by
  intro p e R s m args below meth c H locs A ad ad0 cls F Ro S E hn L
  exact lv_l2i F.1 F.2.1 hd rfl (k p e R s m args below meth c H locs A ad ad0 cls F Ro S E hn L)
theorem z_iushr {x y : Int32} (hd : decode M.2.1 pc = .ok (.iushr, 1)) (k : zW g M d mc ms n0 Q cells slots h ls (.int ((x.toUInt32 >>> (y.toUInt32 &&& Int32.toUInt32 31)).toInt32) :: st) (pc + 1)) : zW g M d mc ms n0 Q cells slots h ls (.int y :: .int x :: st) (pc) := by
  intro p e R s m args below meth c H locs A ad ad0 cls F Ro S E hn L
  exact lv_iushr F.1 F.2.1 hd rfl (k p e R s m args below meth c H locs A ad ad0 cls F Ro S E hn L)
theorem z_lushr {x : Int64} {y : Int32} (hd : decode M.2.1 pc = .ok (.lushr, 1)) (k : zW g M d mc ms n0 Q cells slots h ls (.long ((x.toUInt64 >>> (y.toInt64.toUInt64 &&& Int64.toUInt64 63)).toInt64) :: st) (pc + 1)) : zW g M d mc ms n0 Q cells slots h ls (.int y :: .long x :: st) (pc) := by
  intro p e R s m args below meth c H locs A ad ad0 cls F Ro S E hn L
  exact lv_lushr F.1 F.2.1 hd rfl (k p e R s m args below meth c H locs A ad ad0 cls F Ro S E hn L)
theorem z_ishl {x y : Int32} (hd : decode M.2.1 pc = .ok (.ishl, 1)) (k : zW g M d mc ms n0 Q cells slots h ls (.int (x <<< (y &&& 31)) :: st) (pc + 1)) : zW g M d mc ms n0 Q cells slots h ls (.int y :: .int x :: st) (pc) := by
  intro p e R s m args below meth c H locs A ad ad0 cls F Ro S E hn L
  exact lv_ishl F.1 F.2.1 hd (k p e R s m args below meth c H locs A ad ad0 cls F Ro S E hn L)
theorem z_ishr {x y : Int32} (hd : decode M.2.1 pc = .ok (.ishr, 1)) (k : zW g M d mc ms n0 Q cells slots h ls (.int (x >>> (y &&& 31)) :: st) (pc + 1)) : zW g M d mc ms n0 Q cells slots h ls (.int y :: .int x :: st) (pc) := by
  intro p e R s m args below meth c H locs A ad ad0 cls F Ro S E hn L
  exact lv_ishr F.1 F.2.1 hd (k p e R s m args below meth c H locs A ad ad0 cls F Ro S E hn L)
theorem z_lshl {x : Int64} {y : Int32} (hd : decode M.2.1 pc = .ok (.lshl, 1)) (k : zW g M d mc ms n0 Q cells slots h ls (.long (x <<< (y.toInt64 &&& 63)) :: st) (pc + 1)) : zW g M d mc ms n0 Q cells slots h ls (.int y :: .long x :: st) (pc) := by
  intro p e R s m args below meth c H locs A ad ad0 cls F Ro S E hn L
  exact lv_lshl F.1 F.2.1 hd rfl (k p e R s m args below meth c H locs A ad ad0 cls F Ro S E hn L)
theorem z_lshr {x : Int64} {y : Int32} (hd : decode M.2.1 pc = .ok (.lshr, 1)) (k : zW g M d mc ms n0 Q cells slots h ls (.long (x >>> (y.toInt64 &&& 63)) :: st) (pc + 1)) : zW g M d mc ms n0 Q cells slots h ls (.int y :: .long x :: st) (pc) := by
  intro p e R s m args below meth c H locs A ad ad0 cls F Ro S E hn L
  exact lv_lshr F.1 F.2.1 hd rfl (k p e R s m args below meth c H locs A ad ad0 cls F Ro S E hn L)
theorem z_lcmp {x y : Int64} (hd : decode M.2.1 pc = .ok (.lcmp, 1)) (k : zW g M d mc ms n0 Q cells slots h ls (.int (lg_cmp x y) :: st) (pc + 1)) : zW g M d mc ms n0 Q cells slots h ls (.long y :: .long x :: st) (pc) := by
  intro p e R s m args below meth c H locs A ad ad0 cls F Ro S E hn L
  exact W.lcmp F.1 F.2.1 hd (k p e R s m args below meth c H locs A ad ad0 cls F Ro S E hn L)
theorem z_iconst {i : Int} (v : Int32) (hd : decode M.2.1 pc = .ok (.iconst i, 1)) (hv : Int32.ofInt i = v) (k : zW g M d mc ms n0 Q cells slots h ls (.int v :: st) (pc + 1)) : zW g M d mc ms n0 Q cells slots h ls (st) (pc) := by
  intro p e R s m args below meth c H locs A ad ad0 cls F Ro S E hn L
  exact lv_iconst F.1 F.2.1 hd hv (k p e R s m args below meth c H locs A ad ad0 cls F Ro S E hn L)
theorem z_bipush {i : Int} (v : Int32) (hd : decode M.2.1 pc = .ok (.bipush i, 2)) (hv : (Int8.ofInt i).toInt32 = v) (k : zW g M d mc ms n0 Q cells slots h ls (.int v :: st) (pc + 2)) : zW g M d mc ms n0 Q cells slots h ls (st) (pc) := by
  intro p e R s m args below meth c H locs A ad ad0 cls F Ro S E hn L
  exact lv_bipush F.1 F.2.1 hd hv (k p e R s m args below meth c H locs A ad ad0 cls F Ro S E hn L)
theorem z_sipush {i : Int} (v : Int32) (hd : decode M.2.1 pc = .ok (.sipush i, 3)) (hv : (Int16.ofInt i).toInt32 = v) (k : zW g M d mc ms n0 Q cells slots h ls (.int v :: st) (pc + 3)) : zW g M d mc ms n0 Q cells slots h ls (st) (pc) := by
  intro p e R s m args below meth c H locs A ad ad0 cls F Ro S E hn L
  exact lv_sipush F.1 F.2.1 hd hv (k p e R s m args below meth c H locs A ad ad0 cls F Ro S E hn L)
theorem z_lconst {i : Fin 2} (v : Int64) (hd : decode M.2.1 pc = .ok (.lconst i, 1)) (hv : Int64.ofNat (i : Nat) = v) (k : zW g M d mc ms n0 Q cells slots h ls (.long v :: st) (pc + 1)) : zW g M d mc ms n0 Q cells slots h ls (st) (pc) := by
  intro p e R s m args below meth c H locs A ad ad0 cls F Ro S E hn L
  exact lv_lconst F.1 F.2.1 hd hv (k p e R s m args below meth c H locs A ad ad0 cls F Ro S E hn L)
theorem z_ldc {i : Nat} {v : Int32} (hd : decode M.2.1 pc = .ok (.ldc i, 2)) (hw : Cond.constant M.1.cls i v ∈ zT) (k : zW g M d mc ms n0 Q cells slots h ls (.int v :: st) (pc + 2)) : zW g M d mc ms n0 Q cells slots h ls (st) (pc) := by
  intro p e R s m args below meth c H locs A ad ad0 cls F Ro S E hn L
  exact W.ldc F.1 F.2.1 F.2.2.2.2.2.1 (F.2.2.2.2.2.2.1 _ hw) rfl hd (k p e R s m args below meth c H locs A ad ad0 cls F Ro S E hn L)
theorem z_ldc2 {i : Nat} {v : Int64} (hd : decode M.2.1 pc = .ok (.ldc2_w i, 3)) (hw : Cond.constantLong M.1.cls i v ∈ zT) (k : zW g M d mc ms n0 Q cells slots h ls (.long v :: st) (pc + 3)) : zW g M d mc ms n0 Q cells slots h ls (st) (pc) := by
  intro p e R s m args below meth c H locs A ad ad0 cls F Ro S E hn L
  exact W.ldc2 F.1 F.2.1 F.2.2.2.2.2.1 (F.2.2.2.2.2.2.1 _ hw) rfl hd (k p e R s m args below meth c H locs A ad ad0 cls F Ro S E hn L)
theorem z_null  (hd : decode M.2.1 pc = .ok (.aconst_null, 1)) (k : zW g M d mc ms n0 Q cells slots h ls (.null :: st) (pc + 1)) : zW g M d mc ms n0 Q cells slots h ls (st) (pc) := by
  intro p e R s m args below meth c H locs A ad ad0 cls F Ro S E hn L
  exact lv_null F.1 F.2.1 hd (k p e R s m args below meth c H locs A ad ad0 cls F Ro S E hn L)
theorem z_iload_n {j : Fin 4} {x : Int32} (hd : decode M.2.1 pc = .ok (.iload_n j, 1)) (hl : ls[(j : Nat)]? = some (some (.int x))) (k : zW g M d mc ms n0 Q cells slots h ls (.int x :: st) (pc + 1)) : zW g M d mc ms n0 Q cells slots h ls (st) (pc) := by
  intro p e R s m args below meth c H locs A ad ad0 cls F Ro S E hn L
  exact lv_iload_n F.1 F.2.1 hd rfl (L.2.2 _ _ hl) (k p e R s m args below meth c H locs A ad ad0 cls F Ro S E hn L)
theorem z_iload {i : Nat} {x : Int32} (hd : decode M.2.1 pc = .ok (.iload i, 2)) (hl : ls[i]? = some (some (.int x))) (k : zW g M d mc ms n0 Q cells slots h ls (.int x :: st) (pc + 2)) : zW g M d mc ms n0 Q cells slots h ls (st) (pc) := by
  intro p e R s m args below meth c H locs A ad ad0 cls F Ro S E hn L
  exact lv_iload F.1 F.2.1 hd (L.2.2 _ _ hl) (k p e R s m args below meth c H locs A ad ad0 cls F Ro S E hn L)
theorem z_lload_n {j : Fin 4} {x : Int64} (hd : decode M.2.1 pc = .ok (.lload_n j, 1)) (hl : ls[(j : Nat)]? = some (some (.long x))) (k : zW g M d mc ms n0 Q cells slots h ls (.long x :: st) (pc + 1)) : zW g M d mc ms n0 Q cells slots h ls (st) (pc) := by
  intro p e R s m args below meth c H locs A ad ad0 cls F Ro S E hn L
  exact lv_lload_n F.1 F.2.1 hd rfl (L.2.2 _ _ hl) (k p e R s m args below meth c H locs A ad ad0 cls F Ro S E hn L)
theorem z_lload {i : Nat} {x : Int64} (hd : decode M.2.1 pc = .ok (.lload i, 2)) (hl : ls[i]? = some (some (.long x))) (k : zW g M d mc ms n0 Q cells slots h ls (.long x :: st) (pc + 2)) : zW g M d mc ms n0 Q cells slots h ls (st) (pc) := by
  intro p e R s m args below meth c H locs A ad ad0 cls F Ro S E hn L
  exact lv_lload F.1 F.2.1 hd (L.2.2 _ _ hl) (k p e R s m args below meth c H locs A ad ad0 cls F Ro S E hn L)
theorem z_aload_n {j : Fin 4} {x : Nat} (hd : decode M.2.1 pc = .ok (.aload_n j, 1)) (hl : ls[(j : Nat)]? = some (some (.ref x))) (k : zW g M d mc ms n0 Q cells slots h ls (.ref x :: st) (pc + 1)) : zW g M d mc ms n0 Q cells slots h ls (st) (pc) := by
  intro p e R s m args below meth c H locs A ad ad0 cls F Ro S E hn L
  exact lv_aload_n F.1 F.2.1 hd rfl (L.2.2 _ _ hl) (k p e R s m args below meth c H locs A ad ad0 cls F Ro S E hn L)
theorem z_aload {i : Nat} {x : Nat} (hd : decode M.2.1 pc = .ok (.aload i, 2)) (hl : ls[i]? = some (some (.ref x))) (k : zW g M d mc ms n0 Q cells slots h ls (.ref x :: st) (pc + 2)) : zW g M d mc ms n0 Q cells slots h ls (st) (pc) := by
  intro p e R s m args below meth c H locs A ad ad0 cls F Ro S E hn L
  exact lv_aload F.1 F.2.1 hd (L.2.2 _ _ hl) (k p e R s m args below meth c H locs A ad ad0 cls F Ro S E hn L)
theorem z_pop {v : Value} (hd : decode M.2.1 pc = .ok (.pop, 1)) (hc : v.category = 1) (k : zW g M d mc ms n0 Q cells slots h ls (st) (pc + 1)) : zW g M d mc ms n0 Q cells slots h ls (v :: st) (pc) := by
  intro p e R s m args below meth c H locs A ad ad0 cls F Ro S E hn L
  exact lv_pop F.1 F.2.1 hd ((zc_cat ad v).trans hc) (k p e R s m args below meth c H locs A ad ad0 cls F Ro S E hn L)
theorem z_dup {v : Value} (hd : decode M.2.1 pc = .ok (.dup, 1)) (hc : v.category = 1) (k : zW g M d mc ms n0 Q cells slots h ls (v :: v :: st) (pc + 1)) : zW g M d mc ms n0 Q cells slots h ls (v :: st) (pc) := by
  intro p e R s m args below meth c H locs A ad ad0 cls F Ro S E hn L
  exact lv_dup F.1 F.2.1 hd ((zc_cat ad v).trans hc) (k p e R s m args below meth c H locs A ad ad0 cls F Ro S E hn L)
theorem z_dup_x1 {v u : Value} (hd : decode M.2.1 pc = .ok (.dup_x1, 1)) (hc : v.category = 1) (hc2 : u.category = 1) (k : zW g M d mc ms n0 Q cells slots h ls (v :: u :: v :: st) (pc + 1)) : zW g M d mc ms n0 Q cells slots h ls (v :: u :: st) (pc) := by
  intro p e R s m args below meth c H locs A ad ad0 cls F Ro S E hn L
  exact lv_dup_x1 F.1 F.2.1 hd ((zc_cat ad v).trans hc) ((zc_cat ad u).trans hc2) (k p e R s m args below meth c H locs A ad ad0 cls F Ro S E hn L)
theorem z_dup2_11 {v u : Value} (hd : decode M.2.1 pc = .ok (.dup2, 1)) (hc : v.category = 1) (hc2 : u.category = 1) (k : zW g M d mc ms n0 Q cells slots h ls (v :: u :: v :: u :: st) (pc + 1)) : zW g M d mc ms n0 Q cells slots h ls (v :: u :: st) (pc) := by
  intro p e R s m args below meth c H locs A ad ad0 cls F Ro S E hn L
  exact lv_dup2_11 F.1 F.2.1 hd ((zc_cat ad v).trans hc) ((zc_cat ad u).trans hc2) (k p e R s m args below meth c H locs A ad ad0 cls F Ro S E hn L)
theorem z_goto {off : Int} (tgt : Nat) (hd : decode M.2.1 pc = .ok (.goto off, 3)) (ht : (pc : Int) + off = (tgt : Int)) (k : zW g M d mc ms n0 Q cells slots h ls (st) (tgt)) : zW g M d mc ms n0 Q cells slots h ls (st) (pc) := by
  intro p e R s m args below meth c H locs A ad ad0 cls F Ro S E hn L
  exact lv_goto F.1 F.2.1 hd ht (k p e R s m args below meth c H locs A ad ad0 cls F Ro S E hn L)
end ZR
end
section
def zkl (i : Nat) (ls : List (Option Value)) : List (Option Value) := match i with
  | 0 => ls
  | j + 1 => match ls[j]? with
    | some (some u) => if u.category = 2 then ls.set j none else ls
    | _ => ls
def zst1 (i : Nat) (v : Value) (ls : List (Option Value)) : List (Option Value) := (zkl i ls).set i (some v)
def zst2 (i : Nat) (v : Value) (ls : List (Option Value)) : List (Option Value) := ((zkl i ls).set i (some v)).set (i + 1) none
theorem zkl_at {i j : Nat} {ls : List (Option Value)} {u : Value} (h : (zkl i ls)[j]? = some (some u)) : ls[j]? = some (some u) ∧ ¬ (j + 1 = i ∧ u.category = 2) := by
  match i, h with
  | 0, h => exact ⟨h, fun q => by omega⟩
  | i + 1, h =>
    unfold zkl at h
    dsimp only at h
    split at h
    · rename_i v hv
      by_cases hc : v.category = 2
      · rw [if_pos hc, List.getElem?_set] at h
        by_cases e : i = j
        · subst e
          simp at h
        · rw [if_neg e] at h
          exact ⟨h, fun q => e (by omega)⟩
      · rw [if_neg hc] at h
        refine ⟨h, fun q => hc ?_⟩
        have : j = i := by omega
        subst this
        rw [hv] at h
        cases h
        exact q.2
    · rename_i hv
      refine ⟨h, fun q => ?_⟩
      have : j = i := by omega
      subst this
      exact hv _ h
def zlv (ad : Nat → Nat) (ls : List (Option Value)) : List (Nat × Value) := (List.range ls.length).filterMap (fun j => match ls[j]? with
  | some (some u) => some (j, zc ad u)
  | _ => none)
theorem zlv_of {ad : Nat → Nat} {ls : List (Option Value)} {q : Nat × Value} (h : q ∈ zlv ad ls) : ∃ u, ls[q.1]? = some (some u) ∧ q.2 = zc ad u := by
  unfold zlv at h
  obtain ⟨j, -, hj⟩ := List.mem_filterMap.mp h
  split at hj
  · rename_i u hu
    cases hj
    exact ⟨u, hu, rfl⟩
  · cases hj
theorem zlv_in {ad : Nat → Nat} {ls : List (Option Value)} {j : Nat} {u : Value} (h : ls[j]? = some (some u)) : (j, zc ad u) ∈ zlv ad ls := by
  unfold zlv
  refine List.mem_filterMap.mpr ⟨j, List.mem_range.mpr (List.getElem?_eq_some_iff.mp h).1, ?_⟩
  rw [h]
theorem zLo_lv {cls : Array Slot} {nL : Nat} {ad : Nat → Nat} {ls : List (Option Value)} (L : zLo cls nL ad ls) : lv_has cls nL (zlv ad ls) :=
  ⟨L.1, L.2.1, fun q hq => by
    obtain ⟨u, h1, h2⟩ := zlv_of hq
    rw [h2]
    exact L.2.2 _ _ h1⟩
theorem zLo_st1 {cls : Array Slot} {nL i : Nat} {ad : Nat → Nat} {ls : List (Option Value)} {v : Value}
    (h : lv_has cls nL ((i, zc ad v) :: (zlv ad ls).filter (fun q => !(q.1 == i) && !(q.1 + 1 == i && q.2.category == 2)))) : zLo cls nL ad (zst1 i v ls) := by
  refine ⟨h.1, h.2.1, fun j u hj => ?_⟩
  unfold zst1 at hj
  rw [List.getElem?_set] at hj
  by_cases e : i = j
  · subst e
    rw [if_pos rfl] at hj
    split at hj
    · cases hj
      exact h.2.2 (i, zc ad v) List.mem_cons_self
    · cases hj
  · rw [if_neg e] at hj
    obtain ⟨h1, h2⟩ := zkl_at hj
    refine h.2.2 (j, zc ad u) (List.mem_cons_of_mem _ (List.mem_filter.mpr ⟨zlv_in h1, ?_⟩))
    simp only [zc_cat, Bool.and_eq_true, Bool.not_eq_true', beq_eq_false_iff_ne, ne_eq]
    refine ⟨fun q => e q.symm, ?_⟩
    cases hb : (j + 1 == i && u.category == 2) with
    | false => rfl
    | true =>
      simp only [Bool.and_eq_true, beq_iff_eq] at hb
      exact absurd hb h2
theorem zLo_st2 {cls : Array Slot} {nL i : Nat} {ad : Nat → Nat} {ls : List (Option Value)} {v : Value}
    (h : lv_has cls nL ((i, zc ad v) :: (zlv ad ls).filter (fun q => !(q.1 == i) && (!(q.1 == i + 1) && !(q.1 + 1 == i && q.2.category == 2))))) : zLo cls nL ad (zst2 i v ls) := by
  refine ⟨h.1, h.2.1, fun j u hj => ?_⟩
  unfold zst2 at hj
  rw [List.getElem?_set] at hj
  by_cases e1 : i + 1 = j
  · rw [if_pos e1] at hj
    split at hj <;> cases hj
  · rw [if_neg e1, List.getElem?_set] at hj
    by_cases e : i = j
    · subst e
      rw [if_pos rfl] at hj
      split at hj
      · cases hj
        exact h.2.2 (i, zc ad v) List.mem_cons_self
      · cases hj
    · rw [if_neg e] at hj
      obtain ⟨h1, h2⟩ := zkl_at hj
      refine h.2.2 (j, zc ad u) (List.mem_cons_of_mem _ (List.mem_filter.mpr ⟨zlv_in h1, ?_⟩))
      simp only [zc_cat, Bool.and_eq_true, Bool.not_eq_true', beq_eq_false_iff_ne, ne_eq]
      refine ⟨fun q => e q.symm, fun q => e1 q.symm, ?_⟩
      cases hb : (j + 1 == i && u.category == 2) with
      | false => rfl
      | true =>
        simp only [Bool.and_eq_true, beq_iff_eq] at hb
        exact absurd hb h2
section ZR
variable {g : zGl} {M : zMd} {d mc ms n0 cells slots pc : Nat} {Q : zO → List zE → Prop} {h : List zE} {ls ls' : List (Option Value)} {st : List Value}
theorem z_istore_n {j : Fin 4} {x : Int32} (hd : decode M.2.1 pc = .ok (.istore_n j, 1)) (hi : (j : Nat) < M.2.2.1) (hs : ls' = zst1 j (.int x) ls) (k : zW g M d mc ms n0 Q cells slots h ls' (st) (pc + 1)) : zW g M d mc ms n0 Q cells slots h ls (.int x :: st) (pc) := by
  intro p e R s m args below meth c H locs A ad ad0 cls F Ro S E hn L
  subst hs
  exact lv_istore_n F.1 F.2.1 hd rfl (zLo_lv L) hi rfl (fun cls' hl => k p e R s m args below meth c H locs A ad ad0 cls' F Ro S E hn (zLo_st1 (v := .int x) hl))
theorem z_istore {i : Nat} {x : Int32} (hd : decode M.2.1 pc = .ok (.istore i, 2)) (hi : i < M.2.2.1) (hs : ls' = zst1 i (.int x) ls) (k : zW g M d mc ms n0 Q cells slots h ls' (st) (pc + 2)) : zW g M d mc ms n0 Q cells slots h ls (.int x :: st) (pc) := by
  intro p e R s m args below meth c H locs A ad ad0 cls F Ro S E hn L
  subst hs
  exact lv_istore F.1 F.2.1 hd (zLo_lv L) hi rfl (fun cls' hl => k p e R s m args below meth c H locs A ad ad0 cls' F Ro S E hn (zLo_st1 (v := .int x) hl))
theorem z_astore_n {j : Fin 4} {x : Nat} (hd : decode M.2.1 pc = .ok (.astore_n j, 1)) (hi : (j : Nat) < M.2.2.1) (hs : ls' = zst1 j (.ref x) ls) (k : zW g M d mc ms n0 Q cells slots h ls' (st) (pc + 1)) : zW g M d mc ms n0 Q cells slots h ls (.ref x :: st) (pc) := by
  intro p e R s m args below meth c H locs A ad ad0 cls F Ro S E hn L
  subst hs
  exact lv_astore_n F.1 F.2.1 hd rfl (zLo_lv L) hi rfl (fun cls' hl => k p e R s m args below meth c H locs A ad ad0 cls' F Ro S E hn (zLo_st1 (v := .ref x) hl))
theorem z_astore {i : Nat} {x : Nat} (hd : decode M.2.1 pc = .ok (.astore i, 2)) (hi : i < M.2.2.1) (hs : ls' = zst1 i (.ref x) ls) (k : zW g M d mc ms n0 Q cells slots h ls' (st) (pc + 2)) : zW g M d mc ms n0 Q cells slots h ls (.ref x :: st) (pc) := by
  intro p e R s m args below meth c H locs A ad ad0 cls F Ro S E hn L
  subst hs
  exact lv_astore F.1 F.2.1 hd (zLo_lv L) hi rfl (fun cls' hl => k p e R s m args below meth c H locs A ad ad0 cls' F Ro S E hn (zLo_st1 (v := .ref x) hl))
theorem z_lstore_n {j : Fin 4} {x : Int64} (hd : decode M.2.1 pc = .ok (.lstore_n j, 1)) (hi : (j : Nat) + 1 < M.2.2.1) (hs : ls' = zst2 j (.long x) ls) (k : zW g M d mc ms n0 Q cells slots h ls' (st) (pc + 1)) : zW g M d mc ms n0 Q cells slots h ls (.long x :: st) (pc) := by
  intro p e R s m args below meth c H locs A ad ad0 cls F Ro S E hn L
  subst hs
  exact lv_lstore_n F.1 F.2.1 hd rfl (zLo_lv L) hi rfl (fun cls' hl => k p e R s m args below meth c H locs A ad ad0 cls' F Ro S E hn (zLo_st2 (v := .long x) hl))
theorem z_lstore {i : Nat} {x : Int64} (hd : decode M.2.1 pc = .ok (.lstore i, 2)) (hi : i + 1 < M.2.2.1) (hs : ls' = zst2 i (.long x) ls) (k : zW g M d mc ms n0 Q cells slots h ls' (st) (pc + 2)) : zW g M d mc ms n0 Q cells slots h ls (.long x :: st) (pc) := by
  intro p e R s m args below meth c H locs A ad ad0 cls F Ro S E hn L
  subst hs
  exact lv_lstore F.1 F.2.1 hd (zLo_lv L) hi rfl (fun cls' hl => k p e R s m args below meth c H locs A ad ad0 cls' F Ro S E hn (zLo_st2 (v := .long x) hl))
theorem z_iinc {i : Nat} {n : Int} {x : Int32} (v : Int32) (hd : decode M.2.1 pc = .ok (.iinc i n, 3)) (hl : ls[i]? = some (some (.int x))) (hv : x + Int32.ofInt n = v) (hi : i < M.2.2.1) (hs : ls' = zst1 i (.int v) ls) (k : zW g M d mc ms n0 Q cells slots h ls' (st) (pc + 3)) : zW g M d mc ms n0 Q cells slots h ls (st) (pc) := by
  intro p e R s m args below meth c H locs A ad ad0 cls F Ro S E hn L
  subst hs
  obtain ⟨j, hj⟩ := List.getElem?_of_mem (zlv_in (ad := ad) hl)
  exact lv_iinc F.1 F.2.1 hd (zLo_lv L) hj hv hi rfl (fun cls' hl => k p e R s m args below meth c H locs A ad ad0 cls' F Ro S E hn (zLo_st1 (v := .int v) hl))
theorem z_icmp_eq {x y : Int32} {off : Int} (tgt : Nat) (hd : decode M.2.1 pc = .ok (.if_icmp .eq off, 3)) (ht : (pc : Int) + off = (tgt : Int)) (kt : x = y → zW g M d mc ms n0 Q cells slots h ls (st) (tgt)) (kf : ¬ x = y → zW g M d mc ms n0 Q cells slots h ls (st) (pc + 3)) : zW g M d mc ms n0 Q cells slots h ls (.int y :: .int x :: st) (pc) := by
  intro p e R s m args below meth c H locs A ad ad0 cls F Ro S E hn L
  exact lv_icmp_eq F.1 F.2.1 hd ht (fun q => kt q p e R s m args below meth c H locs A ad ad0 cls F Ro S E hn L) (fun q => kf q p e R s m args below meth c H locs A ad ad0 cls F Ro S E hn L)
theorem z_if_eq {x : Int32} {off : Int} (tgt : Nat) (hd : decode M.2.1 pc = .ok (.ifCond .eq off, 3)) (ht : (pc : Int) + off = (tgt : Int)) (kt : x = 0 → zW g M d mc ms n0 Q cells slots h ls (st) (tgt)) (kf : ¬ x = 0 → zW g M d mc ms n0 Q cells slots h ls (st) (pc + 3)) : zW g M d mc ms n0 Q cells slots h ls (.int x :: st) (pc) := by
  intro p e R s m args below meth c H locs A ad ad0 cls F Ro S E hn L
  exact lv_if_eq F.1 F.2.1 hd ht (fun q => kt q p e R s m args below meth c H locs A ad ad0 cls F Ro S E hn L) (fun q => kf q p e R s m args below meth c H locs A ad ad0 cls F Ro S E hn L)
theorem z_icmp_ne {x y : Int32} {off : Int} (tgt : Nat) (hd : decode M.2.1 pc = .ok (.if_icmp .ne off, 3)) (ht : (pc : Int) + off = (tgt : Int)) (kt : ¬ x = y → zW g M d mc ms n0 Q cells slots h ls (st) (tgt)) (kf : x = y → zW g M d mc ms n0 Q cells slots h ls (st) (pc + 3)) : zW g M d mc ms n0 Q cells slots h ls (.int y :: .int x :: st) (pc) := by
  intro p e R s m args below meth c H locs A ad ad0 cls F Ro S E hn L
  exact lv_icmp_ne F.1 F.2.1 hd ht (fun q => kt q p e R s m args below meth c H locs A ad ad0 cls F Ro S E hn L) (fun q => kf q p e R s m args below meth c H locs A ad ad0 cls F Ro S E hn L)
theorem z_if_ne {x : Int32} {off : Int} (tgt : Nat) (hd : decode M.2.1 pc = .ok (.ifCond .ne off, 3)) (ht : (pc : Int) + off = (tgt : Int)) (kt : ¬ x = 0 → zW g M d mc ms n0 Q cells slots h ls (st) (tgt)) (kf : x = 0 → zW g M d mc ms n0 Q cells slots h ls (st) (pc + 3)) : zW g M d mc ms n0 Q cells slots h ls (.int x :: st) (pc) := by
  intro p e R s m args below meth c H locs A ad ad0 cls F Ro S E hn L
  exact lv_if_ne F.1 F.2.1 hd ht (fun q => kt q p e R s m args below meth c H locs A ad ad0 cls F Ro S E hn L) (fun q => kf q p e R s m args below meth c H locs A ad ad0 cls F Ro S E hn L)
theorem z_icmp_lt {x y : Int32} {off : Int} (tgt : Nat) (hd : decode M.2.1 pc = .ok (.if_icmp .lt off, 3)) (ht : (pc : Int) + off = (tgt : Int)) (kt : x < y → zW g M d mc ms n0 Q cells slots h ls (st) (tgt)) (kf : ¬ x < y → zW g M d mc ms n0 Q cells slots h ls (st) (pc + 3)) : zW g M d mc ms n0 Q cells slots h ls (.int y :: .int x :: st) (pc) := by
  intro p e R s m args below meth c H locs A ad ad0 cls F Ro S E hn L
  exact lv_icmp_lt F.1 F.2.1 hd ht (fun q => kt q p e R s m args below meth c H locs A ad ad0 cls F Ro S E hn L) (fun q => kf q p e R s m args below meth c H locs A ad ad0 cls F Ro S E hn L)
theorem z_if_lt {x : Int32} {off : Int} (tgt : Nat) (hd : decode M.2.1 pc = .ok (.ifCond .lt off, 3)) (ht : (pc : Int) + off = (tgt : Int)) (kt : x < 0 → zW g M d mc ms n0 Q cells slots h ls (st) (tgt)) (kf : ¬ x < 0 → zW g M d mc ms n0 Q cells slots h ls (st) (pc + 3)) : zW g M d mc ms n0 Q cells slots h ls (.int x :: st) (pc) := by
  intro p e R s m args below meth c H locs A ad ad0 cls F Ro S E hn L
  exact lv_if_lt F.1 F.2.1 hd ht (fun q => kt q p e R s m args below meth c H locs A ad ad0 cls F Ro S E hn L) (fun q => kf q p e R s m args below meth c H locs A ad ad0 cls F Ro S E hn L)
theorem z_icmp_ge {x y : Int32} {off : Int} (tgt : Nat) (hd : decode M.2.1 pc = .ok (.if_icmp .ge off, 3)) (ht : (pc : Int) + off = (tgt : Int)) (kt : y ≤ x → zW g M d mc ms n0 Q cells slots h ls (st) (tgt)) (kf : ¬ y ≤ x → zW g M d mc ms n0 Q cells slots h ls (st) (pc + 3)) : zW g M d mc ms n0 Q cells slots h ls (.int y :: .int x :: st) (pc) := by
  intro p e R s m args below meth c H locs A ad ad0 cls F Ro S E hn L
  exact lv_icmp_ge F.1 F.2.1 hd ht (fun q => kt q p e R s m args below meth c H locs A ad ad0 cls F Ro S E hn L) (fun q => kf q p e R s m args below meth c H locs A ad ad0 cls F Ro S E hn L)
theorem z_if_ge {x : Int32} {off : Int} (tgt : Nat) (hd : decode M.2.1 pc = .ok (.ifCond .ge off, 3)) (ht : (pc : Int) + off = (tgt : Int)) (kt : 0 ≤ x → zW g M d mc ms n0 Q cells slots h ls (st) (tgt)) (kf : ¬ 0 ≤ x → zW g M d mc ms n0 Q cells slots h ls (st) (pc + 3)) : zW g M d mc ms n0 Q cells slots h ls (.int x :: st) (pc) := by
  intro p e R s m args below meth c H locs A ad ad0 cls F Ro S E hn L
  exact lv_if_ge F.1 F.2.1 hd ht (fun q => kt q p e R s m args below meth c H locs A ad ad0 cls F Ro S E hn L) (fun q => kf q p e R s m args below meth c H locs A ad ad0 cls F Ro S E hn L)
theorem z_icmp_gt {x y : Int32} {off : Int} (tgt : Nat) (hd : decode M.2.1 pc = .ok (.if_icmp .gt off, 3)) (ht : (pc : Int) + off = (tgt : Int)) (kt : y < x → zW g M d mc ms n0 Q cells slots h ls (st) (tgt)) (kf : ¬ y < x → zW g M d mc ms n0 Q cells slots h ls (st) (pc + 3)) : zW g M d mc ms n0 Q cells slots h ls (.int y :: .int x :: st) (pc) := by
  intro p e R s m args below meth c H locs A ad ad0 cls F Ro S E hn L
  exact lv_icmp_gt F.1 F.2.1 hd ht (fun q => kt q p e R s m args below meth c H locs A ad ad0 cls F Ro S E hn L) (fun q => kf q p e R s m args below meth c H locs A ad ad0 cls F Ro S E hn L)
theorem z_if_gt {x : Int32} {off : Int} (tgt : Nat) (hd : decode M.2.1 pc = .ok (.ifCond .gt off, 3)) (ht : (pc : Int) + off = (tgt : Int)) (kt : 0 < x → zW g M d mc ms n0 Q cells slots h ls (st) (tgt)) (kf : ¬ 0 < x → zW g M d mc ms n0 Q cells slots h ls (st) (pc + 3)) : zW g M d mc ms n0 Q cells slots h ls (.int x :: st) (pc) := by
  intro p e R s m args below meth c H locs A ad ad0 cls F Ro S E hn L
  exact lv_if_gt F.1 F.2.1 hd ht (fun q => kt q p e R s m args below meth c H locs A ad ad0 cls F Ro S E hn L) (fun q => kf q p e R s m args below meth c H locs A ad ad0 cls F Ro S E hn L)
theorem z_icmp_le {x y : Int32} {off : Int} (tgt : Nat) (hd : decode M.2.1 pc = .ok (.if_icmp .le off, 3)) (ht : (pc : Int) + off = (tgt : Int)) (kt : x ≤ y → zW g M d mc ms n0 Q cells slots h ls (st) (tgt)) (kf : ¬ x ≤ y → zW g M d mc ms n0 Q cells slots h ls (st) (pc + 3)) : zW g M d mc ms n0 Q cells slots h ls (.int y :: .int x :: st) (pc) := by
  intro p e R s m args below meth c H locs A ad ad0 cls F Ro S E hn L
  exact lv_icmp_le F.1 F.2.1 hd ht (fun q => kt q p e R s m args below meth c H locs A ad ad0 cls F Ro S E hn L) (fun q => kf q p e R s m args below meth c H locs A ad ad0 cls F Ro S E hn L)
theorem z_if_le {x : Int32} {off : Int} (tgt : Nat) (hd : decode M.2.1 pc = .ok (.ifCond .le off, 3)) (ht : (pc : Int) + off = (tgt : Int)) (kt : x ≤ 0 → zW g M d mc ms n0 Q cells slots h ls (st) (tgt)) (kf : ¬ x ≤ 0 → zW g M d mc ms n0 Q cells slots h ls (st) (pc + 3)) : zW g M d mc ms n0 Q cells slots h ls (.int x :: st) (pc) := by
  intro p e R s m args below meth c H locs A ad ad0 cls F Ro S E hn L
  exact lv_if_le F.1 F.2.1 hd ht (fun q => kt q p e R s m args below meth c H locs A ad ad0 cls F Ro S E hn L) (fun q => kf q p e R s m args below meth c H locs A ad ad0 cls F Ro S E hn L)
theorem z_lookup {dflt : Int} {ps : Array (Int × Int)} {len : Nat} {x : Int32} {off : Int} (tgt : Nat) (hd : decode M.2.1 pc = .ok (.lookupswitch dflt ps, len)) (hp : (ps.toList.zip (ps.toList.drop 1)).all (fun (a, next) => a.1 < next.1) = true) (ho : Op.lookupswitch.offset ps.toList dflt x.toInt = off) (ht : (pc : Int) + off = (tgt : Int)) (k : zW g M d mc ms n0 Q cells slots h ls (st) (tgt)) : zW g M d mc ms n0 Q cells slots h ls (.int x :: st) (pc) := by
  intro p e R s m args below meth c H locs A ad ad0 cls F Ro S E hn L
  exact lv_lookup F.1 F.2.1 hd hp ho ht (k p e R s m args below meth c H locs A ad ad0 cls F Ro S E hn L)
theorem z_tableOut {dflt lo hi : Int} {offs : Array Int} {len : Nat} {x : Int32} (tgt : Nat) (hd : decode M.2.1 pc = .ok (.tableswitch dflt lo hi offs, len)) (hh : x.toInt < lo ∨ hi < x.toInt) (ht : (pc : Int) + dflt = (tgt : Int)) (k : zW g M d mc ms n0 Q cells slots h ls (st) (tgt)) : zW g M d mc ms n0 Q cells slots h ls (.int x :: st) (pc) := by
  intro p e R s m args below meth c H locs A ad ad0 cls F Ro S E hn L
  exact lv_tableOut F.1 F.2.1 hd hh ht (k p e R s m args below meth c H locs A ad ad0 cls F Ro S E hn L)
theorem z_tableIn {dflt lo hi : Int} {offs : Array Int} {len : Nat} {x : Int32} {off : Int} (tgt : Nat) (hd : decode M.2.1 pc = .ok (.tableswitch dflt lo hi offs, len)) (h1 : ¬ x.toInt < lo) (h2 : ¬ hi < x.toInt) (ho : offs[(x.toInt - lo).toNat]? = some off) (ht : (pc : Int) + off = (tgt : Int)) (k : zW g M d mc ms n0 Q cells slots h ls (st) (tgt)) : zW g M d mc ms n0 Q cells slots h ls (.int x :: st) (pc) := by
  intro p e R s m args below meth c H locs A ad ad0 cls F Ro S E hn L
  exact lv_tableIn F.1 F.2.1 hd h1 h2 ho ht (k p e R s m args below meth c H locs A ad ad0 cls F Ro S E hn L)
end ZR
end
section
/-! what a class's words say of a field at a place in the pool of the class 'own': class ci of vwCl, slot k -/
def zFl (own : String) (idx ci k : Nat) : Prop := ∃ (C : String) (T : u_T) (N : Nat), vwCl[ci]? = some (C, T, N) ∧ k < N ∧ (∀ w ∈ u_ws C T N, w ∈ zT) ∧ Cond.fieldLink own idx (T k).1 (T k).2.1 (T k).2.2.1 ∈ zT
def zFn (own : String) (idx ci k : Nat) : Prop := ∃ (C : String) (T : u_T) (N : Nat) (host : String), vwCl[ci]? = some (C, T, N) ∧ k < N ∧ (∀ w ∈ u_ws C T N, w ∈ zT) ∧ Cond.fieldLinkNest own idx (T k).1 (T k).2.1 (T k).2.2.1 host ∈ zT
/-- .. that may be written, of the type ty -/
def zFw (ci k : Nat) (fin : Bool) (ty : FieldType) : Prop := ∃ (C : String) (T : u_T) (N : Nat) (ty0 : Nat → FieldType), vwCl[ci]? = some (C, T, N) ∧ (∀ k, k < N → parseFieldDescriptor (T k).2.2.1 = some (ty0 k)) ∧ (∀ a, a < N → ∀ b, b < N → a ≠ b → (T a).2.1 ≠ (T b).2.1) ∧ (T k).2.2.2 = fin ∧ (T k).1 = C ∧ parseFieldDescriptor (T k).2.2.1 = some ty
def zNw (own : String) (idx ci : Nat) (fs : List Value) : Prop := ∃ (C : String) (T : u_T) (N : Nat) (ty : Nat → FieldType), vwCl[ci]? = some (C, T, N) ∧ fs.length = N ∧ (∀ w ∈ u_ws C T N, w ∈ zT) ∧ (∀ k, k < N → parseFieldDescriptor (T k).2.2.1 = some (ty k)) ∧ Cond.classLink own idx C ∈ zT ∧ Cond.instantiable C N ∈ zT ∧ Cond.initialized C ∈ zT ∧ ∀ j, j < N → defaultValue (ty j) = vp_V fs j
def zDs (y : MethodName) (n : Nat) : Prop := y.cls ≠ "java/lang/invoke/MethodHandle" ∧ y.cls ≠ "java/lang/invoke/VarHandle" ∧ (parseMethodDescriptor y.desc).map (fun d => d.parameters.length) = some n
def zCv (own : String) (idx : Nat) (M : zMd) (n : Nat) : Prop := Cond.methodLink own idx M.1 ∈ zT ∧ Cond.code M.1 M.2.1 M.2.2.1 M.2.2.2 ∈ zT ∧ Cond.instanceMethod M.1 ∈ zT ∧ Cond.selects M.1.cls M.1 M.1 ∈ zT ∧ Cond.initialized M.1.cls ∈ zT ∧ zDs M.1 n ∧ M.2.2.1 ≤ 21
def zCs (own : String) (idx : Nat) (M : zMd) (n : Nat) : Prop := Cond.methodLink own idx M.1 ∈ zT ∧ Cond.code M.1 M.2.1 M.2.2.1 M.2.2.2 ∈ zT ∧ Cond.static M.1 ∈ zT ∧ Cond.initialized M.1.cls ∈ zT ∧ zDs M.1 n ∧ M.2.2.1 ≤ 21
def zCi (own : String) (idx : Nat) (M : zMd) (n : Nat) : Prop := Cond.methodLink own idx M.1 ∈ zT ∧ Cond.code M.1 M.2.1 M.2.2.1 M.2.2.2 ∈ zT ∧ Cond.instanceMethod M.1 ∈ zT ∧ Cond.initialized M.1.cls ∈ zT ∧ M.1.name = "<init>" ∧ M.2.2.2 = none ∧ zDs M.1 n ∧ M.2.2.1 ≤ 21
section ZR
variable {g : zGl} {M : zMd} {d mc ms n0 cells slots pc : Nat} {Q : zO → List zE → Prop} {h : List zE} {ls ls' : List (Option Value)} {st : List Value}
theorem z_getf {idx ci k0 a : Nat} {fs : List Value} {v : Value} (hd : decode M.2.1 pc = .ok (.getfield idx, 3)) (hf : zFl M.1.cls idx ci k0) (hc : h[a]? = some (.inr (ci, fs))) (hv : fs[k0]? = some v) (k : zW g M d mc ms n0 Q cells slots (h) ls (v :: st) (pc + 3)) : zW g M d mc ms n0 Q cells slots (h) ls (.ref a :: st) (pc) := by
  intro p e R s m args below meth c H locs A ad ad0 cls F Ro S E hn L
  obtain ⟨C, T, N, hcl, hkN, hin, hlk⟩ := hf
  exact va_get F.1 F.2.1 F.2.2.2.2.2.2.1 hin F.2.2.2.2.2.1 F.2.2.2.2.2.2.2.2.2 S.1 a (zH_at hc) hcl k0 hkN (F.2.2.2.2.2.2.1 _ hlk) (fun _ h => h) (v := zc ad v) (by rw [List.getElem?_map, hv]; rfl) hd (k p e R s m args below meth c H locs A ad ad0 cls F Ro S E hn L)
theorem z_getN {idx ci k0 a : Nat} {fs : List Value} {v : Value} (hd : decode M.2.1 pc = .ok (.getfield idx, 3)) (hf : zFn M.1.cls idx ci k0) (hc : h[a]? = some (.inr (ci, fs))) (hv : fs[k0]? = some v) (k : zW g M d mc ms n0 Q cells slots (h) ls (v :: st) (pc + 3)) : zW g M d mc ms n0 Q cells slots (h) ls (.ref a :: st) (pc) := by
  intro p e R s m args below meth c H locs A ad ad0 cls F Ro S E hn L
  obtain ⟨C, T, N, host, hcl, hkN, hin, hlk⟩ := hf
  exact va_getN F.1 F.2.1 F.2.2.2.2.2.2.1 hin F.2.2.2.2.2.1 F.2.2.2.2.2.2.2.2.2 S.1 a (zH_at hc) hcl k0 hkN (F.2.2.2.2.2.2.1 _ hlk) (fun _ h => h) (v := zc ad v) (by rw [List.getElem?_map, hv]; rfl) hd (k p e R s m args below meth c H locs A ad ad0 cls F Ro S E hn L)
theorem z_putf {idx ci k0 a : Nat} {fs : List Value} {v : Value} {ty : FieldType} (hd : decode M.2.1 pc = .ok (.putfield idx, 3)) (hf : zFl M.1.cls idx ci k0) (hw : zFw ci k0 false ty) (hc : h[a]? = some (.inr (ci, fs))) (hl : k0 < fs.length) (hn1 : ∀ ad, narrow ty (zc ad v) = zc ad v) (hn2 : ∀ ad, fits ty (zc ad v) = true) (k : zW g M d mc ms n0 Q cells slots (h.set a (.inr (ci, fs.set k0 v))) ls (st) (pc + 3)) : zW g M d mc ms n0 Q cells slots (h) ls (v :: .ref a :: st) (pc) := by
  intro p e R s m args below meth c H locs A ad ad0 cls F Ro S E hn L
  obtain ⟨C, T, N, hcl, hkN, hin, hlk⟩ := hf
  obtain ⟨C', T', N', ty0, hcl', hty, hnm, hfin, hdecl, hpd⟩ := hw
  rw [hcl] at hcl'
  cases hcl'
  refine va_put F.1 F.2.1 F.2.2.2.2.2.2.1 hin ty0 hty hnm F.2.2.2.2.2.1 F.2.2.2.2.2.2.2.2.2 S.1 S.2.1 S.2.2.1 a (zH_at hc) hcl k0 hkN (F.2.2.2.2.2.2.1 _ hlk) (fun _ h => h) hfin hpd (hn1 ad) (hn2 ad) (by rw [List.length_map]; exact hl) hd (fun H1 locs1 hP hD hS => ?_)
  have eS : (zH g.2.2.1 ad h).set a (ad a, .inr (ci, (fs.map (zc ad)).set k0 (zc ad v))) = zH g.2.2.1 ad (h.set a (.inr (ci, fs.set k0 v))) := by
    rw [← zH_set]
    exact congrArg (fun x => (zH g.2.2.1 ad h).set a (ad a, .inr (ci, x))) List.map_set.symm
  rw [eS] at hP hD
  have hlen : (h.set a (.inr (ci, fs.set k0 v))).length = h.length := List.length_set
  exact k p e R s m args below meth c H1 locs1 A ad ad0 cls F Ro ⟨hP, hD, hS, S.2.2.2.1, S.2.2.2.2.1, S.2.2.2.2.2.1, by rw [hlen]; exact S.2.2.2.2.2.2⟩ (by rw [hlen]; exact E) (by rw [hlen]; exact hn) L
theorem z_putN {idx ci k0 a : Nat} {fs : List Value} {v : Value} {ty : FieldType} (hd : decode M.2.1 pc = .ok (.putfield idx, 3)) (hf : zFn M.1.cls idx ci k0) (hw : zFw ci k0 false ty) (hc : h[a]? = some (.inr (ci, fs))) (hl : k0 < fs.length) (hn1 : ∀ ad, narrow ty (zc ad v) = zc ad v) (hn2 : ∀ ad, fits ty (zc ad v) = true) (k : zW g M d mc ms n0 Q cells slots (h.set a (.inr (ci, fs.set k0 v))) ls (st) (pc + 3)) : zW g M d mc ms n0 Q cells slots (h) ls (v :: .ref a :: st) (pc) := by
  intro p e R s m args below meth c H locs A ad ad0 cls F Ro S E hn L
  obtain ⟨C, T, N, host, hcl, hkN, hin, hlk⟩ := hf
  obtain ⟨C', T', N', ty0, hcl', hty, hnm, hfin, hdecl, hpd⟩ := hw
  rw [hcl] at hcl'
  cases hcl'
  refine va_putN F.1 F.2.1 F.2.2.2.2.2.2.1 hin ty0 hty hnm F.2.2.2.2.2.1 F.2.2.2.2.2.2.2.2.2 S.1 S.2.1 S.2.2.1 a (zH_at hc) hcl k0 hkN (F.2.2.2.2.2.2.1 _ hlk) (fun _ h => h) hfin hpd (hn1 ad) (hn2 ad) (by rw [List.length_map]; exact hl) hd (fun H1 locs1 hP hD hS => ?_)
  have eS : (zH g.2.2.1 ad h).set a (ad a, .inr (ci, (fs.map (zc ad)).set k0 (zc ad v))) = zH g.2.2.1 ad (h.set a (.inr (ci, fs.set k0 v))) := by
    rw [← zH_set]
    exact congrArg (fun x => (zH g.2.2.1 ad h).set a (ad a, .inr (ci, x))) List.map_set.symm
  rw [eS] at hP hD
  have hlen : (h.set a (.inr (ci, fs.set k0 v))).length = h.length := List.length_set
  exact k p e R s m args below meth c H1 locs1 A ad ad0 cls F Ro ⟨hP, hD, hS, S.2.2.2.1, S.2.2.2.2.1, S.2.2.2.2.2.1, by rw [hlen]; exact S.2.2.2.2.2.2⟩ (by rw [hlen]; exact E) (by rw [hlen]; exact hn) L
theorem z_putF {idx ci k0 a : Nat} {fs : List Value} {v : Value} {ty : FieldType} (hd : decode M.2.1 pc = .ok (.putfield idx, 3)) (hf : zFl M.1.cls idx ci k0) (hw : zFw ci k0 true ty) (hi : M.1.name = "<init>") (hdc : (vwCl[ci]?).map (fun q => q.1) = some M.1.cls) (hc : h[a]? = some (.inr (ci, fs))) (hl : k0 < fs.length) (hn1 : ∀ ad, narrow ty (zc ad v) = zc ad v) (hn2 : ∀ ad, fits ty (zc ad v) = true) (k : zW g M d mc ms n0 Q cells slots (h.set a (.inr (ci, fs.set k0 v))) ls (st) (pc + 3)) : zW g M d mc ms n0 Q cells slots (h) ls (v :: .ref a :: st) (pc) := by
  intro p e R s m args below meth c H locs A ad ad0 cls F Ro S E hn L
  obtain ⟨C, T, N, hcl, hkN, hin, hlk⟩ := hf
  obtain ⟨C', T', N', ty0, hcl', hty, hnm, hfin, hdecl, hpd⟩ := hw
  rw [hcl] at hcl'
  cases hcl'
  refine va_putF F.1 F.2.1 F.2.2.2.2.2.2.1 hin ty0 hty hnm F.2.2.2.2.2.1 F.2.2.2.2.2.2.2.2.2 S.1 S.2.1 S.2.2.1 a (zH_at hc) hcl k0 hkN (F.2.2.2.2.2.2.1 _ hlk) (fun _ h => h) (hfin.trans rfl) (F.2.2.2.2.2.2.2.2.1.trans hi) (hdecl.trans (by rw [hcl] at hdc; exact Option.some.inj hdc)) hpd (hn1 ad) (hn2 ad) (by rw [List.length_map]; exact hl) hd (fun H1 locs1 hP hD hS => ?_)
  have eS : (zH g.2.2.1 ad h).set a (ad a, .inr (ci, (fs.map (zc ad)).set k0 (zc ad v))) = zH g.2.2.1 ad (h.set a (.inr (ci, fs.set k0 v))) := by
    rw [← zH_set]
    exact congrArg (fun x => (zH g.2.2.1 ad h).set a (ad a, .inr (ci, x))) List.map_set.symm
  rw [eS] at hP hD
  have hlen : (h.set a (.inr (ci, fs.set k0 v))).length = h.length := List.length_set
  exact k p e R s m args below meth c H1 locs1 A ad ad0 cls F Ro ⟨hP, hD, hS, S.2.2.2.1, S.2.2.2.2.1, S.2.2.2.2.2.1, by rw [hlen]; exact S.2.2.2.2.2.2⟩ (by rw [hlen]; exact E) (by rw [hlen]; exact hn) L
theorem z_iald {a n : Nat} {f : Nat → Int32} {i : Int32} (hd : decode M.2.1 pc = .ok (.iaload, 1)) (hc : h[a]? = some (.inl (0, n, .inl f))) (hi : vp_in i n) (k : zW g M d mc ms n0 Q cells slots (h) ls (.int (f i.toNatClampNeg) :: st) (pc + 1)) : zW g M d mc ms n0 Q cells slots (h) ls (.int i :: .ref a :: st) (pc) := by
  intro p e R s m args below meth c H locs A ad ad0 cls F Ro S E hn L
  exact va_iald F.1 F.2.1 F.2.2.2.2.2.2.2.2.2 S.1 a 0 (zH_at hc) rfl hi hd (k p e R s m args below meth c H locs A ad ad0 cls F Ro S E hn L)
theorem z_iastore {a n : Nat} {f : Nat → Int32} {i : Int32} {x : Int32} (hd : decode M.2.1 pc = .ok (.iastore, 1)) (hc : h[a]? = some (.inl (0, n, .inl f))) (hi : vp_in i n) (k : zW g M d mc ms n0 Q cells slots (h.set a (.inl (0, n, .inl (upd f i.toNatClampNeg x)))) ls (st) (pc + 1)) : zW g M d mc ms n0 Q cells slots (h) ls (.int x :: .int i :: .ref a :: st) (pc) := by
  intro p e R s m args below meth c H locs A ad ad0 cls F Ro S E hn L
  refine va_iast F.1 F.2.1 F.2.2.2.2.2.2.2.2.2 S.1 S.2.1 S.2.2.1 a 0 (zH_at hc) rfl hi hd (fun H1 locs1 hP hD hS => ?_)
  have hP := (zH_set (tc := g.2.2.1) (ad := ad) (h := h) (k := a) (c := .inl (0, n, .inl (upd f i.toNatClampNeg x)))) ▸ hP
  have hD := (zH_set (tc := g.2.2.1) (ad := ad) (h := h) (k := a) (c := .inl (0, n, .inl (upd f i.toNatClampNeg x)))) ▸ hD
  exact k p e R s m args below meth c H1 locs1 A ad ad0 cls F Ro ⟨hP, hD, hS, S.2.2.2.1, S.2.2.2.2.1, S.2.2.2.2.2.1, by rw [List.length_set]; exact S.2.2.2.2.2.2⟩ (by rw [List.length_set]; exact E) (by rw [List.length_set]; exact hn) L
theorem z_lald {a n : Nat} {f : Nat → Int64} {i : Int32} (hd : decode M.2.1 pc = .ok (.laload, 1)) (hc : h[a]? = some (.inl (1, n, .inr (.inl f)))) (hi : vp_in i n) (k : zW g M d mc ms n0 Q cells slots (h) ls (.long (f i.toNatClampNeg) :: st) (pc + 1)) : zW g M d mc ms n0 Q cells slots (h) ls (.int i :: .ref a :: st) (pc) := by
  intro p e R s m args below meth c H locs A ad ad0 cls F Ro S E hn L
  exact va_lald F.1 F.2.1 F.2.2.2.2.2.2.2.2.2 S.1 a 1 (zH_at hc) rfl hi hd (k p e R s m args below meth c H locs A ad ad0 cls F Ro S E hn L)
theorem z_lastore {a n : Nat} {f : Nat → Int64} {i : Int32} {x : Int64} (hd : decode M.2.1 pc = .ok (.lastore, 1)) (hc : h[a]? = some (.inl (1, n, .inr (.inl f)))) (hi : vp_in i n) (k : zW g M d mc ms n0 Q cells slots (h.set a (.inl (1, n, .inr (.inl (vp_updL f i.toNatClampNeg x))))) ls (st) (pc + 1)) : zW g M d mc ms n0 Q cells slots (h) ls (.long x :: .int i :: .ref a :: st) (pc) := by
  intro p e R s m args below meth c H locs A ad ad0 cls F Ro S E hn L
  refine va_last F.1 F.2.1 F.2.2.2.2.2.2.2.2.2 S.1 S.2.1 S.2.2.1 a 1 (zH_at hc) rfl hi hd (fun H1 locs1 hP hD hS => ?_)
  have hP := (zH_set (tc := g.2.2.1) (ad := ad) (h := h) (k := a) (c := .inl (1, n, .inr (.inl (vp_updL f i.toNatClampNeg x))))) ▸ hP
  have hD := (zH_set (tc := g.2.2.1) (ad := ad) (h := h) (k := a) (c := .inl (1, n, .inr (.inl (vp_updL f i.toNatClampNeg x))))) ▸ hD
  exact k p e R s m args below meth c H1 locs1 A ad ad0 cls F Ro ⟨hP, hD, hS, S.2.2.2.1, S.2.2.2.2.1, S.2.2.2.2.2.1, by rw [List.length_set]; exact S.2.2.2.2.2.2⟩ (by rw [List.length_set]; exact E) (by rw [List.length_set]; exact hn) L
theorem z_alen {a n : Nat} {x : (Nat → Int32) ⊕ (Nat → Int64) ⊕ (Nat → UInt32) ⊕ (Nat → UInt64) ⊕ (Nat → Option Nat)} (hd : decode M.2.1 pc = .ok (.arraylength, 1)) (hc : h[a]? = some (.inl (0, n, x))) (k : zW g M d mc ms n0 Q cells slots (h) ls (.int (nI n) :: st) (pc + 1)) : zW g M d mc ms n0 Q cells slots (h) ls (.ref a :: st) (pc) := by
  intro p e R s m args below meth c H locs A ad ad0 cls F Ro S E hn L
  exact va_alen F.1 F.2.1 F.2.2.2.2.2.2.2.2.2 S.1 a 0 (zH_at hc) rfl rfl hd (k p e R s m args below meth c H locs A ad ad0 cls F Ro S E hn L)
theorem z_iret {v : Int32} (hr : M.2.2.2 = some .int) (hd : decode M.2.1 pc = .ok (.ireturn, 1)) (h1 : cells ≤ mc) (h2 : slots ≤ ms) (hq : Q (.inl (some (.int v))) h) : zW g M d mc ms n0 Q cells slots (h) ls ([.int v]) (pc) := by
  intro p e R s m args below meth c H locs A ad ad0 cls F Ro S E hn L
  exact W.widen h1 h2 (vx_ret (W.iret F.1 F.2.1 (F.2.2.2.1.trans hr) (fun t ht hW => ⟨some (.int v), h, ad, rfl, hq, ⟨E, hn, S.2.2.2.2.2.2, by rw [ht]; exact S.1, S.2.1, S.2.2.1.F ht⟩⟩) S.2.2.1.2.2 hd F.2.2.2.2.1))
theorem z_lret {v : Int64} (hr : M.2.2.2 = some .long) (hd : decode M.2.1 pc = .ok (.lreturn, 1)) (h1 : cells ≤ mc) (h2 : slots ≤ ms) (hq : Q (.inl (some (.long v))) h) : zW g M d mc ms n0 Q cells slots (h) ls ([.long v]) (pc) := by
  intro p e R s m args below meth c H locs A ad ad0 cls F Ro S E hn L
  exact W.widen h1 h2 (vx_ret (W.lret F.1 F.2.1 (F.2.2.2.1.trans hr) (fun t ht hW => ⟨some (.long v), h, ad, rfl, hq, ⟨E, hn, S.2.2.2.2.2.2, by rw [ht]; exact S.1, S.2.1, S.2.2.1.F ht⟩⟩) S.2.2.1.2.2 hd F.2.2.2.2.1))
theorem z_zret {v : Int32} {ty : FieldType} (hr : M.2.2.2 = some ty) (hv : narrow ty (.int v) = .int v) (hd : decode M.2.1 pc = .ok (.ireturn, 1)) (h1 : cells ≤ mc) (h2 : slots ≤ ms) (hq : Q (.inl (some (.int v))) h) : zW g M d mc ms n0 Q cells slots (h) ls ([.int v]) (pc) := by
  intro p e R s m args below meth c H locs A ad ad0 cls F Ro S E hn L
  exact W.widen h1 h2 (vx_ret (W.zret F.1 F.2.1 (F.2.2.2.1.trans hr) hv (fun t ht hW => ⟨some (.int v), h, ad, rfl, hq, ⟨E, hn, S.2.2.2.2.2.2, by rw [ht]; exact S.1, S.2.1, S.2.2.1.F ht⟩⟩) S.2.2.1.2.2 hd F.2.2.2.2.1))
theorem z_vret (hr : M.2.2.2 = none) (hd : decode M.2.1 pc = .ok (.return_, 1)) (h1 : cells ≤ mc) (h2 : slots ≤ ms) (hq : Q (.inl none) h) : zW g M d mc ms n0 Q cells slots (h) ls ([]) (pc) := by
  intro p e R s m args below meth c H locs A ad ad0 cls F Ro S E hn L
  exact W.widen h1 h2 (vx_ret (W.vret F.1 F.2.1 (F.2.2.2.1.trans hr) (fun t ht hW => ⟨none, h, ad, rfl, hq, ⟨E, hn, S.2.2.2.2.2.2, by rw [ht]; exact S.1, S.2.1, S.2.2.1.F ht⟩⟩) S.2.2.1.2.2 hd F.2.2.2.2.1))
theorem z_aret {a : Nat} {rt : FieldType} (hr : M.2.2.2 = some rt) (hrt : (∃ n, rt = .object n) ∨ ∃ t, rt = .array t) (hd : decode M.2.1 pc = .ok (.areturn, 1)) (h1 : cells ≤ mc) (h2 : slots ≤ ms) (hq : Q (.inl (some (.ref a))) h) : zW g M d mc ms n0 Q cells slots (h) ls ([.ref a]) (pc) := by
  intro p e R s m args below meth c H locs A ad ad0 cls F Ro S E hn L
  exact W.widen h1 h2 (vx_ret (W.aret F.1 F.2.1 (F.2.2.2.1.trans hr) hrt (Or.inr ⟨_, rfl⟩) (fun t ht hW => ⟨some (.ref a), h, ad, rfl, hq, ⟨E, hn, S.2.2.2.2.2.2, by rw [ht]; exact S.1, S.2.1, S.2.2.1.F ht⟩⟩) S.2.2.1.2.2 hd F.2.2.2.2.1))
theorem z_widen {k1 k2 : Nat} (h1 : cells ≤ k1) (h2 : slots ≤ k2) (k : zW g M d mc ms n0 Q k1 k2 (h) ls (st) (pc)) : zW g M d mc ms n0 Q cells slots (h) ls (st) (pc) := by
  intro p e R s m args below meth c H locs A ad ad0 cls F Ro S E hn L
  exact W.widen h1 h2 (k p e R s m args below meth c H locs A ad ad0 cls F Ro S E hn L)
theorem z_objInit {idx a : Nat} (hd : decode M.2.1 pc = .ok (.invokespecial idx, 3)) (hw : Cond.methodLink M.1.cls idx Lib.objectInit ∈ zT ∧ Cond.instanceMethod Lib.objectInit ∈ zT ∧ Cond.code Lib.objectInit ⟨#[0xb1]⟩ 1 none ∈ zT) (hcat : (st.map fun v => v.category).sum ≤ 8) (k : zW g M d mc ms n0 Q cells slots (h) ls (st) (pc + 3)) : zW g M d mc ms n0 Q cells slots (h) ls (.ref a :: st) (pc) := by
  intro p e R s m args below meth c H locs A ad ad0 cls F Ro S E hn L
  have h1 := Ro.1
  have h2 := Ro.2.1
  have h3 := zc_cats ad st
  refine W.objInit F.1 F.2.1 F.2.2.2.2.2.1 (F.2.2.2.2.2.2.1 _ hw.1) (F.2.2.2.2.2.2.1 _ hw.2.1) (F.2.2.2.2.2.2.1 _ hw.2.2) rfl (L.1.trans F.2.2.1.symm) (a := ad a) (rest := st.map (zc ad)) rfl hd (by omega) (Nat.le_trans (Nat.add_le_add_right (lv_room (by rw [h3]; exact hcat)) 12) (by omega)) ?_
  exact k p e R s m args below meth c H locs A ad ad0 cls F Ro S E hn L
end ZR
end
section
theorem zLo_ad {cls : Array Slot} {nL n1 n2 : Nat} {ad ad' : Nat → Nat} {ls : List (Option Value)} (L : zLo cls nL ad ls) (hf : ls.all (zfo n1 n2) = true) (ha : ∀ k, k < n1 ∨ n2 ≤ k → ad' k = ad k) : zLo cls nL ad' ls := by
  refine ⟨L.1, L.2.1, fun i v hi => ?_⟩
  have h1 := List.all_eq_true.mp hf _ (List.mem_of_getElem? hi)
  rw [zfv_eq (v := v) h1 ha]
  exact L.2.2 i v hi
section ZR
variable {g : zGl} {M : zMd} {d mc ms n0 cells slots pc : Nat} {Q : zO → List zE → Prop} {h : List zE} {ls ls' : List (Option Value)} {st : List Value}
/-- what a new cell leaves as it was -/
def zFr (h : List zE) (ls : List (Option Value)) (st : List Value) : Prop := h.all (zfc h.length (h.length + 1)) = true ∧ ls.all (zfo h.length (h.length + 1)) = true ∧ st.all (zfv h.length (h.length + 1)) = true ∧ h.length + 1 ≤ 1000
theorem z_new {idx ci : Nat} {fs : List Value} (N : Nat) (hd : decode M.2.1 pc = .ok (.new idx, 3)) (hw : zNw M.1.cls idx ci fs) (hN : fs.length = N) (hfz : ∀ ad, fs.map (zc ad) = fs) (hfr : zFr h ls st) (hfc : fs.all (zfv h.length (h.length + 1)) = true) (h1 : cells + 1 ≤ mc) (h2 : slots + N ≤ ms)
    (k : zW g M d mc ms n0 Q (cells + 1) (slots + N) (h ++ [.inr (ci, fs)]) ls (.ref h.length :: st) (pc + 3)) : zW g M d mc ms n0 Q cells slots (h) ls (st) (pc) := by
  intro p e R s m args below meth c H locs A ad ad0 cls F Ro S E hn L
  obtain ⟨C, T, N', ty, hcl, hNN, hin, hty, hlk, hins, hini, hdf⟩ := hw
  obtain ⟨r1, r2, r3, r4⟩ := hfr
  have hN' : N' = N := hNN.symm.trans hN
  subst hN'
  refine va_new F.1 F.2.1 F.2.2.2.2.2.2.1 hin ty hty F.2.2.2.2.2.1 (F.2.2.2.2.2.2.1 _ hlk) (F.2.2.2.2.2.2.1 _ hins) (F.2.2.2.2.2.2.1 _ hini) F.2.2.2.2.2.2.2.2.2 S.1 S.2.1 S.2.2.1 S.2.2.2.1 hcl hdf (Nat.le_trans h1 Ro.2.2.1) (Nat.le_trans h2 Ro.2.2.2) hd (fun q H1 hP hD hS => ?_)
  have eH := zH_push (tc := g.2.2.1) (ad := ad) (c := .inr (ci, fs)) (q := q) r1 hfc
  have eC : zcE g.2.2.1 ad (.inr (ci, fs)) = .inr (ci, fs) := congrArg (fun x => (Sum.inr (ci, x) : va_E)) (hfz ad)
  rw [eC] at eH
  have ha : ∀ k, k < h.length ∨ h.length + 1 ≤ k → (fun k => if k = h.length then q else ad k) k = ad k := fun k hk => if_neg (by omega)
  have K := k p e R s m args below meth c H1 locs A (fun k => if k = h.length then q else ad k) ad0 cls F Ro
    ⟨by rw [eH]; exact hP, by rw [eH]; exact hD, hS, S.2.2.2.1, S.2.2.2.2.1, fun i => (ha (1000 + i) (Or.inr (by omega))).trans (S.2.2.2.2.2.1 i), by rw [List.length_append]; exact r4⟩
    (fun k hk => by
      rw [List.length_append, List.length_singleton] at hk
      exact (ha k (by omega)).trans (E k (by omega))) (by rw [List.length_append]; omega) (zLo_ad L r2 ha)
  have e1 : (.ref h.length :: st : List Value).map (zc (fun k => if k = h.length then q else ad k)) = .ref q :: st.map (zc ad) := by
    rw [List.map_cons, zfs_eq r3 ha]
    exact congrArg (fun x => Value.ref x :: st.map (zc ad)) (if_pos rfl)
  rw [e1] at K
  exact K
theorem z_newa {n : Int32} (N : Nat) (t : Nat) (ty : FieldType) (a0 : vp_A) {atype : ArrayType} (hd : decode M.2.1 pc = .ok (.newarray atype, 2)) (hty : newarray.typeOf atype = ty) (hzt : (zty g)[t]? = some (g.2.2.1 t, ty)) (ha0 : ∀ cA : ClassId, vp_cell cA a0 = arrV cA N (fun _ => defaultValue ty)) (hra : ∀ (U : State) (cA : ClassId), va_RA U cA ty = (U.vm.findClass ("[" ++ ty.toString) = some cA)) (hw : Cond.arrayClass ty ∈ zT) (hn1 : ¬ n < 0) (hN : n.toNatClampNeg = N) (hby : N * componentBytes ty ≤ 536870912) (hfr : zFr h ls st) (h1 : cells + 1 ≤ mc) (h2 : slots + N ≤ ms)
    (k : zW g M d mc ms n0 Q (cells + 1) (slots + N) (h ++ [.inl (t, a0)]) ls (.ref h.length :: st) (pc + 2)) : zW g M d mc ms n0 Q cells slots (h) ls (.int n :: st) (pc) := by
  intro p e R s m args below meth c H locs A ad ad0 cls F Ro S E hn L
  obtain ⟨r1, r2, r3, r4⟩ := hfr
  refine va_newa F.1 F.2.1 (by rw [hty]; exact F.2.2.2.2.2.2.1 _ hw) hty F.2.2.2.2.2.2.2.2.2 S.1 S.2.1 S.2.2.1 S.2.2.2.1 (n := n) ha0 hn1 hN hby (Nat.le_trans h1 Ro.2.2.1) (Nat.le_trans h2 Ro.2.2.2) hd (fun q cA H1 hK' hP hD hS => ?_)
  have hcA : cA = g.2.2.1 t := by
    have q1 := (hK'.2 _ (cA, ty) (by rw [List.getElem?_append_right (Nat.le_refl _), Nat.sub_self]; rfl)).2
    have q2 := (F.2.2.2.2.2.2.2.2.2.2 t _ hzt).2
    rw [hra] at q1 q2
    exact Option.some.inj (q1.symm.trans q2)
  subst hcA
  have eH := zH_push (tc := g.2.2.1) (ad := ad) (c := .inl (t, a0)) (q := q) r1 rfl
  have ha : ∀ k, k < h.length ∨ h.length + 1 ≤ k → (fun k => if k = h.length then q else ad k) k = ad k := fun k hk => if_neg (by omega)
  have K := k p e R s m args below meth c H1 locs A (fun k => if k = h.length then q else ad k) ad0 cls F Ro
    ⟨by rw [eH]; exact hP, by rw [eH]; exact hD, hS, S.2.2.2.1, S.2.2.2.2.1, fun i => (ha (1000 + i) (Or.inr (by omega))).trans (S.2.2.2.2.2.1 i), by rw [List.length_append]; exact r4⟩
    (fun k hk => by
      rw [List.length_append, List.length_singleton] at hk
      exact (ha k (by omega)).trans (E k (by omega))) (by rw [List.length_append]; omega) (zLo_ad L r2 ha)
  have e1 : (.ref h.length :: st : List Value).map (zc (fun k => if k = h.length then q else ad k)) = .ref q :: st.map (zc ad) := by
    rw [List.map_cons, zfs_eq r3 ha]
    exact congrArg (fun x => Value.ref x :: st.map (zc ad)) (if_pos rfl)
  rw [e1] at K
  exact K
/-- behind a call -/
theorem z_back {p : Program} {e : Env} {R : Room} {s : State} {m : MethodId} {args : Array Value} {below : List Frame} {meth : Method} {c : Code} {H : Heap} {locs : List Loc} {A : Nat → Prop} {ad ad0 : Nat → Nat} {cls : Array Slot} {mc1 ms1 : Nat} {Q1 : zO → List zE → Prop} {st0 : List Value} {aa : Array Value}
    (F : zFx g M p s m args meth c) (Ro : zRo R d mc ms) (S : zSt g A s ad h H locs) (E : ∀ k, k < n0 ∨ h.length ≤ k → ad k = ad0 k) (hn : n0 ≤ h.length) (L : zLo cls M.2.2.1 ad ls) (h1 : cells + mc1 ≤ mc) (h2 : slots + ms1 ≤ ms)
    (hr : vx_Run p g.1 e R s m args below meth c H locs cells slots mc1 ms1 (F0 m pc cls st0) (st.map (zc ad)) (zQc g Q1 ad h.length (va_A (zH g.2.2.1 ad h) H.size) aa) (zXC g Q1 ad h.length (va_A (zH g.2.2.1 ad h) H.size)) (va_A (zH g.2.2.1 ad h) H.size))
    (kr : ∀ v h', Q1 (.inl v) h' → (ls.all (zfo h.length h'.length) = true ∧ st.all (zfv h.length h'.length) = true) ∧ zW g M d mc ms n0 Q (cells + mc1) (slots + ms1) (h') ls (v.toList ++ st) (pc + 3))
    (kx : ∀ X h', Q1 (.inr X) h' → Q (.inr X) h') :
    W p g.1 e R s m args below meth c H locs cells slots (vx_MQ below (zQc g Q ad0 n0 A) (zXC g Q ad0 n0 A) args s mc ms A) (F0 m pc cls st0) := by
  have hAA : ∀ q, va_A (zH g.2.2.1 ad h) H.size q → A q := fun q hq => hq.elim (fun ⟨k, x, hk⟩ => S.2.1.2 k (q, x) hk) (fun hq => S.2.2.2.1 q (Nat.le_trans S.2.2.1.1 hq))
  intro T hT X
  rcases hr T hT X with ⟨v, st₀, t, T', L', h0, X', hL, e1, e2, ⟨v', h', ad', hv, hq, ha, hn1, hle, hP, hD, hF⟩, sg⟩ | ⟨q, st₀, t, T', L', XE, ce, h0, X', hL, e1, e2, ⟨h', ad', hq, ha, hn1, hle, hP, hD, hF⟩, hce, hcv, hcl, sg⟩
  · obtain ⟨k1, k2, k3⟩ := vx_keep h0 e1 S.2.2.1 (fun q _ h => hAA q h) hAA hL hF
    obtain ⟨⟨r1, r2⟩, K⟩ := kr v' h' hq
    cases hv
    have K2 := K p e R s m args below meth c T'.heap (locs ++ L') A ad' ad0 cls F Ro ⟨by rw [e1]; exact hP, hD.weaken (fun _ _ _ z => hAA _ z), k3, S.2.2.2.1, S.2.2.2.2.1, fun i => (ha (1000 + i) (Or.inr (by omega))).trans (S.2.2.2.2.2.1 i), hle⟩
      (fun k hk => (ha k (by omega)).trans (E k (by omega))) (Nat.le_trans hn hn1) (zLo_ad L r1 ha) T' rfl X'
    obtain ⟨t2, a1, b1⟩ := K2
    refine ⟨t2, sg t2 ?_, b1⟩
    have e3 : (v'.toList ++ st).map (zc ad') = (v'.map (zc ad')).toList ++ st.map (zc ad) := by
      rw [List.map_append, zfs_eq r2 ha]
      cases v' <;> rfl
    rw [e3] at a1
    exact a1
  · obtain ⟨k1, k2, k3⟩ := vx_keep h0 e1 S.2.2.1 (fun q _ h => hAA q h) hAA hL hF
    have K : vx_W p g.1 e R s m args below meth c T'.heap (locs ++ L') (cells + mc1) (slots + ms1) (vx_MQ below (zQc g Q ad0 n0 A) (zXC g Q ad0 n0 A) args s mc ms A) (F0 m pc cls (st.map (zc ad))) q :=
      vx_out (fun x hx => absurd hx (fun hx => F.2.2.2.2.2.2.2.1 x hx)) F.2.2.2.2.1 (by rw [e1]; exact hce) hcv hcl
        (fun t' ht' _ => ⟨h', ad', kx _ _ hq, fun k hk => (ha k (by omega)).trans (E k (by omega)), Nat.le_trans hn hn1, hle, by rw [ht', e1]; exact hP, hD.weaken (fun _ _ _ z => hAA _ z), k3.F ht'⟩) k3.2.2 h1 h2
    obtain ⟨t2, a1, b1⟩ := K T' rfl X'
    exact ⟨t2, sg.trans a1, b1⟩
theorem zPc_blind {ad : Nat → Nat} {as : List Value} {sz : Nat} (hok : zGok g) : FrameBlind (zPc g ad as h sz) := fun a U j mk q => by
  obtain ⟨q0, q1, qP, qK, qD, qG⟩ := q
  exact ⟨q0, q1, qP, va_K.moved (u := U) (U := U.calling j mk a) (Vm.Alike.refl U.vm) qK, qD, hok.1 _ U (U.calling j mk a) _ (Vm.Alike.refl U.vm) qG⟩
theorem zPc_at {s U : State} {H : Heap} {A : Nat → Prop} {ad : Nat → Nat} {locs : List Loc} {as : List Value} (hok : zGok g) (hK : va_K g.2.1 vwCl (zty g) s) (S : zSt g A s ad h H locs) (hU : U.heap = H) (hW : s.WarmedH U.vm) : zPc g ad as h H.size (as.map (zc ad)).toArray U := by
  have hAA : ∀ q, va_A (zH g.2.2.1 ad h) H.size q → A q := fun q hq => hq.elim (fun ⟨k, x, hk⟩ => S.2.1.2 k (q, x) hk) (fun hq => S.2.2.2.1 q (Nat.le_trans S.2.2.1.1 hq))
  refine ⟨rfl, by rw [hU], by rw [hU]; exact S.1, va_K.moved hW.alike hK, S.2.1.self, ?_⟩
  rw [hU]
  exact hok.2.2 A _ U H hAA (hok.2.1 A U s.heap H S.2.2.1.2.1 (hok.1 A s U s.heap hW.alike S.2.2.2.2.1))
theorem zGoodIn {M' : zMd} (hc : Cond.code M'.1 M'.2.1 M'.2.2.1 M'.2.2.2 ∈ zT) : GoodIn zT (Cond.code M'.1 M'.2.1 M'.2.2.1 M'.2.2.2 :: zT) := fun w hw => by
  have : w ∈ zT := (List.mem_cons.mp hw).elim (fun q => by rw [q]; exact hc) id
  exact ⟨this, zT_good this⟩
theorem zRo_call {R : Room} {d1 mc1 ms1 : Nat} {nL : Nat} (Ro : zRo R d mc ms) (hd1 : d1 < d) (hm : nL ≤ 21) : (zRm d1 mc1 ms1).frames + 1 ≤ R.frames ∧ 8 + (nL + 11) + (zRm d1 mc1 ms1).locals ≤ R.locals := by
  obtain ⟨a, b, -, -⟩ := Ro
  show 20 + d1 + 1 ≤ R.frames ∧ 8 + (nL + 11) + (300 + 40 * d1) ≤ R.locals
  omega
theorem z_callV {M' : zMd} {as st0 : List Value} {b ci : Nat} {fs : List Value} {idx n mc1 ms1 d1 : Nat} {Q1 : zO → List zE → Prop} (hok : zGok g) (hd : decode M.2.1 pc = .ok (.invokevirtual idx, 3)) (hw : zCv M.1.cls idx M' n) (hm : zMet g M' d1 mc1 ms1 (.ref b :: as) h Q1) (hst : st0 = as.reverse ++ .ref b :: st) (hb : h[b]? = some (.inr (ci, fs))) (hci : (vwCl[ci]?).map (fun q => q.1) = some M'.1.cls) (hlen : as.length = n) (hd1 : d1 < d) (hcat : (st.map fun v => v.category).sum ≤ 8) (h1 : cells + mc1 ≤ mc) (h2 : slots + ms1 ≤ ms)
    (kr : ∀ v h', Q1 (.inl v) h' → (ls.all (zfo h.length h'.length) = true ∧ st.all (zfv h.length h'.length) = true) ∧ zW g M d mc ms n0 Q (cells + mc1) (slots + ms1) (h') ls (v.toList ++ st) (pc + 3))
    (kx : ∀ X h', Q1 (.inr X) h' → Q (.inr X) h') : zW g M d mc ms n0 Q cells slots (h) ls (st0) (pc) := by
  intro p e R s m args below meth c H locs A ad ad0 cls F Ro S E hn L
  obtain ⟨w1, w2, w3, w4, w5, w6, w7⟩ := hw
  have hrecv : ∃ cellB : Cell, H[ad b]? = some cellB ∧ cellB.vm.isStatics = false ∧ s.vm.findClass M'.1.cls = some cellB.cls := by
    cases hq : vwCl[ci]? with
    | none => rw [hq] at hci; cases hci
    | some q =>
      rw [hq] at hci
      have := va_recv F.2.2.2.2.2.2.2.2.2 S.1 hq (zH_at hb)
      rw [show q.1 = M'.1.cls from Option.some.inj hci] at this
      exact this
  have cw : CallW R s args M.1.cls M'.1.cls idx M'.1 M'.2.1 M'.2.2.1 M'.2.2.2 (Cond.code M'.1 M'.2.1 M'.2.2.1 M'.2.2.2 :: zT) (zRm d1 mc1 ms1) mc1 ms1 n :=
    ⟨callB_of n F.2.2.2.2.2.2.1 (zGoodIn w2) rfl rfl rfl (F.2.2.2.2.2.2.1 _ w5) (F.2.2.2.2.2.2.1 _ w1) w6 (zRo_call Ro hd1 w7), F.2.2.2.2.2.2.1 _ w3, F.2.2.2.2.2.2.1 _ w4⟩
  have hM := hm S.2.2.2.2.2.2 ad H.size S.2.2.2.2.2.1
  rw [hst]
  have hst2 : (as.reverse ++ .ref b :: st).map (zc ad) = (as.map (zc ad)).reverse ++ .ref (ad b) :: st.map (zc ad) := by
    rw [List.map_append, List.map_reverse]; rfl
  rw [hst2]
  have hr := vx_runV (l := g.1) (e := e) (below := below) (meth := meth) (locs := locs) (cells := cells) (slots := slots) (As := as.map (zc ad)) (rest := st.map (zc ad)) (b := ad b) (g := F0 m pc cls ((as.map (zc ad)).reverse ++ .ref (ad b) :: st.map (zc ad))) ⟨F.1, F.2.1, F.2.2.1, F.2.2.2.2.2.1, F.2.2.2.2.2.2.1⟩ hM cw ⟨zPc_blind hok, hrecv, fun U hU hW => zPc_at (as := .ref b :: as) hok F.2.2.2.2.2.2.2.2.2 S hU hW⟩ rfl (by rw [List.length_map]; exact hlen) L.1 rfl (lv_room (by rw [zc_cats]; exact hcat)) hd ⟨Nat.le_trans h1 Ro.2.2.1, Nat.le_trans h2 Ro.2.2.2⟩
  exact z_back F Ro S E hn L h1 h2 hr kr kx
theorem z_callS {M' : zMd} {as st0 : List Value} {idx n mc1 ms1 d1 : Nat} {Q1 : zO → List zE → Prop} (hok : zGok g) (hd : decode M.2.1 pc = .ok (.invokestatic idx, 3)) (hw : zCs M.1.cls idx M' n) (hm : zMet g M' d1 mc1 ms1 (as) h Q1) (hst : st0 = as.reverse ++ st) (hlen : as.length = n) (hd1 : d1 < d) (hcat : (st.map fun v => v.category).sum ≤ 8) (h1 : cells + mc1 ≤ mc) (h2 : slots + ms1 ≤ ms)
    (kr : ∀ v h', Q1 (.inl v) h' → (ls.all (zfo h.length h'.length) = true ∧ st.all (zfv h.length h'.length) = true) ∧ zW g M d mc ms n0 Q (cells + mc1) (slots + ms1) (h') ls (v.toList ++ st) (pc + 3))
    (kx : ∀ X h', Q1 (.inr X) h' → Q (.inr X) h') : zW g M d mc ms n0 Q cells slots (h) ls (st0) (pc) := by
  intro p e R s m args below meth c H locs A ad ad0 cls F Ro S E hn L
  obtain ⟨w1, w2, w3, w5, w6, w7⟩ := hw
  have cw : CallB R s args M.1.cls idx M'.1 M'.2.1 M'.2.2.1 M'.2.2.2 (Cond.code M'.1 M'.2.1 M'.2.2.1 M'.2.2.2 :: zT) (zRm d1 mc1 ms1) mc1 ms1 n ∧ (Cond.static M'.1).before args s = true :=
    ⟨callB_of n F.2.2.2.2.2.2.1 (zGoodIn w2) rfl rfl rfl (F.2.2.2.2.2.2.1 _ w5) (F.2.2.2.2.2.2.1 _ w1) w6 (zRo_call Ro hd1 w7), F.2.2.2.2.2.2.1 _ w3⟩
  have hM := hm S.2.2.2.2.2.2 ad H.size S.2.2.2.2.2.1
  rw [hst]
  have hst2 : (as.reverse ++ st).map (zc ad) = (as.map (zc ad)).reverse ++ st.map (zc ad) := by
    rw [List.map_append, List.map_reverse]
  rw [hst2]
  have hr := vx_runS (l := g.1) (e := e) (below := below) (meth := meth) (locs := locs) (cells := cells) (slots := slots) (As := as.map (zc ad)) (rest := st.map (zc ad)) (g := F0 m pc cls ((as.map (zc ad)).reverse ++ st.map (zc ad))) ⟨F.1, F.2.1, F.2.2.1, F.2.2.2.2.2.1, F.2.2.2.2.2.2.1⟩ hM cw ⟨zPc_blind hok, fun U hU hW => zPc_at (as := as) hok F.2.2.2.2.2.2.2.2.2 S hU hW⟩ rfl (by rw [List.length_map]; exact hlen) L.1 rfl (lv_room (by rw [zc_cats]; exact hcat)) hd ⟨Nat.le_trans h1 Ro.2.2.1, Nat.le_trans h2 Ro.2.2.2⟩
  exact z_back F Ro S E hn L h1 h2 hr kr kx
theorem zMet_met {l : Launch} {y : MethodName} {ws : List Cond} {rm : Room} {Pc : Array Value → State → Prop} {Q1 : zO → List zE → Prop} {ad : Nat → Nat} {n1 mc1 ms1 : Nat} {A : Nat → Prop} (hx : ∀ X h', ¬ Q1 (.inr X) h') (hM : vx_Met l y ws rm Pc (zQc g Q1 ad n1 A) (zXC g Q1 ad n1 A) mc1 ms1 A) : Met l y ws rm Pc (zQc g Q1 ad n1 A) mc1 ms1 A :=
  MetFree.mono hM (fun _ _ h => h) (fun _ _ _ _ _ h => h) (fun a st o t _ h => by
    rcases h with h | ⟨q, rfl, E, ce, L, ⟨h', ad', hq, -⟩, -⟩
    · exact h
    · exact absurd hq (hx _ _))
theorem z_callI {M' : zMd} {as st0 : List Value} {b : Nat} {idx n mc1 ms1 d1 : Nat} {Q1 : zO → List zE → Prop} (hok : zGok g) (hd : decode M.2.1 pc = .ok (.invokespecial idx, 3)) (hw : zCi M.1.cls idx M' n) (hm : zMet g M' d1 mc1 ms1 (.ref b :: as) h Q1) (hx : ∀ X h', ¬ Q1 (.inr X) h') (hst : st0 = as.reverse ++ .ref b :: st) (hlen : as.length = n) (hd1 : d1 < d) (hcat : (st.map fun v => v.category).sum ≤ 8) (h1 : cells + mc1 ≤ mc) (h2 : slots + ms1 ≤ ms)
    (kr : ∀ v h', Q1 (.inl v) h' → (ls.all (zfo h.length h'.length) = true ∧ st.all (zfv h.length h'.length) = true) ∧ zW g M d mc ms n0 Q (cells + mc1) (slots + ms1) (h') ls (v.toList ++ st) (pc + 3)) : zW g M d mc ms n0 Q cells slots (h) ls (st0) (pc) := by
  intro p e R s m args below meth c H locs A ad ad0 cls F Ro S E hn L
  obtain ⟨w1, w2, w3, w5, w8, w9, w6, w7⟩ := hw
  have hM := zMet_met hx (hm S.2.2.2.2.2.2 ad H.size S.2.2.2.2.2.1)
  obtain ⟨my, mcode, mnl, mret⟩ := M'
  dsimp only at w9
  subst w9
  have cw : CallB R s args M.1.cls idx my mcode mnl none (Cond.code my mcode mnl none :: zT) (zRm d1 mc1 ms1) mc1 ms1 n ∧ my.name = "<init>" ∧ (Cond.instanceMethod my).before args s = true :=
    ⟨callB_of n F.2.2.2.2.2.2.1 (zGoodIn w2) rfl rfl rfl (F.2.2.2.2.2.2.1 _ w5) (F.2.2.2.2.2.2.1 _ w1) w6 (zRo_call Ro hd1 w7), w8, F.2.2.2.2.2.2.1 _ w3⟩
  rw [hst]
  have hst2 : (as.reverse ++ .ref b :: st).map (zc ad) = (as.map (zc ad)).reverse ++ .ref (ad b) :: st.map (zc ad) := by
    rw [List.map_append, List.map_reverse]; rfl
  rw [hst2]
  have hr := va_runI (l := g.1) (e := e) (below := below) (meth := meth) (locs := locs) (cells := cells) (slots := slots) (As := as.map (zc ad)) (rest := st.map (zc ad)) (b := ad b) (g := F0 m pc cls ((as.map (zc ad)).reverse ++ .ref (ad b) :: st.map (zc ad))) ⟨F.1, F.2.1, F.2.2.1, F.2.2.2.2.2.1, F.2.2.2.2.2.2.1⟩ hM cw ⟨zPc_blind hok, fun U hU hW => zPc_at (as := .ref b :: as) hok F.2.2.2.2.2.2.2.2.2 S hU hW⟩ rfl (by rw [List.length_map]; exact hlen) L.1 rfl (lv_room (by rw [zc_cats]; exact hcat)) hd ⟨Nat.le_trans h1 Ro.2.2.1, Nat.le_trans h2 Ro.2.2.2⟩
  exact z_back F Ro S E hn L h1 h2 (fun T hT X => Or.inl (hr T hT X)) kr (fun X h' q => absurd q (hx X h'))
end ZR
end
