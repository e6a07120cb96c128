-- ===== PART A: goes FIRST, ahead of the names: the tables' words, and 'selects' of the private methods out of them =====
/-- a private method of a class that the tables say can be made, by its rows of tables_1 -/
def lw_okq (q : MethodName × Nat) : Prop := (q.1.cls ≠ "java/lang/invoke/MethodHandle" ∧ q.1.cls ≠ "java/lang/invoke/VarHandle") ∧ Cond.instantiable q.1.cls q.2 ∈ tables_1 ∧ Cond.privateMethod q.1 ∈ tables_1 ∧ Cond.instanceMethod q.1 ∈ tables_1
theorem lw_p0 : lw_okq (⟨"CartridgeDesk$Machine", "setFlags", "(ZZZZ)V"⟩, 13) := ⟨⟨by decide +kernel, by decide +kernel⟩, List.mem_of_getElem? (i := 105) (by decide +kernel), List.mem_of_getElem? (i := 115) (by decide +kernel), List.mem_of_getElem? (i := 116) (by decide +kernel)⟩
theorem lw_p1 : lw_okq (⟨"java/lang/Throwable", "fillInStackTrace", "(I)Ljava/lang/Throwable;"⟩, 6) := ⟨⟨by decide +kernel, by decide +kernel⟩, List.mem_of_getElem? (i := 272) (by decide +kernel), List.mem_of_getElem? (i := 270) (by decide +kernel), List.mem_of_getElem? (i := 271) (by decide +kernel)⟩
theorem lw_p2 : lw_okq (⟨"CartridgeDesk$Packing", "packPinned", "(LCartridgeDesk$Sections;I)Z"⟩, 4) := ⟨⟨by decide +kernel, by decide +kernel⟩, List.mem_of_getElem? (i := 166) (by decide +kernel), List.mem_of_getElem? (i := 369) (by decide +kernel), List.mem_of_getElem? (i := 370) (by decide +kernel)⟩
theorem lw_p3 : lw_okq (⟨"CartridgeDesk$Packing", "fits", "(II)Z"⟩, 4) := ⟨⟨by decide +kernel, by decide +kernel⟩, List.mem_of_getElem? (i := 166) (by decide +kernel), List.mem_of_getElem? (i := 373) (by decide +kernel), List.mem_of_getElem? (i := 374) (by decide +kernel)⟩
theorem lw_p4 : lw_okq (⟨"CartridgeDesk$Packing", "put", "(III)V"⟩, 4) := ⟨⟨by decide +kernel, by decide +kernel⟩, List.mem_of_getElem? (i := 166) (by decide +kernel), List.mem_of_getElem? (i := 377) (by decide +kernel), List.mem_of_getElem? (i := 378) (by decide +kernel)⟩
theorem lw_p5 : lw_okq (⟨"CartridgeDesk$Packing", "packFloating", "(LCartridgeDesk$Sections;I)Z"⟩, 4) := ⟨⟨by decide +kernel, by decide +kernel⟩, List.mem_of_getElem? (i := 166) (by decide +kernel), List.mem_of_getElem? (i := 381) (by decide +kernel), List.mem_of_getElem? (i := 382) (by decide +kernel)⟩
theorem lw_p6 : lw_okq (⟨"CartridgeDesk$Packing", "packLowest", "(III)Z"⟩, 4) := ⟨⟨by decide +kernel, by decide +kernel⟩, List.mem_of_getElem? (i := 166) (by decide +kernel), List.mem_of_getElem? (i := 385) (by decide +kernel), List.mem_of_getElem? (i := 386) (by decide +kernel)⟩
theorem lw_p7 : lw_okq (⟨"CartridgeDesk", "keepTried", "()V"⟩, 6) := ⟨⟨by decide +kernel, by decide +kernel⟩, List.mem_of_getElem? (i := 16) (by decide +kernel), List.mem_of_getElem? (i := 389) (by decide +kernel), List.mem_of_getElem? (i := 390) (by decide +kernel)⟩
theorem lw_p8 : lw_okq (⟨"CartridgeDesk$Cartridge", "lay", "(LCartridgeDesk$Sections;LCartridgeDesk$Packing;I)V"⟩, 2) := ⟨⟨by decide +kernel, by decide +kernel⟩, List.mem_of_getElem? (i := 55) (by decide +kernel), List.mem_of_getElem? (i := 401) (by decide +kernel), List.mem_of_getElem? (i := 402) (by decide +kernel)⟩
theorem lw_p9 : lw_okq (⟨"CartridgeDesk$Cartridge", "writeHead", "(I)V"⟩, 2) := ⟨⟨by decide +kernel, by decide +kernel⟩, List.mem_of_getElem? (i := 55) (by decide +kernel), List.mem_of_getElem? (i := 409) (by decide +kernel), List.mem_of_getElem? (i := 410) (by decide +kernel)⟩
theorem lw_p10 : lw_okq (⟨"CartridgeDesk$Cartridge", "sizeCode", "()I"⟩, 2) := ⟨⟨by decide +kernel, by decide +kernel⟩, List.mem_of_getElem? (i := 55) (by decide +kernel), List.mem_of_getElem? (i := 415) (by decide +kernel), List.mem_of_getElem? (i := 416) (by decide +kernel)⟩
theorem lw_p11 : lw_okq (⟨"CartridgeDesk$Cartridge", "headCheck", "()I"⟩, 2) := ⟨⟨by decide +kernel, by decide +kernel⟩, List.mem_of_getElem? (i := 55) (by decide +kernel), List.mem_of_getElem? (i := 419) (by decide +kernel), List.mem_of_getElem? (i := 420) (by decide +kernel)⟩
theorem lw_p12 : lw_okq (⟨"CartridgeDesk$Cartridge", "imageCheck", "()I"⟩, 2) := ⟨⟨by decide +kernel, by decide +kernel⟩, List.mem_of_getElem? (i := 55) (by decide +kernel), List.mem_of_getElem? (i := 423) (by decide +kernel), List.mem_of_getElem? (i := 424) (by decide +kernel)⟩
theorem lw_p13 : lw_okq (⟨"CartridgeDesk$Machine", "wakeFor", "(I)V"⟩, 13) := ⟨⟨by decide +kernel, by decide +kernel⟩, List.mem_of_getElem? (i := 105) (by decide +kernel), List.mem_of_getElem? (i := 496) (by decide +kernel), List.mem_of_getElem? (i := 497) (by decide +kernel)⟩
theorem lw_p14 : lw_okq (⟨"CartridgeDesk$Machine", "interruptFor", "(I)V"⟩, 13) := ⟨⟨by decide +kernel, by decide +kernel⟩, List.mem_of_getElem? (i := 105) (by decide +kernel), List.mem_of_getElem? (i := 500) (by decide +kernel), List.mem_of_getElem? (i := 501) (by decide +kernel)⟩
theorem lw_p15 : lw_okq (⟨"CartridgeDesk$Machine", "push", "(I)V"⟩, 13) := ⟨⟨by decide +kernel, by decide +kernel⟩, List.mem_of_getElem? (i := 105) (by decide +kernel), List.mem_of_getElem? (i := 504) (by decide +kernel), List.mem_of_getElem? (i := 505) (by decide +kernel)⟩
def lw_privs_1 : List (MethodName × Nat) := [(⟨"CartridgeDesk$Machine", "setFlags", "(ZZZZ)V"⟩, 13), (⟨"java/lang/Throwable", "fillInStackTrace", "(I)Ljava/lang/Throwable;"⟩, 6), (⟨"CartridgeDesk$Packing", "packPinned", "(LCartridgeDesk$Sections;I)Z"⟩, 4), (⟨"CartridgeDesk$Packing", "fits", "(II)Z"⟩, 4), (⟨"CartridgeDesk$Packing", "put", "(III)V"⟩, 4), (⟨"CartridgeDesk$Packing", "packFloating", "(LCartridgeDesk$Sections;I)Z"⟩, 4), (⟨"CartridgeDesk$Packing", "packLowest", "(III)Z"⟩, 4), (⟨"CartridgeDesk", "keepTried", "()V"⟩, 6), (⟨"CartridgeDesk$Cartridge", "lay", "(LCartridgeDesk$Sections;LCartridgeDesk$Packing;I)V"⟩, 2), (⟨"CartridgeDesk$Cartridge", "writeHead", "(I)V"⟩, 2), (⟨"CartridgeDesk$Cartridge", "sizeCode", "()I"⟩, 2), (⟨"CartridgeDesk$Cartridge", "headCheck", "()I"⟩, 2), (⟨"CartridgeDesk$Cartridge", "imageCheck", "()I"⟩, 2), (⟨"CartridgeDesk$Machine", "wakeFor", "(I)V"⟩, 13), (⟨"CartridgeDesk$Machine", "interruptFor", "(I)V"⟩, 13), (⟨"CartridgeDesk$Machine", "push", "(I)V"⟩, 13)]
theorem lw_r1 : ∀ q ∈ lw_privs_1, lw_okq q := List.forall_mem_cons.mpr ⟨lw_p0, List.forall_mem_cons.mpr ⟨lw_p1, List.forall_mem_cons.mpr ⟨lw_p2, List.forall_mem_cons.mpr ⟨lw_p3, List.forall_mem_cons.mpr ⟨lw_p4, List.forall_mem_cons.mpr ⟨lw_p5, List.forall_mem_cons.mpr ⟨lw_p6, List.forall_mem_cons.mpr ⟨lw_p7, List.forall_mem_cons.mpr ⟨lw_p8, List.forall_mem_cons.mpr ⟨lw_p9, List.forall_mem_cons.mpr ⟨lw_p10, List.forall_mem_cons.mpr ⟨lw_p11, List.forall_mem_cons.mpr ⟨lw_p12, List.forall_mem_cons.mpr ⟨lw_p13, List.forall_mem_cons.mpr ⟨lw_p14, List.forall_mem_cons.mpr ⟨lw_p15, fun _ h => absurd h List.not_mem_nil⟩⟩⟩⟩⟩⟩⟩⟩⟩⟩⟩⟩⟩⟩⟩⟩
theorem lw_p16 : lw_okq (⟨"CartridgeDesk$Memory", "turnSwitch", "(II)V"⟩, 9) := ⟨⟨by decide +kernel, by decide +kernel⟩, List.mem_of_getElem? (i := 69) (by decide +kernel), List.mem_of_getElem? (i := 512) (by decide +kernel), List.mem_of_getElem? (i := 513) (by decide +kernel)⟩
theorem lw_p17 : lw_okq (⟨"CartridgeDesk$Memory", "ramPlace", "(I)I"⟩, 9) := ⟨⟨by decide +kernel, by decide +kernel⟩, List.mem_of_getElem? (i := 69) (by decide +kernel), List.mem_of_getElem? (i := 516) (by decide +kernel), List.mem_of_getElem? (i := 517) (by decide +kernel)⟩
theorem lw_p18 : lw_okq (⟨"CartridgeDesk$Machine", "next", "()I"⟩, 13) := ⟨⟨by decide +kernel, by decide +kernel⟩, List.mem_of_getElem? (i := 105) (by decide +kernel), List.mem_of_getElem? (i := 520) (by decide +kernel), List.mem_of_getElem? (i := 521) (by decide +kernel)⟩
theorem lw_p19 : lw_okq (⟨"CartridgeDesk$Machine", "obey", "(I)V"⟩, 13) := ⟨⟨by decide +kernel, by decide +kernel⟩, List.mem_of_getElem? (i := 105) (by decide +kernel), List.mem_of_getElem? (i := 532) (by decide +kernel), List.mem_of_getElem? (i := 533) (by decide +kernel)⟩
theorem lw_p20 : lw_okq (⟨"CartridgeDesk$Machine", "obeySingle", "(I)V"⟩, 13) := ⟨⟨by decide +kernel, by decide +kernel⟩, List.mem_of_getElem? (i := 105) (by decide +kernel), List.mem_of_getElem? (i := 536) (by decide +kernel), List.mem_of_getElem? (i := 537) (by decide +kernel)⟩
theorem lw_p21 : lw_okq (⟨"CartridgeDesk$Machine", "endAs", "(I)V"⟩, 13) := ⟨⟨by decide +kernel, by decide +kernel⟩, List.mem_of_getElem? (i := 105) (by decide +kernel), List.mem_of_getElem? (i := 540) (by decide +kernel), List.mem_of_getElem? (i := 541) (by decide +kernel)⟩
theorem lw_p22 : lw_okq (⟨"CartridgeDesk$Machine", "pull", "()I"⟩, 13) := ⟨⟨by decide +kernel, by decide +kernel⟩, List.mem_of_getElem? (i := 105) (by decide +kernel), List.mem_of_getElem? (i := 544) (by decide +kernel), List.mem_of_getElem? (i := 545) (by decide +kernel)⟩
theorem lw_p23 : lw_okq (⟨"CartridgeDesk$Machine", "adjust", "()V"⟩, 13) := ⟨⟨by decide +kernel, by decide +kernel⟩, List.mem_of_getElem? (i := 105) (by decide +kernel), List.mem_of_getElem? (i := 548) (by decide +kernel), List.mem_of_getElem? (i := 549) (by decide +kernel)⟩
theorem lw_p24 : lw_okq (⟨"CartridgeDesk$Machine", "send", "(I)V"⟩, 13) := ⟨⟨by decide +kernel, by decide +kernel⟩, List.mem_of_getElem? (i := 105) (by decide +kernel), List.mem_of_getElem? (i := 552) (by decide +kernel), List.mem_of_getElem? (i := 553) (by decide +kernel)⟩
theorem lw_p25 : lw_okq (⟨"CartridgeDesk$Machine", "obeyOnOne", "(II)V"⟩, 13) := ⟨⟨by decide +kernel, by decide +kernel⟩, List.mem_of_getElem? (i := 105) (by decide +kernel), List.mem_of_getElem? (i := 556) (by decide +kernel), List.mem_of_getElem? (i := 557) (by decide +kernel)⟩
theorem lw_p26 : lw_okq (⟨"CartridgeDesk$Machine", "get", "(I)I"⟩, 13) := ⟨⟨by decide +kernel, by decide +kernel⟩, List.mem_of_getElem? (i := 105) (by decide +kernel), List.mem_of_getElem? (i := 560) (by decide +kernel), List.mem_of_getElem? (i := 561) (by decide +kernel)⟩
theorem lw_p27 : lw_okq (⟨"CartridgeDesk$Machine", "oneMore", "(I)I"⟩, 13) := ⟨⟨by decide +kernel, by decide +kernel⟩, List.mem_of_getElem? (i := 105) (by decide +kernel), List.mem_of_getElem? (i := 564) (by decide +kernel), List.mem_of_getElem? (i := 565) (by decide +kernel)⟩
theorem lw_p28 : lw_okq (⟨"CartridgeDesk$Machine", "set", "(II)V"⟩, 13) := ⟨⟨by decide +kernel, by decide +kernel⟩, List.mem_of_getElem? (i := 105) (by decide +kernel), List.mem_of_getElem? (i := 568) (by decide +kernel), List.mem_of_getElem? (i := 569) (by decide +kernel)⟩
theorem lw_p29 : lw_okq (⟨"CartridgeDesk$Machine", "oneLess", "(I)I"⟩, 13) := ⟨⟨by decide +kernel, by decide +kernel⟩, List.mem_of_getElem? (i := 105) (by decide +kernel), List.mem_of_getElem? (i := 572) (by decide +kernel), List.mem_of_getElem? (i := 573) (by decide +kernel)⟩
theorem lw_p30 : lw_okq (⟨"CartridgeDesk$Machine", "exchanged", "(I)I"⟩, 13) := ⟨⟨by decide +kernel, by decide +kernel⟩, List.mem_of_getElem? (i := 105) (by decide +kernel), List.mem_of_getElem? (i := 576) (by decide +kernel), List.mem_of_getElem? (i := 577) (by decide +kernel)⟩
theorem lw_p31 : lw_okq (⟨"CartridgeDesk$Machine", "calculate", "(II)V"⟩, 13) := ⟨⟨by decide +kernel, by decide +kernel⟩, List.mem_of_getElem? (i := 105) (by decide +kernel), List.mem_of_getElem? (i := 580) (by decide +kernel), List.mem_of_getElem? (i := 581) (by decide +kernel)⟩
def lw_privs_2 : List (MethodName × Nat) := [(⟨"CartridgeDesk$Memory", "turnSwitch", "(II)V"⟩, 9), (⟨"CartridgeDesk$Memory", "ramPlace", "(I)I"⟩, 9), (⟨"CartridgeDesk$Machine", "next", "()I"⟩, 13), (⟨"CartridgeDesk$Machine", "obey", "(I)V"⟩, 13), (⟨"CartridgeDesk$Machine", "obeySingle", "(I)V"⟩, 13), (⟨"CartridgeDesk$Machine", "endAs", "(I)V"⟩, 13), (⟨"CartridgeDesk$Machine", "pull", "()I"⟩, 13), (⟨"CartridgeDesk$Machine", "adjust", "()V"⟩, 13), (⟨"CartridgeDesk$Machine", "send", "(I)V"⟩, 13), (⟨"CartridgeDesk$Machine", "obeyOnOne", "(II)V"⟩, 13), (⟨"CartridgeDesk$Machine", "get", "(I)I"⟩, 13), (⟨"CartridgeDesk$Machine", "oneMore", "(I)I"⟩, 13), (⟨"CartridgeDesk$Machine", "set", "(II)V"⟩, 13), (⟨"CartridgeDesk$Machine", "oneLess", "(I)I"⟩, 13), (⟨"CartridgeDesk$Machine", "exchanged", "(I)I"⟩, 13), (⟨"CartridgeDesk$Machine", "calculate", "(II)V"⟩, 13)]
theorem lw_r2 : ∀ q ∈ lw_privs_2, lw_okq q := List.forall_mem_cons.mpr ⟨lw_p16, List.forall_mem_cons.mpr ⟨lw_p17, List.forall_mem_cons.mpr ⟨lw_p18, List.forall_mem_cons.mpr ⟨lw_p19, List.forall_mem_cons.mpr ⟨lw_p20, List.forall_mem_cons.mpr ⟨lw_p21, List.forall_mem_cons.mpr ⟨lw_p22, List.forall_mem_cons.mpr ⟨lw_p23, List.forall_mem_cons.mpr ⟨lw_p24, List.forall_mem_cons.mpr ⟨lw_p25, List.forall_mem_cons.mpr ⟨lw_p26, List.forall_mem_cons.mpr ⟨lw_p27, List.forall_mem_cons.mpr ⟨lw_p28, List.forall_mem_cons.mpr ⟨lw_p29, List.forall_mem_cons.mpr ⟨lw_p30, List.forall_mem_cons.mpr ⟨lw_p31, fun _ h => absurd h List.not_mem_nil⟩⟩⟩⟩⟩⟩⟩⟩⟩⟩⟩⟩⟩⟩⟩⟩
theorem lw_p32 : lw_okq (⟨"CartridgeDesk$Machine", "sum", "(II)I"⟩, 13) := ⟨⟨by decide +kernel, by decide +kernel⟩, List.mem_of_getElem? (i := 105) (by decide +kernel), List.mem_of_getElem? (i := 584) (by decide +kernel), List.mem_of_getElem? (i := 585) (by decide +kernel)⟩
theorem lw_p33 : lw_okq (⟨"CartridgeDesk$Machine", "carryBit", "()I"⟩, 13) := ⟨⟨by decide +kernel, by decide +kernel⟩, List.mem_of_getElem? (i := 105) (by decide +kernel), List.mem_of_getElem? (i := 588) (by decide +kernel), List.mem_of_getElem? (i := 589) (by decide +kernel)⟩
theorem lw_p34 : lw_okq (⟨"CartridgeDesk$Machine", "difference", "(II)I"⟩, 13) := ⟨⟨by decide +kernel, by decide +kernel⟩, List.mem_of_getElem? (i := 105) (by decide +kernel), List.mem_of_getElem? (i := 592) (by decide +kernel), List.mem_of_getElem? (i := 593) (by decide +kernel)⟩
theorem lw_p35 : lw_okq (⟨"CartridgeDesk$Machine", "obeyJump", "(II)V"⟩, 13) := ⟨⟨by decide +kernel, by decide +kernel⟩, List.mem_of_getElem? (i := 105) (by decide +kernel), List.mem_of_getElem? (i := 596) (by decide +kernel), List.mem_of_getElem? (i := 597) (by decide +kernel)⟩
theorem lw_p36 : lw_okq (⟨"CartridgeDesk$Machine", "holds", "(I)Z"⟩, 13) := ⟨⟨by decide +kernel, by decide +kernel⟩, List.mem_of_getElem? (i := 105) (by decide +kernel), List.mem_of_getElem? (i := 600) (by decide +kernel), List.mem_of_getElem? (i := 601) (by decide +kernel)⟩
theorem lw_p37 : lw_okq (⟨"CartridgeDesk$Machine", "obeyOnBits", "(I)V"⟩, 13) := ⟨⟨by decide +kernel, by decide +kernel⟩, List.mem_of_getElem? (i := 105) (by decide +kernel), List.mem_of_getElem? (i := 604) (by decide +kernel), List.mem_of_getElem? (i := 605) (by decide +kernel)⟩
theorem lw_p38 : lw_okq (⟨"CartridgeDesk$Machine", "shifted", "(II)I"⟩, 13) := ⟨⟨by decide +kernel, by decide +kernel⟩, List.mem_of_getElem? (i := 105) (by decide +kernel), List.mem_of_getElem? (i := 608) (by decide +kernel), List.mem_of_getElem? (i := 609) (by decide +kernel)⟩
theorem lw_p39 : lw_okq (⟨"CartridgeDesk$Machine", "comesIn", "(III)I"⟩, 13) := ⟨⟨by decide +kernel, by decide +kernel⟩, List.mem_of_getElem? (i := 105) (by decide +kernel), List.mem_of_getElem? (i := 612) (by decide +kernel), List.mem_of_getElem? (i := 613) (by decide +kernel)⟩
theorem lw_p40 : lw_okq (⟨"CartridgeDeskModel", "begin", "()V"⟩, 30) := ⟨⟨by decide +kernel, by decide +kernel⟩, List.mem_of_getElem? (i := 653) (by decide +kernel), List.mem_of_getElem? (i := 659) (by decide +kernel), List.mem_of_getElem? (i := 660) (by decide +kernel)⟩
theorem lw_p41 : lw_okq (⟨"CartridgeDeskModel", "room", "(I)Z"⟩, 30) := ⟨⟨by decide +kernel, by decide +kernel⟩, List.mem_of_getElem? (i := 653) (by decide +kernel), List.mem_of_getElem? (i := 769) (by decide +kernel), List.mem_of_getElem? (i := 770) (by decide +kernel)⟩
theorem lw_p42 : lw_okq (⟨"CartridgeDeskModel", "append", "(II)V"⟩, 30) := ⟨⟨by decide +kernel, by decide +kernel⟩, List.mem_of_getElem? (i := 653) (by decide +kernel), List.mem_of_getElem? (i := 773) (by decide +kernel), List.mem_of_getElem? (i := 774) (by decide +kernel)⟩
theorem lw_p43 : lw_okq (⟨"CartridgeDeskModel", "allKnown", "()Z"⟩, 30) := ⟨⟨by decide +kernel, by decide +kernel⟩, List.mem_of_getElem? (i := 653) (by decide +kernel), List.mem_of_getElem? (i := 789) (by decide +kernel), List.mem_of_getElem? (i := 790) (by decide +kernel)⟩
theorem lw_p44 : lw_okq (⟨"CartridgeDeskModel", "pack", "(I)Z"⟩, 30) := ⟨⟨by decide +kernel, by decide +kernel⟩, List.mem_of_getElem? (i := 653) (by decide +kernel), List.mem_of_getElem? (i := 793) (by decide +kernel), List.mem_of_getElem? (i := 794) (by decide +kernel)⟩
theorem lw_p45 : lw_okq (⟨"CartridgeDeskModel", "put", "(III)Z"⟩, 30) := ⟨⟨by decide +kernel, by decide +kernel⟩, List.mem_of_getElem? (i := 653) (by decide +kernel), List.mem_of_getElem? (i := 797) (by decide +kernel), List.mem_of_getElem? (i := 798) (by decide +kernel)⟩
theorem lw_p46 : lw_okq (⟨"CartridgeDeskModel", "build", "(I)V"⟩, 30) := ⟨⟨by decide +kernel, by decide +kernel⟩, List.mem_of_getElem? (i := 653) (by decide +kernel), List.mem_of_getElem? (i := 801) (by decide +kernel), List.mem_of_getElem? (i := 802) (by decide +kernel)⟩
theorem lw_p47 : lw_okq (⟨"CartridgeDeskModel", "headByte", "(I)I"⟩, 30) := ⟨⟨by decide +kernel, by decide +kernel⟩, List.mem_of_getElem? (i := 653) (by decide +kernel), List.mem_of_getElem? (i := 805) (by decide +kernel), List.mem_of_getElem? (i := 806) (by decide +kernel)⟩
def lw_privs_3 : List (MethodName × Nat) := [(⟨"CartridgeDesk$Machine", "sum", "(II)I"⟩, 13), (⟨"CartridgeDesk$Machine", "carryBit", "()I"⟩, 13), (⟨"CartridgeDesk$Machine", "difference", "(II)I"⟩, 13), (⟨"CartridgeDesk$Machine", "obeyJump", "(II)V"⟩, 13), (⟨"CartridgeDesk$Machine", "holds", "(I)Z"⟩, 13), (⟨"CartridgeDesk$Machine", "obeyOnBits", "(I)V"⟩, 13), (⟨"CartridgeDesk$Machine", "shifted", "(II)I"⟩, 13), (⟨"CartridgeDesk$Machine", "comesIn", "(III)I"⟩, 13), (⟨"CartridgeDeskModel", "begin", "()V"⟩, 30), (⟨"CartridgeDeskModel", "room", "(I)Z"⟩, 30), (⟨"CartridgeDeskModel", "append", "(II)V"⟩, 30), (⟨"CartridgeDeskModel", "allKnown", "()Z"⟩, 30), (⟨"CartridgeDeskModel", "pack", "(I)Z"⟩, 30), (⟨"CartridgeDeskModel", "put", "(III)Z"⟩, 30), (⟨"CartridgeDeskModel", "build", "(I)V"⟩, 30), (⟨"CartridgeDeskModel", "headByte", "(I)I"⟩, 30)]
theorem lw_r3 : ∀ q ∈ lw_privs_3, lw_okq q := List.forall_mem_cons.mpr ⟨lw_p32, List.forall_mem_cons.mpr ⟨lw_p33, List.forall_mem_cons.mpr ⟨lw_p34, List.forall_mem_cons.mpr ⟨lw_p35, List.forall_mem_cons.mpr ⟨lw_p36, List.forall_mem_cons.mpr ⟨lw_p37, List.forall_mem_cons.mpr ⟨lw_p38, List.forall_mem_cons.mpr ⟨lw_p39, List.forall_mem_cons.mpr ⟨lw_p40, List.forall_mem_cons.mpr ⟨lw_p41, List.forall_mem_cons.mpr ⟨lw_p42, List.forall_mem_cons.mpr ⟨lw_p43, List.forall_mem_cons.mpr ⟨lw_p44, List.forall_mem_cons.mpr ⟨lw_p45, List.forall_mem_cons.mpr ⟨lw_p46, List.forall_mem_cons.mpr ⟨lw_p47, fun _ h => absurd h List.not_mem_nil⟩⟩⟩⟩⟩⟩⟩⟩⟩⟩⟩⟩⟩⟩⟩⟩
theorem lw_p48 : lw_okq (⟨"CartridgeDeskModel", "mark", "(I)I"⟩, 30) := ⟨⟨by decide +kernel, by decide +kernel⟩, List.mem_of_getElem? (i := 653) (by decide +kernel), List.mem_of_getElem? (i := 809) (by decide +kernel), List.mem_of_getElem? (i := 810) (by decide +kernel)⟩
theorem lw_p49 : lw_okq (⟨"CartridgeDeskModel", "headCheck", "()I"⟩, 30) := ⟨⟨by decide +kernel, by decide +kernel⟩, List.mem_of_getElem? (i := 653) (by decide +kernel), List.mem_of_getElem? (i := 813) (by decide +kernel), List.mem_of_getElem? (i := 814) (by decide +kernel)⟩
theorem lw_p50 : lw_okq (⟨"CartridgeDeskModel", "imageCheck", "()I"⟩, 30) := ⟨⟨by decide +kernel, by decide +kernel⟩, List.mem_of_getElem? (i := 653) (by decide +kernel), List.mem_of_getElem? (i := 817) (by decide +kernel), List.mem_of_getElem? (i := 818) (by decide +kernel)⟩
theorem lw_p51 : lw_okq (⟨"CartridgeDeskModel", "refuse", "(I)I"⟩, 30) := ⟨⟨by decide +kernel, by decide +kernel⟩, List.mem_of_getElem? (i := 653) (by decide +kernel), List.mem_of_getElem? (i := 826) (by decide +kernel), List.mem_of_getElem? (i := 827) (by decide +kernel)⟩
theorem lw_p52 : lw_okq (⟨"CartridgeDeskModel", "step", "()V"⟩, 30) := ⟨⟨by decide +kernel, by decide +kernel⟩, List.mem_of_getElem? (i := 653) (by decide +kernel), List.mem_of_getElem? (i := 854) (by decide +kernel), List.mem_of_getElem? (i := 855) (by decide +kernel)⟩
theorem lw_p53 : lw_okq (⟨"CartridgeDeskModel", "interrupt", "(I)V"⟩, 30) := ⟨⟨by decide +kernel, by decide +kernel⟩, List.mem_of_getElem? (i := 653) (by decide +kernel), List.mem_of_getElem? (i := 858) (by decide +kernel), List.mem_of_getElem? (i := 859) (by decide +kernel)⟩
theorem lw_p54 : lw_okq (⟨"CartridgeDeskModel", "push", "(I)V"⟩, 30) := ⟨⟨by decide +kernel, by decide +kernel⟩, List.mem_of_getElem? (i := 653) (by decide +kernel), List.mem_of_getElem? (i := 862) (by decide +kernel), List.mem_of_getElem? (i := 863) (by decide +kernel)⟩
theorem lw_p55 : lw_okq (⟨"CartridgeDeskModel", "write", "(II)V"⟩, 30) := ⟨⟨by decide +kernel, by decide +kernel⟩, List.mem_of_getElem? (i := 653) (by decide +kernel), List.mem_of_getElem? (i := 866) (by decide +kernel), List.mem_of_getElem? (i := 867) (by decide +kernel)⟩
theorem lw_p56 : lw_okq (⟨"CartridgeDeskModel", "where", "(I)I"⟩, 30) := ⟨⟨by decide +kernel, by decide +kernel⟩, List.mem_of_getElem? (i := 653) (by decide +kernel), List.mem_of_getElem? (i := 870) (by decide +kernel), List.mem_of_getElem? (i := 871) (by decide +kernel)⟩
theorem lw_p57 : lw_okq (⟨"CartridgeDeskModel", "instruction", "()V"⟩, 30) := ⟨⟨by decide +kernel, by decide +kernel⟩, List.mem_of_getElem? (i := 653) (by decide +kernel), List.mem_of_getElem? (i := 874) (by decide +kernel), List.mem_of_getElem? (i := 875) (by decide +kernel)⟩
theorem lw_p58 : lw_okq (⟨"CartridgeDeskModel", "next", "()I"⟩, 30) := ⟨⟨by decide +kernel, by decide +kernel⟩, List.mem_of_getElem? (i := 653) (by decide +kernel), List.mem_of_getElem? (i := 878) (by decide +kernel), List.mem_of_getElem? (i := 879) (by decide +kernel)⟩
theorem lw_p59 : lw_okq (⟨"CartridgeDeskModel", "read", "(I)I"⟩, 30) := ⟨⟨by decide +kernel, by decide +kernel⟩, List.mem_of_getElem? (i := 653) (by decide +kernel), List.mem_of_getElem? (i := 882) (by decide +kernel), List.mem_of_getElem? (i := 883) (by decide +kernel)⟩
theorem lw_p60 : lw_okq (⟨"CartridgeDeskModel", "few", "(I)V"⟩, 30) := ⟨⟨by decide +kernel, by decide +kernel⟩, List.mem_of_getElem? (i := 653) (by decide +kernel), List.mem_of_getElem? (i := 886) (by decide +kernel), List.mem_of_getElem? (i := 887) (by decide +kernel)⟩
theorem lw_p61 : lw_okq (⟨"CartridgeDeskModel", "stand", "(I)V"⟩, 30) := ⟨⟨by decide +kernel, by decide +kernel⟩, List.mem_of_getElem? (i := 653) (by decide +kernel), List.mem_of_getElem? (i := 890) (by decide +kernel), List.mem_of_getElem? (i := 891) (by decide +kernel)⟩
theorem lw_p62 : lw_okq (⟨"CartridgeDeskModel", "adjust", "()V"⟩, 30) := ⟨⟨by decide +kernel, by decide +kernel⟩, List.mem_of_getElem? (i := 653) (by decide +kernel), List.mem_of_getElem? (i := 894) (by decide +kernel), List.mem_of_getElem? (i := 895) (by decide +kernel)⟩
theorem lw_p63 : lw_okq (⟨"CartridgeDeskModel", "pop", "()I"⟩, 30) := ⟨⟨by decide +kernel, by decide +kernel⟩, List.mem_of_getElem? (i := 653) (by decide +kernel), List.mem_of_getElem? (i := 898) (by decide +kernel), List.mem_of_getElem? (i := 899) (by decide +kernel)⟩
def lw_privs_4 : List (MethodName × Nat) := [(⟨"CartridgeDeskModel", "mark", "(I)I"⟩, 30), (⟨"CartridgeDeskModel", "headCheck", "()I"⟩, 30), (⟨"CartridgeDeskModel", "imageCheck", "()I"⟩, 30), (⟨"CartridgeDeskModel", "refuse", "(I)I"⟩, 30), (⟨"CartridgeDeskModel", "step", "()V"⟩, 30), (⟨"CartridgeDeskModel", "interrupt", "(I)V"⟩, 30), (⟨"CartridgeDeskModel", "push", "(I)V"⟩, 30), (⟨"CartridgeDeskModel", "write", "(II)V"⟩, 30), (⟨"CartridgeDeskModel", "where", "(I)I"⟩, 30), (⟨"CartridgeDeskModel", "instruction", "()V"⟩, 30), (⟨"CartridgeDeskModel", "next", "()I"⟩, 30), (⟨"CartridgeDeskModel", "read", "(I)I"⟩, 30), (⟨"CartridgeDeskModel", "few", "(I)V"⟩, 30), (⟨"CartridgeDeskModel", "stand", "(I)V"⟩, 30), (⟨"CartridgeDeskModel", "adjust", "()V"⟩, 30), (⟨"CartridgeDeskModel", "pop", "()I"⟩, 30)]
theorem lw_r4 : ∀ q ∈ lw_privs_4, lw_okq q := List.forall_mem_cons.mpr ⟨lw_p48, List.forall_mem_cons.mpr ⟨lw_p49, List.forall_mem_cons.mpr ⟨lw_p50, List.forall_mem_cons.mpr ⟨lw_p51, List.forall_mem_cons.mpr ⟨lw_p52, List.forall_mem_cons.mpr ⟨lw_p53, List.forall_mem_cons.mpr ⟨lw_p54, List.forall_mem_cons.mpr ⟨lw_p55, List.forall_mem_cons.mpr ⟨lw_p56, List.forall_mem_cons.mpr ⟨lw_p57, List.forall_mem_cons.mpr ⟨lw_p58, List.forall_mem_cons.mpr ⟨lw_p59, List.forall_mem_cons.mpr ⟨lw_p60, List.forall_mem_cons.mpr ⟨lw_p61, List.forall_mem_cons.mpr ⟨lw_p62, List.forall_mem_cons.mpr ⟨lw_p63, fun _ h => absurd h List.not_mem_nil⟩⟩⟩⟩⟩⟩⟩⟩⟩⟩⟩⟩⟩⟩⟩⟩
theorem lw_p64 : lw_okq (⟨"CartridgeDeskModel", "single", "(II)V"⟩, 30) := ⟨⟨by decide +kernel, by decide +kernel⟩, List.mem_of_getElem? (i := 653) (by decide +kernel), List.mem_of_getElem? (i := 902) (by decide +kernel), List.mem_of_getElem? (i := 903) (by decide +kernel)⟩
theorem lw_p65 : lw_okq (⟨"CartridgeDeskModel", "get", "(I)I"⟩, 30) := ⟨⟨by decide +kernel, by decide +kernel⟩, List.mem_of_getElem? (i := 653) (by decide +kernel), List.mem_of_getElem? (i := 906) (by decide +kernel), List.mem_of_getElem? (i := 907) (by decide +kernel)⟩
theorem lw_p66 : lw_okq (⟨"CartridgeDeskModel", "count", "(IZ)I"⟩, 30) := ⟨⟨by decide +kernel, by decide +kernel⟩, List.mem_of_getElem? (i := 653) (by decide +kernel), List.mem_of_getElem? (i := 910) (by decide +kernel), List.mem_of_getElem? (i := 911) (by decide +kernel)⟩
theorem lw_p67 : lw_okq (⟨"CartridgeDeskModel", "add", "(III)I"⟩, 30) := ⟨⟨by decide +kernel, by decide +kernel⟩, List.mem_of_getElem? (i := 653) (by decide +kernel), List.mem_of_getElem? (i := 914) (by decide +kernel), List.mem_of_getElem? (i := 915) (by decide +kernel)⟩
theorem lw_p68 : lw_okq (⟨"CartridgeDeskModel", "take", "(III)I"⟩, 30) := ⟨⟨by decide +kernel, by decide +kernel⟩, List.mem_of_getElem? (i := 653) (by decide +kernel), List.mem_of_getElem? (i := 918) (by decide +kernel), List.mem_of_getElem? (i := 919) (by decide +kernel)⟩
theorem lw_p69 : lw_okq (⟨"CartridgeDeskModel", "set", "(II)V"⟩, 30) := ⟨⟨by decide +kernel, by decide +kernel⟩, List.mem_of_getElem? (i := 653) (by decide +kernel), List.mem_of_getElem? (i := 922) (by decide +kernel), List.mem_of_getElem? (i := 923) (by decide +kernel)⟩
theorem lw_p70 : lw_okq (⟨"CartridgeDeskModel", "plain", "(IZ)I"⟩, 30) := ⟨⟨by decide +kernel, by decide +kernel⟩, List.mem_of_getElem? (i := 653) (by decide +kernel), List.mem_of_getElem? (i := 926) (by decide +kernel), List.mem_of_getElem? (i := 927) (by decide +kernel)⟩
theorem lw_p71 : lw_okq (⟨"CartridgeDeskModel", "reckon", "(II)V"⟩, 30) := ⟨⟨by decide +kernel, by decide +kernel⟩, List.mem_of_getElem? (i := 653) (by decide +kernel), List.mem_of_getElem? (i := 930) (by decide +kernel), List.mem_of_getElem? (i := 931) (by decide +kernel)⟩
theorem lw_p72 : lw_okq (⟨"CartridgeDeskModel", "lead", "(I)V"⟩, 30) := ⟨⟨by decide +kernel, by decide +kernel⟩, List.mem_of_getElem? (i := 653) (by decide +kernel), List.mem_of_getElem? (i := 934) (by decide +kernel), List.mem_of_getElem? (i := 935) (by decide +kernel)⟩
theorem lw_p73 : lw_okq (⟨"CartridgeDeskModel", "holds", "(I)Z"⟩, 30) := ⟨⟨by decide +kernel, by decide +kernel⟩, List.mem_of_getElem? (i := 653) (by decide +kernel), List.mem_of_getElem? (i := 938) (by decide +kernel), List.mem_of_getElem? (i := 939) (by decide +kernel)⟩
theorem lw_p74 : lw_okq (⟨"CartridgeDeskModel", "bits", "(I)V"⟩, 30) := ⟨⟨by decide +kernel, by decide +kernel⟩, List.mem_of_getElem? (i := 653) (by decide +kernel), List.mem_of_getElem? (i := 942) (by decide +kernel), List.mem_of_getElem? (i := 943) (by decide +kernel)⟩
theorem lw_p75 : lw_okq (⟨"CartridgeDeskModel", "turned", "(II)I"⟩, 30) := ⟨⟨by decide +kernel, by decide +kernel⟩, List.mem_of_getElem? (i := 653) (by decide +kernel), List.mem_of_getElem? (i := 946) (by decide +kernel), List.mem_of_getElem? (i := 947) (by decide +kernel)⟩
def lw_privs_5 : List (MethodName × Nat) := [(⟨"CartridgeDeskModel", "single", "(II)V"⟩, 30), (⟨"CartridgeDeskModel", "get", "(I)I"⟩, 30), (⟨"CartridgeDeskModel", "count", "(IZ)I"⟩, 30), (⟨"CartridgeDeskModel", "add", "(III)I"⟩, 30), (⟨"CartridgeDeskModel", "take", "(III)I"⟩, 30), (⟨"CartridgeDeskModel", "set", "(II)V"⟩, 30), (⟨"CartridgeDeskModel", "plain", "(IZ)I"⟩, 30), (⟨"CartridgeDeskModel", "reckon", "(II)V"⟩, 30), (⟨"CartridgeDeskModel", "lead", "(I)V"⟩, 30), (⟨"CartridgeDeskModel", "holds", "(I)Z"⟩, 30), (⟨"CartridgeDeskModel", "bits", "(I)V"⟩, 30), (⟨"CartridgeDeskModel", "turned", "(II)I"⟩, 30)]
theorem lw_r5 : ∀ q ∈ lw_privs_5, lw_okq q := List.forall_mem_cons.mpr ⟨lw_p64, List.forall_mem_cons.mpr ⟨lw_p65, List.forall_mem_cons.mpr ⟨lw_p66, List.forall_mem_cons.mpr ⟨lw_p67, List.forall_mem_cons.mpr ⟨lw_p68, List.forall_mem_cons.mpr ⟨lw_p69, List.forall_mem_cons.mpr ⟨lw_p70, List.forall_mem_cons.mpr ⟨lw_p71, List.forall_mem_cons.mpr ⟨lw_p72, List.forall_mem_cons.mpr ⟨lw_p73, List.forall_mem_cons.mpr ⟨lw_p74, List.forall_mem_cons.mpr ⟨lw_p75, fun _ h => absurd h List.not_mem_nil⟩⟩⟩⟩⟩⟩⟩⟩⟩⟩⟩⟩
def lw_privs : List (MethodName × Nat) := lw_privs_1 ++ (lw_privs_2 ++ (lw_privs_3 ++ (lw_privs_4 ++ (lw_privs_5))))
def lw_tbl : List Cond := k2_sels lw_privs ++ tables_1
theorem lw_privs_ok : ∀ q ∈ lw_privs, lw_okq q := by
  show ∀ q ∈ lw_privs_1 ++ (lw_privs_2 ++ (lw_privs_3 ++ (lw_privs_4 ++ (lw_privs_5)))), lw_okq q
  exact List.forall_mem_append.mpr ⟨lw_r1, List.forall_mem_append.mpr ⟨lw_r2, List.forall_mem_append.mpr ⟨lw_r3, List.forall_mem_append.mpr ⟨lw_r4, lw_r5⟩⟩⟩⟩
/-! names: classes, their fields in the order of the slots, methods; printed by a program of ours -/
def wS : List Cond := lw_tbl.filter goodWord
theorem wS_good : ∀ w ∈ wS, (w.onTables && w.keeps) = true ∨ ∃ ty, w = .arrayClass ty := fun w h => good_of_word (List.mem_filter.mp h).2
theorem wS_of {w : Cond} (h : w ∈ lw_tbl) (g : goodWord w = true) : w ∈ wS := List.mem_filter.mpr ⟨h, g⟩
theorem wT1 {w : Cond} (i : Nat) (h0 : tables_1_1[i]? = some w) (g : goodWord w = true) : w ∈ wS := wS_of (by have h := List.mem_of_getElem? h0; exact List.mem_append_right _ (List.mem_append_left _ h)) g
theorem wT2 {w : Cond} (i : Nat) (h0 : tables_1_2[i]? = some w) (g : goodWord w = true) : w ∈ wS := wS_of (by have h := List.mem_of_getElem? h0; exact List.mem_append_right _ (List.mem_append_right _ (List.mem_append_left _ h))) g
theorem wT3 {w : Cond} (i : Nat) (h0 : tables_1_3[i]? = some w) (g : goodWord w = true) : w ∈ wS := wS_of (by have h := List.mem_of_getElem? h0; exact List.mem_append_right _ (List.mem_append_right _ (List.mem_append_right _ (List.mem_append_left _ h)))) g
theorem wT4 {w : Cond} (i : Nat) (h0 : tables_1_4[i]? = some w) (g : goodWord w = true) : w ∈ wS := wS_of (by have h := List.mem_of_getElem? h0; exact List.mem_append_right _ (List.mem_append_right _ (List.mem_append_right _ (List.mem_append_right _ (List.mem_append_left _ h))))) g
theorem wT5 {w : Cond} (i : Nat) (h0 : tables_1_5[i]? = some w) (g : goodWord w = true) : w ∈ wS := wS_of (by have h := List.mem_of_getElem? h0; exact List.mem_append_right _ (List.mem_append_right _ (List.mem_append_right _ (List.mem_append_right _ (List.mem_append_right _ (h)))))) g
theorem wP1 {y : MethodName} {n : Nat} (i : Nat) (h0 : lw_privs_1[i]? = some (y, n)) : Cond.selects y.cls y y ∈ wS := wS_of (List.mem_append_left _ (List.mem_map.mpr ⟨(y, n), (by have h := List.mem_of_getElem? h0; exact List.mem_append_left _ h), rfl⟩)) rfl
theorem wP2 {y : MethodName} {n : Nat} (i : Nat) (h0 : lw_privs_2[i]? = some (y, n)) : Cond.selects y.cls y y ∈ wS := wS_of (List.mem_append_left _ (List.mem_map.mpr ⟨(y, n), (by have h := List.mem_of_getElem? h0; exact List.mem_append_right _ (List.mem_append_left _ h)), rfl⟩)) rfl
theorem wP3 {y : MethodName} {n : Nat} (i : Nat) (h0 : lw_privs_3[i]? = some (y, n)) : Cond.selects y.cls y y ∈ wS := wS_of (List.mem_append_left _ (List.mem_map.mpr ⟨(y, n), (by have h := List.mem_of_getElem? h0; exact List.mem_append_right _ (List.mem_append_right _ (List.mem_append_left _ h))), rfl⟩)) rfl
theorem wP4 {y : MethodName} {n : Nat} (i : Nat) (h0 : lw_privs_4[i]? = some (y, n)) : Cond.selects y.cls y y ∈ wS := wS_of (List.mem_append_left _ (List.mem_map.mpr ⟨(y, n), (by have h := List.mem_of_getElem? h0; exact List.mem_append_right _ (List.mem_append_right _ (List.mem_append_right _ (List.mem_append_left _ h)))), rfl⟩)) rfl
theorem wP5 {y : MethodName} {n : Nat} (i : Nat) (h0 : lw_privs_5[i]? = some (y, n)) : Cond.selects y.cls y y ∈ wS := wS_of (List.mem_append_left _ (List.mem_map.mpr ⟨(y, n), (by have h := List.mem_of_getElem? h0; exact List.mem_append_right _ (List.mem_append_right _ (List.mem_append_right _ (List.mem_append_right _ (h))))), rfl⟩)) rfl
def RK : String := "CartridgeDesk$Cartridge"
def TK : u_T := fun k => match k with
  | 0 => ("CartridgeDesk$Cartridge", "cells", "[I", true)
  | _ => ("CartridgeDesk$Cartridge", "bankCount", "I", false)
def tK : Nat → FieldType := fun k => match k with
  | 0 => .array .int
  | _ => .int
theorem nK_ok : ∀ a, a < 2 → ∀ b, b < 2 → a ≠ b → (TK a).2.1 ≠ (TK b).2.1 := by decide +kernel
theorem tK_ok : ∀ k, k < 2 → parseFieldDescriptor (TK k).2.2.1 = some (tK k) := by decide +kernel
def RN : String := "CartridgeDesk$Machine"
def TN : u_T := fun k => match k with
  | 0 => ("CartridgeDesk$Machine", "memory", "LCartridgeDesk$Memory;", true)
  | 1 => ("CartridgeDesk$Machine", "registers", "[I", true)
  | 2 => ("CartridgeDesk$Machine", "stack", "I", false)
  | 3 => ("CartridgeDesk$Machine", "place", "I", false)
  | 4 => ("CartridgeDesk$Machine", "zero", "Z", false)
  | 5 => ("CartridgeDesk$Machine", "minus", "Z", false)
  | 6 => ("CartridgeDesk$Machine", "half", "Z", false)
  | 7 => ("CartridgeDesk$Machine", "carry", "Z", false)
  | 8 => ("CartridgeDesk$Machine", "enabled", "Z", false)
  | 9 => ("CartridgeDesk$Machine", "enabledSoon", "Z", false)
  | 10 => ("CartridgeDesk$Machine", "condition", "I", false)
  | 11 => ("CartridgeDesk$Machine", "sentCount", "I", false)
  | _ => ("CartridgeDesk$Machine", "sentBytes", "[I", true)
def tN : Nat → FieldType := fun k => match k with
  | 0 => .object "CartridgeDesk$Memory"
  | 1 => .array .int
  | 2 => .int
  | 3 => .int
  | 4 => .boolean
  | 5 => .boolean
  | 6 => .boolean
  | 7 => .boolean
  | 8 => .boolean
  | 9 => .boolean
  | 10 => .int
  | 11 => .int
  | _ => .array .int
theorem nN_ok : ∀ a, a < 13 → ∀ b, b < 13 → a ≠ b → (TN a).2.1 ≠ (TN b).2.1 := by decide +kernel
theorem tN_ok : ∀ k, k < 13 → parseFieldDescriptor (TN k).2.2.1 = some (tN k) := by decide +kernel
def RM : String := "CartridgeDesk$Memory"
def TM : u_T := fun k => match k with
  | 0 => ("CartridgeDesk$Memory", "cartridge", "LCartridgeDesk$Cartridge;", true)
  | 1 => ("CartridgeDesk$Memory", "ram", "[I", true)
  | 2 => ("CartridgeDesk$Memory", "upper", "[I", true)
  | 3 => ("CartridgeDesk$Memory", "ramOn", "Z", false)
  | 4 => ("CartridgeDesk$Memory", "low", "I", false)
  | 5 => ("CartridgeDesk$Memory", "high", "I", false)
  | 6 => ("CartridgeDesk$Memory", "mode", "I", false)
  | 7 => ("CartridgeDesk$Memory", "mask", "I", false)
  | _ => ("CartridgeDesk$Memory", "lines", "I", false)
def tM : Nat → FieldType := fun k => match k with
  | 0 => .object "CartridgeDesk$Cartridge"
  | 1 => .array .int
  | 2 => .array .int
  | 3 => .boolean
  | 4 => .int
  | 5 => .int
  | 6 => .int
  | 7 => .int
  | _ => .int
theorem nM_ok : ∀ a, a < 9 → ∀ b, b < 9 → a ≠ b → (TM a).2.1 ≠ (TM b).2.1 := by decide +kernel
theorem tM_ok : ∀ k, k < 9 → parseFieldDescriptor (TM k).2.2.1 = some (tM k) := by decide +kernel
def RP : String := "CartridgeDesk$Packing"
def TP : u_T := fun k => match k with
  | 0 => ("CartridgeDesk$Packing", "banks", "[I", true)
  | 1 => ("CartridgeDesk$Packing", "offsets", "[I", true)
  | 2 => ("CartridgeDesk$Packing", "ends", "[I", true)
  | _ => ("CartridgeDesk$Packing", "count", "I", false)
def tP : Nat → FieldType := fun k => match k with
  | 0 => .array .int
  | 1 => .array .int
  | 2 => .array .int
  | _ => .int
theorem nP_ok : ∀ a, a < 4 → ∀ b, b < 4 → a ≠ b → (TP a).2.1 ≠ (TP b).2.1 := by decide +kernel
theorem tP_ok : ∀ k, k < 4 → parseFieldDescriptor (TP k).2.2.1 = some (tP k) := by decide +kernel
def RS : String := "CartridgeDesk$Sections"
def TS : u_T := fun k => match k with
  | 0 => ("CartridgeDesk$Sections", "banks", "[I", true)
  | 1 => ("CartridgeDesk$Sections", "lengths", "[I", true)
  | 2 => ("CartridgeDesk$Sections", "kinds", "[I", true)
  | 3 => ("CartridgeDesk$Sections", "values", "[I", true)
  | _ => ("CartridgeDesk$Sections", "count", "I", false)
def tS : Nat → FieldType := fun k => match k with
  | 0 => .array .int
  | 1 => .array .int
  | 2 => .array .int
  | 3 => .array .int
  | _ => .int
theorem nS_ok : ∀ a, a < 5 → ∀ b, b < 5 → a ≠ b → (TS a).2.1 ≠ (TS b).2.1 := by decide +kernel
theorem tS_ok : ∀ k, k < 5 → parseFieldDescriptor (TS k).2.2.1 = some (tS k) := by decide +kernel
def RD : String := "CartridgeDesk"
def TD : u_T := fun k => match k with
  | 0 => ("CartridgeDesk", "sections", "LCartridgeDesk$Sections;", true)
  | 1 => ("CartridgeDesk", "cartridge", "LCartridgeDesk$Cartridge;", true)
  | 2 => ("CartridgeDesk", "memory", "LCartridgeDesk$Memory;", true)
  | 3 => ("CartridgeDesk", "machine", "LCartridgeDesk$Machine;", true)
  | 4 => ("CartridgeDesk", "linked", "LCartridgeDesk$Packing;", false)
  | _ => ("CartridgeDesk", "tried", "LCartridgeDesk$Packing;", false)
def tD : Nat → FieldType := fun k => match k with
  | 0 => .object "CartridgeDesk$Sections"
  | 1 => .object "CartridgeDesk$Cartridge"
  | 2 => .object "CartridgeDesk$Memory"
  | 3 => .object "CartridgeDesk$Machine"
  | 4 => .object "CartridgeDesk$Packing"
  | _ => .object "CartridgeDesk$Packing"
theorem nD_ok : ∀ a, a < 6 → ∀ b, b < 6 → a ≠ b → (TD a).2.1 ≠ (TD b).2.1 := by decide +kernel
theorem tD_ok : ∀ k, k < 6 → parseFieldDescriptor (TD k).2.2.1 = some (tD k) := by decide +kernel
def RQ : String := "CartridgeDeskModel"
def TQ : u_T := fun k => match k with
  | 0 => ("CartridgeDeskModel", "code", "I", false)
  | 1 => ("CartridgeDeskModel", "many", "I", false)
  | 2 => ("CartridgeDeskModel", "pin", "[I", true)
  | 3 => ("CartridgeDeskModel", "size", "[I", true)
  | 4 => ("CartridgeDeskModel", "bytes", "[I", true)
  | 5 => ("CartridgeDeskModel", "kind", "[I", true)
  | 6 => ("CartridgeDeskModel", "bank", "[I", true)
  | 7 => ("CartridgeDeskModel", "address", "[I", true)
  | 8 => ("CartridgeDeskModel", "full", "[I", true)
  | 9 => ("CartridgeDeskModel", "linked", "I", false)
  | 10 => ("CartridgeDeskModel", "packedBank", "[I", true)
  | 11 => ("CartridgeDeskModel", "packedAddress", "[I", true)
  | 12 => ("CartridgeDeskModel", "banks", "I", false)
  | 13 => ("CartridgeDeskModel", "memory", "[I", true)
  | 14 => ("CartridgeDeskModel", "register", "[I", true)
  | 15 => ("CartridgeDeskModel", "stack", "I", false)
  | 16 => ("CartridgeDeskModel", "place", "I", false)
  | 17 => ("CartridgeDeskModel", "zero", "Z", false)
  | 18 => ("CartridgeDeskModel", "less", "Z", false)
  | 19 => ("CartridgeDeskModel", "half", "Z", false)
  | 20 => ("CartridgeDeskModel", "carry", "Z", false)
  | 21 => ("CartridgeDeskModel", "enabled", "Z", false)
  | 22 => ("CartridgeDeskModel", "soon", "Z", false)
  | 23 => ("CartridgeDeskModel", "ram", "Z", false)
  | 24 => ("CartridgeDeskModel", "low", "I", false)
  | 25 => ("CartridgeDeskModel", "top", "I", false)
  | 26 => ("CartridgeDeskModel", "mode", "I", false)
  | 27 => ("CartridgeDeskModel", "state", "I", false)
  | 28 => ("CartridgeDeskModel", "sent", "I", false)
  | _ => ("CartridgeDeskModel", "out", "[I", true)
def tQ : Nat → FieldType := fun k => match k with
  | 0 => .int
  | 1 => .int
  | 2 => .array .int
  | 3 => .array .int
  | 4 => .array .int
  | 5 => .array .int
  | 6 => .array .int
  | 7 => .array .int
  | 8 => .array .int
  | 9 => .int
  | 10 => .array .int
  | 11 => .array .int
  | 12 => .int
  | 13 => .array .int
  | 14 => .array .int
  | 15 => .int
  | 16 => .int
  | 17 => .boolean
  | 18 => .boolean
  | 19 => .boolean
  | 20 => .boolean
  | 21 => .boolean
  | 22 => .boolean
  | 23 => .boolean
  | 24 => .int
  | 25 => .int
  | 26 => .int
  | 27 => .int
  | 28 => .int
  | _ => .array .int
theorem nQ_ok : ∀ a, a < 30 → ∀ b, b < 30 → a ≠ b → (TQ a).2.1 ≠ (TQ b).2.1 := by decide +kernel
theorem tQ_ok : ∀ k, k < 30 → parseFieldDescriptor (TQ k).2.2.1 = some (tQ k) := by decide +kernel
abbrev vwCl : List vw_C := [(RK, TK, 2), (RN, TN, 13), (RM, TM, 9), (RP, TP, 4), (RS, TS, 5), (RD, TD, 6), (RQ, TQ, 30)]
def RL : String := "CartridgeDeskLaw"
abbrev bD_init : ByteArray := prog_1_method_1_code
def yD_init : MethodName := ⟨RD, "<init>", "()V"⟩
abbrev bD_section : ByteArray := prog_1_method_2_code
def yD_section : MethodName := ⟨RD, "section", "(I)I"⟩
abbrev bD_bytes : ByteArray := prog_1_method_3_code
def yD_bytes : MethodName := ⟨RD, "bytes", "(II)V"⟩
abbrev bD_mended : ByteArray := prog_1_method_4_code
def yD_mended : MethodName := ⟨RD, "mended", "(II)V"⟩
abbrev bD_clear : ByteArray := prog_1_method_5_code
def yD_clear : MethodName := ⟨RD, "clear", "()V"⟩
abbrev bD_link : ByteArray := prog_1_method_6_code
def yD_link : MethodName := ⟨RD, "link", "(I)I"⟩
abbrev bD_packed : ByteArray := prog_1_method_7_code
def yD_packed : MethodName := ⟨RD, "packed", "(II)I"⟩
abbrev bD_image : ByteArray := prog_1_method_8_code
def yD_image : MethodName := ⟨RD, "image", "(I)I"⟩
abbrev bD_spoil : ByteArray := prog_1_method_9_code
def yD_spoil : MethodName := ⟨RD, "spoil", "(II)V"⟩
abbrev bD_valid : ByteArray := prog_1_method_10_code
def yD_valid : MethodName := ⟨RD, "valid", "()I"⟩
abbrev bD_restart : ByteArray := prog_1_method_11_code
def yD_restart : MethodName := ⟨RD, "restart", "()V"⟩
abbrev bD_raise : ByteArray := prog_1_method_12_code
def yD_raise : MethodName := ⟨RD, "raise", "(I)V"⟩
abbrev bD_run : ByteArray := prog_1_method_13_code
def yD_run : MethodName := ⟨RD, "run", "(I)I"⟩
abbrev bD_state : ByteArray := prog_1_method_14_code
def yD_state : MethodName := ⟨RD, "state", "()I"⟩
abbrev bD_register : ByteArray := prog_1_method_15_code
def yD_register : MethodName := ⟨RD, "register", "(I)I"⟩
abbrev bD_peek : ByteArray := prog_1_method_16_code
def yD_peek : MethodName := ⟨RD, "peek", "(I)I"⟩
abbrev bD_sent : ByteArray := prog_1_method_17_code
def yD_sent : MethodName := ⟨RD, "sent", "()I"⟩
abbrev bD_byteSent : ByteArray := prog_1_method_18_code
def yD_byteSent : MethodName := ⟨RD, "byteSent", "(I)I"⟩
abbrev bD_keepTried : ByteArray := prog_1_method_19_code
def yD_keepTried : MethodName := ⟨RD, "keepTried", "()V"⟩
abbrev bQ_init : ByteArray := prog_8_method_1_code
def yQ_init : MethodName := ⟨RQ, "<init>", "()V"⟩
abbrev bQ_thrown : ByteArray := prog_8_method_2_code
def yQ_thrown : MethodName := ⟨RQ, "thrown", "()I"⟩
abbrev bQ_refuse : ByteArray := prog_8_method_3_code
def yQ_refuse : MethodName := ⟨RQ, "refuse", "(I)I"⟩
abbrev bQ_outside : ByteArray := prog_8_method_4_code
def yQ_outside : MethodName := ⟨RQ, "outside", "(III)Z"⟩
abbrev bQ_begin : ByteArray := prog_8_method_5_code
def yQ_begin : MethodName := ⟨RQ, "begin", "()V"⟩
abbrev bQ_section : ByteArray := prog_8_method_6_code
def yQ_section : MethodName := ⟨RQ, "section", "(I)I"⟩
abbrev bQ_room : ByteArray := prog_8_method_7_code
def yQ_room : MethodName := ⟨RQ, "room", "(I)Z"⟩
abbrev bQ_append : ByteArray := prog_8_method_8_code
def yQ_append : MethodName := ⟨RQ, "append", "(II)V"⟩
abbrev bQ_bytes : ByteArray := prog_8_method_9_code
def yQ_bytes : MethodName := ⟨RQ, "bytes", "(II)V"⟩
abbrev bQ_mended : ByteArray := prog_8_method_10_code
def yQ_mended : MethodName := ⟨RQ, "mended", "(II)V"⟩
abbrev bQ_clear : ByteArray := prog_8_method_11_code
def yQ_clear : MethodName := ⟨RQ, "clear", "()V"⟩
abbrev bQ_put : ByteArray := prog_8_method_12_code
def yQ_put : MethodName := ⟨RQ, "put", "(III)Z"⟩
abbrev bQ_pack : ByteArray := prog_8_method_13_code
def yQ_pack : MethodName := ⟨RQ, "pack", "(I)Z"⟩
abbrev bQ_allKnown : ByteArray := prog_8_method_14_code
def yQ_allKnown : MethodName := ⟨RQ, "allKnown", "()Z"⟩
abbrev bQ_headCheck : ByteArray := prog_8_method_15_code
def yQ_headCheck : MethodName := ⟨RQ, "headCheck", "()I"⟩
abbrev bQ_imageCheck : ByteArray := prog_8_method_16_code
def yQ_imageCheck : MethodName := ⟨RQ, "imageCheck", "()I"⟩
abbrev bQ_mark : ByteArray := prog_8_method_17_code
def yQ_mark : MethodName := ⟨RQ, "mark", "(I)I"⟩
abbrev bQ_headByte : ByteArray := prog_8_method_18_code
def yQ_headByte : MethodName := ⟨RQ, "headByte", "(I)I"⟩
abbrev bQ_build : ByteArray := prog_8_method_19_code
def yQ_build : MethodName := ⟨RQ, "build", "(I)V"⟩
abbrev bQ_link : ByteArray := prog_8_method_20_code
def yQ_link : MethodName := ⟨RQ, "link", "(I)I"⟩
abbrev bQ_packed : ByteArray := prog_8_method_21_code
def yQ_packed : MethodName := ⟨RQ, "packed", "(II)I"⟩
abbrev bQ_image : ByteArray := prog_8_method_22_code
def yQ_image : MethodName := ⟨RQ, "image", "(I)I"⟩
abbrev bQ_spoil : ByteArray := prog_8_method_23_code
def yQ_spoil : MethodName := ⟨RQ, "spoil", "(II)V"⟩
abbrev bQ_valid : ByteArray := prog_8_method_24_code
def yQ_valid : MethodName := ⟨RQ, "valid", "()I"⟩
abbrev bQ_where : ByteArray := prog_8_method_25_code
def yQ_where : MethodName := ⟨RQ, "where", "(I)I"⟩
abbrev bQ_read : ByteArray := prog_8_method_26_code
def yQ_read : MethodName := ⟨RQ, "read", "(I)I"⟩
abbrev bQ_write : ByteArray := prog_8_method_27_code
def yQ_write : MethodName := ⟨RQ, "write", "(II)V"⟩
abbrev bQ_get : ByteArray := prog_8_method_28_code
def yQ_get : MethodName := ⟨RQ, "get", "(I)I"⟩
abbrev bQ_set : ByteArray := prog_8_method_29_code
def yQ_set : MethodName := ⟨RQ, "set", "(II)V"⟩
abbrev bQ_next : ByteArray := prog_8_method_30_code
def yQ_next : MethodName := ⟨RQ, "next", "()I"⟩
abbrev bQ_push : ByteArray := prog_8_method_31_code
def yQ_push : MethodName := ⟨RQ, "push", "(I)V"⟩
abbrev bQ_pop : ByteArray := prog_8_method_32_code
def yQ_pop : MethodName := ⟨RQ, "pop", "()I"⟩
abbrev bQ_add : ByteArray := prog_8_method_33_code
def yQ_add : MethodName := ⟨RQ, "add", "(III)I"⟩
abbrev bQ_take : ByteArray := prog_8_method_34_code
def yQ_take : MethodName := ⟨RQ, "take", "(III)I"⟩
abbrev bQ_plain : ByteArray := prog_8_method_35_code
def yQ_plain : MethodName := ⟨RQ, "plain", "(IZ)I"⟩
abbrev bQ_reckon : ByteArray := prog_8_method_36_code
def yQ_reckon : MethodName := ⟨RQ, "reckon", "(II)V"⟩
abbrev bQ_count : ByteArray := prog_8_method_37_code
def yQ_count : MethodName := ⟨RQ, "count", "(IZ)I"⟩
abbrev bQ_adjust : ByteArray := prog_8_method_38_code
def yQ_adjust : MethodName := ⟨RQ, "adjust", "()V"⟩
abbrev bQ_turned : ByteArray := prog_8_method_39_code
def yQ_turned : MethodName := ⟨RQ, "turned", "(II)I"⟩
abbrev bQ_bits : ByteArray := prog_8_method_40_code
def yQ_bits : MethodName := ⟨RQ, "bits", "(I)V"⟩
abbrev bQ_stand : ByteArray := prog_8_method_41_code
def yQ_stand : MethodName := ⟨RQ, "stand", "(I)V"⟩
abbrev bQ_few : ByteArray := prog_8_method_42_code
def yQ_few : MethodName := ⟨RQ, "few", "(I)V"⟩
abbrev bQ_single : ByteArray := prog_8_method_43_code
def yQ_single : MethodName := ⟨RQ, "single", "(II)V"⟩
abbrev bQ_holds : ByteArray := prog_8_method_44_code
def yQ_holds : MethodName := ⟨RQ, "holds", "(I)Z"⟩
abbrev bQ_lead : ByteArray := prog_8_method_45_code
def yQ_lead : MethodName := ⟨RQ, "lead", "(I)V"⟩
abbrev bQ_instruction : ByteArray := prog_8_method_46_code
def yQ_instruction : MethodName := ⟨RQ, "instruction", "()V"⟩
abbrev bQ_interrupt : ByteArray := prog_8_method_47_code
def yQ_interrupt : MethodName := ⟨RQ, "interrupt", "(I)V"⟩
abbrev bQ_step : ByteArray := prog_8_method_48_code
def yQ_step : MethodName := ⟨RQ, "step", "()V"⟩
abbrev bQ_restart : ByteArray := prog_8_method_49_code
def yQ_restart : MethodName := ⟨RQ, "restart", "()V"⟩
abbrev bQ_raise : ByteArray := prog_8_method_50_code
def yQ_raise : MethodName := ⟨RQ, "raise", "(I)V"⟩
abbrev bQ_run : ByteArray := prog_8_method_51_code
def yQ_run : MethodName := ⟨RQ, "run", "(I)I"⟩
abbrev bQ_state : ByteArray := prog_8_method_52_code
def yQ_state : MethodName := ⟨RQ, "state", "()I"⟩
abbrev bQ_register : ByteArray := prog_8_method_53_code
def yQ_register : MethodName := ⟨RQ, "register", "(I)I"⟩
abbrev bQ_peek : ByteArray := prog_8_method_54_code
def yQ_peek : MethodName := ⟨RQ, "peek", "(I)I"⟩
abbrev bQ_sent : ByteArray := prog_8_method_55_code
def yQ_sent : MethodName := ⟨RQ, "sent", "()I"⟩
abbrev bQ_byteSent : ByteArray := prog_8_method_56_code
def yQ_byteSent : MethodName := ⟨RQ, "byteSent", "(I)I"⟩
abbrev bK_init : ByteArray := prog_2_method_1_code
def yK_init : MethodName := ⟨RK, "<init>", "()V"⟩
abbrev bK_isMade : ByteArray := prog_2_method_2_code
def yK_isMade : MethodName := ⟨RK, "isMade", "()Z"⟩
abbrev bK_size : ByteArray := prog_2_method_3_code
def yK_size : MethodName := ⟨RK, "size", "()I"⟩
abbrev bK_at : ByteArray := prog_2_method_4_code
def yK_at : MethodName := ⟨RK, "at", "(II)I"⟩
abbrev bK_make : ByteArray := prog_2_method_5_code
def yK_make : MethodName := ⟨RK, "make", "(LCartridgeDesk$Sections;LCartridgeDesk$Packing;I)V"⟩
abbrev bK_verdict : ByteArray := prog_2_method_6_code
def yK_verdict : MethodName := ⟨RK, "verdict", "()I"⟩
abbrev bK_lay : ByteArray := prog_2_method_7_code
def yK_lay : MethodName := ⟨RK, "lay", "(LCartridgeDesk$Sections;LCartridgeDesk$Packing;I)V"⟩
abbrev bK_writeHead : ByteArray := prog_2_method_8_code
def yK_writeHead : MethodName := ⟨RK, "writeHead", "(I)V"⟩
abbrev bK_sizeCode : ByteArray := prog_2_method_9_code
def yK_sizeCode : MethodName := ⟨RK, "sizeCode", "()I"⟩
abbrev bK_headCheck : ByteArray := prog_2_method_10_code
def yK_headCheck : MethodName := ⟨RK, "headCheck", "()I"⟩
abbrev bK_imageCheck : ByteArray := prog_2_method_11_code
def yK_imageCheck : MethodName := ⟨RK, "imageCheck", "()I"⟩
abbrev bN_init : ByteArray := prog_3_method_1_code
def yN_init : MethodName := ⟨RN, "<init>", "(LCartridgeDesk$Memory;)V"⟩
abbrev bN_begin : ByteArray := prog_3_method_2_code
def yN_begin : MethodName := ⟨RN, "begin", "()V"⟩
abbrev bN_keptCount : ByteArray := prog_3_method_3_code
def yN_keptCount : MethodName := ⟨RN, "keptCount", "()I"⟩
abbrev bN_shown : ByteArray := prog_3_method_4_code
def yN_shown : MethodName := ⟨RN, "shown", "(I)I"⟩
abbrev bN_canGo : ByteArray := prog_3_method_5_code
def yN_canGo : MethodName := ⟨RN, "canGo", "()Z"⟩
abbrev bN_step : ByteArray := prog_3_method_6_code
def yN_step : MethodName := ⟨RN, "step", "()V"⟩
abbrev bN_wakeFor : ByteArray := prog_3_method_7_code
def yN_wakeFor : MethodName := ⟨RN, "wakeFor", "(I)V"⟩
abbrev bN_interruptFor : ByteArray := prog_3_method_8_code
def yN_interruptFor : MethodName := ⟨RN, "interruptFor", "(I)V"⟩
abbrev bN_obey : ByteArray := prog_3_method_9_code
def yN_obey : MethodName := ⟨RN, "obey", "(I)V"⟩
abbrev bN_obeySingle : ByteArray := prog_3_method_10_code
def yN_obeySingle : MethodName := ⟨RN, "obeySingle", "(I)V"⟩
abbrev bN_obeyOnOne : ByteArray := prog_3_method_11_code
def yN_obeyOnOne : MethodName := ⟨RN, "obeyOnOne", "(II)V"⟩
abbrev bN_obeyJump : ByteArray := prog_3_method_12_code
def yN_obeyJump : MethodName := ⟨RN, "obeyJump", "(II)V"⟩
abbrev bN_holds : ByteArray := prog_3_method_13_code
def yN_holds : MethodName := ⟨RN, "holds", "(I)Z"⟩
abbrev bN_calculate : ByteArray := prog_3_method_14_code
def yN_calculate : MethodName := ⟨RN, "calculate", "(II)V"⟩
abbrev bN_sum : ByteArray := prog_3_method_15_code
def yN_sum : MethodName := ⟨RN, "sum", "(II)I"⟩
abbrev bN_difference : ByteArray := prog_3_method_16_code
def yN_difference : MethodName := ⟨RN, "difference", "(II)I"⟩
abbrev bN_oneMore : ByteArray := prog_3_method_17_code
def yN_oneMore : MethodName := ⟨RN, "oneMore", "(I)I"⟩
abbrev bN_oneLess : ByteArray := prog_3_method_18_code
def yN_oneLess : MethodName := ⟨RN, "oneLess", "(I)I"⟩
abbrev bN_exchanged : ByteArray := prog_3_method_19_code
def yN_exchanged : MethodName := ⟨RN, "exchanged", "(I)I"⟩
abbrev bN_adjust : ByteArray := prog_3_method_20_code
def yN_adjust : MethodName := ⟨RN, "adjust", "()V"⟩
abbrev bN_obeyOnBits : ByteArray := prog_3_method_21_code
def yN_obeyOnBits : MethodName := ⟨RN, "obeyOnBits", "(I)V"⟩
abbrev bN_shifted : ByteArray := prog_3_method_22_code
def yN_shifted : MethodName := ⟨RN, "shifted", "(II)I"⟩
abbrev bN_comesIn : ByteArray := prog_3_method_23_code
def yN_comesIn : MethodName := ⟨RN, "comesIn", "(III)I"⟩
abbrev bN_send : ByteArray := prog_3_method_24_code
def yN_send : MethodName := ⟨RN, "send", "(I)V"⟩
abbrev bN_endAs : ByteArray := prog_3_method_25_code
def yN_endAs : MethodName := ⟨RN, "endAs", "(I)V"⟩
abbrev bN_next : ByteArray := prog_3_method_26_code
def yN_next : MethodName := ⟨RN, "next", "()I"⟩
abbrev bN_push : ByteArray := prog_3_method_27_code
def yN_push : MethodName := ⟨RN, "push", "(I)V"⟩
abbrev bN_pull : ByteArray := prog_3_method_28_code
def yN_pull : MethodName := ⟨RN, "pull", "()I"⟩
abbrev bN_get : ByteArray := prog_3_method_29_code
def yN_get : MethodName := ⟨RN, "get", "(I)I"⟩
abbrev bN_set : ByteArray := prog_3_method_30_code
def yN_set : MethodName := ⟨RN, "set", "(II)V"⟩
abbrev bN_carryBit : ByteArray := prog_3_method_31_code
def yN_carryBit : MethodName := ⟨RN, "carryBit", "()I"⟩
abbrev bN_setFlags : ByteArray := prog_3_method_32_code
def yN_setFlags : MethodName := ⟨RN, "setFlags", "(ZZZZ)V"⟩
abbrev bM_init : ByteArray := prog_4_method_1_code
def yM_init : MethodName := ⟨RM, "<init>", "(LCartridgeDesk$Cartridge;)V"⟩
abbrev bM_begin : ByteArray := prog_4_method_2_code
def yM_begin : MethodName := ⟨RM, "begin", "()V"⟩
abbrev bM_switches : ByteArray := prog_4_method_3_code
def yM_switches : MethodName := ⟨RM, "switches", "()I"⟩
abbrev bM_askingLine : ByteArray := prog_4_method_4_code
def yM_askingLine : MethodName := ⟨RM, "askingLine", "()I"⟩
abbrev bM_read : ByteArray := prog_4_method_5_code
def yM_read : MethodName := ⟨RM, "read", "(I)I"⟩
abbrev bM_write : ByteArray := prog_4_method_6_code
def yM_write : MethodName := ⟨RM, "write", "(II)V"⟩
abbrev bM_ramPlace : ByteArray := prog_4_method_7_code
def yM_ramPlace : MethodName := ⟨RM, "ramPlace", "(I)I"⟩
abbrev bM_turnSwitch : ByteArray := prog_4_method_8_code
def yM_turnSwitch : MethodName := ⟨RM, "turnSwitch", "(II)V"⟩
abbrev bP_init : ByteArray := prog_5_method_1_code
def yP_init : MethodName := ⟨RP, "<init>", "()V"⟩
abbrev bP_pack : ByteArray := prog_5_method_2_code
def yP_pack : MethodName := ⟨RP, "pack", "(LCartridgeDesk$Sections;I)Z"⟩
abbrev bP_addressOf : ByteArray := prog_5_method_3_code
def yP_addressOf : MethodName := ⟨RP, "addressOf", "(I)I"⟩
abbrev bP_packPinned : ByteArray := prog_5_method_4_code
def yP_packPinned : MethodName := ⟨RP, "packPinned", "(LCartridgeDesk$Sections;I)Z"⟩
abbrev bP_packFloating : ByteArray := prog_5_method_5_code
def yP_packFloating : MethodName := ⟨RP, "packFloating", "(LCartridgeDesk$Sections;I)Z"⟩
abbrev bP_packLowest : ByteArray := prog_5_method_6_code
def yP_packLowest : MethodName := ⟨RP, "packLowest", "(III)Z"⟩
abbrev bP_fits : ByteArray := prog_5_method_7_code
def yP_fits : MethodName := ⟨RP, "fits", "(II)Z"⟩
abbrev bP_put : ByteArray := prog_5_method_8_code
def yP_put : MethodName := ⟨RP, "put", "(III)V"⟩
abbrev bS_init : ByteArray := prog_6_method_1_code
def yS_init : MethodName := ⟨RS, "<init>", "()V"⟩
abbrev bS_open : ByteArray := prog_6_method_2_code
def yS_open : MethodName := ⟨RS, "open", "(I)I"⟩
abbrev bS_canTake : ByteArray := prog_6_method_3_code
def yS_canTake : MethodName := ⟨RS, "canTake", "(I)Z"⟩
abbrev bS_append : ByteArray := prog_6_method_4_code
def yS_append : MethodName := ⟨RS, "append", "(II)V"⟩
abbrev bS_lacksOne : ByteArray := prog_6_method_5_code
def yS_lacksOne : MethodName := ⟨RS, "lacksOne", "()Z"⟩
abbrev bS_total : ByteArray := prog_6_method_6_code
def yS_total : MethodName := ⟨RS, "total", "()I"⟩
abbrev bL_section : ByteArray := method_3_code
def yL_section : MethodName := ⟨RL, "section", "(LCartridgeDesk;I[J)I"⟩
abbrev bL_bytes : ByteArray := method_4_code
def yL_bytes : MethodName := ⟨RL, "bytes", "(LCartridgeDesk;II)I"⟩
abbrev bL_mended : ByteArray := method_5_code
def yL_mended : MethodName := ⟨RL, "mended", "(LCartridgeDesk;II)I"⟩
abbrev bL_link : ByteArray := method_6_code
def yL_link : MethodName := ⟨RL, "link", "(LCartridgeDesk;I[J)I"⟩
abbrev bL_packed : ByteArray := method_7_code
def yL_packed : MethodName := ⟨RL, "packed", "(LCartridgeDesk;II[J)I"⟩
abbrev bL_image : ByteArray := method_8_code
def yL_image : MethodName := ⟨RL, "image", "(LCartridgeDesk;I[J)I"⟩
abbrev bL_spoil : ByteArray := method_9_code
def yL_spoil : MethodName := ⟨RL, "spoil", "(LCartridgeDesk;II)I"⟩
abbrev bL_valid : ByteArray := method_10_code
def yL_valid : MethodName := ⟨RL, "valid", "(LCartridgeDesk;[J)I"⟩
abbrev bL_raise : ByteArray := method_11_code
def yL_raise : MethodName := ⟨RL, "raise", "(LCartridgeDesk;I)I"⟩
abbrev bL_run : ByteArray := method_12_code
def yL_run : MethodName := ⟨RL, "run", "(LCartridgeDesk;I[J)I"⟩
abbrev bL_register : ByteArray := method_13_code
def yL_register : MethodName := ⟨RL, "register", "(LCartridgeDesk;I[J)I"⟩
abbrev bL_peek : ByteArray := method_14_code
def yL_peek : MethodName := ⟨RL, "peek", "(LCartridgeDesk;I[J)I"⟩
abbrev bL_byteSent : ByteArray := method_15_code
def yL_byteSent : MethodName := ⟨RL, "byteSent", "(LCartridgeDesk;I[J)I"⟩
theorem inK : ∀ w ∈ u_ws RK TK 2, w ∈ wS := by
  intro w hw
  obtain ⟨k, hk, rfl⟩ := List.mem_map.mp hw
  have hk := List.mem_range.mp hk
  match k, hk with
  | 0, _ => exact wT1 63 rfl rfl
  | 1, _ => exact wT1 65 rfl rfl
theorem inN : ∀ w ∈ u_ws RN TN 13, w ∈ wS := by
  intro w hw
  obtain ⟨k, hk, rfl⟩ := List.mem_map.mp hw
  have hk := List.mem_range.mp hk
  match k, hk with
  | 0, _ => exact wT1 138 rfl rfl
  | 1, _ => exact wT1 140 rfl rfl
  | 2, _ => exact wT1 142 rfl rfl
  | 3, _ => exact wT1 144 rfl rfl
  | 4, _ => exact wT1 146 rfl rfl
  | 5, _ => exact wT1 148 rfl rfl
  | 6, _ => exact wT1 150 rfl rfl
  | 7, _ => exact wT1 152 rfl rfl
  | 8, _ => exact wT1 154 rfl rfl
  | 9, _ => exact wT1 156 rfl rfl
  | 10, _ => exact wT1 158 rfl rfl
  | 11, _ => exact wT1 160 rfl rfl
  | 12, _ => exact wT1 162 rfl rfl
theorem inM : ∀ w ∈ u_ws RM TM 9, w ∈ wS := by
  intro w hw
  obtain ⟨k, hk, rfl⟩ := List.mem_map.mp hw
  have hk := List.mem_range.mp hk
  match k, hk with
  | 0, _ => exact wT1 85 rfl rfl
  | 1, _ => exact wT1 87 rfl rfl
  | 2, _ => exact wT1 89 rfl rfl
  | 3, _ => exact wT1 91 rfl rfl
  | 4, _ => exact wT1 93 rfl rfl
  | 5, _ => exact wT1 95 rfl rfl
  | 6, _ => exact wT1 97 rfl rfl
  | 7, _ => exact wT1 99 rfl rfl
  | 8, _ => exact wT1 101 rfl rfl
theorem inP : ∀ w ∈ u_ws RP TP 4, w ∈ wS := by
  intro w hw
  obtain ⟨k, hk, rfl⟩ := List.mem_map.mp hw
  have hk := List.mem_range.mp hk
  match k, hk with
  | 0, _ => exact wT1 179 rfl rfl
  | 1, _ => exact wT1 181 rfl rfl
  | 2, _ => exact wT1 183 rfl rfl
  | 3, _ => exact wT1 185 rfl rfl
theorem inS : ∀ w ∈ u_ws RS TS 5, w ∈ wS := by
  intro w hw
  obtain ⟨k, hk, rfl⟩ := List.mem_map.mp hw
  have hk := List.mem_range.mp hk
  match k, hk with
  | 0, _ => exact wT1 42 rfl rfl
  | 1, _ => exact wT1 44 rfl rfl
  | 2, _ => exact wT1 46 rfl rfl
  | 3, _ => exact wT1 48 rfl rfl
  | 4, _ => exact wT1 50 rfl rfl
theorem inD : ∀ w ∈ u_ws RD TD 6, w ∈ wS := by
  intro w hw
  obtain ⟨k, hk, rfl⟩ := List.mem_map.mp hw
  have hk := List.mem_range.mp hk
  match k, hk with
  | 0, _ => exact wT1 194 rfl rfl
  | 1, _ => exact wT1 196 rfl rfl
  | 2, _ => exact wT1 198 rfl rfl
  | 3, _ => exact wT1 200 rfl rfl
  | 4, _ => exact wT1 202 rfl rfl
  | 5, _ => exact wT1 204 rfl rfl
theorem inQ : ∀ w ∈ u_ws RQ TQ 30, w ∈ wS := by
  intro w hw
  obtain ⟨k, hk, rfl⟩ := List.mem_map.mp hw
  have hk := List.mem_range.mp hk
  match k, hk with
  | 0, _ => exact wT3 212 rfl rfl
  | 1, _ => exact wT3 214 rfl rfl
  | 2, _ => exact wT3 216 rfl rfl
  | 3, _ => exact wT3 218 rfl rfl
  | 4, _ => exact wT3 220 rfl rfl
  | 5, _ => exact wT3 222 rfl rfl
  | 6, _ => exact wT3 224 rfl rfl
  | 7, _ => exact wT3 226 rfl rfl
  | 8, _ => exact wT3 228 rfl rfl
  | 9, _ => exact wT3 230 rfl rfl
  | 10, _ => exact wT3 232 rfl rfl
  | 11, _ => exact wT3 234 rfl rfl
  | 12, _ => exact wT3 236 rfl rfl
  | 13, _ => exact wT3 238 rfl rfl
  | 14, _ => exact wT4 0 rfl rfl
  | 15, _ => exact wT4 2 rfl rfl
  | 16, _ => exact wT4 4 rfl rfl
  | 17, _ => exact wT4 6 rfl rfl
  | 18, _ => exact wT4 8 rfl rfl
  | 19, _ => exact wT4 10 rfl rfl
  | 20, _ => exact wT4 12 rfl rfl
  | 21, _ => exact wT4 14 rfl rfl
  | 22, _ => exact wT4 16 rfl rfl
  | 23, _ => exact wT4 18 rfl rfl
  | 24, _ => exact wT4 20 rfl rfl
  | 25, _ => exact wT4 22 rfl rfl
  | 26, _ => exact wT4 24 rfl rfl
  | 27, _ => exact wT4 26 rfl rfl
  | 28, _ => exact wT4 28 rfl rfl
  | 29, _ => exact wT4 30 rfl rfl
  | k + 30, h => exact absurd h (by omega)
